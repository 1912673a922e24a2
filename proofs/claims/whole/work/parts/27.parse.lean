/-! HOW A TEXT IS READ: pure. A text: how many bytes, the bytes. A token: where it starts, its sort (0 code, 1 entry, 2 draughts, 3 number, 4 end of an item, 5 end of the text, 6 none of these), its value, where the text goes on -/
abbrev TxT : Type := Nat × (Nat → Nat)
def hr (T : TxT) (p : Nat) : Nat := if p < T.1 then T.2 p else 256
def skp (T : TxT) : Nat → Nat → Nat
  | 0, p => p
  | f + 1, p => if hr T p = 32 then skp T f (p + 1) else p
/-- where a run of bytes from lo to hi ends -/
def rnW (T : TxT) (lo hi : Nat) : Nat → Nat → Nat
  | 0, p => p
  | f + 1, p => if lo ≤ hr T p ∧ hr T p ≤ hi then rnW T lo hi f (p + 1) else p
def isW (T : TxT) (p e : Nat) (w : List Nat) : Bool := e == p + w.length && (List.range w.length).all fun i => T.2 (p + i) == w.getD i 0
def wrS (T : TxT) (p e : Nat) : Nat := if isW T p e [100, 114, 97, 117, 103, 104, 116] then 2 else if isW T p e [99, 111, 100, 101] then 0 else if isW T p e [101, 110, 116, 114, 121] then 1 else 6
def nuV (T : TxT) (p e : Nat) : Nat := if e = p + 1 then T.2 p - 48 else if e = p + 2 then 10 * (T.2 p - 48) + (T.2 (p + 1) - 48) else 0
abbrev TkT : Type := Nat × Nat × Nat × Nat
def tkA (T : TxT) (p : Nat) : TkT := if hr T p = 256 then (p, 5, 0, p) else
  if 97 ≤ hr T p ∧ hr T p ≤ 122 then (p, wrS T p (rnW T 97 122 (T.1 + 1) p), 0, rnW T 97 122 (T.1 + 1) p) else
  if 48 ≤ hr T p ∧ hr T p ≤ 57 then (p, if rnW T 48 57 (T.1 + 1) p ≤ p + 2 then 3 else 6, nuV T p (rnW T 48 57 (T.1 + 1) p), rnW T 48 57 (T.1 + 1) p) else
  (p, if hr T p = 59 then 4 else 6, 0, p + 1)
def tk (T : TxT) (p : Nat) : TkT := tkA T (skp T (T.1 + 1) p)
/-- a reading under way: the token that is on, the fault, how many codes, the codes, the draughts -/
abbrev PsT : Type := TkT × Option Nat × Nat × (Nat → CodT) × Nat
def duP (T : TxT) (b : Bool) (P : PsT) : PsT := match P.2.1 with
  | none => if b then (tk T P.1.2.2.2, none, P.2.2) else (P.1, some P.1.1, P.2.2)
  | some _ => P
abbrev nuB (P : PsT) (n : Nat) : Bool := P.1.2.1 == 3 && decide (P.1.2.2.1 < n)
/-- the states behind a row's first, k of them at most -/
def rwP (T : TxT) : Nat → Nat × PsT → Nat × PsT
  | 0, q => q
  | k + 1, q => if q.2.2.1 = none ∧ q.2.1.2.1 = 3 then rwP T k (12 * q.1 + q.2.1.2.2.1, duP T (nuB q.2 12) q.2) else q
def enP3 (T : TxT) (c w r : Nat) (P : PsT) : PsT := if P.2.1 = none then
    (if (duP T (P.1.2.1 == 4 && ! hasN (P.2.2.2.1 c) r (P.2.2.2.1 c).1) P).2.1 = none then
      ((duP T (P.1.2.1 == 4 && ! hasN (P.2.2.2.1 c) r (P.2.2.2.1 c).1) P).1, none, P.2.2.1, fu P.2.2.2.1 c (addC (P.2.2.2.1 c) r w), P.2.2.2.2)
    else duP T (P.1.2.1 == 4 && ! hasN (P.2.2.2.1 c) r (P.2.2.2.1 c).1) P) else P
def enP2 (T : TxT) (c w : Nat) (P : PsT) : PsT := enP3 T c w (rwP T 2 (12 + P.1.2.2.1, duP T (nuB P 12) P)).1 (rwP T 2 (12 + P.1.2.2.1, duP T (nuB P 12) P)).2
def enP1 (T : TxT) (c : Nat) (P : PsT) : PsT := enP2 T c P.1.2.2.1 (duP T (nuB P 10) P)
def enP (T : TxT) (P : PsT) : PsT := enP1 T P.1.2.2.1 (duP T (nuB P P.2.2.1 && decide ((P.2.2.2.1 P.1.2.2.1).1 < 8)) P)
def itP2 (T : TxT) (s : Nat) (P : PsT) : PsT := if P.2.1 ≠ none then P else if s = 1 then enP T P else
  if s = 0 then duP T (P.1.2.1 == 4) (P.1, none, P.2.2.1 + 1, fu P.2.2.2.1 P.2.2.1 (0, (P.2.2.2.1 P.2.2.1).2), P.2.2.2.2)
  else duP T ((duP T (nuB P 64) P).1.2.1 == 4) ((duP T (nuB P 64) P).1, (duP T (nuB P 64) P).2.1, P.2.2.1, P.2.2.2.1, P.1.2.2.1)
def itP (T : TxT) (P : PsT) : PsT := itP2 T P.1.2.1 (duP T ((P.1.2.1 == 0 && decide (P.2.2.1 < 3)) || P.1.2.1 == 1 || P.1.2.1 == 2) P)
/-- the items, f of them at most; how many -/
def rdP (T : TxT) : Nat → Nat → PsT → Nat × PsT
  | 0, k, P => (k, P)
  | f + 1, k, P => if P.2.1 = none ∧ P.1.2.1 ≠ 5 then rdP T f (k + 1) (itP T P) else (k, P)
def rdAll (S : ST) : Nat × PsT := rdP S.2.2.2 (S.2.2.2.1 + 1) 0 (tk S.2.2.2 0, none, 0, S.1.1.2.1, 0)
def sp_read (S : ST) : Int32 × ST := match (rdAll S).2.2.1 with
  | some p => (-10 - nI p, S)
  | none => (nI (rdAll S).1, stC S (((rdAll S).2.2.2.1, (rdAll S).2.2.2.2.1, fun _ => 0), (0, S.1.2.1.2), (rdAll S).2.2.2.2.2, S.1.2.2.2))
