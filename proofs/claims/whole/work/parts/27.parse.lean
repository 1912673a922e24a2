/-! HOW A TEXT IS READ: pure. A text: how many bytes, the bytes. A token: where it starts, its sort (0 code, 1 entry, 2 draughts, 3 number, 4 end of an item, 5 end of the text, 6 none of these), its value, where the text goes on -/
abbrev TxT : Type := Nat × (Nat → Nat)
def hr (T : TxT) (p : Nat) : Nat := if p < T.1 then T.2 p else 256
def skp (T : TxT) : Nat → Nat → Nat
  | 0, p => p
  | f + 1, p => if hr T p = 32 then skp T f (p + 1) else p
/-- where a run of bytes from lo to hi ends -/
def rnW (T : TxT) (lo hi : Nat) : Nat → Nat → Nat
  | 0, p => p
  | f + 1, p => if lo ≤ hr T p ∧ hr T p ≤ hi then rnW T lo hi f (p + 1) else p
def isW (T : TxT) (p e : Nat) (w : List Nat) : Bool := e == p + w.length && (List.range w.length).all fun i => T.2 (p + i) == w.getD i 0
def wrS (T : TxT) (p e : Nat) : Nat := if isW T p e [100, 114, 97, 117, 103, 104, 116] then 2 else if isW T p e [99, 111, 100, 101] then 0 else if isW T p e [101, 110, 116, 114, 121] then 1 else 6
def nuV (T : TxT) (p e : Nat) : Nat := if e = p + 1 then T.2 p - 48 else if e = p + 2 then 10 * (T.2 p - 48) + (T.2 (p + 1) - 48) else 0
abbrev TkT : Type := Nat × Nat × Nat × Nat
def tkA (T : TxT) (p : Nat) : TkT := if hr T p = 256 then (p, 5, 0, p) else
  if 97 ≤ hr T p ∧ hr T p ≤ 122 then (p, wrS T p (rnW T 97 122 (T.1 + 1) p), 0, rnW T 97 122 (T.1 + 1) p) else
  if 48 ≤ hr T p ∧ hr T p ≤ 57 then (p, if rnW T 48 57 (T.1 + 1) p ≤ p + 2 then 3 else 6, nuV T p (rnW T 48 57 (T.1 + 1) p), rnW T 48 57 (T.1 + 1) p) else
  (p, if hr T p = 59 then 4 else 6, 0, p + 1)
def tk (T : TxT) (p : Nat) : TkT := tkA T (skp T (T.1 + 1) p)
/-- a reading under way: the token that is on, the fault, how many codes, the codes, the draughts -/
abbrev PsT : Type := TkT × Option Nat × Nat × (Nat → CodT) × Nat
def duP (T : TxT) (b : Bool) (P : PsT) : PsT := match P.2.1 with
  | none => if b then (tk T P.1.2.2.2, none, P.2.2) else (P.1, some P.1.1, P.2.2)
  | some _ => P
abbrev nuB (P : PsT) (n : Nat) : Bool := P.1.2.1 == 3 && decide (P.1.2.2.1 < n)
/-- the states behind a row's first, k of them at most -/
def rwP (T : TxT) : Nat → Nat × PsT → Nat × PsT
  | 0, q => q
  | k + 1, q => if q.2.2.1 = none ∧ q.2.1.2.1 = 3 then rwP T k (12 * q.1 + q.2.1.2.2.1, duP T (nuB q.2 12) q.2) else q
def enP3 (T : TxT) (c w r : Nat) (P : PsT) : PsT := if P.2.1 = none then
    (if (duP T (P.1.2.1 == 4 && ! hasN (P.2.2.2.1 c) r (P.2.2.2.1 c).1) P).2.1 = none then
      ((duP T (P.1.2.1 == 4 && ! hasN (P.2.2.2.1 c) r (P.2.2.2.1 c).1) P).1, none, P.2.2.1, fu P.2.2.2.1 c (addC (P.2.2.2.1 c) r w), P.2.2.2.2)
    else duP T (P.1.2.1 == 4 && ! hasN (P.2.2.2.1 c) r (P.2.2.2.1 c).1) P) else P
def enP2 (T : TxT) (c w : Nat) (P : PsT) : PsT := enP3 T c w (rwP T 2 (12 + P.1.2.2.1, duP T (nuB P 12) P)).1 (rwP T 2 (12 + P.1.2.2.1, duP T (nuB P 12) P)).2
def enP1 (T : TxT) (c : Nat) (P : PsT) : PsT := enP2 T c P.1.2.2.1 (duP T (nuB P 10) P)
def enP (T : TxT) (P : PsT) : PsT := enP1 T P.1.2.2.1 (duP T (nuB P P.2.2.1 && decide ((P.2.2.2.1 P.1.2.2.1).1 < 8)) P)
def itP2 (T : TxT) (s : Nat) (P : PsT) : PsT := if P.2.1 ≠ none then P else if s = 1 then enP T P else
  if s = 0 then duP T (P.1.2.1 == 4) (P.1, none, P.2.2.1 + 1, fu P.2.2.2.1 P.2.2.1 (0, (P.2.2.2.1 P.2.2.1).2), P.2.2.2.2)
  else duP T ((duP T (nuB P 64) P).1.2.1 == 4) ((duP T (nuB P 64) P).1, (duP T (nuB P 64) P).2.1, P.2.2.1, P.2.2.2.1, P.1.2.2.1)
def itP (T : TxT) (P : PsT) : PsT := itP2 T P.1.2.1 (duP T ((P.1.2.1 == 0 && decide (P.2.2.1 < 3)) || P.1.2.1 == 1 || P.1.2.1 == 2) P)
/-- the items, f of them at most; how many -/
def rdP (T : TxT) : Nat → Nat → PsT → Nat × PsT
  | 0, k, P => (k, P)
  | f + 1, k, P => if P.2.1 = none ∧ P.1.2.1 ≠ 5 then rdP T f (k + 1) (itP T P) else (k, P)
def rdAll (S : ST) : Nat × PsT := rdP S.2.2.2 (S.2.2.2.1 + 1) 0 (tk S.2.2.2 0, none, 0, S.1.1.2.1, 0)
def sp_read (S : ST) : Int32 × ST := match (rdAll S).2.2.1 with
  | some p => (-10 - nI p, S)
  | none => (nI (rdAll S).1, stC S (((rdAll S).2.2.2.1, (rdAll S).2.2.2.2.1, fun _ => 0), (0, S.1.2.1.2), (rdAll S).2.2.2.2.2, S.1.2.2.2))
/-! words by their numbers to base 27 -/
abbrev ltr (T : TxT) (p k : Nat) : Prop := ∀ i, i < k → 97 ≤ T.2 (p + i) ∧ T.2 (p + i) ≤ 122
def hsW (T : TxT) (p : Nat) : Nat → Nat
  | 0 => 0
  | k + 1 => 27 * hsW T p k + (T.2 (p + k) - 96)
theorem hs_0 {T : TxT} {p k : Nat} (hl : ltr T p k) (h : hsW T p k = 0) : k = 0 := by
  cases k with
  | zero => rfl
  | succ k =>
    have h1 := hl k (Nat.lt_succ_self _)
    have h : 27 * hsW T p k + (T.2 (p + k) - 96) = 0 := h
    omega
theorem hs_p {T : TxT} {p k a d : Nat} (hl : ltr T p k) (h : hsW T p k = 27 * a + d) (h1 : 1 ≤ d) (h2 : d ≤ 26) : ∃ j, k = j + 1 ∧ hsW T p j = a ∧ T.2 (p + j) = d + 96 ∧ ltr T p j := by
  cases k with
  | zero =>
    have h : 0 = 27 * a + d := h
    omega
  | succ k =>
    have h3 := hl k (Nat.lt_succ_self _)
    have h : 27 * hsW T p k + (T.2 (p + k) - 96) = 27 * a + d := h
    exact ⟨k, rfl, by omega, by omega, fun i hi => hl i (by omega)⟩
theorem hs_code {T : TxT} {p k : Nat} (hl : ltr T p k) (h : hsW T p k = 70097) : isW T p (p + k) [99, 111, 100, 101] = true := by
  obtain ⟨j, rfl, h, e3, hl⟩ := hs_p (a := 2596) (d := 5) hl h (by decide) (by decide)
  obtain ⟨j, rfl, h, e2, hl⟩ := hs_p (a := 96) (d := 4) hl h (by decide) (by decide)
  obtain ⟨j, rfl, h, e1, hl⟩ := hs_p (a := 3) (d := 15) hl h (by decide) (by decide)
  obtain ⟨j, rfl, h, e0, hl⟩ := hs_p (a := 0) (d := 3) hl h (by decide) (by decide)
  have := hs_0 hl h
  subst this
  simp [isW, List.range, List.range.loop] at e0 e1 e2 e3 ⊢
  exact ⟨e0, e1, e2, e3⟩
theorem hs_entry {T : TxT} {p k : Nat} (hl : ltr T p k) (h : hsW T p k = 2947858) : isW T p (p + k) [101, 110, 116, 114, 121] = true := by
  obtain ⟨j, rfl, h, e4, hl⟩ := hs_p (a := 109179) (d := 25) hl h (by decide) (by decide)
  obtain ⟨j, rfl, h, e3, hl⟩ := hs_p (a := 4043) (d := 18) hl h (by decide) (by decide)
  obtain ⟨j, rfl, h, e2, hl⟩ := hs_p (a := 149) (d := 20) hl h (by decide) (by decide)
  obtain ⟨j, rfl, h, e1, hl⟩ := hs_p (a := 5) (d := 14) hl h (by decide) (by decide)
  obtain ⟨j, rfl, h, e0, hl⟩ := hs_p (a := 0) (d := 5) hl h (by decide) (by decide)
  have := hs_0 hl h
  subst this
  simp [isW, List.range, List.range.loop] at e0 e1 e2 e3 e4 ⊢
  exact ⟨e0, e1, e2, e3, e4⟩
theorem isW_e {T : TxT} {p e : Nat} {w : List Nat} (h : isW T p e w = true) : e = p + w.length ∧ ∀ i, i < w.length → T.2 (p + i) = w.getD i 0 := by
  unfold isW at h
  rw [Bool.and_eq_true, beq_iff_eq, List.all_eq_true] at h
  exact ⟨h.1, fun i hi => beq_iff_eq.mp (h.2 i (List.mem_range.mpr hi))⟩
theorem hr_le {T : TxT} (h : ∀ i, i < T.1 → T.2 i < 256) (p : Nat) : hr T p ≤ 256 ∧ (hr T p = 256 ↔ ¬ p < T.1) ∧ (p < T.1 → hr T p = T.2 p) := by
  unfold hr
  by_cases hp : p < T.1
  · rw [if_pos hp]
    have := h p hp
    exact ⟨by omega, ⟨fun q => by omega, fun q => absurd hp q⟩, fun _ => rfl⟩
  · rw [if_neg hp]
    exact ⟨Nat.le_refl _, ⟨fun _ => hp, fun _ => rfl⟩, fun q => absurd q hp⟩
