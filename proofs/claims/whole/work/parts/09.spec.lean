/-! WHAT THE CALLS DO: pure. A court: codes and uses; what may be undone; draughts; the saying; what is wanted; facts -/
abbrev BkT : Type := Nat × (Nat → CodT) × (Nat → Nat)
abbrev CtT : Type := BkT × (Nat × (Nat → BkT)) × Nat × Nat × (Nat × (Nat → Nat)) × (Nat × (Nat → Nat × Nat))
/-- the court that is on, the images, what was refused, the text -/
abbrev ST : Type := CtT × (Nat → Option CtT) × (Nat → Int32) × (Nat × (Nat → Nat))
def tN (x : Int32) : Nat := x.toInt.toNat
abbrev inb (x : Int32) (lo hi : Int) : Prop := lo ≤ x.toInt ∧ x.toInt ≤ hi
abbrev okc (x : Int32) (n : Nat) : Prop := 0 ≤ x.toInt ∧ x.toInt < n
theorem okc.ex {x : Int32} {n : Nat} (h : okc x n) : x = nI (tN x) ∧ tN x < n ∧ tN x < 2147483648 := by
  obtain ⟨k, hk, e, e2⟩ := nI_ex x h.1
  have h3 : tN x = k := by unfold tN; omega
  have := h.2
  rw [h3]
  exact ⟨e, by omega, hk⟩
theorem tN_ex {x : Int32} (h : 0 ≤ x.toInt) : x = nI (tN x) ∧ tN x < 2147483648 ∧ x.toInt = tN x := by
  obtain ⟨k, hk, e, e2⟩ := nI_ex x h
  have h3 : tN x = k := by unfold tN; omega
  rw [h3]
  exact ⟨e, hk, e2⟩
def fu {α : Type} (f : Nat → α) (k : Nat) (v : α) : Nat → α := fun j => if j = k then v else f j
theorem fu_eq {α : Type} (f : Nat → α) (k : Nat) (v : α) : fu f k v k = v := if_pos rfl
theorem fu_ne {α : Type} {f : Nat → α} {k j : Nat} {v : α} (h : j ≠ k) : fu f k v j = f j := if_neg h
/-- a row's states follow one another lawfully -/
abbrev lwS (a b : Nat) : Prop := a / 2 ≤ b / 2 + 1 ∧ b / 2 ≤ a / 2 + 1
abbrev lwR (r : Nat) : Prop := ∀ k, k < ln r - 1 → lwS (stN r (ln r) k) (stN r (ln r) (k + 1))
def BkOk (n : Nat) (B : BkT) : Prop := B.1 = n ∧ (∀ c, c < n → CodOk (B.2.1 c)) ∧ ∀ w, w < 10 → B.2.2 w ≤ 999
def CtOk (C : CtT) : Prop := C.1.1 ≤ 3 ∧ BkOk C.1.1 C.1 ∧ C.2.1.1 ≤ 6 ∧ (∀ k, k < C.2.1.1 → BkOk C.1.1 (C.2.1.2 k)) ∧ C.2.2.1 < 64 ∧ (C.2.2.2.1 = 0 ∨ (1 ≤ ln C.2.2.2.1 ∧ lwR C.2.2.2.1)) ∧ C.2.2.2.2.1.1 ≤ 4 ∧ (∀ k, k < C.2.2.2.2.1.1 → C.2.2.2.2.1.2 k < 10) ∧ C.2.2.2.2.2.1 ≤ 8 ∧ ∀ k, k < C.2.2.2.2.2.1 → 1 ≤ ln (C.2.2.2.2.2.2 k).1 ∧ ln (C.2.2.2.2.2.2 k).1 ≤ 5 ∧ (C.2.2.2.2.2.2 k).2 < 10
def StOk (S : ST) : Prop := CtOk S.1 ∧ (∀ i, i < 2 → ∀ C, S.2.1 i = some C → CtOk C) ∧ S.2.2.2.1 ≤ 250 ∧ ∀ i, i < S.2.2.2.1 → S.2.2.2.2 i < 256
def rfS (S : ST) (k : Nat) : ST := (S.1, S.2.1, upd S.2.2.1 k (S.2.2.1 k + 1), S.2.2.2)
def stC (S : ST) (C : CtT) : ST := (C, S.2)
/-- codes that are changed: nothing may be undone -/
def newB (C : CtT) (B : BkT) : CtT := (B, (0, C.2.1.2), C.2.2)
def sp_code (S : ST) : Int32 × ST := if S.1.1.1 = 3 then (-4, rfS S 2) else (nI S.1.1.1, stC S (newB S.1 (S.1.1.1 + 1, fu S.1.1.2.1 S.1.1.1 (0, (S.1.1.2.1 S.1.1.1).2), S.1.1.2.2)))
def hasN (C : CodT) (r : Nat) : Nat → Bool
  | 0 => false
  | e + 1 => hasN C r e || (C.2 e).1 == r
abbrev hasR (C : CodT) (r : Nat) : Prop := hasN C r C.1 = true
def addC (C : CodT) (r w : Nat) : CodT := (C.1 + 1, fu C.2 C.1 (r, w))
abbrev ent_bad (S : ST) (code word row : Int32) : Prop := ¬ okc code S.1.1.1 ∨ ¬ inb word 0 9 ∨ ¬ (1 ≤ lnZ row.toInt ∧ lnZ row.toInt ≤ 3)
def sp_entry (S : ST) (code word row : Int32) : Int32 × ST := if ent_bad S code word row then (-2, rfS S 0) else
  if hasR (S.1.1.2.1 (tN code)) (tN row) then (-3, rfS S 1) else if (S.1.1.2.1 (tN code)).1 = 8 then (-4, rfS S 2) else
    (nI (S.1.1.2.1 (tN code)).1, stC S (newB S.1 (S.1.1.1, fu S.1.1.2.1 (tN code) (addC (S.1.1.2.1 (tN code)) (tN row) (tN word)), S.1.1.2.2)))
def sp_told (S : ST) (code entry what : Int32) : Int32 × ST := if ¬ okc code S.1.1.1 ∨ ¬ okc entry (S.1.1.2.1 (tN code)).1 ∨ ¬ inb what 0 1 then (-2, rfS S 0) else
  (if what.toInt = 0 then nI ((S.1.1.2.1 (tN code)).2 (tN entry)).1 else nI ((S.1.1.2.1 (tN code)).2 (tN entry)).2, S)
def sp_draughts (S : ST) (set : Int32) : Int32 × ST := if ¬ inb set 0 63 then (-2, rfS S 0) else (nI S.1.2.2.1, stC S (S.1.1, S.1.2.1, tN set, S.1.2.2.2))
/-- byte k of v -/
def byN (v : Int64) (k : Nat) : Nat := v.toBitVec.toNat / 2 ^ (8 * k) % 256
/-- the lowest n bytes behind a text, the highest of them first -/
def tyT (v : Int64) : Nat → Nat × (Nat → Nat) → Nat × (Nat → Nat)
  | 0, t => t
  | k + 1, t => tyT v k (t.1 + 1, fu t.2 t.1 (byN v k))
def sp_type (S : ST) (v : Int64) (n : Int32) : Int32 × ST := if ¬ inb n 1 8 then (-2, rfS S 0) else if 250 < S.2.2.2.1 + tN n then (-4, rfS S 2) else
  (nI (S.2.2.2.1 + tN n), (S.1, S.2.1, S.2.2.1, tyT v (tN n) S.2.2.2))
def sp_clear (S : ST) : Int32 × ST := (nI S.2.2.2.1, (S.1, S.2.1, S.2.2.1, (0, S.2.2.2.2)))
def sp_say (S : ST) (row : Int32) : Int32 × ST := if lnZ row.toInt = 0 then (-2, rfS S 0) else if ¬ lwR (tN row) then (-3, rfS S 1) else (nI (ln (tN row)), stC S (S.1.1, S.1.2.1, S.1.2.2.1, tN row, S.1.2.2.2.2))
def sp_seen (S : ST) (beat : Int32) : Int32 × ST := if beat.toInt < 0 then (-2, rfS S 0) else if (ln S.1.2.2.2.1 : Int) ≤ beat.toInt then (-1, S) else (nI (drw S.1.2.2.1 (stN S.1.2.2.2.1 (ln S.1.2.2.2.1) (tN beat)) (tN beat)), S)
/-- what is read of a row r with draughts d, by a kind and a code -/
def rdR (kind d r : Nat) (C : CodT) : List Nat := rdK kind (fun b => drw d (stN r (ln r) b) b) (ln r) C
def rdS (S : ST) (kind c : Nat) : List Nat := rdR kind S.1.2.2.1 S.1.2.2.2.1 (S.1.1.2.1 c)
def sp_reads (S : ST) (kind code i : Int32) : Int32 × ST := if ¬ inb kind 0 4 ∨ ¬ okc code S.1.1.1 ∨ i.toInt < -1 then (-10, rfS S 0) else
  (if i.toInt = -1 then nI (rdS S (tN kind) (tN code)).length else if tN i < (rdS S (tN kind) (tN code)).length then nI ((rdS S (tN kind) (tN code)).getD (tN i) 0) else -5, S)
/-- the first place at which two lists are not alike -/
def othI (A B : List Nat) : Nat → Nat → Int32
  | 0, _ => -1
  | f + 1, k => if k < A.length ∨ k < B.length then (if k < A.length ∧ k < B.length ∧ A.getD k 0 = B.getD k 0 then othI A B f (k + 1) else nI k) else -1
def othL (A B : List Nat) : Int32 := othI A B (A.length + B.length + 1) 0
def sp_otherwise (S : ST) (ka ca kb cb : Int32) : Int32 × ST := if ¬ inb ka 0 4 ∨ ¬ okc ca S.1.1.1 ∨ ¬ inb kb 0 4 ∨ ¬ okc cb S.1.1.1 then (-2, rfS S 0) else
  (othL (rdS S (tN ka) (tN ca)) (rdS S (tN kb) (tN cb)), S)
/-- what may be undone, with one more -/
def psh (p : Nat × (Nat → BkT)) (b : BkT) : Nat × (Nat → BkT) := if p.1 = 6 then (6, fun k => if k < 5 then p.2 (k + 1) else b) else (p.1 + 1, fu p.2 p.1 b)
def us1 (u : Nat → Nat) (w : Nat) : Nat → Nat := fu u w (if u w = 999 then 999 else u w + 1)
def usL (u : Nat → Nat) (L : List Nat) : Nat → Nat := L.foldl us1 u
def sp_utter (S : ST) (code : Int32) : Int32 × ST := if ¬ okc code S.1.1.1 then (-2, rfS S 0) else
  (nI (rdS S 0 (tN code)).length, stC S ((S.1.1.1, S.1.1.2.1, usL S.1.1.2.2 (rdS S 0 (tN code))), psh S.1.2.1 S.1.1, S.1.2.2))
def sp_uses (S : ST) (word : Int32) : Int32 × ST := if ¬ inb word 0 9 then (-2, rfS S 0) else (nI (S.1.1.2.2 (tN word)), S)
/-- the first e entries, without those whose words have no uses -/
def yrI (u : Nat → Nat) (es : Nat → Nat × Nat) : Nat → CodT
  | 0 => (0, es)
  | e + 1 => if 0 < u (es e).2 then ((yrI u es e).1 + 1, fu (yrI u es e).2 (yrI u es e).1 (es e)) else yrI u es e
def yrC (u : Nat → Nat) (C : CodT) : CodT := yrI u C.2 C.1
def sumE (f : Nat → CodT) : Nat → Nat
  | 0 => 0
  | c + 1 => sumE f c + (f c).1
def sp_year (S : ST) : Int32 × ST := (nI (sumE S.1.1.2.1 S.1.1.1 - sumE (fun c => yrC S.1.1.2.2 (S.1.1.2.1 c)) S.1.1.1), stC S ((S.1.1.1, fun c => yrC S.1.1.2.2 (S.1.1.2.1 c), fun _ => 0), psh S.1.2.1 S.1.1, S.1.2.2))
def sp_undo (S : ST) : Int32 × ST := if S.1.2.1.1 = 0 then (-3, rfS S 1) else (1, stC S (S.1.2.1.2 (S.1.2.1.1 - 1), (S.1.2.1.1 - 1, S.1.2.1.2), S.1.2.2))
def sp_want (S : ST) (word : Int32) : Int32 × ST := if ¬ inb word 0 9 then (-2, rfS S 0) else if S.1.2.2.2.2.1.1 = 4 then (-4, rfS S 2) else
  (nI (S.1.2.2.2.2.1.1 + 1), stC S (S.1.1, S.1.2.1, S.1.2.2.1, S.1.2.2.2.1, (S.1.2.2.2.2.1.1 + 1, fu S.1.2.2.2.2.1.2 S.1.2.2.2.2.1.1 (tN word)), S.1.2.2.2.2.2))
def sp_forget (S : ST) : Int32 × ST := (nI S.1.2.2.2.2.1.1, stC S (S.1.1, S.1.2.1, S.1.2.2.1, S.1.2.2.2.1, (0, S.1.2.2.2.2.1.2), S.1.2.2.2.2.2))
def sp_fact (S : ST) (row word : Int32) : Int32 × ST := if ¬ (1 ≤ lnZ row.toInt ∧ lnZ row.toInt ≤ 5) ∨ ¬ inb word 0 9 then (-2, rfS S 0) else if S.1.2.2.2.2.2.1 = 8 then (-4, rfS S 2) else
  (nI S.1.2.2.2.2.2.1, stC S (S.1.1, S.1.2.1, S.1.2.2.1, S.1.2.2.2.1, S.1.2.2.2.2.1, (S.1.2.2.2.2.2.1 + 1, fu S.1.2.2.2.2.2.2 S.1.2.2.2.2.2.1 (tN row, tN word))))
def sp_image (S : ST) (i : Int32) : Int32 × ST := if ¬ inb i 0 1 then (-2, rfS S 0) else (1, (S.1, fu S.2.1 (tN i) (some S.1), S.2.2))
def sp_from (S : ST) (i : Int32) : Int32 × ST := if ¬ inb i 0 1 then (-2, rfS S 0) else match S.2.1 (tN i) with
  | none => (-3, rfS S 1)
  | some C => (1, stC S C)
def sp_status (S : ST) (what : Int32) : Int32 × ST := if ¬ inb what 0 2 then (-1, rfS S 0) else (S.2.2.1 (tN what), S)
def cntS (S : ST) (k : Nat) : Nat := match k with
  | 0 => S.1.1.1
  | 1 => sumE S.1.1.2.1 S.1.1.1
  | 2 => ln S.1.2.2.2.1
  | 3 => S.1.2.2.2.2.1.1
  | 4 => S.1.2.2.2.2.2.1
  | 5 => S.1.2.1.1
  | 6 => S.2.2.2.1
  | _ => S.1.2.2.1
def sp_count (S : ST) (what : Int32) : Int32 × ST := if ¬ inb what 0 7 then (-2, rfS S 0) else (nI (cntS S (tN what)), S)
/-! safe, mayBe, heat -/
/-- an entry's row is read as another word by some draughts -/
def unsE (C : CodT) (e : Nat) : Prop := ∃ set, set < 2 ^ ln (C.2 e).1 ∧ ∃ w, w ∈ rdR 0 set (C.2 e).1 C ∧ w ≠ (C.2 e).2
noncomputable def sfI (C : CodT) : Nat → Int32 × Int32
  | 0 => (0, 0)
  | e + 1 => ((sfI C e).1 ||| ((1 : Int32) <<< (nI (C.2 e).2 &&& 31)), @ite _ (unsE C e) (Classical.propDecidable _) ((sfI C e).2 ||| ((1 : Int32) <<< (nI (C.2 e).2 &&& 31))) (sfI C e).2)
noncomputable def sp_safe (S : ST) (code : Int32) : Int32 × ST := if ¬ okc code S.1.1.1 then (-2, rfS S 0) else
  ((sfI (S.1.1.2.1 (tN code)) (S.1.1.2.1 (tN code)).1).1 &&& ((sfI (S.1.1.2.1 (tN code)) (S.1.1.2.1 (tN code)).1).2 ^^^ (-1)), S)
def bears (S : ST) (c : Nat) : Prop := ∀ k, k < S.1.2.2.2.2.2.1 → (S.1.2.2.2.2.2.2 k).2 ∈ rdR 0 0 (S.1.2.2.2.2.2.2 k).1 (S.1.1.2.1 c)
noncomputable def mbI (S : ST) : Nat → Int32
  | 0 => 0
  | c + 1 => @ite _ (bears S c) (Classical.propDecidable _) (mbI S c ||| ((1 : Int32) <<< (nI c &&& 31))) (mbI S c)
noncomputable def sp_mayBe (S : ST) : Int32 × ST := (mbI S S.1.1.1, S)
def lcg (x : Nat) : Nat := (x * 1103515245 + 12345) % 2147483648
def lcgN (seed : Nat) : Nat → Nat
  | 0 => seed
  | k + 1 => lcg (lcgN seed k)
def htS (seed k : Nat) : Nat := lcgN seed (k + 1) / 65536 % 12
def sp_heat (S : ST) (kind code word n seed : Int32) : Int32 × ST := if ¬ inb kind 0 4 ∨ ¬ okc code S.1.1.1 ∨ ¬ inb word 0 9 ∨ ¬ inb n 0 60 ∨ ¬ inb seed 0 999999 then (-2, rfS S 0) else
  (nI ((rdK (tN kind) (fun b => htS (tN seed) b) (tN n) (S.1.1.2.1 (tN code))).count (tN word)), S)
/-! digest -/
def dgF (f : Nat → Int64) : Nat → Int64 → Int64
  | 0, h => h
  | k + 1, h => 31 * dgF f k h + f k
def dgC (f : Nat → CodT) : Nat → Int64 → Int64
  | 0, h => h
  | c + 1, h => dgF (fun k => (nI (if k % 2 = 0 then ((f c).2 (k / 2)).1 else ((f c).2 (k / 2)).2)).toInt64) (2 * (f c).1) (31 * dgC f c h + (nI (f c).1).toInt64)
def sp_digest (S : ST) : Int64 × ST :=
  (dgF (fun k => (nI (if k % 2 = 0 then (S.1.2.2.2.2.2.2 (k / 2)).1 else (S.1.2.2.2.2.2.2 (k / 2)).2)).toInt64) (2 * S.1.2.2.2.2.2.1)
    (dgF (fun k => (nI (S.1.2.2.2.2.1.2 k)).toInt64) S.1.2.2.2.2.1.1
      (dgF (fun k => (nI (stN S.1.2.2.2.1 (ln S.1.2.2.2.1) k)).toInt64) (ln S.1.2.2.2.1)
        (dgF (fun k => (nI (S.1.1.2.2 k)).toInt64) 10
          (dgC S.1.1.2.1 S.1.1.1
            (dgF (fun k => (nI (cntS S k)).toInt64) 8 811))))), S)
/-! hide and save: what the answer is told by -/
/-- rows of n states by their numbers: the lawful ones -/
abbrev lawful (n v : Nat) : Prop := 12 ^ n ≤ v ∧ v < 2 * 12 ^ n ∧ ∀ k, k + 1 < n → lwS (stN v n k) (stN v n (k + 1))
def wantL (S : ST) : List Nat := (List.range S.1.2.2.2.2.1.1).map S.1.2.2.2.2.1.2
/-- a row of n beats tells a friend by code a just what is wanted, a chaperone by code b no more than k words -/
def hides (S : ST) (a b k n v : Nat) : Prop := rdK 0 (stN v n) n (S.1.1.2.1 a) = wantL S ∧ (rdK 2 (stN v n) n (S.1.1.2.1 b)).length ≤ k
def HideR (S : ST) (a b k : Nat) (r : Int32) : Prop := (∃ n v, 1 ≤ n ∧ n ≤ 5 ∧ lawful n v ∧ hides S a b k n v ∧ r = nI v ∧ (∀ n' v', 1 ≤ n' → n' < n → lawful n' v' → ¬ hides S a b k n' v') ∧ ∀ v', v' < v → lawful n v' → ¬ hides S a b k n v')
  ∨ (r = -1 ∧ ∀ n v, 1 ≤ n → n ≤ 5 → lawful n v → ¬ hides S a b k n v)
/-- in how many beats two rows of n states are different -/
def apN (n v w : Nat) : Nat := ((List.range n).filter fun k => stN v n k ≠ stN w n k).length
/-- a row of the saying's beats is safe: by code c the word isn't read of it -/
def saves (S : ST) (c word n v : Nat) : Prop := word ∉ rdK 0 (fun b => drw S.1.2.2.1 (stN v n b) b) n (S.1.1.2.1 c)
def SaveR (S : ST) (c word n : Nat) (what : Int) (r : Int32) : Prop := (∃ v, lawful n v ∧ saves S c word n v ∧ (∀ v', lawful n v' → saves S c word n v' → apN n v S.1.2.2.2.1 < apN n v' S.1.2.2.2.1 ∨ (apN n v S.1.2.2.2.1 = apN n v' S.1.2.2.2.1 ∧ v ≤ v')) ∧ r = (if what = 0 then nI (apN n v S.1.2.2.2.1) else nI v))
  ∨ (r = -1 ∧ ∀ v, lawful n v → ¬ saves S c word n v)
