/-! HOW A TEXT IS READ: pure. A text: how many bytes, the bytes. A token: where it starts, its sort (0 code, 1 entry, 2 draughts, 3 number, 4 end of an item, 5 end of the text, 6 none of these), its value, where the text goes on -/
abbrev TxT : Type := Nat × (Nat → Nat)
def hr (T : TxT) (p : Nat) : Nat := if p < T.1 then T.2 p else 256
def skp (T : TxT) : Nat → Nat → Nat
  | 0, p => p
  | f + 1, p => if hr T p = 32 then skp T f (p + 1) else p
/-- where a run of bytes from lo to hi ends -/
def rnW (T : TxT) (lo hi : Nat) : Nat → Nat → Nat
  | 0, p => p
  | f + 1, p => if lo ≤ hr T p ∧ hr T p ≤ hi then rnW T lo hi f (p + 1) else p
def isW (T : TxT) (p e : Nat) (w : List Nat) : Bool := e == p + w.length && (List.range w.length).all fun i => T.2 (p + i) == w.getD i 0
def wrS (T : TxT) (p e : Nat) : Nat := if isW T p e [100, 114, 97, 117, 103, 104, 116] then 2 else if isW T p e [99, 111, 100, 101] then 0 else if isW T p e [101, 110, 116, 114, 121] then 1 else 6
def nuV (T : TxT) (p e : Nat) : Nat := if e = p + 1 then T.2 p - 48 else if e = p + 2 then 10 * (T.2 p - 48) + (T.2 (p + 1) - 48) else 0
abbrev TkT : Type := Nat × Nat × Nat × Nat
def tkA (T : TxT) (p : Nat) : TkT := if hr T p = 256 then (p, 5, 0, p) else
  if 97 ≤ hr T p ∧ hr T p ≤ 122 then (p, wrS T p (rnW T 97 122 (T.1 + 1) p), 0, rnW T 97 122 (T.1 + 1) p) else
  if 48 ≤ hr T p ∧ hr T p ≤ 57 then (p, if rnW T 48 57 (T.1 + 1) p ≤ p + 2 then 3 else 6, nuV T p (rnW T 48 57 (T.1 + 1) p), rnW T 48 57 (T.1 + 1) p) else
  (p, if hr T p = 59 then 4 else 6, 0, p + 1)
def tk (T : TxT) (p : Nat) : TkT := tkA T (skp T (T.1 + 1) p)
/-- a reading under way: the token that is on, the fault, how many codes, the codes, the draughts -/
abbrev PsT : Type := TkT × Option Nat × Nat × (Nat → CodT) × Nat
def duP (T : TxT) (b : Bool) (P : PsT) : PsT := match P.2.1 with
  | none => if b then (tk T P.1.2.2.2, none, P.2.2) else (P.1, some P.1.1, P.2.2)
  | some _ => P
abbrev nuB (P : PsT) (n : Nat) : Bool := P.1.2.1 == 3 && decide (P.1.2.2.1 < n)
/-- the states behind a row's first, k of them at most -/
def rwP (T : TxT) : Nat → Nat × PsT → Nat × PsT
  | 0, q => q
  | k + 1, q => if q.2.2.1 = none ∧ q.2.1.2.1 = 3 then rwP T k (12 * q.1 + q.2.1.2.2.1, duP T (nuB q.2 12) q.2) else q
def enP3 (T : TxT) (c w r : Nat) (P : PsT) : PsT := if P.2.1 = none then
    (if (duP T (P.1.2.1 == 4 && ! hasN (P.2.2.2.1 c) r (P.2.2.2.1 c).1) P).2.1 = none then
      ((duP T (P.1.2.1 == 4 && ! hasN (P.2.2.2.1 c) r (P.2.2.2.1 c).1) P).1, none, P.2.2.1, fu P.2.2.2.1 c (addC (P.2.2.2.1 c) r w), P.2.2.2.2)
    else duP T (P.1.2.1 == 4 && ! hasN (P.2.2.2.1 c) r (P.2.2.2.1 c).1) P) else P
def enP2 (T : TxT) (c w : Nat) (P : PsT) : PsT := enP3 T c w (rwP T 2 (12 + P.1.2.2.1, duP T (nuB P 12) P)).1 (rwP T 2 (12 + P.1.2.2.1, duP T (nuB P 12) P)).2
def enP1 (T : TxT) (c : Nat) (P : PsT) : PsT := enP2 T c P.1.2.2.1 (duP T (nuB P 10) P)
def enP (T : TxT) (P : PsT) : PsT := enP1 T P.1.2.2.1 (duP T (nuB P P.2.2.1 && decide ((P.2.2.2.1 P.1.2.2.1).1 < 8)) P)
def itP2 (T : TxT) (s : Nat) (P : PsT) : PsT := if P.2.1 ≠ none then P else if s = 1 then enP T P else
  if s = 0 then duP T (P.1.2.1 == 4) (P.1, none, P.2.2.1 + 1, fu P.2.2.2.1 P.2.2.1 (0, (P.2.2.2.1 P.2.2.1).2), P.2.2.2.2)
  else duP T ((duP T (nuB P 64) P).1.2.1 == 4) ((duP T (nuB P 64) P).1, (duP T (nuB P 64) P).2.1, P.2.2.1, P.2.2.2.1, P.1.2.2.1)
def itP (T : TxT) (P : PsT) : PsT := itP2 T P.1.2.1 (duP T ((P.1.2.1 == 0 && decide (P.2.2.1 < 3)) || P.1.2.1 == 1 || P.1.2.1 == 2) P)
/-- the items, f of them at most; how many -/
def rdP (T : TxT) : Nat → Nat → PsT → Nat × PsT
  | 0, k, P => (k, P)
  | f + 1, k, P => if P.2.1 = none ∧ P.1.2.1 ≠ 5 then rdP T f (k + 1) (itP T P) else (k, P)
def rdAll (S : ST) : Nat × PsT := rdP S.2.2.2 (S.2.2.2.1 + 1) 0 (tk S.2.2.2 0, none, 0, S.1.1.2.1, 0)
def sp_read (S : ST) : Int32 × ST := match (rdAll S).2.2.1 with
  | some p => (-10 - nI p, S)
  | none => (nI (rdAll S).1, stC S (((rdAll S).2.2.2.1, (rdAll S).2.2.2.2.1, fun _ => 0), (0, S.1.2.1.2), (rdAll S).2.2.2.2.2, S.1.2.2.2))
/-! words by their numbers to base 27 -/
abbrev ltr (T : TxT) (p k : Nat) : Prop := ∀ i, i < k → 97 ≤ T.2 (p + i) ∧ T.2 (p + i) ≤ 122
def hsW (T : TxT) (p : Nat) : Nat → Nat
  | 0 => 0
  | k + 1 => 27 * hsW T p k + (T.2 (p + k) - 96)
theorem hs_0 {T : TxT} {p k : Nat} (hl : ltr T p k) (h : hsW T p k = 0) : k = 0 := by
  cases k with
  | zero => rfl
  | succ k =>
    have h1 := hl k (Nat.lt_succ_self _)
    have h : 27 * hsW T p k + (T.2 (p + k) - 96) = 0 := h
    omega
theorem hs_p {T : TxT} {p k a d : Nat} (hl : ltr T p k) (h : hsW T p k = 27 * a + d) (h1 : 1 ≤ d) (h2 : d ≤ 26) : ∃ j, k = j + 1 ∧ hsW T p j = a ∧ T.2 (p + j) = d + 96 ∧ ltr T p j := by
  cases k with
  | zero =>
    have h : 0 = 27 * a + d := h
    omega
  | succ k =>
    have h3 := hl k (Nat.lt_succ_self _)
    have h : 27 * hsW T p k + (T.2 (p + k) - 96) = 27 * a + d := h
    exact ⟨k, rfl, by omega, by omega, fun i hi => hl i (by omega)⟩
theorem hs_code {T : TxT} {p k : Nat} (hl : ltr T p k) (h : hsW T p k = 70097) : isW T p (p + k) [99, 111, 100, 101] = true := by
  obtain ⟨j, rfl, h, e3, hl⟩ := hs_p (a := 2596) (d := 5) hl h (by decide) (by decide)
  obtain ⟨j, rfl, h, e2, hl⟩ := hs_p (a := 96) (d := 4) hl h (by decide) (by decide)
  obtain ⟨j, rfl, h, e1, hl⟩ := hs_p (a := 3) (d := 15) hl h (by decide) (by decide)
  obtain ⟨j, rfl, h, e0, hl⟩ := hs_p (a := 0) (d := 3) hl h (by decide) (by decide)
  have := hs_0 hl h
  subst this
  simp [isW, List.range, List.range.loop] at e0 e1 e2 e3 ⊢
  exact ⟨e0, e1, e2, e3⟩
theorem hs_entry {T : TxT} {p k : Nat} (hl : ltr T p k) (h : hsW T p k = 2947858) : isW T p (p + k) [101, 110, 116, 114, 121] = true := by
  obtain ⟨j, rfl, h, e4, hl⟩ := hs_p (a := 109179) (d := 25) hl h (by decide) (by decide)
  obtain ⟨j, rfl, h, e3, hl⟩ := hs_p (a := 4043) (d := 18) hl h (by decide) (by decide)
  obtain ⟨j, rfl, h, e2, hl⟩ := hs_p (a := 149) (d := 20) hl h (by decide) (by decide)
  obtain ⟨j, rfl, h, e1, hl⟩ := hs_p (a := 5) (d := 14) hl h (by decide) (by decide)
  obtain ⟨j, rfl, h, e0, hl⟩ := hs_p (a := 0) (d := 5) hl h (by decide) (by decide)
  have := hs_0 hl h
  subst this
  simp [isW, List.range, List.range.loop] at e0 e1 e2 e3 e4 ⊢
  exact ⟨e0, e1, e2, e3, e4⟩
theorem isW_e {T : TxT} {p e : Nat} {w : List Nat} (h : isW T p e w = true) : e = p + w.length ∧ ∀ i, i < w.length → T.2 (p + i) = w.getD i 0 := by
  unfold isW at h
  rw [Bool.and_eq_true, beq_iff_eq, List.all_eq_true] at h
  exact ⟨h.1, fun i hi => beq_iff_eq.mp (h.2 i (List.mem_range.mpr hi))⟩
theorem hr_le {T : TxT} (h : ∀ i, i < T.1 → T.2 i < 256) (p : Nat) : hr T p ≤ 256 ∧ (hr T p = 256 ↔ ¬ p < T.1) ∧ (p < T.1 → hr T p = T.2 p) := by
  unfold hr
  by_cases hp : p < T.1
  · rw [if_pos hp]
    have := h p hp
    exact ⟨by omega, ⟨fun q => by omega, fun q => absurd hp q⟩, fun _ => rfl⟩
  · rw [if_neg hp]
    exact ⟨Nat.le_refl _, ⟨fun _ => hp, fun _ => rfl⟩, fun q => absurd q hp⟩
theorem hs_draugh {T : TxT} {p k : Nat} (hl : ltr T p k) (h : hsW T p k = 66996755) : k = 6 ∧ T.2 (p + 0) = 100 ∧ T.2 (p + 1) = 114 ∧ T.2 (p + 2) = 97 ∧ T.2 (p + 3) = 117 ∧ T.2 (p + 4) = 103 ∧ T.2 (p + 5) = 104 := by
  obtain ⟨j, rfl, h, e5, hl⟩ := hs_p (a := 2481361) (d := 8) hl h (by decide) (by decide)
  obtain ⟨j, rfl, h, e4, hl⟩ := hs_p (a := 91902) (d := 7) hl h (by decide) (by decide)
  obtain ⟨j, rfl, h, e3, hl⟩ := hs_p (a := 3403) (d := 21) hl h (by decide) (by decide)
  obtain ⟨j, rfl, h, e2, hl⟩ := hs_p (a := 126) (d := 1) hl h (by decide) (by decide)
  obtain ⟨j, rfl, h, e1, hl⟩ := hs_p (a := 4) (d := 18) hl h (by decide) (by decide)
  obtain ⟨j, rfl, h, e0, hl⟩ := hs_p (a := 0) (d := 4) hl h (by decide) (by decide)
  have := hs_0 hl h
  subst this
  exact ⟨rfl, e0, e1, e2, e3, e4, e5⟩
theorem isW_code {T : TxT} {p L : Nat} (hl : ltr T p L) : isW T p (p + L) [99, 111, 100, 101] = true ↔ hsW T p L = 70097 := by
  refine ⟨fun h => ?_, hs_code hl⟩
  obtain ⟨h1, h2⟩ := isW_e h
  have hL : L = 4 := by have : p + L = p + 4 := h1; omega
  subst hL
  have a0 : T.2 (p + 0) = 99 := h2 0 (by decide)
  have a1 : T.2 (p + 1) = 111 := h2 1 (by decide)
  have a2 : T.2 (p + 2) = 100 := h2 2 (by decide)
  have a3 : T.2 (p + 3) = 101 := h2 3 (by decide)
  simp only [hsW, a0, a1, a2, a3]
theorem isW_entry {T : TxT} {p L : Nat} (hl : ltr T p L) : isW T p (p + L) [101, 110, 116, 114, 121] = true ↔ hsW T p L = 2947858 := by
  refine ⟨fun h => ?_, hs_entry hl⟩
  obtain ⟨h1, h2⟩ := isW_e h
  have hL : L = 5 := by have : p + L = p + 5 := h1; omega
  subst hL
  have a0 : T.2 (p + 0) = 101 := h2 0 (by decide)
  have a1 : T.2 (p + 1) = 110 := h2 1 (by decide)
  have a2 : T.2 (p + 2) = 116 := h2 2 (by decide)
  have a3 : T.2 (p + 3) = 114 := h2 3 (by decide)
  have a4 : T.2 (p + 4) = 121 := h2 4 (by decide)
  simp only [hsW, a0, a1, a2, a3, a4]
theorem isW_draught {T : TxT} {p L : Nat} (hl : ltr T p L) : isW T p (p + L) [100, 114, 97, 117, 103, 104, 116] = true ↔ (L = 7 ∧ hsW T p 6 = 66996755 ∧ T.2 (p + 6) = 116) := by
  constructor
  · intro h
    obtain ⟨h1, h2⟩ := isW_e h
    have hL : L = 7 := by have : p + L = p + 7 := h1; omega
    have a0 : T.2 (p + 0) = 100 := h2 0 (by decide)
    have a1 : T.2 (p + 1) = 114 := h2 1 (by decide)
    have a2 : T.2 (p + 2) = 97 := h2 2 (by decide)
    have a3 : T.2 (p + 3) = 117 := h2 3 (by decide)
    have a4 : T.2 (p + 4) = 103 := h2 4 (by decide)
    have a5 : T.2 (p + 5) = 104 := h2 5 (by decide)
    have a6 : T.2 (p + 6) = 116 := h2 6 (by decide)
    refine ⟨hL, ?_, a6⟩
    simp only [hsW, a0, a1, a2, a3, a4, a5]
  · rintro ⟨rfl, h, a6⟩
    obtain ⟨_, a0, a1, a2, a3, a4, a5⟩ := hs_draugh (k := 6) (fun i hi => hl i (by omega)) h
    simp [isW, List.range, List.range.loop] at a0 a1 a2 a3 a4 a5 a6 ⊢
    exact ⟨a0, a1, a2, a3, a4, a5, a6⟩
/-- what the reference holds of a run of L letters: the number of the first 6, and what is behind -/
abbrev wdH (T : TxT) (p L : Nat) : Nat := hsW T p (if L ≤ 6 then L else 6)
abbrev wdT (T : TxT) (p L : Nat) : Nat := if L ≤ 6 then 0 else if L = 7 then T.2 (p + 6) - 96 else 99
theorem wrS_m {T : TxT} {p L : Nat} (hl : ltr T p L) : wrS T p (p + L) = if wdH T p L = 66996755 ∧ wdT T p L = 20 then 2 else if 0 < wdT T p L then 6 else if wdH T p L = 70097 then 0 else if wdH T p L = 2947858 then 1 else 6 := by
  have d1 := isW_draught hl
  have d2 := isW_code hl
  have d3 := isW_entry hl
  unfold wrS
  by_cases h6 : L ≤ 6
  · have n1 : ¬ isW T p (p + L) [100, 114, 97, 117, 103, 104, 116] = true := fun q => by have := (d1.mp q).1; omega
    have e1 : wdH T p L = hsW T p L := by show hsW T p (if L ≤ 6 then L else 6) = _; rw [if_pos h6]
    have e2 : wdT T p L = 0 := if_pos h6
    have n0 : ¬ (hsW T p L = 66996755 ∧ (0 : Nat) = 20) := fun q => absurd q.2 (by decide)
    rw [if_neg n1, e1, e2, if_neg n0, if_neg (Nat.lt_irrefl 0)]
    by_cases c1 : hsW T p L = 70097
    · rw [if_pos (d2.mpr c1), if_pos c1]
    · rw [if_neg (fun q => c1 (d2.mp q)), if_neg c1]
      by_cases c2 : hsW T p L = 2947858
      · rw [if_pos (d3.mpr c2), if_pos c2]
      · rw [if_neg (fun q => c2 (d3.mp q)), if_neg c2]
  · have n2 : ¬ isW T p (p + L) [99, 111, 100, 101] = true := fun q => by have := (isW_e q).1; have : p + L = p + 4 := this; omega
    have n3 : ¬ isW T p (p + L) [101, 110, 116, 114, 121] = true := fun q => by have := (isW_e q).1; have : p + L = p + 5 := this; omega
    have e1 : wdH T p L = hsW T p 6 := by show hsW T p (if L ≤ 6 then L else 6) = _; rw [if_neg h6]
    by_cases h7 : L = 7
    · have e2 : wdT T p L = T.2 (p + 6) - 96 := by show (if L ≤ 6 then 0 else if L = 7 then T.2 (p + 6) - 96 else 99) = _; rw [if_neg h6, if_pos h7]
      have := hl 6 (by omega)
      rw [e1, e2]
      by_cases c : isW T p (p + L) [100, 114, 97, 117, 103, 104, 116] = true
      · have := d1.mp c
        rw [if_pos c, if_pos ⟨this.2.1, by omega⟩]
      · rw [if_neg c, if_neg n2, if_neg n3, if_neg (fun q => c (d1.mpr ⟨h7, q.1, by omega⟩)), if_pos (by omega)]
    · have e2 : wdT T p L = 99 := by show (if L ≤ 6 then 0 else if L = 7 then T.2 (p + 6) - 96 else 99) = _; rw [if_neg h6, if_neg h7]
      have n0 : ¬ (wdH T p L = 66996755 ∧ (99 : Nat) = 20) := fun q => absurd q.2 (by decide)
      rw [if_neg (fun q => h7 (d1.mp q).1), if_neg n2, if_neg n3, e2, if_neg n0, if_pos (by decide)]
