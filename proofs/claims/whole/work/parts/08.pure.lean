/-! WHAT IS READ: pure -/
abbrev CodT : Type := Nat × (Nat → Nat × Nat)
/-- a state with a draught on it -/
def blw (s : Nat) : Nat := if s < 10 then s + 2 else s
/-- a state as it is seen by draughts d at beat b -/
def drw (d s b : Nat) : Nat := if d / 2 ^ b % 2 = 1 then blw s else s
/-- what a reader of a kind sees of a state at a beat -/
def vw (kind s b : Nat) : Int32 := if (kind = 2 ∨ kind = 4) ∧ b % 3 = 2 then -1 else nI (if kind = 3 then (if s % 2 = 0 then s + 1 else s - 1) else if kind = 4 ∧ 10 ≤ s then s - 2 else s)
/-- the row r is seen from beat b on, of n beats -/
abbrev shw (v : Nat → Int32) (n r b : Nat) : Prop := b + ln r ≤ n ∧ ∀ i, i < ln r → v (b + i) = nI (stN r (ln r) i)
/-- a length that is better than the best so far (0: none) -/
abbrev bet (sh : Bool) (m best : Nat) : Prop := best = 0 ∨ (sh = true ∧ m < best) ∨ (sh = false ∧ best < m)
/-- the choice of the first e entries: length (0: none) and word -/
def chI (sh : Bool) (v : Nat → Int32) (n b : Nat) (es : Nat → Nat × Nat) : Nat → Nat × Nat
  | 0 => (0, 0)
  | e + 1 => if shw v n (es e).1 b ∧ bet sh (ln (es e).1) (chI sh v n b es e).1 then (ln (es e).1, (es e).2) else chI sh v n b es e
/-- the words that are read from beat b on -/
def rdL (sh : Bool) (v : Nat → Int32) (n : Nat) (C : CodT) : Nat → Nat → List Nat
  | 0, _ => []
  | f + 1, b => if b < n then (if 0 < (chI sh v n b C.2 C.1).1 then (chI sh v n b C.2 C.1).2 :: rdL sh v n C f (b + (chI sh v n b C.2 C.1).1) else rdL sh v n C f (b + 1)) else []
/-- what a kind reads by a code of n beats -/
def srt (kind : Nat) : Bool := kind == 1 || kind == 3
def rdK (kind : Nat) (w : Nat → Nat) (n : Nat) (C : CodT) : List Nat := rdL (srt kind) (fun b => vw kind (w b) b) n C (n + 1) 0
/-- a code as it can be: 8 entries at most, rows of 1 to 3 states, words 0 to 9 -/
def CodOk (C : CodT) : Prop := C.1 ≤ 8 ∧ ∀ e, e < C.1 → 1 ≤ ln (C.2 e).1 ∧ ln (C.2 e).1 ≤ 3 ∧ (C.2 e).1 < 2147483648 ∧ (C.2 e).2 < 10
theorem chI_le {sh : Bool} {v : Nat → Int32} {n b : Nat} {C : CodT} (h : CodOk C) : ∀ e, e ≤ C.1 → (chI sh v n b C.2 e).1 ≤ 3 ∧ ((chI sh v n b C.2 e).1 = 0 ∨ b + (chI sh v n b C.2 e).1 ≤ n) ∧ (chI sh v n b C.2 e).2 < 10 := by
  intro e
  induction e with
  | zero => intro _; exact ⟨Nat.zero_le 3, Or.inl rfl, Nat.zero_lt_succ 9⟩
  | succ e ih =>
    intro he
    have h1 := h.2 e (by omega)
    rw [chI]
    by_cases hc : shw v n (C.2 e).1 b ∧ bet sh (ln (C.2 e).1) (chI sh v n b C.2 e).1
    · rw [if_pos hc]
      exact ⟨h1.2.1, Or.inr hc.1.1, h1.2.2.2⟩
    · rw [if_neg hc]
      exact ih (by omega)
theorem rdL_len {sh : Bool} {v : Nat → Int32} {n : Nat} {C : CodT} : ∀ f b, (rdL sh v n C f b).length ≤ n - b := by
  intro f
  induction f with
  | zero => intro b; exact Nat.zero_le _
  | succ f ih =>
    intro b
    rw [rdL]
    by_cases hb : b < n
    · rw [if_pos hb]
      by_cases h : 0 < (chI sh v n b C.2 C.1).1
      · rw [if_pos h, List.length_cons]
        have := ih (b + (chI sh v n b C.2 C.1).1)
        omega
      · rw [if_neg h]
        have := ih (b + 1)
        omega
    · rw [if_neg hb]
      exact Nat.zero_le _
theorem rdL_10 {sh : Bool} {v : Nat → Int32} {n : Nat} {C : CodT} (h : CodOk C) : ∀ f b, ∀ w ∈ rdL sh v n C f b, w < 10 := by
  intro f
  induction f with
  | zero => intro b w hw; cases hw
  | succ f ih =>
    intro b w hw
    rw [rdL] at hw
    by_cases hb : b < n
    · rw [if_pos hb] at hw
      by_cases hc : 0 < (chI sh v n b C.2 C.1).1
      · rw [if_pos hc] at hw
        rcases List.mem_cons.mp hw with e | e
        · rw [e]; exact (chI_le h C.1 (Nat.le_refl _)).2.2
        · exact ih _ w e
      · rw [if_neg hc] at hw
        exact ih _ w hw
    · rw [if_neg hb] at hw
      cases hw
theorem ln_6 (r : Nat) : ln r ≤ 6 := lnZ_6 _
theorem ln_lt {r : Nat} (h : 0 < ln r) : r < 5971968 := by
  rcases Nat.lt_or_ge r 5971968 with q | q
  · exact q
  · exfalso
    have : ln r = 0 := by
      unfold ln lnZ
      repeat (first | rw [if_neg (by omega)])
    omega
theorem chI_congr {sh : Bool} {v v' : Nat → Int32} {n b : Nat} {C : CodT} (hv : ∀ i, i < n → v i = v' i) : ∀ e, chI sh v n b C.2 e = chI sh v' n b C.2 e := by
  intro e
  induction e with
  | zero => rfl
  | succ e ih =>
    rw [chI, chI, ih]
    have : shw v n (C.2 e).1 b ↔ shw v' n (C.2 e).1 b := ⟨fun h => ⟨h.1, fun i hi => (hv (b + i) (by have := h.1; omega)).symm.trans (h.2 i hi)⟩, fun h => ⟨h.1, fun i hi => (hv (b + i) (by have := h.1; omega)).trans (h.2 i hi)⟩⟩
    by_cases h : shw v n (C.2 e).1 b ∧ bet sh (ln (C.2 e).1) (chI sh v' n b C.2 e).1
    · rw [if_pos h, if_pos ⟨this.mp h.1, h.2⟩]
    · rw [if_neg h, if_neg (fun z => h ⟨this.mpr z.1, z.2⟩)]
theorem rdL_congr {sh : Bool} {v v' : Nat → Int32} {n : Nat} {C : CodT} (hv : ∀ i, i < n → v i = v' i) : ∀ f b, rdL sh v n C f b = rdL sh v' n C f b := by
  intro f
  induction f with
  | zero => intro b; rfl
  | succ f ih =>
    intro b
    rw [rdL, rdL, chI_congr hv, ih, ih]
theorem lnZ_nI {r : Nat} (h : r < 2147483648) : lnZ (nI r).toInt = ln r := by rw [nI_toInt h]; rfl
theorem drw_hi {d s b : Nat} (hd : d < 64) (hb : 6 ≤ b) : drw d s b = s := by
  unfold drw
  have : d / 2 ^ b = 0 := Nat.div_eq_of_lt (Nat.lt_of_lt_of_le hd (show 2 ^ 6 ≤ 2 ^ b from Nat.pow_le_pow_right (by decide) hb))
  rw [this, if_neg (by decide)]
theorem blw_lt {s : Nat} (h : s < 12) : blw s < 12 := by unfold blw; split <;> omega
theorem drw_lt {d s b : Nat} (h : s < 12) : drw d s b < 12 := by unfold drw; split <;> first | exact blw_lt h | exact h
theorem srt_iff {kd : Nat} : srt kd = true ↔ kd = 1 ∨ kd = 3 := by unfold srt; simp
