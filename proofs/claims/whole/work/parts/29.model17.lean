/-! the reference: the next token -/
theorem m2_00 (f : MF) (i k : Nat) (x : Int32) : m2 f 0 i x 0 k = if k = i then x else f 0 k := by
  rw [m2_at]
  by_cases h : k = i
  · rw [if_pos ⟨rfl, h⟩, if_pos h]
  · rw [if_neg (fun z => h z.2), if_neg h]
theorem wdH_s {T : TxT} {p i : Nat} : wdH T p (i + 1) = if i < 6 then 27 * wdH T p i + (T.2 (p + i) - 96) else wdH T p i := by
  show hsW T p (if i + 1 ≤ 6 then i + 1 else 6) = _
  by_cases h : i < 6
  · rw [if_pos (by omega), if_pos h]
    show 27 * hsW T p i + _ = 27 * hsW T p (if i ≤ 6 then i else 6) + _
    rw [if_pos (by omega)]
  · rw [if_neg (by omega), if_neg h]
    show _ = hsW T p (if i ≤ 6 then i else 6)
    by_cases h2 : i ≤ 6
    · rw [if_pos h2, show i = 6 by omega]
    · rw [if_neg h2]
theorem wdT_s {T : TxT} {p i : Nat} : wdT T p (i + 1) = if i = 6 then T.2 (p + i) - 96 else if 6 < i then 99 else wdT T p i := by
  show (if i + 1 ≤ 6 then 0 else if i + 1 = 7 then T.2 (p + 6) - 96 else 99) = _
  by_cases h : i = 6
  · rw [if_neg (by omega), if_pos (by omega), if_pos h, h]
  · rw [if_neg h]
    by_cases h2 : 6 < i
    · rw [if_neg (by omega), if_neg (by omega), if_pos h2]
    · rw [if_pos (by omega), if_neg h2]
      show 0 = if i ≤ 6 then 0 else _
      rw [if_pos (by omega)]
theorem hsW_lt {T : TxT} {p : Nat} : ∀ k, ltr T p k → hsW T p k < 27 ^ k
  | 0, _ => Nat.lt_succ_self 0
  | k + 1, h => by
    have h1 := hsW_lt k (fun i hi => h i (by omega))
    have h2 := h k (Nat.lt_succ_self _)
    rw [Nat.pow_succ]
    show 27 * hsW T p k + (T.2 (p + k) - 96) < 27 ^ k * 27
    omega
theorem wdH_lt {T : TxT} {p i : Nat} (h : ltr T p i) : wdH T p i < 387420489 := by
  show hsW T p (if i ≤ 6 then i else 6) < 387420489
  have h1 := hsW_lt (T := T) (p := p) (if i ≤ 6 then i else 6) (fun j hj => h j (by split at hj <;> omega))
  refine Nat.lt_of_lt_of_le h1 ?_
  show 27 ^ _ ≤ 27 ^ 6
  exact Nat.pow_le_pow_right (by decide) (by split <;> omega)
theorem wdT_lt {T : TxT} {p i : Nat} (h : ltr T p i) : wdT T p i ≤ 99 := by
  show (if i ≤ 6 then 0 else if i = 7 then T.2 (p + 6) - 96 else 99) ≤ 99
  by_cases h6 : i ≤ 6
  · rw [if_pos h6]; decide
  · rw [if_neg h6]
    by_cases h7 : i = 7
    · rw [if_pos h7]
      have := h 6 (by omega)
      omega
    · rw [if_neg h7]
      decide

