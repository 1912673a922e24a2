/-! ROWS AS FUNCTIONS, THEIR NUMBERS, THEIR ORDER -/
def rv (f : Nat → Nat) : Nat → Nat
  | 0 => 1
  | k + 1 => 12 * rv f k + f k
def rowOk (n : Nat) (f : Nat → Nat) : Prop := ∀ k, k < n → f k < 12
def lawF (n : Nat) (f : Nat → Nat) : Prop := rowOk n f ∧ ∀ k, k + 1 < n → lwS (f k) (f (k + 1))
theorem rowOk.le {n m : Nat} {f : Nat → Nat} (h : rowOk n f) (hm : m ≤ n) : rowOk m f := fun k hk => h k (by omega)
theorem rv_lo {f : Nat → Nat} : ∀ n, 12 ^ n ≤ rv f n := by
  intro n
  induction n with
  | zero => exact Nat.le_refl 1
  | succ n ih =>
    rw [Nat.pow_succ]
    show 12 ^ n * 12 ≤ 12 * rv f n + f n
    omega
theorem rv_hi {f : Nat → Nat} : ∀ n, rowOk n f → rv f n < 2 * 12 ^ n := by
  intro n
  induction n with
  | zero => intro _; show 1 < 2 * 1; omega
  | succ n ih =>
    intro h
    have h1 := ih (h.le (by omega))
    have h2 := h n (by omega)
    rw [Nat.pow_succ]
    show 12 * rv f n + f n < 2 * (12 ^ n * 12)
    omega
theorem stN_rv {f : Nat → Nat} : ∀ n, rowOk n f → ∀ k, k < n → stN (rv f n) n k = f k := by
  intro n
  induction n with
  | zero => intro _ k hk; exact absurd hk (Nat.not_lt_zero _)
  | succ n ih =>
    intro h k hk
    have hn := h n (by omega)
    by_cases hkn : k = n
    · subst hkn
      unfold stN
      rw [show k + 1 - 1 - k = 0 by omega, Nat.pow_zero, Nat.div_one]
      show (12 * rv f k + f k) % 12 = f k
      omega
    · have h1 := ih (h.le (by omega)) k (by omega)
      unfold stN at h1 ⊢
      rw [show n + 1 - 1 - k = (n - 1 - k) + 1 by omega, Nat.pow_succ, Nat.mul_comm, ← Nat.div_div_eq_div_mul]
      rw [show rv f (n + 1) / 12 = rv f n by show (12 * rv f n + f n) / 12 = _; omega]
      exact h1
theorem rv_congr {f g : Nat → Nat} : ∀ n, (∀ k, k < n → f k = g k) → rv f n = rv g n := by
  intro n
  induction n with
  | zero => intro _; rfl
  | succ n ih =>
    intro h
    show 12 * rv f n + f n = 12 * rv g n + g n
    rw [ih (fun k hk => h k (by omega)), h n (by omega)]
theorem rv_stN : ∀ n v, 12 ^ n ≤ v → v < 2 * 12 ^ n → rv (stN v n) n = v := by
  intro n
  induction n with
  | zero => intro v h1 h2; simp at h1 h2; show 1 = v; omega
  | succ n ih =>
    intro v h1 h2
    rw [Nat.pow_succ] at h1 h2
    have h3 := ih (v / 12) (by omega) (by omega)
    show 12 * rv (stN v (n + 1)) n + stN v (n + 1) n = v
    have h4 : rv (stN v (n + 1)) n = rv (stN (v / 12) n) n := by
      refine rv_congr n (fun k hk => ?_)
      unfold stN
      rw [show n + 1 - 1 - k = (n - 1 - k) + 1 by omega, Nat.pow_succ, Nat.mul_comm, ← Nat.div_div_eq_div_mul]
    have h5 : stN v (n + 1) n = v % 12 := by
      unfold stN
      rw [show n + 1 - 1 - n = 0 by omega, Nat.pow_zero, Nat.div_one]
    rw [h4, h3, h5]
    omega
theorem stN_ok (v n : Nat) : rowOk n (stN v n) := fun k _ => stN_lt v n k
theorem lawful_F {n v : Nat} : lawful n v → lawF n (stN v n) ∧ rv (stN v n) n = v := fun h => ⟨⟨stN_ok v n, h.2.2⟩, rv_stN n v h.1 h.2.1⟩
theorem lawF_n {n : Nat} {f : Nat → Nat} (h : lawF n f) : lawful n (rv f n) := by
  refine ⟨rv_lo n, rv_hi n h.1, fun k hk => ?_⟩
  rw [stN_rv n h.1 k (by omega), stN_rv n h.1 (k + 1) hk]
  exact h.2 k hk
/-- the same up to k, less there: less -/
theorem rv_lt {a b : Nat → Nat} : ∀ n k, rowOk n a → rowOk n b → k < n → (∀ j, j < k → a j = b j) → a k < b k → rv a n < rv b n := by
  intro n
  induction n with
  | zero => intro k _ _ hk; exact absurd hk (Nat.not_lt_zero _)
  | succ n ih =>
    intro k ha hb hk he hlt
    have h1 := ha n (by omega)
    show 12 * rv a n + a n < 12 * rv b n + b n
    by_cases hkn : k = n
    · subst hkn
      rw [rv_congr k he]
      omega
    · have := ih k (ha.le (by omega)) (hb.le (by omega)) (by omega) he hlt
      omega
/-- rows of other numbers: where they part first -/
theorem rv_part {a b : Nat → Nat} : ∀ n, rowOk n a → rowOk n b → rv a n < rv b n → ∃ k, k < n ∧ (∀ j, j < k → a j = b j) ∧ a k < b k := by
  intro n
  induction n with
  | zero => intro _ _ h; exact absurd h (Nat.lt_irrefl 1)
  | succ n ih =>
    intro ha hb h
    have h1 := ha n (by omega)
    have h2 := hb n (by omega)
    have h : 12 * rv a n + a n < 12 * rv b n + b n := h
    by_cases hlt : rv a n < rv b n
    · obtain ⟨k, k1, k2, k3⟩ := ih (ha.le (by omega)) (hb.le (by omega)) hlt
      exact ⟨k, by omega, k2, k3⟩
    · have hle : rv b n ≤ rv a n := by omega
      have heq : rv a n = rv b n := by omega
      have hpre : ∀ j, j < n → a j = b j := by
        intro j hj
        rw [← stN_rv n (ha.le (by omega)) j hj, ← stN_rv n (hb.le (by omega)) j hj, heq]
      exact ⟨n, by omega, hpre, by omega⟩
/-- the least state behind another -/
def lsS (p : Nat) : Nat := if p / 2 = 0 then 0 else 2 * (p / 2 - 1)
theorem lsS_law (p : Nat) : lwS p (lsS p) := by unfold lsS; split <;> omega
theorem lsS_le {p s : Nat} (h : lwS p s) : lsS p ≤ s := by unfold lsS; split <;> omega
theorem lsS_lt {p : Nat} (h : p < 12) : lsS p < 12 := by unfold lsS; split <;> omega
/-- from k on the row goes on in the least way -/
def least (n k : Nat) (t : Nat → Nat) : Prop := ∀ i, k < i → i < n → t i = lsS (t (i - 1))
theorem least_le {n k : Nat} {t b : Nat → Nat} (ht : rowOk n t) (hb : lawF n b) (hl : least n k t) (hk : k < n) (he : ∀ j, j ≤ k → b j = t j) : rv t n ≤ rv b n := by
  rcases Nat.lt_or_ge (rv b n) (rv t n) with q | q
  · exfalso
    obtain ⟨j, j1, j2, j3⟩ := rv_part n hb.1 ht q
    have hjk : k < j := by
      rcases Nat.lt_or_ge k j with r | r
      · exact r
      · have := he j r
        omega
    have h1 := hl j hjk j1
    have h2 := hb.2 (j - 1) (by omega)
    rw [show j - 1 + 1 = j by omega, j2 (j - 1) (by omega)] at h2
    have := lsS_le h2
    omega
  · exact q
/-- t is the next lawful row behind r; and: there is none -/
def Nx (n : Nat) (r t : Nat → Nat) : Prop := lawF n t ∧ rv r n < rv t n ∧ ∀ v, lawful n v → v < rv t n → v ≤ rv r n
def NoNx (n : Nat) (r : Nat → Nat) : Prop := ∀ v, lawful n v → v ≤ rv r n
/-- how far the search for the next row has come: no lawful row behind r that is as r ahead of k has x or less at k -/
def gone (n : Nat) (r : Nat → Nat) (k x : Nat) : Prop := ∀ b, lawF n b → rv r n < rv b n → (∀ j, j < k → b j = r j) → x < b k
theorem gone_0 {n : Nat} {r : Nat → Nat} (hr : rowOk n r) (hn : 0 < n) : gone n r (n - 1) (r (n - 1)) := by
  intro b hb hlt he
  obtain ⟨j, j1, j2, j3⟩ := rv_part n hr hb.1 hlt
  have : j = n - 1 := by
    rcases Nat.lt_or_ge j (n - 1) with q | q
    · have := he j q
      omega
    · omega
  rw [← this]
  exact j3
theorem gone_up {n : Nat} {r : Nat → Nat} {k : Nat} (hr : rowOk n r) (hk : k + 1 < n) (h : gone n r (k + 1) 11) : gone n r k (r k) := by
  intro b hb hlt he
  obtain ⟨j, j1, j2, j3⟩ := rv_part n hr hb.1 hlt
  rcases Nat.lt_or_ge j k with q | q
  · have := he j q
    omega
  · by_cases hjk : j = k
    · rw [← hjk]; exact j3
    · have h1 := h b hb hlt (fun i hi => (j2 i (by omega)).symm)
      have := hb.1 (k + 1) hk
      omega
theorem gone_step {n : Nat} {r : Nat → Nat} {k x : Nat} (hk : k + 1 < n) (h : gone n r (k + 1) x) (hx : ¬ lwS (r k) (x + 1)) : gone n r (k + 1) (x + 1) := by
  intro b hb hlt he
  have h1 := h b hb hlt he
  have h2 := hb.2 k hk
  rw [he k (by omega)] at h2
  rcases Nat.lt_or_ge (x + 1) (b (k + 1)) with q | q
  · exact q
  · exfalso
    exact hx (by rw [show x + 1 = b (k + 1) by omega]; exact h2)
theorem gone_no {n : Nat} {r : Nat → Nat} (hr : rowOk n r) (hn : 0 < n) (h : gone n r 0 11) : NoNx n r := by
  intro v hv
  obtain ⟨h1, h2⟩ := lawful_F hv
  rcases Nat.lt_or_ge (rv r n) v with q | q
  · exfalso
    have := h _ h1 (by rw [h2]; exact q) (fun j hj => absurd hj (Nat.not_lt_zero _))
    have := h1.1 0 hn
    omega
  · exact q
theorem gone_nx {n : Nat} {r t : Nat → Nat} {k x : Nat} (hr : lawF n r) (hk : k < n) (h : gone n r k x) (hx : x + 1 < 12) (hrx : r k ≤ x) (hlw : k = 0 ∨ lwS (r (k - 1)) (x + 1)) (t1 : ∀ j, j < k → t j = r j) (t2 : t k = x + 1) (t3 : least n k t) : Nx n r t := by
  have hto : rowOk n t := by
    have : ∀ i, i < n → t i < 12 := by
      intro i
      induction i with
      | zero =>
        intro hi
        by_cases hk0 : k = 0
        · rw [← hk0, t2]; exact hx
        · rw [t1 0 (by omega)]; exact hr.1 0 hi
      | succ i ih =>
        intro hi
        rcases Nat.lt_trichotomy (i + 1) k with q | q | q
        · rw [t1 _ q]; exact hr.1 _ hi
        · rw [q, t2]; exact hx
        · rw [t3 (i + 1) q hi]
          exact lsS_lt (ih (by omega))
    exact this
  have htl : lawF n t := by
    refine ⟨hto, fun i hi => ?_⟩
    rcases Nat.lt_trichotomy (i + 1) k with q | q | q
    · rw [t1 _ q, t1 i (by omega)]; exact hr.2 i hi
    · rw [q, t2, t1 i (by omega)]
      rcases hlw with z | z
      · omega
      · rw [show k - 1 = i by omega] at z; exact z
    · rw [t3 (i + 1) q hi, show i + 1 - 1 = i by omega]
      exact lsS_law _
  refine ⟨htl, rv_lt n k hr.1 hto hk (fun j hj => (t1 j hj).symm) (by omega), fun v hv hvt => ?_⟩
  obtain ⟨b1, b2⟩ := lawful_F hv
  rcases Nat.lt_or_ge (rv r n) v with q | q
  · exfalso
    rw [← b2] at q hvt
    obtain ⟨j, j1, j2, j3⟩ := rv_part n hr.1 b1.1 q
    rcases Nat.lt_or_ge j k with z | z
    · have : rv t n < rv (stN v n) n := rv_lt n j hto b1.1 j1 (fun i hi => (t1 i (by omega)).trans (j2 i hi)) (by rw [t1 j z]; exact j3)
      omega
    · have h1 := h _ b1 q (fun i hi => (j2 i (by omega)).symm)
      by_cases hb : stN v n k = x + 1
      · have := least_le hto b1 t3 hk (fun i hi => by
          by_cases hik : i = k
          · rw [hik, t2]; exact hb
          · rw [t1 i (by omega)]; exact (j2 i (by omega)).symm)
        omega
      · have : rv t n < rv (stN v n) n := rv_lt n k hto b1.1 hk (fun i hi => (t1 i hi).trans (j2 i (by omega))) (by omega)
        omega
  · exact q
/-- all noughts -/
theorem zero_least {n : Nat} {f : Nat → Nat} (h : ∀ k, k < n → f k = 0) : lawF n f ∧ ∀ v, lawful n v → rv f n ≤ v := by
  have h1 : lawF n f := ⟨fun k hk => by rw [h k hk]; decide, fun k hk => by rw [h k (by omega), h (k + 1) hk]; omega⟩
  refine ⟨h1, fun v hv => ?_⟩
  obtain ⟨b1, b2⟩ := lawful_F hv
  rcases Nat.lt_or_ge v (rv f n) with q | q
  · exfalso
    rw [← b2] at q
    obtain ⟨j, j1, j2, j3⟩ := rv_part n b1.1 h1.1 q
    rw [h j j1] at j3
    omega
  · exact q
theorem drw_0 (s b : Nat) : drw 0 s b = s := by
  unfold drw
  rw [Nat.zero_div, if_neg (by decide)]
theorem rdK_0 (kind : Nat) (w : Nat → Nat) (n : Nat) (C : CodT) : rdK kind (fun b => drw 0 (w b) b) n C = rdK kind w n C := by
  have : (fun b => drw 0 (w b) b) = w := by funext b; exact drw_0 _ _
  rw [this]
theorem rdK_congr {kind n : Nat} {w w' : Nat → Nat} {C : CodT} (h : ∀ b, b < n → w b = w' b) : rdK kind w n C = rdK kind w' n C :=
  rdL_congr (fun i hi => by rw [h i hi]) _ _
theorem ln_rv {n : Nat} {f : Nat → Nat} (h : rowOk n f) (h1 : 1 ≤ n) (h6 : n ≤ 6) : ln (rv f n) = n := by
  have a := rv_lo (f := f) n
  have b := rv_hi n h
  rcases (show n = 1 ∨ n = 2 ∨ n = 3 ∨ n = 4 ∨ n = 5 ∨ n = 6 by omega) with rfl | rfl | rfl | rfl | rfl | rfl <;>
    (simp only [Nat.reducePow, Nat.reduceMul] at a b
     unfold ln lnZ
     repeat (first | rw [if_pos (by omega)] | rw [if_neg (by omega)]))
theorem ln_pow {r n : Nat} (h : ln r = n) (h1 : 1 ≤ n) : 12 ^ n ≤ r ∧ r < 2 * 12 ^ n := by
  have h6 : n ≤ 6 := by rw [← h]; exact ln_6 r
  unfold ln lnZ at h
  rcases (show n = 1 ∨ n = 2 ∨ n = 3 ∨ n = 4 ∨ n = 5 ∨ n = 6 by omega) with rfl | rfl | rfl | rfl | rfl | rfl <;>
    (simp only [Nat.reducePow, Nat.reduceMul]
     repeat (split at h <;> try omega))
