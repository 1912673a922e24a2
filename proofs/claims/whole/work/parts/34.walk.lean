/-! THE CLASS: its objects' shapes -/
abbrev shW (q : Nat) : SH := fun j f => match j with
  | 0 => .inr (10, [.ref (q + 1), .int (f 0)])
  | _ => ia 6 f
abbrev WK (σ : Sg) (q : Nat) (f : MF) : Prop := CL σ q 2 (shW q) f
theorem WK.c0 {σ : Sg} {q : Nat} {f : MF} (h : WK σ q f) : σ q = some (.inr (10, [.ref (q + 1), .int (f 0 0)])) := h 0 (by decide)
theorem WK.c1 {σ : Sg} {q : Nat} {f : MF} (h : WK σ q f) : σ (q + 1) = some (ia 6 (f 1)) := h 1 (by decide)
/-! rows in their order: pure -/
/-- as r ahead of k, then in the least way -/
def clz (r : Nat → Nat) (k : Nat) : Nat → Nat
  | 0 => if 0 < k then r 0 else 0
  | i + 1 => if i + 1 < k then r (i + 1) else lsS (clz r k i)
theorem clz_lo {r : Nat → Nat} {k i : Nat} (h : i < k) : clz r k i = r i := by
  cases i with
  | zero => exact if_pos h
  | succ i => exact if_pos h
theorem clz_hi {r : Nat → Nat} {k i : Nat} (h : k ≤ i) (h0 : 0 < i) : clz r k i = lsS (clz r k (i - 1)) := by
  obtain ⟨j, rfl⟩ : ∃ j, i = j + 1 := ⟨i - 1, by omega⟩
  exact if_neg (by omega)
theorem clz_12 {r : Nat → Nat} {k : Nat} : ∀ i, (∀ j, j < k → j ≤ i → r j < 12) → clz r k i < 12
  | 0, h => by
    show (if 0 < k then r 0 else 0) < 12
    by_cases hk : 0 < k
    · rw [if_pos hk]; exact h 0 hk (Nat.le_refl _)
    · rw [if_neg hk]; decide
  | i + 1, h => by
    show (if i + 1 < k then r (i + 1) else lsS (clz r k i)) < 12
    by_cases hk : i + 1 < k
    · rw [if_pos hk]; exact h _ hk (Nat.le_refl _)
    · rw [if_neg hk]; exact lsS_lt (clz_12 i (fun j a b => h j a (by omega)))
theorem clz_0 {r : Nat → Nat} : ∀ i, clz r 0 i = 0
  | 0 => rfl
  | i + 1 => by
    show (if i + 1 < 0 then r (i + 1) else lsS (clz r 0 i)) = 0
    rw [if_neg (Nat.not_lt_zero _), clz_0 i]
    rfl
theorem clz_cg {r s : Nat → Nat} {k : Nat} : ∀ i, (∀ j, j < k → j ≤ i → r j = s j) → clz r k i = clz s k i
  | 0, h => by
    show (if 0 < k then r 0 else 0) = (if 0 < k then s 0 else 0)
    by_cases hk : 0 < k
    · rw [if_pos hk, if_pos hk]; exact h 0 hk (Nat.le_refl _)
    · rw [if_neg hk, if_neg hk]
  | i + 1, h => by
    show (if i + 1 < k then r (i + 1) else lsS (clz r k i)) = (if i + 1 < k then s (i + 1) else lsS (clz s k i))
    by_cases hk : i + 1 < k
    · rw [if_pos hk, if_pos hk]; exact h _ hk (Nat.le_refl _)
    · rw [if_neg hk, if_neg hk, clz_cg i (fun j a b => h j a (by omega))]
/-- the greatest state that may stand at k -/
def gtS (r : Nat → Nat) (k : Nat) : Nat := if k = 0 then 11 else if r (k - 1) / 2 * 2 + 3 < 11 then r (k - 1) / 2 * 2 + 3 else 11
theorem gtS_le {n : Nat} {b : Nat → Nat} (h : lawF n b) {k : Nat} (hk : k < n) : b k ≤ gtS b k := by
  have h1 := h.1 k hk
  unfold gtS
  by_cases h0 : k = 0
  · rw [if_pos h0]; omega
  · rw [if_neg h0]
    have h2 := h.2 (k - 1) (by omega)
    rw [show k - 1 + 1 = k by omega] at h2
    split <;> omega
theorem gtS_cg {r s : Nat → Nat} {k : Nat} (h : ∀ j, j < k → r j = s j) : gtS r k = gtS s k := by
  unfold gtS
  by_cases h0 : k = 0
  · rw [if_pos h0, if_pos h0]
  · rw [if_neg h0, if_neg h0, h (k - 1) (by omega)]
theorem lsI (a : Nat) (h : a < 12) : (if 0 < nI a / 2 * 2 - 2 then nI a / 2 * 2 - 2 else 0) = nI (lsS a) := by
  have : ∀ a : Fin 12, (if 0 < nI a.val / 2 * 2 - 2 then nI a.val / 2 * 2 - 2 else 0) = nI (lsS a.val) := by decide +kernel
  exact this ⟨a, h⟩
theorem gtI (a : Nat) (h : a < 12) : (if nI a / 2 * 2 + 3 < 11 then nI a / 2 * 2 + 3 else 11) = nI (if a / 2 * 2 + 3 < 11 then a / 2 * 2 + 3 else 11) := by
  have : ∀ a : Fin 12, (if nI a.val / 2 * 2 + 3 < 11 then nI a.val / 2 * 2 + 3 else 11) = nI (if a.val / 2 * 2 + 3 < 11 then a.val / 2 * 2 + 3 else 11) := by decide +kernel
  exact this ⟨a, h⟩
/-- t is the next lawful row behind r but for some that are as r ahead of p; and: there are none but such -/
def Sk (n p : Nat) (r t : Nat → Nat) : Prop := lawF n t ∧ rv r n < rv t n ∧ ∀ b, lawF n b → rv r n < rv b n → rv b n < rv t n → ∀ j, j < p → j < n → b j = r j
def NoSk (n p : Nat) (r : Nat → Nat) : Prop := ∀ b, lawF n b → rv r n < rv b n → ∀ j, j < p → j < n → b j = r j
theorem sk_no {n p : Nat} {r : Nat → Nat} (hr : lawF n r) (h : ∀ j, j < p → j < n → ¬ r j < gtS r j) : NoSk n p r := by
  intro b hb hlt j hj hjn
  obtain ⟨i, i1, i2, i3⟩ := rv_part n hr.1 hb.1 hlt
  rcases Nat.lt_or_ge j i with q | q
  · exact (i2 j q).symm
  · exfalso
    have h1 := gtS_le hb i1
    rw [← gtS_cg (r := r) (s := b) i2] at h1
    exact h i (by omega) i1 (by omega)
theorem sk_ok {n p i : Nat} {r : Nat → Nat} (hr : lawF n r) (hi : i < n) (hip : i < p) (hlt : r i < gtS r i) (hno : ∀ j, i < j → j < p → j < n → ¬ r j < gtS r j) : Sk n p r (clz (fu r i (r i + 1)) (i + 1)) := by
  obtain ⟨t, et⟩ : ∃ z, z = clz (fu r i (r i + 1)) (i + 1) := ⟨_, rfl⟩
  rw [← et]
  have t1 : ∀ j, j < i → t j = r j := fun j hj => by rw [et, clz_lo (by omega), fu_ne (by omega)]
  have t2 : t i = r i + 1 := by rw [et, clz_lo (by omega), fu_eq]
  have t3 : least n i t := fun j h1 h2 => by rw [et]; exact clz_hi h1 (by omega)
  have h11 : r i + 1 < 12 := by
    unfold gtS at hlt
    split at hlt
    · omega
    · split at hlt <;> omega
  have hto : ∀ j, j < n → t j < 12 := fun j hj => by
    rw [et]
    exact clz_12 j (fun k a b => by
      by_cases hk : k = i
      · rw [hk, fu_eq]; exact h11
      · rw [fu_ne hk]; exact hr.1 k (by omega))
  have htl : lawF n t := by
    refine ⟨hto, fun j hj => ?_⟩
    rcases Nat.lt_trichotomy (j + 1) i with q | q | q
    · rw [t1 _ q, t1 j (by omega)]; exact hr.2 j hj
    · rw [q, t2, t1 j (by omega)]
      have h2 := hr.2 j hj
      rw [q] at h2
      unfold gtS at hlt
      rw [if_neg (by omega), show i - 1 = j by omega] at hlt
      split at hlt <;> omega
    · rw [t3 (j + 1) (by omega) hj, show j + 1 - 1 = j by omega]
      exact lsS_law _
  refine ⟨htl, rv_lt n i hr.1 hto hi (fun j hj => (t1 j hj).symm) (by omega), fun b hb hrb hbt j hj hjn => ?_⟩
  obtain ⟨k, k1, k2, k3⟩ := rv_part n hr.1 hb.1 hrb
  rcases Nat.lt_or_ge j k with q | q
  · exact (k2 j q).symm
  · exfalso
    have h1 := gtS_le hb k1
    rw [← gtS_cg (r := r) (s := b) k2] at h1
    have hki : k ≤ i := by
      rcases Nat.lt_or_ge i k with z | z
      · exact absurd (show r k < gtS r k by omega) (hno k z (by omega) k1)
      · exact z
    rcases Nat.lt_or_ge k i with z | z
    · have : rv t n < rv b n := rv_lt n k hto hb.1 k1 (fun m hm => (t1 m (by omega)).trans (k2 m hm)) (by rw [t1 k z]; exact k3)
      omega
    · have hk : k = i := by omega
      subst hk
      by_cases hbk : b k = r k + 1
      · have := least_le hto hb t3 hi (fun m hm => by
          by_cases hmk : m = k
          · rw [hmk, t2]; exact hbk
          · rw [t1 m (by omega)]; exact (k2 m (by omega)).symm)
        omega
      · have : rv t n < rv b n := rv_lt n k hto hb.1 k1 (fun m hm => (t1 m hm).trans (k2 m hm)) (by omega)
        omega

/-! the walk over lawful rows -/
theorem c_X10_greatest (q : Nat) (f : MF) (x : Int32) (k : Nat) (r : Nat → Nat) (hx : x = nI k) : CT_X10_greatest [.ref q, .int x] (fun Γ σ sz => WK σ q f ∧ k < 6 ∧ ∀ i, i < k → f 1 i = nI (r i) ∧ r i < 12) (fun Γ σ sz v σ' sz' => v = some (.int (nI (gtS r k))) ∧ σ' = σ ∧ sz' = sz) := by
  refine CT.mkP rfl (Nat.le_of_ble_eq_true rfl) [_, _] rfl ?_
  intro X Γ σ sz P hX hpre hsz hP
  obtain ⟨hM, hk, hr⟩ := hpre
  subst hx
  obtain ⟨σ0, eσ0⟩ : ∃ z, z = σ := ⟨σ, rfl⟩
  rw [← eσ0] at hP
  have hF : Fr q (q + 2) σ0 σ := by rw [eσ0]; exact Fr.rf
  refine S_iload_n (q := 1) hX dX10_greatest_0 rfl rfl ?_
  refine S_if_ne (q := 4) 9 hX dX10_greatest_1 rfl rfl (fun c1 => ?_) (fun c1 => ?_)
  · have h0 : ¬ k = 0 := fun z => c1 (by rw [z]; rfl)
    have hr1 := hr (k - 1) (by omega)
    have ek : nI k - 1 = nI (k - 1) := pk_sub (b := 1) (by omega)
    refine S_bipush (q := 11) (v := 11) hX dX10_greatest_9 bp_11 rfl ?_
    refine S_aload_n (q := 12) hX dX10_greatest_11 rfl rfl ?_
    refine S_getf (fs := ?fs_1) (v := ?v_1) (q := 15) hX u_276 fo_X10_states dX10_greatest_12 ?hs_1 ?hv_1 rfl ?_
    case hs_1 => with_reducible first | exact WK.c0 hM | exact WK.c1 hM
    case hv_1 => rfl
    refine S_iload_n (q := 16) hX dX10_greatest_15 rfl rfl ?_
    refine S_iconst (q := 17) (v := 1) hX dX10_greatest_16 ic_1 rfl ?_
    refine S_isub (q := 18) hX dX10_greatest_17 rfl ?_
    refine S_iald (N := ?n_2) (f := ?f_2) (q := 19) hX dX10_greatest_18 ?hs_2 ?hi_2 rfl ?_
    case hs_2 => with_reducible first | exact WK.c0 hM | exact WK.c1 hM
    case hi_2 => rw [ek]; exact vp_in_nI (by omega) (by decide)
    refine S_iconst (q := 20) (v := 2) hX dX10_greatest_19 ic_2 rfl ?_
    refine S_idiv (q := 21) hX dX10_greatest_20 (by decide) rfl ?_
    refine S_iconst (q := 22) (v := 2) hX dX10_greatest_21 ic_2 rfl ?_
    refine S_imul (q := 23) hX dX10_greatest_22 rfl ?_
    refine S_iconst (q := 24) (v := 3) hX dX10_greatest_23 ic_3 rfl ?_
    refine S_iadd (q := 25) hX dX10_greatest_24 rfl ?_
    refine S_min (q := 28) hX u_657 u_546 u_19 u_547 (by decide) (Nat.le_of_ble_eq_true rfl) ⟨Nat.zero_le _, Nat.zero_le _⟩ dX10_greatest_25 rfl ?_
    refine S_iret hX dX10_greatest_28 (Nat.zero_le _) (Nat.zero_le _) ?_
    refine hP _ _ _ ?_
    refine ⟨?_, eσ0.symm, rfl⟩
    rw [ek, nI_clamp (by omega), hr1.1, gtI _ hr1.2]
    unfold gtS
    rw [if_neg h0]
  · have h0 : k = 0 := nI_inj (by omega) (by decide) c1
    refine S_bipush (q := 6) (v := 11) hX dX10_greatest_4 bp_11 rfl ?_
    refine S_goto 28 hX dX10_greatest_6 rfl ?_
    refine S_iret hX dX10_greatest_28 (Nat.zero_le _) (Nat.zero_le _) ?_
    refine hP _ _ _ ?_
    refine ⟨?_, eσ0.symm, rfl⟩
    unfold gtS
    rw [if_pos h0]
    rfl
theorem c_X10_closeBehind (q : Nat) (f : MF) (x : Int32) (n k : Nat) (r : Nat → Nat) (hx : x = nI k) : CT_X10_closeBehind [.ref q, .int x] (fun Γ σ sz => WK σ q f ∧ f 0 0 = nI n ∧ n ≤ 6 ∧ k ≤ 6 ∧ ∀ i, i < k → i < n → f 1 i = nI (r i) ∧ r i < 12) (fun Γ σ sz v σ' sz' => ∃ f', WK σ' q f' ∧ Fr q (q + 2) σ σ' ∧ v = none ∧ (∃ g, f' = m1 f 1 g ∧ ∀ i, i < n → g i = nI (clz r k i)) ∧ sz' = sz) := by
  refine CT.mkP rfl (Nat.le_of_ble_eq_true rfl) [_, _, _] rfl ?_
  intro X Γ σ sz P hX hpre hsz hP
  obtain ⟨hM, h0, hn, hk, hr⟩ := hpre
  subst hx
  obtain ⟨σ0, eσ0⟩ : ∃ z, z = σ := ⟨σ, rfl⟩
  rw [← eσ0] at hP
  have hF : Fr q (q + 2) σ0 σ := by rw [eσ0]; exact Fr.rf
  have loop : ∀ (fl : Nat) (i : Nat) (σ : Sg) (g : Nat → Int32), k ≤ i → i ≤ 6 → 6 - i < fl → (∀ j, j < i → j < n → g j = nI (clz r k j)) → WK σ q (m1 f 1 g) → Fr q (q + 2) σ0 σ → G X Γ P 0 0 2 [some (.ref q), some (.int (nI k)), some (.int (nI i))] [] σ sz := by
    intro fl
    induction fl with
    | zero =>
      rintro i σ g hki hi6 hfu hg hM hF
      exact absurd hfu (Nat.not_lt_zero _)
    | succ fl ih =>
      rintro i σ g hki hi6 hfu hg hM hF
      have h0c : m1 f 1 g 0 0 = nI n := h0
      refine S_iload_n (q := 3) hX dX10_closeBehind_2 rfl rfl ?_
      refine S_aload_n (q := 4) hX dX10_closeBehind_3 rfl rfl ?_
      refine S_getf (fs := ?fs_1) (v := ?v_1) (q := 7) hX u_278 fo_X10_beats dX10_closeBehind_4 ?hs_1 ?hv_1 rfl ?_
      case hs_1 => with_reducible first | exact WK.c0 hM | exact WK.c1 hM
      case hv_1 => rfl
      refine S_icmp_ge (q := 10) 48 hX dX10_closeBehind_7 rfl rfl (fun c7 => ?_) (fun c7 => ?_)
      · have hge : n ≤ i := by rw [h0c, nI_leI (by omega) (by omega)] at c7; omega
        refine S_vret hX dX10_closeBehind_48 (Nat.zero_le _) (Nat.zero_le _) ?_
        refine hP _ _ _ ?_
        exact ⟨_, hM, hF, rfl, ⟨g, rfl, fun j hj => hg j (by omega) hj⟩, rfl⟩
      · have hlt : i < n := by rw [h0c, nI_leI (by omega) (by omega)] at c7; omega
        refine S_aload_n (q := 11) hX dX10_closeBehind_10 rfl rfl ?_
        refine S_getf (fs := ?fs_2) (v := ?v_2) (q := 14) hX u_276 fo_X10_states dX10_closeBehind_11 ?hs_2 ?hv_2 rfl ?_
        case hs_2 => with_reducible first | exact WK.c0 hM | exact WK.c1 hM
        case hv_2 => rfl
        refine S_iload_n (q := 15) hX dX10_closeBehind_14 rfl rfl ?_
        refine S_iload_n (q := 16) hX dX10_closeBehind_15 rfl rfl ?_
        refine S_if_ne (q := 19) 23 hX dX10_closeBehind_16 rfl rfl (fun c16 => ?_) (fun c16 => ?_)
        · have hi0 : ¬ i = 0 := fun z => c16 (by rw [z]; rfl)
          have ek : nI i - 1 = nI (i - 1) := pk_sub (b := 1) (by omega)
          have gi : m1 f 1 g 1 (i - 1) = nI (clz r k (i - 1)) := by rw [m1_eq]; exact hg (i - 1) (by omega) (by omega)
          have hi12 : clz r k (i - 1) < 12 := clz_12 _ (fun j a b => (hr j a (by omega)).2)
          refine S_iconst (q := 24) (v := 0) hX dX10_closeBehind_23 ic_0 rfl ?_
          refine S_aload_n (q := 25) hX dX10_closeBehind_24 rfl rfl ?_
          refine S_getf (fs := ?fs_3) (v := ?v_3) (q := 28) hX u_276 fo_X10_states dX10_closeBehind_25 ?hs_3 ?hv_3 rfl ?_
          case hs_3 => with_reducible first | exact WK.c0 hM | exact WK.c1 hM
          case hv_3 => rfl
          refine S_iload_n (q := 29) hX dX10_closeBehind_28 rfl rfl ?_
          refine S_iconst (q := 30) (v := 1) hX dX10_closeBehind_29 ic_1 rfl ?_
          refine S_isub (q := 31) hX dX10_closeBehind_30 rfl ?_
          refine S_iald (N := ?n_4) (f := ?f_4) (q := 32) hX dX10_closeBehind_31 ?hs_4 ?hi_4 rfl ?_
          case hs_4 => with_reducible first | exact WK.c0 hM | exact WK.c1 hM
          case hi_4 => rw [ek]; exact vp_in_nI (by omega) (by decide)
          refine S_iconst (q := 33) (v := 2) hX dX10_closeBehind_32 ic_2 rfl ?_
          refine S_idiv (q := 34) hX dX10_closeBehind_33 (by decide) rfl ?_
          refine S_iconst (q := 35) (v := 2) hX dX10_closeBehind_34 ic_2 rfl ?_
          refine S_imul (q := 36) hX dX10_closeBehind_35 rfl ?_
          refine S_iconst (q := 37) (v := 2) hX dX10_closeBehind_36 ic_2 rfl ?_
          refine S_isub (q := 38) hX dX10_closeBehind_37 rfl ?_
          refine S_max (q := 41) hX u_662 u_576 u_19 u_577 (by decide) (Nat.le_of_ble_eq_true rfl) ⟨Nat.zero_le _, Nat.zero_le _⟩ dX10_closeBehind_38 rfl ?_
          refine S_nm (fun x41 hx41 => ?_)
          refine S_iast (N := ?n_5) (f := ?f_5) (q := 42) hX dX10_closeBehind_41 ?hs_5 ?hi_5 rfl ?_
          case hs_5 => with_reducible first | exact WK.c0 hM | exact WK.c1 hM
          case hi_5 => exact vp_in_nI (by omega) (by decide)
          refine S_stu (q0 := q) (j := 1) (i := _) hM hF (by decide) rfl (fun σ μ41 e41 hM hF => ?_)
          subst hx41
          refine S_iinc (q := 45) [_, _, _] hX dX10_closeBehind_42 rfl (ii_1 _) rfl (Nat.le_of_ble_eq_true rfl) rfl rfl ?_
          refine S_goto 2 hX dX10_closeBehind_45 rfl ?_
          rw [nI_clamp (by omega), m2_m1] at e41
          rw [e41] at hM
          rw [nI_1]
          exact ih (i + 1) σ _ (by omega) (by omega) (by omega) (fun j hj hjn => by
            by_cases hji : j = i
            · rw [hji, upd_eq, clz_hi hki (by omega), ek, nI_clamp (by omega), gi]
              exact lsI _ hi12
            · rw [upd_ne hji]; exact hg j (by omega) hjn) hM hF
        · have hi0 : i = 0 := nI_inj (by omega) (by decide) c16
          refine S_iconst (q := 20) (v := 0) hX dX10_closeBehind_19 ic_0 rfl ?_
          refine S_goto 41 hX dX10_closeBehind_20 rfl ?_
          refine S_nm (fun x41 hx41 => ?_)
          refine S_iast (N := ?n_6) (f := ?f_6) (q := 42) hX dX10_closeBehind_41 ?hs_6 ?hi_6 rfl ?_
          case hs_6 => with_reducible first | exact WK.c0 hM | exact WK.c1 hM
          case hi_6 => exact vp_in_nI (by omega) (by decide)
          refine S_stu (q0 := q) (j := 1) (i := _) hM hF (by decide) rfl (fun σ μ41 e41 hM hF => ?_)
          subst hx41
          refine S_iinc (q := 45) [_, _, _] hX dX10_closeBehind_42 rfl (ii_1 _) rfl (Nat.le_of_ble_eq_true rfl) rfl rfl ?_
          refine S_goto 2 hX dX10_closeBehind_45 rfl ?_
          rw [nI_clamp (by omega), m2_m1] at e41
          rw [e41] at hM
          rw [nI_1]
          exact ih (i + 1) σ _ (by omega) (by omega) (by omega) (fun j hj hjn => by
            by_cases hji : j = i
            · rw [hji, upd_eq, hi0]
              unfold clz
              rw [if_neg (by omega)]
              rfl
            · rw [upd_ne hji]; exact hg j (by omega) hjn) hM hF
  refine S_iload_n (q := 1) hX dX10_closeBehind_0 rfl rfl ?_
  refine S_istore_n (q := 2) [_, _, _] hX dX10_closeBehind_1 rfl (Nat.le_of_ble_eq_true rfl) rfl rfl ?_
  refine loop 7 k σ (f 1) (Nat.le_refl _) hk (by omega) (fun j hj hjn => by rw [clz_lo hj]; exact (hr j hj hjn).1) ?_ hF
  rw [m1_id f 1 rfl]
  exact hM
theorem c_X10_number (q : Nat) (f : MF) (n : Nat) (r : Nat → Nat) : CT_X10_number [.ref q] (fun Γ σ sz => WK σ q f ∧ f 0 0 = nI n ∧ n ≤ 6 ∧ ∀ i, i < n → f 1 i = nI (r i)) (fun Γ σ sz v σ' sz' => v = some (.int (nI (rv r n))) ∧ σ' = σ ∧ sz' = sz) := by
  refine CT.mkP rfl (Nat.le_of_ble_eq_true rfl) [_] rfl ?_
  intro X Γ σ sz P hX hpre hsz hP
  obtain ⟨hM, h0, hn, hr⟩ := hpre
  obtain ⟨σ0, eσ0⟩ : ∃ z, z = σ := ⟨σ, rfl⟩
  rw [← eσ0] at hP
  have hF : Fr q (q + 2) σ0 σ := by rw [eσ0]; exact Fr.rf
  refine S_aload_n (q := 1) hX dX10_number_0 rfl rfl ?_
  refine S_getf (fs := ?fs_1) (v := ?v_1) (q := 4) hX u_276 fo_X10_states dX10_number_1 ?hs_1 ?hv_1 rfl ?_
  case hs_1 => with_reducible first | exact WK.c0 hM | exact WK.c1 hM
  case hv_1 => rfl
  refine S_aload_n (q := 5) hX dX10_number_4 rfl rfl ?_
  refine S_getf (fs := ?fs_2) (v := ?v_2) (q := 8) hX u_278 fo_X10_beats dX10_number_5 ?hs_2 ?hv_2 rfl ?_
  case hs_2 => with_reducible first | exact WK.c0 hM | exact WK.c1 hM
  case hv_2 => rfl
  refine S_callS (q := 11) 0 0 hX (c_X7_number _ (q + 1) 6 n (f 1) r h0) rfl u_680 u_681 u_13 u_682 ⟨by decide, by decide, rfl⟩ ⟨Nat.le_of_ble_eq_true rfl, Nat.le_of_ble_eq_true rfl⟩ ⟨Nat.le_of_ble_eq_true rfl, Nat.le_of_ble_eq_true rfl⟩ (Nat.le_of_ble_eq_true rfl) dX10_number_8 ?hp_3 rfl rfl rfl ?_
  case hp_3 => exact ⟨WK.c1 hM, hn, by decide, hr⟩
  rintro v σ1 sz1 ⟨rfl, rfl, rfl⟩
  refine S_iret hX dX10_number_11 (Nat.zero_le _) (Nat.zero_le _) ?_
  refine hP _ _ _ ?_
  exact ⟨rfl, eσ0.symm, rfl⟩
theorem c_X10_begin (q : Nat) (f : MF) (x : Int32) (n : Nat) (hx : x = nI n) : CT_X10_begin [.ref q, .int x] (fun Γ σ sz => WK σ q f ∧ n ≤ 6) (fun Γ σ sz v σ' sz' => ∃ f', WK σ' q f' ∧ Fr q (q + 2) σ σ' ∧ v = none ∧ (f' 0 0 = nI n ∧ ∀ i, i < n → f' 1 i = 0) ∧ sz' = sz) := by
  refine CT.mkP rfl (Nat.le_of_ble_eq_true rfl) [_, _] rfl ?_
  intro X Γ σ sz P hX hpre hsz hP
  obtain ⟨hM, hn⟩ := hpre
  subst hx
  obtain ⟨σ0, eσ0⟩ : ∃ z, z = σ := ⟨σ, rfl⟩
  rw [← eσ0] at hP
  have hF : Fr q (q + 2) σ0 σ := by rw [eσ0]; exact Fr.rf
  have hmn : (if nI 6 < nI n then nI 6 else nI n) = nI n := if_neg (by rw [nI_ltI (by decide) (by omega)]; omega)
  refine S_aload_n (q := 1) hX dX10_begin_0 rfl rfl ?_
  refine S_iload_n (q := 2) hX dX10_begin_1 rfl rfl ?_
  refine S_aload_n (q := 3) hX dX10_begin_2 rfl rfl ?_
  refine S_getf (fs := ?fs_1) (v := ?v_1) (q := 6) hX u_276 fo_X10_states dX10_begin_3 ?hs_1 ?hv_1 rfl ?_
  case hs_1 => with_reducible first | exact WK.c0 hM | exact WK.c1 hM
  case hv_1 => rfl
  refine S_alen (t := ?t_2) (x := ?x_2) (q := 7) hX dX10_begin_6 ?ht_2 ?hs_2 rfl ?_
  case hs_2 => with_reducible first | exact WK.c0 hM | exact WK.c1 hM
  case ht_2 => decide
  refine S_min (q := 10) hX u_657 u_546 u_19 u_547 (by decide) (Nat.le_of_ble_eq_true rfl) ⟨Nat.zero_le _, Nat.zero_le _⟩ dX10_begin_7 rfl ?_
  refine S_nm (fun x10 hx10 => ?_)
  refine S_putf (fs := ?fs_3) (q := 13) hX u_278 fo_X10_beats rfl rfl ?hl_3 dX10_begin_10 ?hs_3 rfl ?_
  case hs_3 => with_reducible first | exact WK.c0 hM | exact WK.c1 hM
  case hl_3 => exact Nat.le_of_ble_eq_true rfl
  refine S_stu (q0 := q) (j := 0) (i := 0) hM hF (by decide) rfl (fun σ μ10 e10 hM hF => ?_)
  subst hx10
  refine S_aload_n (q := 14) hX dX10_begin_13 rfl rfl ?_
  refine S_iconst (q := 15) (v := 0) hX dX10_begin_14 ic_0 rfl ?_
  refine S_callV (ci := 10) (C := "FanTalk$Walk") (T := TX10) (N := 2) (q := 18) 0 0 hX (c_X10_closeBehind q μ10 _ n (0) (fun _ => 0) rfl) rfl ?hs_4 rfl u_658 u_660 us_18 u_11 u_661 ⟨by decide, by decide, rfl⟩ ⟨Nat.le_of_ble_eq_true rfl, Nat.le_of_ble_eq_true rfl⟩ ⟨Nat.le_of_ble_eq_true rfl, Nat.le_of_ble_eq_true rfl⟩ (Nat.le_of_ble_eq_true rfl) dX10_begin_15 ?hp_4 rfl rfl rfl ?_
  case hs_4 => first | with_reducible assumption | exact ⟨_, WK.c0 hM⟩
  case hp_4 => exact ⟨hM, by rw [e10, m2_00, if_pos rfl]; first | rfl | exact hmn, hn, by decide, fun i hi => absurd hi (Nat.not_lt_zero _)⟩
  rintro v σ sz1 ⟨f2, hM, hF1, rfl, ⟨g2, e2, hg2⟩, rfl⟩
  have hF := hF.trans hF1
  refine S_vret hX dX10_begin_18 (Nat.zero_le _) (Nat.zero_le _) ?_
  refine hP _ _ _ ?_
  exact ⟨_, hM, hF, rfl, ⟨by rw [e2, m1_ne (by decide), e10, m2_00, if_pos rfl]; first | rfl | exact hmn, fun i hi => by rw [e2, m1_eq, hg2 i hi, clz_0]; rfl⟩, rfl⟩
theorem c_X10_step (q : Nat) (f : MF) (x : Int32) (n p : Nat) (r : Nat → Nat) (hx : x = nI p - 1) : CT_X10_step [.ref q, .int x] (fun Γ σ sz => WK σ q f ∧ f 0 0 = nI n ∧ 1 ≤ n ∧ n ≤ 6 ∧ p ≤ 60 ∧ lawF n r ∧ ∀ i, i < n → f 1 i = nI (r i)) (fun Γ σ sz v σ' sz' => ∃ f', WK σ' q f' ∧ Fr q (q + 2) σ σ' ∧ f' 0 0 = nI n ∧ ((v = some (.int 1) ∧ ∃ t, Sk n p r t ∧ ∀ i, i < n → f' 1 i = nI (t i)) ∨ (v = some (.int 0) ∧ NoSk n p r)) ∧ sz' = sz) := by
  refine CT.mkP rfl (Nat.le_of_ble_eq_true rfl) [_, _, _] rfl ?_
  intro X Γ σ sz P hX hpre hsz hP
  obtain ⟨hM, h0, h1, hn, hp, hl, hr⟩ := hpre
  subst hx
  obtain ⟨σ0, eσ0⟩ : ∃ z, z = σ := ⟨σ, rfl⟩
  rw [← eσ0] at hP
  have hF : Fr q (q + 2) σ0 σ := by rw [eσ0]; exact Fr.rf
  have hmn : (if f 0 0 - 1 < nI p - 1 then f 0 0 - 1 else nI p - 1) = nI (if n < p then n else p) - 1 := by
      rw [h0]
      have e : nI n - 1 < nI p - 1 ↔ n < p := by rw [lt_i, s1_toInt (by omega), s1_toInt (by omega)]; omega
      by_cases h : n < p
      · rw [if_pos h, if_pos (e.mpr h)]
      · rw [if_neg h, if_neg (fun z => h (e.mp z))]
  have loop : ∀ (c : Nat), c ≤ n → c ≤ p → (∀ j, c ≤ j → j < p → j < n → ¬ r j < gtS r j) → G X Γ P 0 0 11 [some (.ref q), some (.int (nI p - 1)), some (.int (nI c - 1))] [] σ sz := by
    intro c
    induction c with
      | zero =>
        intro _ _ hno
        have c12T : nI 0 - 1 < 0 := by decide
        refine S_iload_n (q := 12) hX dX10_step_11 rfl rfl ?_
        refine S_if_lt (q := 15) 54 hX dX10_step_12 rfl rfl (fun c12 => ?_) (fun c12 => absurd c12T c12)
        refine S_iconst (q := 55) (v := 0) hX dX10_step_54 ic_0 rfl ?_
        refine S_xret hX dX10_step_55 (Nat.zero_le _) (Nat.zero_le _) (by decide) ?_
        refine hP _ _ _ ?_
        exact ⟨f, hM, hF, h0, Or.inr ⟨rfl, sk_no hl (fun j a b => hno j (Nat.zero_le _) a b)⟩, rfl⟩
      | succ c ih =>
        intro hcn hcp hno
        have c12F : ¬ nI (c + 1) - 1 < 0 := by rw [s1_s]; exact nI_pos (by omega)
        have ec : nI (c + 1) - 1 = nI c := s1_s c
        have hc1 := hr c (by omega)
        have hc2 := hl.1 c (by omega)
        have hg11 : gtS r c ≤ 11 := by unfold gtS; split <;> (try split) <;> omega
        refine S_iload_n (q := 12) hX dX10_step_11 rfl rfl ?_
        refine S_if_lt (q := 15) 54 hX dX10_step_12 rfl rfl (fun c12 => absurd c12 c12F) (fun c12 => ?_)
        refine S_aload_n (q := 16) hX dX10_step_15 rfl rfl ?_
        refine S_getf (fs := ?fs_1) (v := ?v_1) (q := 19) hX u_276 fo_X10_states dX10_step_16 ?hs_1 ?hv_1 rfl ?_
        case hs_1 => with_reducible first | exact WK.c0 hM | exact WK.c1 hM
        case hv_1 => rfl
        refine S_iload_n (q := 20) hX dX10_step_19 rfl rfl ?_
        refine S_iald (N := ?n_2) (f := ?f_2) (q := 21) hX dX10_step_20 ?hs_2 ?hi_2 rfl ?_
        case hs_2 => with_reducible first | exact WK.c0 hM | exact WK.c1 hM
        case hi_2 => rw [ec]; exact vp_in_nI (by omega) (by decide)
        refine S_aload_n (q := 22) hX dX10_step_21 rfl rfl ?_
        refine S_iload_n (q := 23) hX dX10_step_22 rfl rfl ?_
        refine S_callV (ci := 10) (C := "FanTalk$Walk") (T := TX10) (N := 2) (q := 26) 0 0 hX (c_X10_greatest q f _ c r ec) rfl ?hs_3 rfl u_672 u_674 us_20 u_11 u_675 ⟨by decide, by decide, rfl⟩ ⟨Nat.le_of_ble_eq_true rfl, Nat.le_of_ble_eq_true rfl⟩ ⟨Nat.le_of_ble_eq_true rfl, Nat.le_of_ble_eq_true rfl⟩ (Nat.le_of_ble_eq_true rfl) dX10_step_23 ?hp_3 rfl rfl rfl ?_
        case hs_3 => first | with_reducible assumption | exact ⟨_, WK.c0 hM⟩
        case hp_3 => exact ⟨hM, by omega, fun i hi => ⟨hr i (by omega), hl.1 i (by omega)⟩⟩
        rintro v σ1 sz1 ⟨rfl, rfl, rfl⟩
        refine S_icmp_ge (q := 29) 48 hX dX10_step_26 rfl rfl (fun c26 => ?_) (fun c26 => ?_)
        · have hge : ¬ r c < gtS r c := by rw [ec, nI_clamp (by omega), hc1, nI_leI (by omega) (by omega)] at c26; omega
          refine S_iinc (q := 51) [_, _, _] hX dX10_step_48 rfl (ii_m1 _) rfl (Nat.le_of_ble_eq_true rfl) rfl rfl ?_
          refine S_goto 11 hX dX10_step_51 rfl ?_
          refine S_L (L' := [some (.ref q), some (.int (nI p - 1)), some (.int (nI c - 1))]) (by rw [ec, sub_m1]) ?_
          exact ih (by omega) (by omega) (fun j h1 h2 h3 => by
            by_cases hj : j = c
            · rw [hj]; exact hge
            · exact hno j (by omega) h2 h3)
        · have hlt : r c < gtS r c := by rw [ec, nI_clamp (by omega), hc1, nI_leI (by omega) (by omega)] at c26; omega
          refine S_aload_n (q := 30) hX dX10_step_29 rfl rfl ?_
          refine S_getf (fs := ?fs_4) (v := ?v_4) (q := 33) hX u_276 fo_X10_states dX10_step_30 ?hs_4 ?hv_4 rfl ?_
          case hs_4 => with_reducible first | exact WK.c0 hM | exact WK.c1 hM
          case hv_4 => rfl
          refine S_iload_n (q := 34) hX dX10_step_33 rfl rfl ?_
          refine S_dup2_11 (q := 35) hX dX10_step_34 rfl rfl rfl ?_
          refine S_iald (N := ?n_5) (f := ?f_5) (q := 36) hX dX10_step_35 ?hs_5 ?hi_5 rfl ?_
          case hs_5 => with_reducible first | exact WK.c0 hM | exact WK.c1 hM
          case hi_5 => rw [ec]; exact vp_in_nI (by omega) (by decide)
          refine S_iconst (q := 37) (v := 1) hX dX10_step_36 ic_1 rfl ?_
          refine S_iadd (q := 38) hX dX10_step_37 rfl ?_
          refine S_nm (fun x38 hx38 => ?_)
          refine S_iast (N := ?n_6) (f := ?f_6) (q := 39) hX dX10_step_38 ?hs_6 ?hi_6 rfl ?_
          case hs_6 => with_reducible first | exact WK.c0 hM | exact WK.c1 hM
          case hi_6 => rw [ec]; exact vp_in_nI (by omega) (by decide)
          refine S_stu (q0 := q) (j := 1) (i := _) hM hF (by decide) rfl (fun σ μ38 e38 hM hF => ?_)
          subst hx38
          refine S_aload_n (q := 40) hX dX10_step_39 rfl rfl ?_
          refine S_iload_n (q := 41) hX dX10_step_40 rfl rfl ?_
          refine S_iconst (q := 42) (v := 1) hX dX10_step_41 ic_1 rfl ?_
          refine S_iadd (q := 43) hX dX10_step_42 rfl ?_
          refine S_callV (ci := 10) (C := "FanTalk$Walk") (T := TX10) (N := 2) (q := 46) 0 0 hX (c_X10_closeBehind q μ38 _ n (c + 1) (fu r c (r c + 1)) ((congrArg (· + 1) ec).trans (nI_1 c))) rfl ?hs_7 rfl u_658 u_660 us_18 u_11 u_661 ⟨by decide, by decide, rfl⟩ ⟨Nat.le_of_ble_eq_true rfl, Nat.le_of_ble_eq_true rfl⟩ ⟨Nat.le_of_ble_eq_true rfl, Nat.le_of_ble_eq_true rfl⟩ (Nat.le_of_ble_eq_true rfl) dX10_step_43 ?hp_7 rfl rfl rfl ?_
          case hs_7 => first | with_reducible assumption | exact ⟨_, WK.c0 hM⟩
          case hp_7 =>
            exact ⟨hM, by rw [e38, m2_at, if_neg (fun z => absurd z.1 (by decide))]; exact h0, hn, by omega, fun i hi hin => by
              rw [e38, ec, nI_clamp (by omega), m2_at]
              by_cases hic : i = c
              · rw [if_pos ⟨rfl, hic⟩, hic, fu_eq, hc1, nI_1]; exact ⟨rfl, by omega⟩
              · rw [if_neg (fun z => hic z.2), fu_ne hic]; exact ⟨hr i hin, hl.1 i hin⟩⟩
          rintro v σ sz1 ⟨f2, hM, hF1, rfl, ⟨g2, e2, hg2⟩, rfl⟩
          have hF := hF.trans hF1
          refine S_iconst (q := 47) (v := 1) hX dX10_step_46 ic_1 rfl ?_
          refine S_xret hX dX10_step_47 (Nat.zero_le _) (Nat.zero_le _) (by decide) ?_
          refine hP _ _ _ ?_
          exact ⟨_, hM, hF, by rw [e2, m1_ne (by decide), e38, m2_at, if_neg (fun z => absurd z.1 (by decide))]; exact h0, Or.inl ⟨rfl, _, sk_ok hl (by omega) (by omega) hlt (fun j a b d => hno j a b d), fun i hi => by rw [e2, m1_eq]; exact hg2 i hi⟩, rfl⟩
  refine S_iload_n (q := 1) hX dX10_step_0 rfl rfl ?_
  refine S_aload_n (q := 2) hX dX10_step_1 rfl rfl ?_
  refine S_getf (fs := ?fs_8) (v := ?v_8) (q := 5) hX u_278 fo_X10_beats dX10_step_2 ?hs_8 ?hv_8 rfl ?_
  case hs_8 => with_reducible first | exact WK.c0 hM | exact WK.c1 hM
  case hv_8 => rfl
  refine S_iconst (q := 6) (v := 1) hX dX10_step_5 ic_1 rfl ?_
  refine S_isub (q := 7) hX dX10_step_6 rfl ?_
  refine S_min (q := 10) hX u_657 u_546 u_19 u_547 (by decide) (Nat.le_of_ble_eq_true rfl) ⟨Nat.zero_le _, Nat.zero_le _⟩ dX10_step_7 rfl ?_
  refine S_istore_n (q := 11) [_, _, _] hX dX10_step_10 rfl (Nat.le_of_ble_eq_true rfl) rfl rfl ?_
  refine S_L (L' := [some (.ref q), some (.int (nI p - 1)), some (.int (nI (if n < p then n else p) - 1))]) (by rw [hmn]) ?_
  exact loop (if n < p then n else p) (by split <;> omega) (by split <;> omega) (fun j h1 h2 h3 => by split at h1 <;> omega)
