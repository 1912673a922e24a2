/-! the reference: images, counts, digest -/
theorem bi_z {p : Prop} [Decidable p] : vp_nar .boolean (bi p) = bi p := by
  unfold vp_nar
  rw [nb_bi]

theorem c_X12_copy (m : Nat) (μ : MF) (x y : Int32) (f t : Nat) (hx : x = nI f) (hy : y = nI t) : CT_X12_copy [.ref m, .int x, .int y] (fun Γ σ sz => MM σ m μ ∧ f ≤ 1359 ∧ t ≤ 1359 ∧ (f + 453 ≤ t ∨ t + 453 ≤ f)) (fun Γ σ sz v σ' sz' => ∃ μ', MM σ' m μ' ∧ Fr m (m + 9) σ σ' ∧ v = none ∧ ((∀ j, j ≠ 1 → μ' j = μ j) ∧ ∀ i, μ' 1 i = if t ≤ i ∧ i < t + 453 then μ 1 (f + (i - t)) else μ 1 i) ∧ sz' = sz) := by
  refine CT.mkP rfl (Nat.le_of_ble_eq_true rfl) [_, _, _, _] rfl ?_
  intro X Γ σ sz P hX hpre hsz hP
  obtain ⟨hM, hf, ht, hft⟩ := hpre
  have hF : Fr m (m + 9) σ σ := Fr.rf
  subst hx
  subst hy
  obtain ⟨σ0, eσ0⟩ : ∃ z, z = σ := ⟨σ, rfl⟩
  rw [← eσ0] at hP
  have hF : Fr m (m + 9) σ0 σ := by rw [eσ0]; exact Fr.rf
  have loop : ∀ (fl : Nat) (k : Nat) (σ : Sg) (xk : Int32) (μb : MF), (∀ j, j ≠ 1 → μb j = μ j) → (∀ i, μb 1 i = if t ≤ i ∧ i < t + k then μ 1 (f + (i - t)) else μ 1 i) → xk = nI k → k ≤ 453 → 453 - k < fl → MM σ m μb → Fr m (m + 9) σ0 σ → G X Γ P 0 0 2 [some (.ref m), some (.int (nI f)), some (.int (nI t)), some (.int xk)] [] σ sz := by
    intro fl
    induction fl with
    | zero =>
      rintro k σ _ μb hb1 hb2 rfl hk hfu hM hF
      exact absurd hfu (Nat.not_lt_zero _)
    | succ fl ih =>
      rintro k σ _ μb hb1 hb2 rfl hk hfu hM hF
      refine S_iload_n (q := 3) hX dX12_copy_2 rfl rfl ?_
      refine S_sipush (q := 6) (v := 453) hX dX12_copy_3 sp_453 rfl ?_
      refine S_icmp_ge (q := 9) 31 hX dX12_copy_6 rfl rfl (fun c6 => ?_) (fun c6 => ?_)
      · have hge : k = 453 := by rw [show (453 : Int32) = nI 453 from rfl, nI_leI (by omega) (by omega)] at c6; omega
        subst hge
        refine S_vret hX dX12_copy_31 (Nat.zero_le _) (Nat.zero_le _) ?_
        refine hP _ _ _ ?_
        exact ⟨_, hM, hF, rfl, ⟨hb1, hb2⟩, rfl⟩
      · have hlt : k < 453 := by rw [show (453 : Int32) = nI 453 from rfl, nI_leI (by omega) (by omega)] at c6; omega
        refine S_aload_n (q := 10) hX dX12_copy_9 rfl rfl ?_
        refine S_getf (fs := ?fs_1) (v := ?v_1) (q := 13) hX u_782 fo_X12_now dX12_copy_10 ?hs_1 ?hv_1 rfl ?_
        case hs_1 => with_reducible first | exact MM.c0 hM | exact MM.c1 hM | exact MM.c5 hM | exact MM.c6 hM | exact MM.c7 hM | exact MM.c3 hM | exact MM.c4 hM | exact MM.c8 hM | exact MM.c2 hM
        case hv_1 => rfl
        refine S_iload_n (q := 14) hX dX12_copy_13 rfl rfl ?_
        refine S_iload_n (q := 15) hX dX12_copy_14 rfl rfl ?_
        refine S_iadd (q := 16) hX dX12_copy_15 rfl ?_
        refine S_aload_n (q := 17) hX dX12_copy_16 rfl rfl ?_
        refine S_getf (fs := ?fs_2) (v := ?v_2) (q := 20) hX u_782 fo_X12_now dX12_copy_17 ?hs_2 ?hv_2 rfl ?_
        case hs_2 => with_reducible first | exact MM.c0 hM | exact MM.c1 hM | exact MM.c5 hM | exact MM.c6 hM | exact MM.c7 hM | exact MM.c3 hM | exact MM.c4 hM | exact MM.c8 hM | exact MM.c2 hM
        case hv_2 => rfl
        refine S_iload_n (q := 21) hX dX12_copy_20 rfl rfl ?_
        refine S_iload_n (q := 22) hX dX12_copy_21 rfl rfl ?_
        refine S_iadd (q := 23) hX dX12_copy_22 rfl ?_
        refine S_iald (N := ?n_3) (f := ?f_3) (q := 24) hX dX12_copy_23 ?hs_3 ?hi_3 rfl ?_
        case hs_3 => with_reducible first | exact MM.c0 hM | exact MM.c1 hM | exact MM.c5 hM | exact MM.c6 hM | exact MM.c7 hM | exact MM.c3 hM | exact MM.c4 hM | exact MM.c8 hM | exact MM.c2 hM
        case hi_3 => rw [nI_add]; exact vp_in_nI (by omega) (by decide)
        refine S_nm (fun x24 hx24 => ?_)
        refine S_iast (N := ?n_4) (f := ?f_4) (q := 25) hX dX12_copy_24 ?hs_4 ?hi_4 rfl ?_
        case hs_4 => with_reducible first | exact MM.c0 hM | exact MM.c1 hM | exact MM.c5 hM | exact MM.c6 hM | exact MM.c7 hM | exact MM.c3 hM | exact MM.c4 hM | exact MM.c8 hM | exact MM.c2 hM
        case hi_4 => rw [nI_add]; exact vp_in_nI (by omega) (by decide)
        refine S_stu (q0 := m) (j := 1) (i := _) hM hF (by decide) rfl (fun σ μ24 e24 hM hF => ?_)
        subst hx24
        refine S_iinc (q := 28) [_, _, _, _] hX dX12_copy_25 rfl (ii_1 _) rfl (Nat.le_of_ble_eq_true rfl) rfl rfl ?_
        refine S_goto 2 hX dX12_copy_28 rfl ?_
        rw [nI_add, nI_add, nI_clamp (by omega), nI_clamp (by omega)] at e24
        refine ih (k + 1) σ _ μ24 (fun j hj => by rw [e24, m2_o hj]; exact hb1 j hj) (fun i => ?_) (nI_1 _) (by omega) (by omega) hM hF
        rw [e24, m2_11]
        by_cases hi : i = t + k
        · rw [if_pos hi, if_pos (by omega), hb2, if_neg (by omega)]
          congr 1
          omega
        · rw [if_neg hi, hb2]
          by_cases h2 : t ≤ i ∧ i < t + k
          · rw [if_pos h2, if_pos (by omega)]
          · rw [if_neg h2, if_neg (by omega)]
  refine S_iconst (q := 1) (v := 0) hX dX12_copy_0 ic_0 rfl ?_
  refine S_istore_n (q := 2) [_, _, _, _] hX dX12_copy_1 rfl (Nat.le_of_ble_eq_true rfl) rfl rfl ?_
  exact loop 454 0 _ _ μ (fun j hj => rfl) (fun i => by rw [if_neg (by omega)]) rfl (by omega) (by omega) hM hF
theorem MCt.at {f g : Nat → Int32} {b c : Nat} {C : CtT} (h : MCt f b C) (ok : CtOk C) (e : ∀ i, i < 453 → g (c + i) = f (b + i)) : MCt g c C := by
  obtain ⟨o1, o2, o3, o4, o5, o6, o7, o8, o9, o10⟩ := ok
  obtain ⟨h0, h1, h2, h3, h4, h5, h6, h7, h8, h9⟩ := h
  refine ⟨(e _ (by omega)).trans h0, (e _ (by omega)).trans h1, (e _ (by omega)).trans h2, (e _ (by omega)).trans h3, (e _ (by omega)).trans h4, (e _ (by omega)).trans h5, fun k hk => (e _ (by omega)).trans (h6 k hk), fun k hk => ⟨(e _ (by omega)).trans (h7 k hk).1, (e _ (by omega)).trans (h7 k hk).2⟩, h8.at (o2.le o1).1 (o2.le o1).2 (fun i hi => by rw [Nat.add_assoc, Nat.add_assoc]; exact e (26 + i) (by omega)), fun k hk => (h9 k hk).at ((o4 k hk).le o1).1 ((o4 k hk).le o1).2 (fun i hi => by have := e (87 + 61 * k + i) (by have : k < C.2.1.1 := hk; omega); rw [← Nat.add_assoc c, ← Nat.add_assoc b] at this; exact this)⟩

theorem c_X12_image (m : Nat) (μ : MF) (S : ST) (x : Int32) : CT_X12_image [.ref m, .int x] (fun Γ σ sz => MM σ m μ ∧ MR μ S ∧ StOk S) (fun Γ σ sz v σ' sz' => ∃ μ', MM σ' m μ' ∧ Fr m (m + 9) σ σ' ∧ v = some (.int (sp_image S x).1) ∧ MR μ' (sp_image S x).2 ∧ sz' = sz) := by
  refine CT.mkP rfl (Nat.le_of_ble_eq_true rfl) [_, _] rfl ?_
  intro X Γ σ sz P hX hpre hsz hP
  obtain ⟨hM, hR, ok⟩ := hpre
  have hF : Fr m (m + 9) σ σ := Fr.rf
  have h0 := hR.1
  have hC0 := hR.2.1.1
  obtain ⟨q0, q1, q2, q3, q4, q5, q6, q7, q8, q9⟩ := id hR.2.1
  obtain ⟨o1, o2, o3, o4, o5, o6, o7, o8, o9, o10⟩ := id ok.1
  refine S_iload_n (q := 1) hX dX12_image_0 rfl rfl ?_
  refine S_iconst (q := 2) (v := 0) hX dX12_image_1 ic_0 rfl ?_
  refine S_iconst (q := 3) (v := 1) hX dX12_image_2 ic_1 rfl ?_
  refine S_callS (q := 6) 0 0 hX (c_X12_in _ _ _) rfl u_858 u_859 u_12 u_860 ⟨by decide, by decide, rfl⟩ ⟨Nat.le_of_ble_eq_true rfl, Nat.le_of_ble_eq_true rfl⟩ ⟨Nat.le_of_ble_eq_true rfl, Nat.le_of_ble_eq_true rfl⟩ (Nat.le_of_ble_eq_true rfl) dX12_image_3 ?hp_1 rfl rfl rfl ?_
  case hp_1 => trivial
  rintro v σ1 sz1 ⟨rfl, rfl, rfl⟩
  refine S_top (bi_congr (rg x 0 1 _ _ (by decide) (by decide))) ?_
  refine S_if_ne_b (q := 9) 14 hX dX12_image_6 rfl rfl (fun c6 => ?_) (fun c6 => ?_)
  · have cx := tN_ex c6.1
    have hx1 : tN x ≤ 1 := by have := c6.2; have := cx.2.2; omega
    have hc3 : x.toNatClampNeg = tN x := rfl
    refine S_aload_n (q := 15) hX dX12_image_14 rfl rfl ?_
    refine S_iconst (q := 16) (v := 0) hX dX12_image_15 ic_0 rfl ?_
    refine S_sipush (q := 19) (v := 453) hX dX12_image_16 sp_453 rfl ?_
    refine S_iconst (q := 20) (v := 1) hX dX12_image_19 ic_1 rfl ?_
    refine S_iload_n (q := 21) hX dX12_image_20 rfl rfl ?_
    refine S_iadd (q := 22) hX dX12_image_21 rfl ?_
    refine S_imul (q := 23) hX dX12_image_22 rfl ?_
    refine S_callV (ci := 12) (C := "FanTalkModel") (T := TX12) (N := 17) (q := 26) 0 0 hX (c_X12_copy _ μ _ _ 0 (453 * (1 + tN x)) rfl ((congrArg (fun z => 453 * (1 + z)) cx.1).trans (by rw [i1, nI_add, show (453 : Int32) = nI 453 from rfl, pk_mul]))) rfl ?hs_2 rfl u_913 u_915 us_37 u_12 u_916 ⟨by decide, by decide, rfl⟩ ⟨Nat.le_of_ble_eq_true rfl, Nat.le_of_ble_eq_true rfl⟩ ⟨Nat.le_of_ble_eq_true rfl, Nat.le_of_ble_eq_true rfl⟩ (Nat.le_of_ble_eq_true rfl) dX12_image_23 ?hp_2 rfl rfl rfl ?_
    case hs_2 => first | with_reducible assumption | exact ⟨_, by with_reducible assumption⟩ | exact MM.isO hM
    case hp_2 => exact ⟨hM, by omega, by omega, by omega⟩
    rintro v σ sz1 ⟨μ1, hM, hF1, rfl, ⟨hq1, hq2⟩, rfl⟩
    have hF := hF.trans hF1
    refine S_aload_n (q := 27) hX dX12_image_26 rfl rfl ?_
    refine S_getf (fs := ?fs_3) (v := ?v_3) (q := 30) hX u_784 fo_X12_isKept dX12_image_27 ?hs_3 ?hv_3 rfl ?_
    case hs_3 => with_reducible first | exact MM.c0 hM | exact MM.c1 hM | exact MM.c5 hM | exact MM.c6 hM | exact MM.c7 hM | exact MM.c3 hM | exact MM.c4 hM | exact MM.c8 hM | exact MM.c2 hM
    case hv_3 => rfl
    refine S_iload_n (q := 31) hX dX12_image_30 rfl rfl ?_
    refine S_iconst (q := 32) (v := 1) hX dX12_image_31 ic_1 rfl ?_
    refine S_nm (fun x32 hx32 => ?_)
    refine S_zast (N := ?n_4) (f := ?f_4) (q := 33) hX dX12_image_32 ?hs_4 ?hi_4 rfl ?_
    case hs_4 => with_reducible first | exact MM.c0 hM | exact MM.c1 hM | exact MM.c5 hM | exact MM.c6 hM | exact MM.c7 hM | exact MM.c3 hM | exact MM.c4 hM | exact MM.c8 hM | exact MM.c2 hM
    case hi_4 => rw [vp_in_iff]; omega
    refine S_stu (q0 := m) (j := 2) (i := _) hM hF (by decide) rfl (fun σ μ32 e32 hM hF => ?_)
    subst hx32
    refine S_iconst (q := 34) (v := 1) hX dX12_image_33 ic_1 rfl ?_
    refine S_iret hX dX12_image_34 (Nat.zero_le _) (Nat.zero_le _) ?_
    refine hP _ _ _ ?_
    have hsp : sp_image S x = (1, (S.1, fu S.2.1 (tN x) (some S.1), S.2.2)) := by unfold sp_image; rw [if_neg (fun z => z c6)]
    rw [hsp]
    refine ⟨_, hM, hF, rfl, ?_, rfl⟩
    rw [hc3] at e32
    have e2 : ∀ j, j ≠ 1 → j ≠ 2 → μ32 j = μ j := fun j h1 h2 => by rw [e32, m2_o h2]; exact hq1 j h1
    have e1 : μ32 1 = μ1 1 := by rw [e32, m2_o (by decide)]
    have e2' : ∀ i, μ32 2 i = if i = tN x then bi True else μ 2 i := fun i => by
      rw [e32, m2_at, hq1 2 (by decide)]
      by_cases hi : i = tN x
      · rw [if_pos ⟨rfl, hi⟩, if_pos hi]; rfl
      · rw [if_neg (fun z => hi z.2), if_neg hi]
    obtain ⟨r0, r1, r2, r3, r4, r5⟩ := hR
    refine ⟨by rw [e2 0 (by decide) (by decide)]; exact r0, ?_, fun i hi => ⟨?_, fun C hC => ?_⟩, fun i hi => by rw [e2 3 (by decide) (by decide)]; exact r3 i hi, by rw [e2 0 (by decide) (by decide)]; exact r4, fun i hi => by rw [e2 4 (by decide) (by decide)]; exact r5 i hi⟩
    · rw [e1]
      exact r1.ext ok.1 (fun i h1 h2 => by rw [hq2, if_neg (by omega)])
    · rw [e2']
      show _ = bi ((fu S.2.1 (tN x) (some S.1) i).isSome = true)
      by_cases hi2 : i = tN x
      · rw [if_pos hi2, hi2, fu_eq]; rfl
      · rw [if_neg hi2, fu_ne hi2]; exact (r2 i hi).1
    · rw [e1]
      have hC : fu S.2.1 (tN x) (some S.1) i = some C := hC
      by_cases hi2 : i = tN x
      · rw [hi2, fu_eq] at hC
        cases hC
        rw [hi2]
        exact r1.at ok.1 (fun j hj => by rw [hq2, if_pos (by omega)]; congr 1; omega)
      · rw [fu_ne hi2] at hC
        exact ((r2 i hi).2 C hC).at (ok.2.1 i hi C hC) (fun j hj => by rw [hq2, if_neg (by omega)])
  · refine S_aload_n (q := 10) hX dX12_image_9 rfl rfl ?_
    refine S_callV (ci := 12) (C := "FanTalkModel") (T := TX12) (N := 17) (q := 13) 0 0 hX (c_X12_bad _ μ) rfl ?hs_5 rfl u_864 u_866 us_30 u_12 u_867 ⟨by decide, by decide, rfl⟩ ⟨Nat.le_of_ble_eq_true rfl, Nat.le_of_ble_eq_true rfl⟩ ⟨Nat.le_of_ble_eq_true rfl, Nat.le_of_ble_eq_true rfl⟩ (Nat.le_of_ble_eq_true rfl) dX12_image_10 ?hp_5 rfl rfl rfl ?_
    case hs_5 => first | with_reducible assumption | exact ⟨_, by with_reducible assumption⟩ | exact MM.isO hM
    case hp_5 => exact hM
    rintro v σ sz1 ⟨μ9, hM, hF1, rfl, e9, rfl⟩
    have hF := hF.trans hF1
    refine S_iret hX dX12_image_13 (Nat.zero_le _) (Nat.zero_le _) ?_
    refine hP _ _ _ ?_
    have hsp : sp_image S x = (-2, rfS S 0) := by unfold sp_image; rw [if_pos c6]
    rw [hsp]
    exact ⟨_, hM, hF, rfl, hR.rf (by decide) e9, rfl⟩
theorem c_X12_from (m : Nat) (μ : MF) (S : ST) (x : Int32) : CT_X12_from [.ref m, .int x] (fun Γ σ sz => MM σ m μ ∧ MR μ S ∧ StOk S) (fun Γ σ sz v σ' sz' => ∃ μ', MM σ' m μ' ∧ Fr m (m + 9) σ σ' ∧ v = some (.int (sp_from S x).1) ∧ MR μ' (sp_from S x).2 ∧ sz' = sz) := by
  refine CT.mkP rfl (Nat.le_of_ble_eq_true rfl) [_, _] rfl ?_
  intro X Γ σ sz P hX hpre hsz hP
  obtain ⟨hM, hR, ok⟩ := hpre
  have hF : Fr m (m + 9) σ σ := Fr.rf
  have h0 := hR.1
  have hC0 := hR.2.1.1
  obtain ⟨q0, q1, q2, q3, q4, q5, q6, q7, q8, q9⟩ := id hR.2.1
  obtain ⟨o1, o2, o3, o4, o5, o6, o7, o8, o9, o10⟩ := id ok.1
  refine S_iload_n (q := 1) hX dX12_from_0 rfl rfl ?_
  refine S_iconst (q := 2) (v := 0) hX dX12_from_1 ic_0 rfl ?_
  refine S_iconst (q := 3) (v := 1) hX dX12_from_2 ic_1 rfl ?_
  refine S_callS (q := 6) 0 0 hX (c_X12_in _ _ _) rfl u_858 u_859 u_12 u_860 ⟨by decide, by decide, rfl⟩ ⟨Nat.le_of_ble_eq_true rfl, Nat.le_of_ble_eq_true rfl⟩ ⟨Nat.le_of_ble_eq_true rfl, Nat.le_of_ble_eq_true rfl⟩ (Nat.le_of_ble_eq_true rfl) dX12_from_3 ?hp_1 rfl rfl rfl ?_
  case hp_1 => trivial
  rintro v σ1 sz1 ⟨rfl, rfl, rfl⟩
  refine S_top (bi_congr (rg x 0 1 _ _ (by decide) (by decide))) ?_
  refine S_if_ne_b (q := 9) 14 hX dX12_from_6 rfl rfl (fun c6 => ?_) (fun c6 => ?_)
  · have cx := tN_ex c6.1
    have hx1 : tN x ≤ 1 := by have := c6.2; have := cx.2.2; omega
    have hk2 : μ 2 x.toNatClampNeg = bi ((S.2.1 (tN x)).isSome = true) := (hR.2.2.1 (tN x) (by omega)).1
    refine S_aload_n (q := 15) hX dX12_from_14 rfl rfl ?_
    refine S_getf (fs := ?fs_2) (v := ?v_2) (q := 18) hX u_784 fo_X12_isKept dX12_from_15 ?hs_2 ?hv_2 rfl ?_
    case hs_2 => with_reducible first | exact MM.c0 hM | exact MM.c1 hM | exact MM.c5 hM | exact MM.c6 hM | exact MM.c7 hM | exact MM.c3 hM | exact MM.c4 hM | exact MM.c8 hM | exact MM.c2 hM
    case hv_2 => rfl
    refine S_iload_n (q := 19) hX dX12_from_18 rfl rfl ?_
    refine S_zald (N := ?n_3) (f := ?f_3) (q := 20) hX dX12_from_19 ?hs_3 ?hi_3 rfl ?_
    case hs_3 => with_reducible first | exact MM.c0 hM | exact MM.c1 hM | exact MM.c5 hM | exact MM.c6 hM | exact MM.c7 hM | exact MM.c3 hM | exact MM.c4 hM | exact MM.c8 hM | exact MM.c2 hM
    case hi_3 => rw [vp_in_iff]; omega
    refine S_top hk2 ?_
    refine S_if_ne_b (q := 23) 28 hX dX12_from_20 rfl rfl (fun c20 => ?_) (fun c20 => ?_)
    · refine S_aload_n (q := 29) hX dX12_from_28 rfl rfl ?_
      refine S_sipush (q := 32) (v := 453) hX dX12_from_29 sp_453 rfl ?_
      refine S_iconst (q := 33) (v := 1) hX dX12_from_32 ic_1 rfl ?_
      refine S_iload_n (q := 34) hX dX12_from_33 rfl rfl ?_
      refine S_iadd (q := 35) hX dX12_from_34 rfl ?_
      refine S_imul (q := 36) hX dX12_from_35 rfl ?_
      refine S_iconst (q := 37) (v := 0) hX dX12_from_36 ic_0 rfl ?_
      refine S_callV (ci := 12) (C := "FanTalkModel") (T := TX12) (N := 17) (q := 40) 0 0 hX (c_X12_copy _ μ _ _ (453 * (1 + tN x)) 0 ((congrArg (fun z => 453 * (1 + z)) cx.1).trans (by rw [i1, nI_add, show (453 : Int32) = nI 453 from rfl, pk_mul])) rfl) rfl ?hs_4 rfl u_913 u_915 us_37 u_12 u_916 ⟨by decide, by decide, rfl⟩ ⟨Nat.le_of_ble_eq_true rfl, Nat.le_of_ble_eq_true rfl⟩ ⟨Nat.le_of_ble_eq_true rfl, Nat.le_of_ble_eq_true rfl⟩ (Nat.le_of_ble_eq_true rfl) dX12_from_37 ?hp_4 rfl rfl rfl ?_
      case hs_4 => first | with_reducible assumption | exact ⟨_, by with_reducible assumption⟩ | exact MM.isO hM
      case hp_4 => exact ⟨hM, by omega, by omega, by omega⟩
      rintro v σ sz1 ⟨μ1, hM, hF1, rfl, ⟨hq1, hq2⟩, rfl⟩
      have hF := hF.trans hF1
      refine S_iconst (q := 41) (v := 1) hX dX12_from_40 ic_1 rfl ?_
      refine S_iret hX dX12_from_41 (Nat.zero_le _) (Nat.zero_le _) ?_
      refine hP _ _ _ ?_
      obtain ⟨C, hC⟩ := Option.isSome_iff_exists.mp c20
      have hsp : sp_from S x = (1, stC S C) := by unfold sp_from; rw [if_neg (fun z => z c6), hC]
      rw [hsp]
      have hokC := ok.2.1 (tN x) (by omega) C hC
      refine ⟨_, hM, hF, rfl, hR.now ok hq1 (fun i h1 h2 => by rw [hq2, if_neg (by omega)]) ?_, rfl⟩
      exact ((hR.2.2.1 (tN x) (by omega)).2 C hC).at hokC (fun j hj => by rw [hq2, if_pos (by omega)]; congr 1; omega)
    · refine S_aload_n (q := 24) hX dX12_from_23 rfl rfl ?_
      refine S_callV (ci := 12) (C := "FanTalkModel") (T := TX12) (N := 17) (q := 27) 0 0 hX (c_X12_no _ μ) rfl ?hs_5 rfl u_880 u_882 us_34 u_12 u_883 ⟨by decide, by decide, rfl⟩ ⟨Nat.le_of_ble_eq_true rfl, Nat.le_of_ble_eq_true rfl⟩ ⟨Nat.le_of_ble_eq_true rfl, Nat.le_of_ble_eq_true rfl⟩ (Nat.le_of_ble_eq_true rfl) dX12_from_24 ?hp_5 rfl rfl rfl ?_
      case hs_5 => first | with_reducible assumption | exact ⟨_, by with_reducible assumption⟩ | exact MM.isO hM
      case hp_5 => exact hM
      rintro v σ sz1 ⟨μ9, hM, hF1, rfl, e9, rfl⟩
      have hF := hF.trans hF1
      refine S_iret hX dX12_from_27 (Nat.zero_le _) (Nat.zero_le _) ?_
      refine hP _ _ _ ?_
      have hnone : S.2.1 (tN x) = none := by
        cases hh : S.2.1 (tN x) with
        | none => rfl
        | some C => exact absurd (by rw [hh]; rfl) c20
      have hsp : sp_from S x = (-3, rfS S 1) := by unfold sp_from; rw [if_neg (fun z => z c6), hnone]
      rw [hsp]
      exact ⟨_, hM, hF, rfl, hR.rf (by decide) e9, rfl⟩
  · refine S_aload_n (q := 10) hX dX12_from_9 rfl rfl ?_
    refine S_callV (ci := 12) (C := "FanTalkModel") (T := TX12) (N := 17) (q := 13) 0 0 hX (c_X12_bad _ μ) rfl ?hs_6 rfl u_864 u_866 us_30 u_12 u_867 ⟨by decide, by decide, rfl⟩ ⟨Nat.le_of_ble_eq_true rfl, Nat.le_of_ble_eq_true rfl⟩ ⟨Nat.le_of_ble_eq_true rfl, Nat.le_of_ble_eq_true rfl⟩ (Nat.le_of_ble_eq_true rfl) dX12_from_10 ?hp_6 rfl rfl rfl ?_
    case hs_6 => first | with_reducible assumption | exact ⟨_, by with_reducible assumption⟩ | exact MM.isO hM
    case hp_6 => exact hM
    rintro v σ sz1 ⟨μ9, hM, hF1, rfl, e9, rfl⟩
    have hF := hF.trans hF1
    refine S_iret hX dX12_from_13 (Nat.zero_le _) (Nat.zero_le _) ?_
    refine hP _ _ _ ?_
    have hsp : sp_from S x = (-2, rfS S 0) := by unfold sp_from; rw [if_pos c6]
    rw [hsp]
    exact ⟨_, hM, hF, rfl, hR.rf (by decide) e9, rfl⟩
theorem c_X12_status (m : Nat) (μ : MF) (S : ST) (x : Int32) : CT_X12_status [.ref m, .int x] (fun Γ σ sz => MM σ m μ ∧ MR μ S ∧ StOk S) (fun Γ σ sz v σ' sz' => ∃ μ', MM σ' m μ' ∧ Fr m (m + 9) σ σ' ∧ v = some (.int (sp_status S x).1) ∧ MR μ' (sp_status S x).2 ∧ sz' = sz) := by
  refine CT.mkP rfl (Nat.le_of_ble_eq_true rfl) [_, _] rfl ?_
  intro X Γ σ sz P hX hpre hsz hP
  obtain ⟨hM, hR, ok⟩ := hpre
  have hF : Fr m (m + 9) σ σ := Fr.rf
  have h0 := hR.1
  have hC0 := hR.2.1.1
  obtain ⟨q0, q1, q2, q3, q4, q5, q6, q7, q8, q9⟩ := id hR.2.1
  obtain ⟨o1, o2, o3, o4, o5, o6, o7, o8, o9, o10⟩ := id ok.1
  refine S_iload_n (q := 1) hX dX12_status_0 rfl rfl ?_
  refine S_iconst (q := 2) (v := 0) hX dX12_status_1 ic_0 rfl ?_
  refine S_iconst (q := 3) (v := 2) hX dX12_status_2 ic_2 rfl ?_
  refine S_callS (q := 6) 0 0 hX (c_X12_in _ _ _) rfl u_858 u_859 u_12 u_860 ⟨by decide, by decide, rfl⟩ ⟨Nat.le_of_ble_eq_true rfl, Nat.le_of_ble_eq_true rfl⟩ ⟨Nat.le_of_ble_eq_true rfl, Nat.le_of_ble_eq_true rfl⟩ (Nat.le_of_ble_eq_true rfl) dX12_status_3 ?hp_1 rfl rfl rfl ?_
  case hp_1 => trivial
  rintro v σ1 sz1 ⟨rfl, rfl, rfl⟩
  refine S_top (bi_congr (rg x 0 2 _ _ (by decide) (by decide))) ?_
  refine S_if_ne_b (q := 9) 16 hX dX12_status_6 rfl rfl (fun c6 => ?_) (fun c6 => ?_)
  · refine S_aload_n (q := 17) hX dX12_status_16 rfl rfl ?_
    refine S_getf (fs := ?fs_2) (v := ?v_2) (q := 20) hX u_785 fo_X12_refused dX12_status_17 ?hs_2 ?hv_2 rfl ?_
    case hs_2 => with_reducible first | exact MM.c0 hM | exact MM.c1 hM | exact MM.c5 hM | exact MM.c6 hM | exact MM.c7 hM | exact MM.c3 hM | exact MM.c4 hM | exact MM.c8 hM | exact MM.c2 hM
    case hv_2 => rfl
    refine S_iload_n (q := 21) hX dX12_status_20 rfl rfl ?_
    refine S_iald (N := ?n_3) (f := ?f_3) (q := 22) hX dX12_status_21 ?hs_3 ?hi_3 rfl ?_
    case hs_3 => with_reducible first | exact MM.c0 hM | exact MM.c1 hM | exact MM.c5 hM | exact MM.c6 hM | exact MM.c7 hM | exact MM.c3 hM | exact MM.c4 hM | exact MM.c8 hM | exact MM.c2 hM
    case hi_3 => rw [vp_in_iff]; have := c6.1; have := c6.2; omega
    refine S_iret hX dX12_status_22 (Nat.zero_le _) (Nat.zero_le _) ?_
    refine hP _ _ _ ?_
    have hsp : sp_status S x = (S.2.2.1 (tN x), S) := by unfold sp_status; rw [if_neg (fun z => z c6)]
    rw [hsp]
    exact ⟨_, hM, hF, by rw [← hR.2.2.2.1 (tN x) (by have := c6.2; have := (tN_ex c6.1).2.2; omega)]; rfl, hR, rfl⟩
  · refine S_aload_n (q := 10) hX dX12_status_9 rfl rfl ?_
    refine S_callV (ci := 12) (C := "FanTalkModel") (T := TX12) (N := 17) (q := 13) 0 0 hX (c_X12_bad _ μ) rfl ?hs_4 rfl u_864 u_866 us_30 u_12 u_867 ⟨by decide, by decide, rfl⟩ ⟨Nat.le_of_ble_eq_true rfl, Nat.le_of_ble_eq_true rfl⟩ ⟨Nat.le_of_ble_eq_true rfl, Nat.le_of_ble_eq_true rfl⟩ (Nat.le_of_ble_eq_true rfl) dX12_status_10 ?hp_4 rfl rfl rfl ?_
    case hs_4 => first | with_reducible assumption | exact ⟨_, by with_reducible assumption⟩ | exact MM.isO hM
    case hp_4 => exact hM
    rintro v σ sz1 ⟨μ9, hM, hF1, rfl, e9, rfl⟩
    have hF := hF.trans hF1
    refine S_pop (q := 14) hX dX12_status_13 rfl rfl ?_
    refine S_iconst (q := 15) (v := (-1)) hX dX12_status_14 ic_m1 rfl ?_
    refine S_iret hX dX12_status_15 (Nat.zero_le _) (Nat.zero_le _) ?_
    refine hP _ _ _ ?_
    have hsp : sp_status S x = (-1, rfS S 0) := by unfold sp_status; rw [if_pos c6]
    rw [hsp]
    exact ⟨_, hM, hF, rfl, hR.rf (by decide) e9, rfl⟩
theorem c_X12_allEntries (m : Nat) (μ : MF) (S : ST) : CT_X12_allEntries [.ref m] (fun Γ σ sz => MM σ m μ ∧ MR μ S ∧ StOk S) (fun Γ σ sz v σ' sz' => v = some (.int (nI (sumE S.1.1.2.1 S.1.1.1))) ∧ σ' = σ ∧ sz' = sz) := by
  refine CT.mkP rfl (Nat.le_of_ble_eq_true rfl) [_, _, _] rfl ?_
  intro X Γ σ sz P hX hpre hsz hP
  obtain ⟨hM, hR, ok⟩ := hpre
  have hF : Fr m (m + 9) σ σ := Fr.rf
  have h0 := hR.1
  have hC0 := hR.2.1.1
  have o1 := ok.1.1
  have loop : ∀ (fl : Nat) (c : Nat) (xs xc : Int32), xs = nI (sumE S.1.1.2.1 c) → xc = nI c → c ≤ S.1.1.1 → S.1.1.1 - c < fl → G X Γ P 0 0 4 [some (.ref m), some (.int xs), some (.int xc)] [] σ sz := by
    intro fl
    induction fl with
    | zero =>
      rintro c _ _ rfl rfl hc hfu
      exact absurd hfu (Nat.not_lt_zero _)
    | succ fl ih =>
      rintro c _ _ rfl rfl hc hfu
      refine S_iload_n (q := 5) hX dX12_allEntries_4 rfl rfl ?_
      refine S_aload_n (q := 6) hX dX12_allEntries_5 rfl rfl ?_
      refine S_iconst (q := 7) (v := 0) hX dX12_allEntries_6 ic_0 rfl ?_
      refine S_callV (ci := 12) (C := "FanTalkModel") (T := TX12) (N := 17) (q := 10) 0 0 hX (c_X12_get _ μ _ 0 (0) (by first | rfl | (simp only [i0, i1, i2, i3, i4, i5, i6, i7, i8, i9, i10, i11, i12, i17, i20, i24, i26, i27, i31, i32, i36, i48, i57, i59, i60, i61, i63, i64, i87, i96, i97, i99, i122, i148, i250, i255, i305, i453, i999, i1359, i1812, pk_mul, nI_add]; done) | (simp only [i0, i1, i2, i3, i4, i5, i6, i7, i8, i9, i10, i11, i12, i17, i20, i24, i26, i27, i31, i32, i36, i48, i57, i59, i60, i61, i63, i64, i87, i96, i97, i99, i122, i148, i250, i255, i305, i453, i999, i1359, i1812, pk_mul, nI_add]; congr 1; omega))) rfl ?hs_1 rfl u_838 u_840 us_26 u_12 u_841 ⟨by decide, by decide, rfl⟩ ⟨Nat.le_of_ble_eq_true rfl, Nat.le_of_ble_eq_true rfl⟩ ⟨Nat.le_of_ble_eq_true rfl, Nat.le_of_ble_eq_true rfl⟩ (Nat.le_of_ble_eq_true rfl) dX12_allEntries_7 ?hp_1 rfl rfl rfl ?_
      case hs_1 => first | with_reducible assumption | exact ⟨_, by with_reducible assumption⟩ | exact MM.isO hM
      case hp_1 => exact ⟨hM, h0, by omega⟩
      rintro v σ1 sz1 ⟨rfl, rfl, rfl⟩
      rw [hC0]
      refine S_icmp_ge (q := 13) 27 hX dX12_allEntries_10 rfl rfl (fun c10 => ?_) (fun c10 => ?_)
      · have hge : c = S.1.1.1 := by rw [nI_leI (by omega) (by omega)] at c10; omega
        subst hge
        refine S_iload_n (q := 28) hX dX12_allEntries_27 rfl rfl ?_
        refine S_iret hX dX12_allEntries_28 (Nat.zero_le _) (Nat.zero_le _) ?_
        refine hP _ _ _ ?_
        exact ⟨rfl, rfl, rfl⟩
      · have hlt : c < S.1.1.1 := by rw [nI_leI (by omega) (by omega)] at c10; omega
        have hcc := hR.2.1.code hlt
        refine S_iload_n (q := 14) hX dX12_allEntries_13 rfl rfl ?_
        refine S_aload_n (q := 15) hX dX12_allEntries_14 rfl rfl ?_
        refine S_iload_n (q := 16) hX dX12_allEntries_15 rfl rfl ?_
        refine S_callV (ci := 12) (C := "FanTalkModel") (T := TX12) (N := 17) (q := 19) 0 0 hX (c_X12_entriesOf _ μ _ 0 c rfl) rfl ?hs_2 rfl u_872 u_874 us_32 u_12 u_875 ⟨by decide, by decide, rfl⟩ ⟨Nat.le_of_ble_eq_true rfl, Nat.le_of_ble_eq_true rfl⟩ ⟨Nat.le_of_ble_eq_true rfl, Nat.le_of_ble_eq_true rfl⟩ (Nat.le_of_ble_eq_true rfl) dX12_allEntries_16 ?hp_2 rfl rfl rfl ?_
        case hs_2 => first | with_reducible assumption | exact ⟨_, by with_reducible assumption⟩ | exact MM.isO hM
        case hp_2 => exact ⟨hM, h0, by omega⟩
        rintro v σ1 sz1 ⟨rfl, rfl, rfl⟩
        rw [hcc.1]
        refine S_iadd (q := 20) hX dX12_allEntries_19 rfl ?_
        refine S_istore_n (q := 21) [_, _, _] hX dX12_allEntries_20 rfl (Nat.le_of_ble_eq_true rfl) rfl rfl ?_
        refine S_iinc (q := 24) [_, _, _] hX dX12_allEntries_21 rfl (ii_1 _) rfl (Nat.le_of_ble_eq_true rfl) rfl rfl ?_
        refine S_goto 4 hX dX12_allEntries_24 rfl ?_
        exact ih (c + 1) _ _ (by rw [nI_add]; rfl) (nI_1 _) (by omega) (by omega)
  refine S_iconst (q := 1) (v := 0) hX dX12_allEntries_0 ic_0 rfl ?_
  refine S_istore_n (q := 2) [_, _, _] hX dX12_allEntries_1 rfl (Nat.le_of_ble_eq_true rfl) rfl rfl ?_
  refine S_iconst (q := 3) (v := 0) hX dX12_allEntries_2 ic_0 rfl ?_
  refine S_istore_n (q := 4) [_, _, _] hX dX12_allEntries_3 rfl (Nat.le_of_ble_eq_true rfl) rfl rfl ?_
  exact loop (S.1.1.1 + 1) 0 _ _ rfl rfl (Nat.zero_le _) (by omega)
theorem c_X12_counted (m : Nat) (μ : MF) (S : ST) (x : Int32) (k : Nat) (hx : x = nI k) : CT_X12_counted [.ref m, .int x] (fun Γ σ sz => MM σ m μ ∧ MR μ S ∧ StOk S ∧ k < 8) (fun Γ σ sz v σ' sz' => v = some (.int (nI (cntS S k))) ∧ σ' = σ ∧ sz' = sz) := by
  refine CT.mkP rfl (Nat.le_of_ble_eq_true rfl) [_, _] rfl ?_
  intro X Γ σ sz P hX hpre hsz hP
  obtain ⟨hM, hR, ok, hk⟩ := hpre
  have hF : Fr m (m + 9) σ σ := Fr.rf
  subst hx
  have h0 := hR.1
  obtain ⟨q0, q1, q2, q3, q4, q5, q6, q7, q8, q9⟩ := id hR.2.1
  refine S_iload_n (q := 1) hX dX12_counted_0 rfl rfl ?_
  rcases (show k = 0 ∨ k = 1 ∨ k = 2 ∨ k = 3 ∨ k = 4 ∨ k = 5 ∨ k = 6 ∨ k = 7 by omega) with rfl | rfl | rfl | rfl | rfl | rfl | rfl | rfl
  · refine S_tableIn (off := 43) 44 hX dX12_counted_1 (by decide) (by decide) rfl rfl ?_
    refine S_aload_n (q := 45) hX dX12_counted_44 rfl rfl ?_
    refine S_iconst (q := 46) (v := 0) hX dX12_counted_45 ic_0 rfl ?_
    refine S_callV (ci := 12) (C := "FanTalkModel") (T := TX12) (N := 17) (q := 49) 0 0 hX (c_X12_get _ μ _ 0 (0) (by first | rfl | (simp only [i0, i1, i2, i3, i4, i5, i6, i7, i8, i9, i10, i11, i12, i17, i20, i24, i26, i27, i31, i32, i36, i48, i57, i59, i60, i61, i63, i64, i87, i96, i97, i99, i122, i148, i250, i255, i305, i453, i999, i1359, i1812, pk_mul, nI_add]; done) | (simp only [i0, i1, i2, i3, i4, i5, i6, i7, i8, i9, i10, i11, i12, i17, i20, i24, i26, i27, i31, i32, i36, i48, i57, i59, i60, i61, i63, i64, i87, i96, i97, i99, i122, i148, i250, i255, i305, i453, i999, i1359, i1812, pk_mul, nI_add]; congr 1; omega))) rfl ?hs_1 rfl u_838 u_840 us_26 u_12 u_841 ⟨by decide, by decide, rfl⟩ ⟨Nat.le_of_ble_eq_true rfl, Nat.le_of_ble_eq_true rfl⟩ ⟨Nat.le_of_ble_eq_true rfl, Nat.le_of_ble_eq_true rfl⟩ (Nat.le_of_ble_eq_true rfl) dX12_counted_46 ?hp_1 rfl rfl rfl ?_
    case hs_1 => first | with_reducible assumption | exact ⟨_, by with_reducible assumption⟩ | exact MM.isO hM
    case hp_1 => exact ⟨hM, h0, by omega⟩
    rintro v σ1 sz1 ⟨rfl, rfl, rfl⟩
    refine S_iret hX dX12_counted_49 (Nat.zero_le _) (Nat.zero_le _) ?_
    refine hP _ _ _ ?_
    exact ⟨by rw [q0]; rfl, rfl, rfl⟩
  · refine S_tableIn (off := 49) 50 hX dX12_counted_1 (by decide) (by decide) rfl rfl ?_
    refine S_aload_n (q := 51) hX dX12_counted_50 rfl rfl ?_
    refine S_callV (ci := 12) (C := "FanTalkModel") (T := TX12) (N := 17) (q := 54) 0 0 hX (c_X12_allEntries _ μ S) rfl ?hs_2 rfl u_1093 u_1095 us_56 u_12 u_1096 ⟨by decide, by decide, rfl⟩ ⟨Nat.le_of_ble_eq_true rfl, Nat.le_of_ble_eq_true rfl⟩ ⟨Nat.le_of_ble_eq_true rfl, Nat.le_of_ble_eq_true rfl⟩ (Nat.le_of_ble_eq_true rfl) dX12_counted_51 ?hp_2 rfl rfl rfl ?_
    case hs_2 => first | with_reducible assumption | exact ⟨_, by with_reducible assumption⟩ | exact MM.isO hM
    case hp_2 => exact ⟨hM, hR, ok⟩
    rintro v σ1 sz1 ⟨rfl, rfl, rfl⟩
    refine S_iret hX dX12_counted_54 (Nat.zero_le _) (Nat.zero_le _) ?_
    refine hP _ _ _ ?_
    exact ⟨rfl, rfl, rfl⟩
  · refine S_tableIn (off := 54) 55 hX dX12_counted_1 (by decide) (by decide) rfl rfl ?_
    refine S_aload_n (q := 56) hX dX12_counted_55 rfl rfl ?_
    refine S_iconst (q := 57) (v := 2) hX dX12_counted_56 ic_2 rfl ?_
    refine S_callV (ci := 12) (C := "FanTalkModel") (T := TX12) (N := 17) (q := 60) 0 0 hX (c_X12_get _ μ _ 0 (2) (by first | rfl | (simp only [i0, i1, i2, i3, i4, i5, i6, i7, i8, i9, i10, i11, i12, i17, i20, i24, i26, i27, i31, i32, i36, i48, i57, i59, i60, i61, i63, i64, i87, i96, i97, i99, i122, i148, i250, i255, i305, i453, i999, i1359, i1812, pk_mul, nI_add]; done) | (simp only [i0, i1, i2, i3, i4, i5, i6, i7, i8, i9, i10, i11, i12, i17, i20, i24, i26, i27, i31, i32, i36, i48, i57, i59, i60, i61, i63, i64, i87, i96, i97, i99, i122, i148, i250, i255, i305, i453, i999, i1359, i1812, pk_mul, nI_add]; congr 1; omega))) rfl ?hs_3 rfl u_838 u_840 us_26 u_12 u_841 ⟨by decide, by decide, rfl⟩ ⟨Nat.le_of_ble_eq_true rfl, Nat.le_of_ble_eq_true rfl⟩ ⟨Nat.le_of_ble_eq_true rfl, Nat.le_of_ble_eq_true rfl⟩ (Nat.le_of_ble_eq_true rfl) dX12_counted_57 ?hp_3 rfl rfl rfl ?_
    case hs_3 => first | with_reducible assumption | exact ⟨_, by with_reducible assumption⟩ | exact MM.isO hM
    case hp_3 => exact ⟨hM, h0, by omega⟩
    rintro v σ1 sz1 ⟨rfl, rfl, rfl⟩
    rw [q2]
    refine S_if_ne (q := 63) 67 hX dX12_counted_60 rfl rfl (fun c60 => ?_) (fun c60 => ?_)
    · have hz : S.1.2.2.2.1 ≠ 0 := fun z => c60 (by rw [z]; rfl)
      have hz2 : ¬ ln S.1.2.2.2.1 = 0 := fun z => by
        rcases ok.1.2.2.2.2.2.1 with q | q
        · exact hz q
        · have := q.1
          omega
      refine S_aload_n (q := 68) hX dX12_counted_67 rfl rfl ?_
      refine S_iconst (q := 69) (v := 2) hX dX12_counted_68 ic_2 rfl ?_
      refine S_callV (ci := 12) (C := "FanTalkModel") (T := TX12) (N := 17) (q := 72) 0 0 hX (c_X12_get _ μ _ 0 (2) (by first | rfl | (simp only [i0, i1, i2, i3, i4, i5, i6, i7, i8, i9, i10, i11, i12, i17, i20, i24, i26, i27, i31, i32, i36, i48, i57, i59, i60, i61, i63, i64, i87, i96, i97, i99, i122, i148, i250, i255, i305, i453, i999, i1359, i1812, pk_mul, nI_add]; done) | (simp only [i0, i1, i2, i3, i4, i5, i6, i7, i8, i9, i10, i11, i12, i17, i20, i24, i26, i27, i31, i32, i36, i48, i57, i59, i60, i61, i63, i64, i87, i96, i97, i99, i122, i148, i250, i255, i305, i453, i999, i1359, i1812, pk_mul, nI_add]; congr 1; omega))) rfl ?hs_4 rfl u_838 u_840 us_26 u_12 u_841 ⟨by decide, by decide, rfl⟩ ⟨Nat.le_of_ble_eq_true rfl, Nat.le_of_ble_eq_true rfl⟩ ⟨Nat.le_of_ble_eq_true rfl, Nat.le_of_ble_eq_true rfl⟩ (Nat.le_of_ble_eq_true rfl) dX12_counted_69 ?hp_4 rfl rfl rfl ?_
      case hs_4 => first | with_reducible assumption | exact ⟨_, by with_reducible assumption⟩ | exact MM.isO hM
      case hp_4 => exact ⟨hM, h0, by omega⟩
      rintro v σ1 sz1 ⟨rfl, rfl, rfl⟩
      rw [q2]
      refine S_callS (q := 75) 0 0 hX (c_X12_lengthOf _) rfl u_861 u_862 u_12 u_863 ⟨by decide, by decide, rfl⟩ ⟨Nat.le_of_ble_eq_true rfl, Nat.le_of_ble_eq_true rfl⟩ ⟨Nat.le_of_ble_eq_true rfl, Nat.le_of_ble_eq_true rfl⟩ (Nat.le_of_ble_eq_true rfl) dX12_counted_72 ?hp_5 rfl rfl rfl ?_
      case hp_5 => trivial
      rintro v σ1 sz1 ⟨rfl, rfl, rfl⟩
      rw [lnZ_nI (sy_lt ok)]
      refine S_iret hX dX12_counted_75 (Nat.zero_le _) (Nat.zero_le _) ?_
      refine hP _ _ _ ?_
      rw [if_neg hz2]
      exact ⟨rfl, rfl, rfl⟩
    · refine S_iconst (q := 64) (v := 0) hX dX12_counted_63 ic_0 rfl ?_
      refine S_goto 75 hX dX12_counted_64 rfl ?_
      refine S_iret hX dX12_counted_75 (Nat.zero_le _) (Nat.zero_le _) ?_
      refine hP _ _ _ ?_
      have hz : S.1.2.2.2.1 = 0 := nI_inj (sy_lt ok) (by decide) c60
      refine ⟨?_, rfl, rfl⟩
      show _ = some (Value.int (nI (ln S.1.2.2.2.1)))
      rw [hz]
      rfl
  · refine S_tableIn (off := 75) 76 hX dX12_counted_1 (by decide) (by decide) rfl rfl ?_
    refine S_aload_n (q := 77) hX dX12_counted_76 rfl rfl ?_
    refine S_iconst (q := 78) (v := 3) hX dX12_counted_77 ic_3 rfl ?_
    refine S_callV (ci := 12) (C := "FanTalkModel") (T := TX12) (N := 17) (q := 81) 0 0 hX (c_X12_get _ μ _ 0 (3) (by first | rfl | (simp only [i0, i1, i2, i3, i4, i5, i6, i7, i8, i9, i10, i11, i12, i17, i20, i24, i26, i27, i31, i32, i36, i48, i57, i59, i60, i61, i63, i64, i87, i96, i97, i99, i122, i148, i250, i255, i305, i453, i999, i1359, i1812, pk_mul, nI_add]; done) | (simp only [i0, i1, i2, i3, i4, i5, i6, i7, i8, i9, i10, i11, i12, i17, i20, i24, i26, i27, i31, i32, i36, i48, i57, i59, i60, i61, i63, i64, i87, i96, i97, i99, i122, i148, i250, i255, i305, i453, i999, i1359, i1812, pk_mul, nI_add]; congr 1; omega))) rfl ?hs_6 rfl u_838 u_840 us_26 u_12 u_841 ⟨by decide, by decide, rfl⟩ ⟨Nat.le_of_ble_eq_true rfl, Nat.le_of_ble_eq_true rfl⟩ ⟨Nat.le_of_ble_eq_true rfl, Nat.le_of_ble_eq_true rfl⟩ (Nat.le_of_ble_eq_true rfl) dX12_counted_78 ?hp_6 rfl rfl rfl ?_
    case hs_6 => first | with_reducible assumption | exact ⟨_, by with_reducible assumption⟩ | exact MM.isO hM
    case hp_6 => exact ⟨hM, h0, by omega⟩
    rintro v σ1 sz1 ⟨rfl, rfl, rfl⟩
    refine S_iret hX dX12_counted_81 (Nat.zero_le _) (Nat.zero_le _) ?_
    refine hP _ _ _ ?_
    exact ⟨by rw [q3]; rfl, rfl, rfl⟩
  · refine S_tableIn (off := 81) 82 hX dX12_counted_1 (by decide) (by decide) rfl rfl ?_
    refine S_aload_n (q := 83) hX dX12_counted_82 rfl rfl ?_
    refine S_iconst (q := 84) (v := 4) hX dX12_counted_83 ic_4 rfl ?_
    refine S_callV (ci := 12) (C := "FanTalkModel") (T := TX12) (N := 17) (q := 87) 0 0 hX (c_X12_get _ μ _ 0 (4) (by first | rfl | (simp only [i0, i1, i2, i3, i4, i5, i6, i7, i8, i9, i10, i11, i12, i17, i20, i24, i26, i27, i31, i32, i36, i48, i57, i59, i60, i61, i63, i64, i87, i96, i97, i99, i122, i148, i250, i255, i305, i453, i999, i1359, i1812, pk_mul, nI_add]; done) | (simp only [i0, i1, i2, i3, i4, i5, i6, i7, i8, i9, i10, i11, i12, i17, i20, i24, i26, i27, i31, i32, i36, i48, i57, i59, i60, i61, i63, i64, i87, i96, i97, i99, i122, i148, i250, i255, i305, i453, i999, i1359, i1812, pk_mul, nI_add]; congr 1; omega))) rfl ?hs_7 rfl u_838 u_840 us_26 u_12 u_841 ⟨by decide, by decide, rfl⟩ ⟨Nat.le_of_ble_eq_true rfl, Nat.le_of_ble_eq_true rfl⟩ ⟨Nat.le_of_ble_eq_true rfl, Nat.le_of_ble_eq_true rfl⟩ (Nat.le_of_ble_eq_true rfl) dX12_counted_84 ?hp_7 rfl rfl rfl ?_
    case hs_7 => first | with_reducible assumption | exact ⟨_, by with_reducible assumption⟩ | exact MM.isO hM
    case hp_7 => exact ⟨hM, h0, by omega⟩
    rintro v σ1 sz1 ⟨rfl, rfl, rfl⟩
    refine S_iret hX dX12_counted_87 (Nat.zero_le _) (Nat.zero_le _) ?_
    refine hP _ _ _ ?_
    exact ⟨by rw [q4]; rfl, rfl, rfl⟩
  · refine S_tableIn (off := 87) 88 hX dX12_counted_1 (by decide) (by decide) rfl rfl ?_
    refine S_aload_n (q := 89) hX dX12_counted_88 rfl rfl ?_
    refine S_iconst (q := 90) (v := 5) hX dX12_counted_89 ic_5 rfl ?_
    refine S_callV (ci := 12) (C := "FanTalkModel") (T := TX12) (N := 17) (q := 93) 0 0 hX (c_X12_get _ μ _ 0 (5) (by first | rfl | (simp only [i0, i1, i2, i3, i4, i5, i6, i7, i8, i9, i10, i11, i12, i17, i20, i24, i26, i27, i31, i32, i36, i48, i57, i59, i60, i61, i63, i64, i87, i96, i97, i99, i122, i148, i250, i255, i305, i453, i999, i1359, i1812, pk_mul, nI_add]; done) | (simp only [i0, i1, i2, i3, i4, i5, i6, i7, i8, i9, i10, i11, i12, i17, i20, i24, i26, i27, i31, i32, i36, i48, i57, i59, i60, i61, i63, i64, i87, i96, i97, i99, i122, i148, i250, i255, i305, i453, i999, i1359, i1812, pk_mul, nI_add]; congr 1; omega))) rfl ?hs_8 rfl u_838 u_840 us_26 u_12 u_841 ⟨by decide, by decide, rfl⟩ ⟨Nat.le_of_ble_eq_true rfl, Nat.le_of_ble_eq_true rfl⟩ ⟨Nat.le_of_ble_eq_true rfl, Nat.le_of_ble_eq_true rfl⟩ (Nat.le_of_ble_eq_true rfl) dX12_counted_90 ?hp_8 rfl rfl rfl ?_
    case hs_8 => first | with_reducible assumption | exact ⟨_, by with_reducible assumption⟩ | exact MM.isO hM
    case hp_8 => exact ⟨hM, h0, by omega⟩
    rintro v σ1 sz1 ⟨rfl, rfl, rfl⟩
    refine S_iret hX dX12_counted_93 (Nat.zero_le _) (Nat.zero_le _) ?_
    refine hP _ _ _ ?_
    exact ⟨by rw [q5]; rfl, rfl, rfl⟩
  · refine S_tableIn (off := 93) 94 hX dX12_counted_1 (by decide) (by decide) rfl rfl ?_
    refine S_aload_n (q := 95) hX dX12_counted_94 rfl rfl ?_
    refine S_getf (fs := ?fs_9) (v := ?v_9) (q := 98) hX u_787 fo_X12_typed dX12_counted_95 ?hs_9 ?hv_9 rfl ?_
    case hs_9 => with_reducible first | exact MM.c0 hM | exact MM.c1 hM | exact MM.c5 hM | exact MM.c6 hM | exact MM.c7 hM | exact MM.c3 hM | exact MM.c4 hM | exact MM.c8 hM | exact MM.c2 hM
    case hv_9 => rfl
    refine S_iret hX dX12_counted_98 (Nat.zero_le _) (Nat.zero_le _) ?_
    refine hP _ _ _ ?_
    exact ⟨by rw [hR.2.2.2.2.1]; rfl, rfl, rfl⟩
  · refine S_tableOut 99 hX dX12_counted_1 (by decide) rfl ?_
    refine S_aload_n (q := 100) hX dX12_counted_99 rfl rfl ?_
    refine S_iconst (q := 101) (v := 1) hX dX12_counted_100 ic_1 rfl ?_
    refine S_callV (ci := 12) (C := "FanTalkModel") (T := TX12) (N := 17) (q := 104) 0 0 hX (c_X12_get _ μ _ 0 (1) (by first | rfl | (simp only [i0, i1, i2, i3, i4, i5, i6, i7, i8, i9, i10, i11, i12, i17, i20, i24, i26, i27, i31, i32, i36, i48, i57, i59, i60, i61, i63, i64, i87, i96, i97, i99, i122, i148, i250, i255, i305, i453, i999, i1359, i1812, pk_mul, nI_add]; done) | (simp only [i0, i1, i2, i3, i4, i5, i6, i7, i8, i9, i10, i11, i12, i17, i20, i24, i26, i27, i31, i32, i36, i48, i57, i59, i60, i61, i63, i64, i87, i96, i97, i99, i122, i148, i250, i255, i305, i453, i999, i1359, i1812, pk_mul, nI_add]; congr 1; omega))) rfl ?hs_10 rfl u_838 u_840 us_26 u_12 u_841 ⟨by decide, by decide, rfl⟩ ⟨Nat.le_of_ble_eq_true rfl, Nat.le_of_ble_eq_true rfl⟩ ⟨Nat.le_of_ble_eq_true rfl, Nat.le_of_ble_eq_true rfl⟩ (Nat.le_of_ble_eq_true rfl) dX12_counted_101 ?hp_10 rfl rfl rfl ?_
    case hs_10 => first | with_reducible assumption | exact ⟨_, by with_reducible assumption⟩ | exact MM.isO hM
    case hp_10 => exact ⟨hM, h0, by omega⟩
    rintro v σ1 sz1 ⟨rfl, rfl, rfl⟩
    refine S_iret hX dX12_counted_104 (Nat.zero_le _) (Nat.zero_le _) ?_
    refine hP _ _ _ ?_
    exact ⟨by rw [q1]; rfl, rfl, rfl⟩
theorem c_X12_count (m : Nat) (μ : MF) (S : ST) (x : Int32) : CT_X12_count [.ref m, .int x] (fun Γ σ sz => MM σ m μ ∧ MR μ S ∧ StOk S) (fun Γ σ sz v σ' sz' => ∃ μ', MM σ' m μ' ∧ Fr m (m + 9) σ σ' ∧ v = some (.int (sp_count S x).1) ∧ MR μ' (sp_count S x).2 ∧ sz' = sz) := by
  refine CT.mkP rfl (Nat.le_of_ble_eq_true rfl) [_, _] rfl ?_
  intro X Γ σ sz P hX hpre hsz hP
  obtain ⟨hM, hR, ok⟩ := hpre
  have hF : Fr m (m + 9) σ σ := Fr.rf
  have h0 := hR.1
  have hC0 := hR.2.1.1
  obtain ⟨q0, q1, q2, q3, q4, q5, q6, q7, q8, q9⟩ := id hR.2.1
  obtain ⟨o1, o2, o3, o4, o5, o6, o7, o8, o9, o10⟩ := id ok.1
  refine S_iload_n (q := 1) hX dX12_count_0 rfl rfl ?_
  refine S_iconst (q := 2) (v := 0) hX dX12_count_1 ic_0 rfl ?_
  refine S_bipush (q := 4) (v := 7) hX dX12_count_2 bp_7 rfl ?_
  refine S_callS (q := 7) 0 0 hX (c_X12_in _ _ _) rfl u_858 u_859 u_12 u_860 ⟨by decide, by decide, rfl⟩ ⟨Nat.le_of_ble_eq_true rfl, Nat.le_of_ble_eq_true rfl⟩ ⟨Nat.le_of_ble_eq_true rfl, Nat.le_of_ble_eq_true rfl⟩ (Nat.le_of_ble_eq_true rfl) dX12_count_4 ?hp_1 rfl rfl rfl ?_
  case hp_1 => trivial
  rintro v σ1 sz1 ⟨rfl, rfl, rfl⟩
  refine S_top (bi_congr (rg x 0 7 _ _ (by decide) (by decide))) ?_
  refine S_if_eq_b (q := 10) 18 hX dX12_count_7 rfl rfl (fun c7 => ?_) (fun c7 => ?_)
  · refine S_aload_n (q := 19) hX dX12_count_18 rfl rfl ?_
    refine S_callV (ci := 12) (C := "FanTalkModel") (T := TX12) (N := 17) (q := 22) 0 0 hX (c_X12_bad _ μ) rfl ?hs_2 rfl u_864 u_866 us_30 u_12 u_867 ⟨by decide, by decide, rfl⟩ ⟨Nat.le_of_ble_eq_true rfl, Nat.le_of_ble_eq_true rfl⟩ ⟨Nat.le_of_ble_eq_true rfl, Nat.le_of_ble_eq_true rfl⟩ (Nat.le_of_ble_eq_true rfl) dX12_count_19 ?hp_2 rfl rfl rfl ?_
    case hs_2 => first | with_reducible assumption | exact ⟨_, by with_reducible assumption⟩ | exact MM.isO hM
    case hp_2 => exact hM
    rintro v σ sz1 ⟨μ9, hM, hF1, rfl, e9, rfl⟩
    have hF := hF.trans hF1
    refine S_iret hX dX12_count_22 (Nat.zero_le _) (Nat.zero_le _) ?_
    refine hP _ _ _ ?_
    have hsp : sp_count S x = (-2, rfS S 0) := by unfold sp_count; rw [if_pos c7]
    rw [hsp]
    exact ⟨_, hM, hF, rfl, hR.rf (by decide) e9, rfl⟩
  · have cx := tN_ex c7.1
    have hx7 : tN x < 8 := by have := c7.2; have := cx.2.2; omega
    refine S_aload_n (q := 11) hX dX12_count_10 rfl rfl ?_
    refine S_iload_n (q := 12) hX dX12_count_11 rfl rfl ?_
    refine S_callV (ci := 12) (C := "FanTalkModel") (T := TX12) (N := 17) (q := 15) 0 0 hX (c_X12_counted _ μ S _ (tN x) cx.1) rfl ?hs_3 rfl u_1089 u_1091 us_55 u_12 u_1092 ⟨by decide, by decide, rfl⟩ ⟨Nat.le_of_ble_eq_true rfl, Nat.le_of_ble_eq_true rfl⟩ ⟨Nat.le_of_ble_eq_true rfl, Nat.le_of_ble_eq_true rfl⟩ (Nat.le_of_ble_eq_true rfl) dX12_count_12 ?hp_3 rfl rfl rfl ?_
    case hs_3 => first | with_reducible assumption | exact ⟨_, by with_reducible assumption⟩ | exact MM.isO hM
    case hp_3 => exact ⟨hM, hR, ok, hx7⟩
    rintro v σ1 sz1 ⟨rfl, rfl, rfl⟩
    refine S_goto 22 hX dX12_count_15 rfl ?_
    refine S_iret hX dX12_count_22 (Nat.zero_le _) (Nat.zero_le _) ?_
    refine hP _ _ _ ?_
    have hsp : sp_count S x = (nI (cntS S (tN x)), S) := by unfold sp_count; rw [if_neg (fun z => z c7)]
    rw [hsp]
    exact ⟨_, hM, hF, rfl, hR, rfl⟩
