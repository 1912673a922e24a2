/-! the reference: calls that write -/
theorem addE_o {μ : MF} {b c e j : Nat} {w r : Int32} (h : j ≠ 1) : addE μ b c e w r j = μ j := by
  unfold addE
  rw [m2_o h, m2_o h, m2_o h]
theorem addE_n {μ : MF} {b c e k : Nat} {w r : Int32} (h1 : k ≠ b + (36 + 17 * c)) (h2 : k ≠ b + (36 + 17 * c + 1 + 2 * e)) (h3 : k ≠ b + (36 + 17 * c + 2 + 2 * e)) : addE μ b c e w r 1 k = μ 1 k := by
  unfold addE
  rw [m2_n h1, m2_n h3, m2_n h2]
theorem addE_c (μ : MF) (b c e : Nat) (w r : Int32) : addE μ b c e w r 1 (b + (36 + 17 * c)) = nI (e + 1) := m2_y _ _ _
theorem addE_r (μ : MF) (b c e : Nat) (w r : Int32) : addE μ b c e w r 1 (b + (36 + 17 * c + 1 + 2 * e)) = r := by
  unfold addE
  rw [m2_n (by omega), m2_n (by omega), m2_y]
theorem addE_w (μ : MF) (b c e : Nat) (w r : Int32) : addE μ b c e w r 1 (b + (36 + 17 * c + 2 + 2 * e)) = w := by
  unfold addE
  rw [m2_n (by omega), m2_y]

theorem c_X12_entry (m : Nat) (μ : MF) (S : ST) (x y z : Int32) : CT_X12_entry [.ref m, .int x, .int y, .int z] (fun Γ σ sz => MM σ m μ ∧ MR μ S ∧ StOk S) (fun Γ σ sz v σ' sz' => ∃ μ', MM σ' m μ' ∧ Fr m (m + 9) σ σ' ∧ v = some (.int (sp_entry S x y z).1) ∧ MR μ' (sp_entry S x y z).2 ∧ sz' = sz) := by
  refine CT.mkP rfl (Nat.le_of_ble_eq_true rfl) [_, _, _, _] rfl ?_
  intro X Γ σ sz P hX hpre hsz hP
  obtain ⟨hM, hR, ok⟩ := hpre
  have hF : Fr m (m + 9) σ σ := Fr.rf
  have h0 := hR.1
  have hC0 := hR.2.1.1
  obtain ⟨q0, q1, q2, q3, q4, q5, q6, q7, q8, q9⟩ := id hR.2.1
  obtain ⟨o1, o2, o3, o4, o5, o6, o7, o8, o9, o10⟩ := id ok.1
  refine S_aload_n (q := 1) hX dX12_entry_0 rfl rfl ?_
  refine S_iload_n (q := 2) hX dX12_entry_1 rfl rfl ?_
  refine S_callV (ci := 12) (C := "FanTalkModel") (T := TX12) (N := 17) (q := 5) 0 0 hX (c_X12_isCode _ μ _ 0 S.1.1.1) rfl ?hs_1 rfl u_854 u_856 us_29 u_12 u_857 ⟨by decide, by decide, rfl⟩ ⟨Nat.le_of_ble_eq_true rfl, Nat.le_of_ble_eq_true rfl⟩ ⟨Nat.le_of_ble_eq_true rfl, Nat.le_of_ble_eq_true rfl⟩ (Nat.le_of_ble_eq_true rfl) dX12_entry_2 ?hp_1 rfl rfl rfl ?_
  case hs_1 => first | with_reducible assumption | exact ⟨_, by with_reducible assumption⟩ | exact MM.isO hM
  case hp_1 => exact ⟨hM, h0, by decide, hC0, ok.1.1⟩
  rintro v σ1 sz1 ⟨rfl, rfl, rfl⟩
  refine S_if_eq_b (q := 8) 30 hX dX12_entry_5 rfl rfl (fun c5 => ?_) (fun c5 => ?_)
  · refine S_aload_n (q := 31) hX dX12_entry_30 rfl rfl ?_
    refine S_callV (ci := 12) (C := "FanTalkModel") (T := TX12) (N := 17) (q := 34) 0 0 hX (c_X12_bad _ μ) rfl ?hs_2 rfl u_864 u_866 us_30 u_12 u_867 ⟨by decide, by decide, rfl⟩ ⟨Nat.le_of_ble_eq_true rfl, Nat.le_of_ble_eq_true rfl⟩ ⟨Nat.le_of_ble_eq_true rfl, Nat.le_of_ble_eq_true rfl⟩ (Nat.le_of_ble_eq_true rfl) dX12_entry_31 ?hp_2 rfl rfl rfl ?_
    case hs_2 => first | with_reducible assumption | exact ⟨_, by with_reducible assumption⟩ | exact MM.isO hM
    case hp_2 => exact hM
    rintro v σ sz1 ⟨μ9, hM, hF1, rfl, e9, rfl⟩
    have hF := hF.trans hF1
    refine S_iret hX dX12_entry_34 (Nat.zero_le _) (Nat.zero_le _) ?_
    refine hP _ _ _ ?_
    have hsp : sp_entry S x y z = (-2, rfS S 0) := by unfold sp_entry; rw [if_pos (Or.inl c5)]
    rw [hsp]
    exact ⟨_, hM, hF, rfl, hR.rf (by decide) e9, rfl⟩
  · have cx := okc.ex c5
    have hcc := hR.2.1.code cx.2.1
    have hok := o2.2.1 (tN x) cx.2.1
    have h8 := hok.1
    have hx3 := cx.2.1
    refine S_iload_n (q := 9) hX dX12_entry_8 rfl rfl ?_
    refine S_iconst (q := 10) (v := 0) hX dX12_entry_9 ic_0 rfl ?_
    refine S_bipush (q := 12) (v := 9) hX dX12_entry_10 bp_9 rfl ?_
    refine S_callS (q := 15) 0 0 hX (c_X12_in _ _ _) rfl u_858 u_859 u_12 u_860 ⟨by decide, by decide, rfl⟩ ⟨Nat.le_of_ble_eq_true rfl, Nat.le_of_ble_eq_true rfl⟩ ⟨Nat.le_of_ble_eq_true rfl, Nat.le_of_ble_eq_true rfl⟩ (Nat.le_of_ble_eq_true rfl) dX12_entry_12 ?hp_3 rfl rfl rfl ?_
    case hp_3 => trivial
    rintro v σ1 sz1 ⟨rfl, rfl, rfl⟩
    refine S_top (bi_congr (rg y 0 9 _ _ (by decide) (by decide))) ?_
    refine S_if_eq_b (q := 18) 30 hX dX12_entry_15 rfl rfl (fun c15 => ?_) (fun c15 => ?_)
    · refine S_aload_n (q := 31) hX dX12_entry_30 rfl rfl ?_
      refine S_callV (ci := 12) (C := "FanTalkModel") (T := TX12) (N := 17) (q := 34) 0 0 hX (c_X12_bad _ μ) rfl ?hs_4 rfl u_864 u_866 us_30 u_12 u_867 ⟨by decide, by decide, rfl⟩ ⟨Nat.le_of_ble_eq_true rfl, Nat.le_of_ble_eq_true rfl⟩ ⟨Nat.le_of_ble_eq_true rfl, Nat.le_of_ble_eq_true rfl⟩ (Nat.le_of_ble_eq_true rfl) dX12_entry_31 ?hp_4 rfl rfl rfl ?_
      case hs_4 => first | with_reducible assumption | exact ⟨_, by with_reducible assumption⟩ | exact MM.isO hM
      case hp_4 => exact hM
      rintro v σ sz1 ⟨μ9, hM, hF1, rfl, e9, rfl⟩
      have hF := hF.trans hF1
      refine S_iret hX dX12_entry_34 (Nat.zero_le _) (Nat.zero_le _) ?_
      refine hP _ _ _ ?_
      have hsp : sp_entry S x y z = (-2, rfS S 0) := by unfold sp_entry; rw [if_pos (Or.inr (Or.inl c15))]
      rw [hsp]
      exact ⟨_, hM, hF, rfl, hR.rf (by decide) e9, rfl⟩
    · have cy := tN_ex c15.1
      refine S_iload_n (q := 19) hX dX12_entry_18 rfl rfl ?_
      refine S_callS (q := 22) 0 0 hX (c_X12_lengthOf _) rfl u_861 u_862 u_12 u_863 ⟨by decide, by decide, rfl⟩ ⟨Nat.le_of_ble_eq_true rfl, Nat.le_of_ble_eq_true rfl⟩ ⟨Nat.le_of_ble_eq_true rfl, Nat.le_of_ble_eq_true rfl⟩ (Nat.le_of_ble_eq_true rfl) dX12_entry_19 ?hp_5 rfl rfl rfl ?_
      case hp_5 => trivial
      rintro v σ1 sz1 ⟨rfl, rfl, rfl⟩
      refine S_iconst (q := 23) (v := 1) hX dX12_entry_22 ic_1 rfl ?_
      refine S_iconst (q := 24) (v := 3) hX dX12_entry_23 ic_3 rfl ?_
      refine S_callS (q := 27) 0 0 hX (c_X12_in _ _ _) rfl u_858 u_859 u_12 u_860 ⟨by decide, by decide, rfl⟩ ⟨Nat.le_of_ble_eq_true rfl, Nat.le_of_ble_eq_true rfl⟩ ⟨Nat.le_of_ble_eq_true rfl, Nat.le_of_ble_eq_true rfl⟩ (Nat.le_of_ble_eq_true rfl) dX12_entry_24 ?hp_6 rfl rfl rfl ?_
      case hp_6 => trivial
      rintro v σ1 sz1 ⟨rfl, rfl, rfl⟩
      refine S_top (bi_congr (lnI_rg z.toInt 1 3 (by decide) (by decide) _ _ (by decide) (by decide))) ?_
      refine S_if_ne_b (q := 30) 35 hX dX12_entry_27 rfl rfl (fun c27 => ?_) (fun c27 => ?_)
      · have cz := lnZ_row c27.1
        have hnb : ¬ ent_bad S x y z := by
          rintro (q | q | q)
          · exact q c5
          · exact q c15
          · exact q c27
        refine S_aload_n (q := 36) hX dX12_entry_35 rfl rfl ?_
        refine S_iload_n (q := 37) hX dX12_entry_36 rfl rfl ?_
        refine S_iload_n (q := 38) hX dX12_entry_37 rfl rfl ?_
        refine S_callV (ci := 12) (C := "FanTalkModel") (T := TX12) (N := 17) (q := 41) 0 0 hX (c_X12_hasRow _ μ _ _ 0 (tN x) (tN z) (S.1.1.2.1 (tN x)) cx.1 cz.1) rfl ?hs_7 rfl u_868 u_870 us_31 u_12 u_871 ⟨by decide, by decide, rfl⟩ ⟨Nat.le_of_ble_eq_true rfl, Nat.le_of_ble_eq_true rfl⟩ ⟨Nat.le_of_ble_eq_true rfl, Nat.le_of_ble_eq_true rfl⟩ (Nat.le_of_ble_eq_true rfl) dX12_entry_38 ?hp_7 rfl rfl rfl ?_
        case hs_7 => first | with_reducible assumption | exact ⟨_, by with_reducible assumption⟩ | exact MM.isO hM
        case hp_7 => exact ⟨hM, h0, by omega, hcc, hok, cz.2.1⟩
        rintro v σ1 sz1 ⟨rfl, rfl, rfl⟩
        refine S_if_eq_b (q := 44) 49 hX dX12_entry_41 rfl rfl (fun c41 => ?_) (fun c41 => ?_)
        · refine S_aload_n (q := 50) hX dX12_entry_49 rfl rfl ?_
          refine S_iload_n (q := 51) hX dX12_entry_50 rfl rfl ?_
          refine S_callV (ci := 12) (C := "FanTalkModel") (T := TX12) (N := 17) (q := 54) 0 0 hX (c_X12_entriesOf _ μ _ 0 (tN x) cx.1) rfl ?hs_8 rfl u_872 u_874 us_32 u_12 u_875 ⟨by decide, by decide, rfl⟩ ⟨Nat.le_of_ble_eq_true rfl, Nat.le_of_ble_eq_true rfl⟩ ⟨Nat.le_of_ble_eq_true rfl, Nat.le_of_ble_eq_true rfl⟩ (Nat.le_of_ble_eq_true rfl) dX12_entry_51 ?hp_8 rfl rfl rfl ?_
          case hs_8 => first | with_reducible assumption | exact ⟨_, by with_reducible assumption⟩ | exact MM.isO hM
          case hp_8 => exact ⟨hM, h0, by omega⟩
          rintro v σ1 sz1 ⟨rfl, rfl, rfl⟩
          rw [hcc.1]
          refine S_bipush (q := 56) (v := 8) hX dX12_entry_54 bp_8 rfl ?_
          refine S_icmp_ne (q := 59) 64 hX dX12_entry_56 rfl rfl (fun c56 => ?_) (fun c56 => ?_)
          · refine S_aload_n (q := 65) hX dX12_entry_64 rfl rfl ?_
            refine S_iload_n (q := 66) hX dX12_entry_65 rfl rfl ?_
            refine S_iload_n (q := 67) hX dX12_entry_66 rfl rfl ?_
            refine S_iload_n (q := 68) hX dX12_entry_67 rfl rfl ?_
            refine S_callV (ci := 12) (C := "FanTalkModel") (T := TX12) (N := 17) (q := 71) 0 0 hX (c_X12_addEntry _ μ _ _ _ 0 (tN x) (S.1.1.2.1 (tN x)).1 cx.1) rfl ?hs_9 rfl u_884 u_886 us_35 u_12 u_887 ⟨by decide, by decide, rfl⟩ ⟨Nat.le_of_ble_eq_true rfl, Nat.le_of_ble_eq_true rfl⟩ ⟨Nat.le_of_ble_eq_true rfl, Nat.le_of_ble_eq_true rfl⟩ (Nat.le_of_ble_eq_true rfl) dX12_entry_68 ?hp_9 rfl rfl rfl ?_
            case hs_9 => first | with_reducible assumption | exact ⟨_, by with_reducible assumption⟩ | exact MM.isO hM
            case hp_9 => exact ⟨hM, h0, by omega, hcc.1⟩
            rintro v σ sz1 ⟨μ1, hM, hF1, rfl, e1, rfl⟩
            have hF := hF.trans hF1
            have h0 : μ1 0 0 = nI 0 := by rw [e1, addE_o (by decide)]; exact h0
            refine S_aload_n (q := 72) hX dX12_entry_71 rfl rfl ?_
            refine S_iconst (q := 73) (v := 5) hX dX12_entry_72 ic_5 rfl ?_
            refine S_iconst (q := 74) (v := 0) hX dX12_entry_73 ic_0 rfl ?_
            refine S_callV (ci := 12) (C := "FanTalkModel") (T := TX12) (N := 17) (q := 77) 0 0 hX (c_X12_set _ μ1 _ _ 0 (5) (by first | rfl | (simp only [i0, i1, i2, i3, i4, i5, i6, i7, i8, i9, i10, i11, i12, i17, i20, i24, i26, i27, i31, i32, i36, i48, i57, i59, i60, i61, i63, i64, i87, i96, i97, i99, i122, i148, i250, i255, i305, i453, i999, i1359, i1812, pk_mul, nI_add]; done) | (simp only [i0, i1, i2, i3, i4, i5, i6, i7, i8, i9, i10, i11, i12, i17, i20, i24, i26, i27, i31, i32, i36, i48, i57, i59, i60, i61, i63, i64, i87, i96, i97, i99, i122, i148, i250, i255, i305, i453, i999, i1359, i1812, pk_mul, nI_add]; congr 1; omega))) rfl ?hs_10 rfl u_846 u_848 us_28 u_12 u_849 ⟨by decide, by decide, rfl⟩ ⟨Nat.le_of_ble_eq_true rfl, Nat.le_of_ble_eq_true rfl⟩ ⟨Nat.le_of_ble_eq_true rfl, Nat.le_of_ble_eq_true rfl⟩ (Nat.le_of_ble_eq_true rfl) dX12_entry_74 ?hp_10 rfl rfl rfl ?_
            case hs_10 => first | with_reducible assumption | exact ⟨_, by with_reducible assumption⟩ | exact MM.isO hM
            case hp_10 => exact ⟨hM, h0, by omega⟩
            rintro v σ sz1 ⟨μ2, hM, hF1, rfl, e2, rfl⟩
            have hF := hF.trans hF1
            have h0 : μ2 0 0 = nI 0 := by rw [e2, m2_o (by decide)]; exact h0
            refine S_aload_n (q := 78) hX dX12_entry_77 rfl rfl ?_
            refine S_iload_n (q := 79) hX dX12_entry_78 rfl rfl ?_
            refine S_callV (ci := 12) (C := "FanTalkModel") (T := TX12) (N := 17) (q := 82) 0 0 hX (c_X12_entriesOf _ μ2 _ 0 (tN x) cx.1) rfl ?hs_11 rfl u_872 u_874 us_32 u_12 u_875 ⟨by decide, by decide, rfl⟩ ⟨Nat.le_of_ble_eq_true rfl, Nat.le_of_ble_eq_true rfl⟩ ⟨Nat.le_of_ble_eq_true rfl, Nat.le_of_ble_eq_true rfl⟩ (Nat.le_of_ble_eq_true rfl) dX12_entry_79 ?hp_11 rfl rfl rfl ?_
            case hs_11 => first | with_reducible assumption | exact ⟨_, by with_reducible assumption⟩ | exact MM.isO hM
            case hp_11 => exact ⟨hM, h0, by omega⟩
            rintro v σ1 sz1 ⟨rfl, rfl, rfl⟩
            refine S_iconst (q := 83) (v := 1) hX dX12_entry_82 ic_1 rfl ?_
            refine S_isub (q := 84) hX dX12_entry_83 rfl ?_
            refine S_iret hX dX12_entry_84 (Nat.zero_le _) (Nat.zero_le _) ?_
            refine hP _ _ _ ?_
            have hne8 : (S.1.1.2.1 (tN x)).1 ≠ 8 := fun q => c56 (by rw [q]; rfl)
            have hsp : sp_entry S x y z = (nI (S.1.1.2.1 (tN x)).1, stC S (newB S.1 (S.1.1.1, fu S.1.1.2.1 (tN x) (addC (S.1.1.2.1 (tN x)) (tN z) (tN y)), S.1.1.2.2))) := by unfold sp_entry; rw [if_neg hnb, if_neg c41, if_neg (fun q => c56 (by rw [q]; rfl))]
            rw [hsp]
            refine ⟨_, hM, hF, by rw [e2, m2_n (by omega), e1, addE_c, i1, pk_sub (by omega), Nat.add_sub_cancel], hR.now ok (fun j hj => by rw [e2, m2_o hj, e1, addE_o hj]) (fun i h1 h2 => by rw [e2, m2_n (by omega), e1, addE_n (by omega) (by omega) (by omega)]) ?_, rfl⟩
            have g : ∀ i, i ≠ 0 + (36 + 17 * tN x) → i ≠ 0 + (36 + 17 * tN x + 1 + 2 * (S.1.1.2.1 (tN x)).1) → i ≠ 0 + (36 + 17 * tN x + 2 + 2 * (S.1.1.2.1 (tN x)).1) → i ≠ 0 + 5 → μ2 1 i = μ 1 i := fun i h1 h2 h3 h4 => by rw [e2, m2_n h4, e1, addE_n h1 h2 h3]
            refine hR.2.1.up ok.1 ((g _ (by omega) (by omega) (by omega) (by omega)).trans q0) ((g _ (by omega) (by omega) (by omega) (by omega)).trans q1) ((g _ (by omega) (by omega) (by omega) (by omega)).trans q2) ((g _ (by omega) (by omega) (by omega) (by omega)).trans q3) ((g _ (by omega) (by omega) (by omega) (by omega)).trans q4) (by rw [e2, m2_y]; rfl) (Or.inl ⟨rfl, fun i h1 h2 => g _ (by omega) (by omega) (by omega) (by omega)⟩) (Or.inl ⟨rfl, fun i h1 h2 => g _ (by omega) (by omega) (by omega) (by omega)⟩) (Or.inr ?_) (Or.inr fun k hk => absurd hk (Nat.not_lt_zero _))
            refine q8.code (n := S.1.1.1) (o2.le o1).1 (o2.le o1).2 (by omega) (fun k hk => Or.inr hk) (fun i h1 h2 h3 => g i (by omega) (by omega) (by omega) (by omega)) ?_ (fun k hk => ?_)
            · rw [show 0 + 26 + (10 + 17 * tN x) = 0 + (36 + 17 * tN x) by omega, e2, m2_n (by omega), e1, addE_c]
              rfl
            · have hk : k < (S.1.1.2.1 (tN x)).1 + 1 := hk
              rw [show 0 + 26 + (10 + 17 * tN x + 1 + 2 * k) = 0 + (36 + 17 * tN x + 1 + 2 * k) by omega, show 0 + 26 + (10 + 17 * tN x + 2 + 2 * k) = 0 + (36 + 17 * tN x + 2 + 2 * k) by omega]
              show μ2 1 (0 + (36 + 17 * tN x + 1 + 2 * k)) = nI (fu (S.1.1.2.1 (tN x)).2 (S.1.1.2.1 (tN x)).1 (tN z, tN y) k).1 ∧ μ2 1 (0 + (36 + 17 * tN x + 2 + 2 * k)) = nI (fu (S.1.1.2.1 (tN x)).2 (S.1.1.2.1 (tN x)).1 (tN z, tN y) k).2
              by_cases hkn : k = (S.1.1.2.1 (tN x)).1
              · subst hkn
                rw [fu_eq, e2, m2_n (by omega), m2_n (by omega), e1, addE_r, addE_w]
                exact ⟨cz.1, cy.1⟩
              · rw [fu_ne hkn]
                exact ⟨(g _ (by omega) (by omega) (by omega) (by omega)).trans (hcc.2 k (by omega)).1, (g _ (by omega) (by omega) (by omega) (by omega)).trans (hcc.2 k (by omega)).2⟩
          · refine S_aload_n (q := 60) hX dX12_entry_59 rfl rfl ?_
            refine S_callV (ci := 12) (C := "FanTalkModel") (T := TX12) (N := 17) (q := 63) 0 0 hX (c_X12_full _ μ) rfl ?hs_12 rfl u_842 u_844 us_27 u_12 u_845 ⟨by decide, by decide, rfl⟩ ⟨Nat.le_of_ble_eq_true rfl, Nat.le_of_ble_eq_true rfl⟩ ⟨Nat.le_of_ble_eq_true rfl, Nat.le_of_ble_eq_true rfl⟩ (Nat.le_of_ble_eq_true rfl) dX12_entry_60 ?hp_12 rfl rfl rfl ?_
            case hs_12 => first | with_reducible assumption | exact ⟨_, by with_reducible assumption⟩ | exact MM.isO hM
            case hp_12 => exact hM
            rintro v σ sz1 ⟨μ9, hM, hF1, rfl, e9, rfl⟩
            have hF := hF.trans hF1
            refine S_iret hX dX12_entry_63 (Nat.zero_le _) (Nat.zero_le _) ?_
            refine hP _ _ _ ?_
            have hsp : sp_entry S x y z = (-4, rfS S 2) := by unfold sp_entry; rw [if_neg hnb, if_neg c41, if_pos (nI_inj (by omega) (by decide) c56)]
            rw [hsp]
            exact ⟨_, hM, hF, rfl, hR.rf (by decide) e9, rfl⟩
        · refine S_aload_n (q := 45) hX dX12_entry_44 rfl rfl ?_
          refine S_callV (ci := 12) (C := "FanTalkModel") (T := TX12) (N := 17) (q := 48) 0 0 hX (c_X12_no _ μ) rfl ?hs_13 rfl u_880 u_882 us_34 u_12 u_883 ⟨by decide, by decide, rfl⟩ ⟨Nat.le_of_ble_eq_true rfl, Nat.le_of_ble_eq_true rfl⟩ ⟨Nat.le_of_ble_eq_true rfl, Nat.le_of_ble_eq_true rfl⟩ (Nat.le_of_ble_eq_true rfl) dX12_entry_45 ?hp_13 rfl rfl rfl ?_
          case hs_13 => first | with_reducible assumption | exact ⟨_, by with_reducible assumption⟩ | exact MM.isO hM
          case hp_13 => exact hM
          rintro v σ sz1 ⟨μ9, hM, hF1, rfl, e9, rfl⟩
          have hF := hF.trans hF1
          refine S_iret hX dX12_entry_48 (Nat.zero_le _) (Nat.zero_le _) ?_
          refine hP _ _ _ ?_
          have hsp : sp_entry S x y z = (-3, rfS S 1) := by unfold sp_entry; rw [if_neg hnb, if_pos c41]
          rw [hsp]
          exact ⟨_, hM, hF, rfl, hR.rf (by decide) e9, rfl⟩
      · refine S_aload_n (q := 31) hX dX12_entry_30 rfl rfl ?_
        refine S_callV (ci := 12) (C := "FanTalkModel") (T := TX12) (N := 17) (q := 34) 0 0 hX (c_X12_bad _ μ) rfl ?hs_14 rfl u_864 u_866 us_30 u_12 u_867 ⟨by decide, by decide, rfl⟩ ⟨Nat.le_of_ble_eq_true rfl, Nat.le_of_ble_eq_true rfl⟩ ⟨Nat.le_of_ble_eq_true rfl, Nat.le_of_ble_eq_true rfl⟩ (Nat.le_of_ble_eq_true rfl) dX12_entry_31 ?hp_14 rfl rfl rfl ?_
        case hs_14 => first | with_reducible assumption | exact ⟨_, by with_reducible assumption⟩ | exact MM.isO hM
        case hp_14 => exact hM
        rintro v σ sz1 ⟨μ9, hM, hF1, rfl, e9, rfl⟩
        have hF := hF.trans hF1
        refine S_iret hX dX12_entry_34 (Nat.zero_le _) (Nat.zero_le _) ?_
        refine hP _ _ _ ?_
        have hsp : sp_entry S x y z = (-2, rfS S 0) := by unfold sp_entry; rw [if_pos (Or.inr (Or.inr c27))]
        rw [hsp]
        exact ⟨_, hM, hF, rfl, hR.rf (by decide) e9, rfl⟩
theorem c_X12_fact (m : Nat) (μ : MF) (S : ST) (x y : Int32) : CT_X12_fact [.ref m, .int x, .int y] (fun Γ σ sz => MM σ m μ ∧ MR μ S ∧ StOk S) (fun Γ σ sz v σ' sz' => ∃ μ', MM σ' m μ' ∧ Fr m (m + 9) σ σ' ∧ v = some (.int (sp_fact S x y).1) ∧ MR μ' (sp_fact S x y).2 ∧ sz' = sz) := by
  refine CT.mkP rfl (Nat.le_of_ble_eq_true rfl) [_, _, _] rfl ?_
  intro X Γ σ sz P hX hpre hsz hP
  obtain ⟨hM, hR, ok⟩ := hpre
  have hF : Fr m (m + 9) σ σ := Fr.rf
  have h0 := hR.1
  have hC0 := hR.2.1.1
  obtain ⟨q0, q1, q2, q3, q4, q5, q6, q7, q8, q9⟩ := id hR.2.1
  obtain ⟨o1, o2, o3, o4, o5, o6, o7, o8, o9, o10⟩ := id ok.1
  refine S_iload_n (q := 1) hX dX12_fact_0 rfl rfl ?_
  refine S_callS (q := 4) 0 0 hX (c_X12_lengthOf _) rfl u_861 u_862 u_12 u_863 ⟨by decide, by decide, rfl⟩ ⟨Nat.le_of_ble_eq_true rfl, Nat.le_of_ble_eq_true rfl⟩ ⟨Nat.le_of_ble_eq_true rfl, Nat.le_of_ble_eq_true rfl⟩ (Nat.le_of_ble_eq_true rfl) dX12_fact_1 ?hp_1 rfl rfl rfl ?_
  case hp_1 => trivial
  rintro v σ1 sz1 ⟨rfl, rfl, rfl⟩
  refine S_iconst (q := 5) (v := 1) hX dX12_fact_4 ic_1 rfl ?_
  refine S_iconst (q := 6) (v := 5) hX dX12_fact_5 ic_5 rfl ?_
  refine S_callS (q := 9) 0 0 hX (c_X12_in _ _ _) rfl u_858 u_859 u_12 u_860 ⟨by decide, by decide, rfl⟩ ⟨Nat.le_of_ble_eq_true rfl, Nat.le_of_ble_eq_true rfl⟩ ⟨Nat.le_of_ble_eq_true rfl, Nat.le_of_ble_eq_true rfl⟩ (Nat.le_of_ble_eq_true rfl) dX12_fact_6 ?hp_2 rfl rfl rfl ?_
  case hp_2 => trivial
  rintro v σ1 sz1 ⟨rfl, rfl, rfl⟩
  refine S_top (bi_congr (lnI_rg x.toInt 1 5 (by decide) (by decide) _ _ (by decide) (by decide))) ?_
  refine S_if_eq_b (q := 12) 22 hX dX12_fact_9 rfl rfl (fun c9 => ?_) (fun c9 => ?_)
  · refine S_aload_n (q := 23) hX dX12_fact_22 rfl rfl ?_
    refine S_callV (ci := 12) (C := "FanTalkModel") (T := TX12) (N := 17) (q := 26) 0 0 hX (c_X12_bad _ μ) rfl ?hs_3 rfl u_864 u_866 us_30 u_12 u_867 ⟨by decide, by decide, rfl⟩ ⟨Nat.le_of_ble_eq_true rfl, Nat.le_of_ble_eq_true rfl⟩ ⟨Nat.le_of_ble_eq_true rfl, Nat.le_of_ble_eq_true rfl⟩ (Nat.le_of_ble_eq_true rfl) dX12_fact_23 ?hp_3 rfl rfl rfl ?_
    case hs_3 => first | with_reducible assumption | exact ⟨_, by with_reducible assumption⟩ | exact MM.isO hM
    case hp_3 => exact hM
    rintro v σ sz1 ⟨μ9, hM, hF1, rfl, e9, rfl⟩
    have hF := hF.trans hF1
    refine S_iret hX dX12_fact_26 (Nat.zero_le _) (Nat.zero_le _) ?_
    refine hP _ _ _ ?_
    have hsp : sp_fact S x y = (-2, rfS S 0) := by unfold sp_fact; rw [if_pos (Or.inl c9)]
    rw [hsp]
    exact ⟨_, hM, hF, rfl, hR.rf (by decide) e9, rfl⟩
  · have cx := lnZ_row c9.1
    refine S_iload_n (q := 13) hX dX12_fact_12 rfl rfl ?_
    refine S_iconst (q := 14) (v := 0) hX dX12_fact_13 ic_0 rfl ?_
    refine S_bipush (q := 16) (v := 9) hX dX12_fact_14 bp_9 rfl ?_
    refine S_callS (q := 19) 0 0 hX (c_X12_in _ _ _) rfl u_858 u_859 u_12 u_860 ⟨by decide, by decide, rfl⟩ ⟨Nat.le_of_ble_eq_true rfl, Nat.le_of_ble_eq_true rfl⟩ ⟨Nat.le_of_ble_eq_true rfl, Nat.le_of_ble_eq_true rfl⟩ (Nat.le_of_ble_eq_true rfl) dX12_fact_16 ?hp_4 rfl rfl rfl ?_
    case hp_4 => trivial
    rintro v σ1 sz1 ⟨rfl, rfl, rfl⟩
    refine S_top (bi_congr (rg y 0 9 _ _ (by decide) (by decide))) ?_
    refine S_if_ne_b (q := 22) 27 hX dX12_fact_19 rfl rfl (fun c19 => ?_) (fun c19 => ?_)
    · have cy := tN_ex c19.1
      refine S_aload_n (q := 28) hX dX12_fact_27 rfl rfl ?_
      refine S_iconst (q := 29) (v := 4) hX dX12_fact_28 ic_4 rfl ?_
      refine S_callV (ci := 12) (C := "FanTalkModel") (T := TX12) (N := 17) (q := 32) 0 0 hX (c_X12_get _ μ _ 0 (4) (by first | rfl | (simp only [i0, i1, i2, i3, i4, i5, i6, i7, i8, i9, i10, i11, i12, i17, i20, i24, i26, i27, i31, i32, i36, i48, i57, i59, i60, i61, i63, i64, i87, i96, i97, i99, i122, i148, i250, i255, i305, i453, i999, i1359, i1812, pk_mul, nI_add]; done) | (simp only [i0, i1, i2, i3, i4, i5, i6, i7, i8, i9, i10, i11, i12, i17, i20, i24, i26, i27, i31, i32, i36, i48, i57, i59, i60, i61, i63, i64, i87, i96, i97, i99, i122, i148, i250, i255, i305, i453, i999, i1359, i1812, pk_mul, nI_add]; congr 1; omega))) rfl ?hs_5 rfl u_838 u_840 us_26 u_12 u_841 ⟨by decide, by decide, rfl⟩ ⟨Nat.le_of_ble_eq_true rfl, Nat.le_of_ble_eq_true rfl⟩ ⟨Nat.le_of_ble_eq_true rfl, Nat.le_of_ble_eq_true rfl⟩ (Nat.le_of_ble_eq_true rfl) dX12_fact_29 ?hp_5 rfl rfl rfl ?_
      case hs_5 => first | with_reducible assumption | exact ⟨_, by with_reducible assumption⟩ | exact MM.isO hM
      case hp_5 => exact ⟨hM, h0, by omega⟩
      rintro v σ1 sz1 ⟨rfl, rfl, rfl⟩
      rw [q4]
      refine S_bipush (q := 34) (v := 8) hX dX12_fact_32 bp_8 rfl ?_
      refine S_icmp_ne (q := 37) 42 hX dX12_fact_34 rfl rfl (fun c34 => ?_) (fun c34 => ?_)
      · refine S_aload_n (q := 43) hX dX12_fact_42 rfl rfl ?_
        refine S_bipush (q := 45) (v := 10) hX dX12_fact_43 bp_10 rfl ?_
        refine S_iconst (q := 46) (v := 2) hX dX12_fact_45 ic_2 rfl ?_
        refine S_aload_n (q := 47) hX dX12_fact_46 rfl rfl ?_
        refine S_iconst (q := 48) (v := 4) hX dX12_fact_47 ic_4 rfl ?_
        refine S_callV (ci := 12) (C := "FanTalkModel") (T := TX12) (N := 17) (q := 51) 0 0 hX (c_X12_get _ μ _ 0 (4) (by first | rfl | (simp only [i0, i1, i2, i3, i4, i5, i6, i7, i8, i9, i10, i11, i12, i17, i20, i24, i26, i27, i31, i32, i36, i48, i57, i59, i60, i61, i63, i64, i87, i96, i97, i99, i122, i148, i250, i255, i305, i453, i999, i1359, i1812, pk_mul, nI_add]; done) | (simp only [i0, i1, i2, i3, i4, i5, i6, i7, i8, i9, i10, i11, i12, i17, i20, i24, i26, i27, i31, i32, i36, i48, i57, i59, i60, i61, i63, i64, i87, i96, i97, i99, i122, i148, i250, i255, i305, i453, i999, i1359, i1812, pk_mul, nI_add]; congr 1; omega))) rfl ?hs_6 rfl u_838 u_840 us_26 u_12 u_841 ⟨by decide, by decide, rfl⟩ ⟨Nat.le_of_ble_eq_true rfl, Nat.le_of_ble_eq_true rfl⟩ ⟨Nat.le_of_ble_eq_true rfl, Nat.le_of_ble_eq_true rfl⟩ (Nat.le_of_ble_eq_true rfl) dX12_fact_48 ?hp_6 rfl rfl rfl ?_
        case hs_6 => first | with_reducible assumption | exact ⟨_, by with_reducible assumption⟩ | exact MM.isO hM
        case hp_6 => exact ⟨hM, h0, by omega⟩
        rintro v σ1 sz1 ⟨rfl, rfl, rfl⟩
        rw [q4]
        refine S_imul (q := 52) hX dX12_fact_51 rfl ?_
        refine S_iadd (q := 53) hX dX12_fact_52 rfl ?_
        refine S_iload_n (q := 54) hX dX12_fact_53 rfl rfl ?_
        refine S_callV (ci := 12) (C := "FanTalkModel") (T := TX12) (N := 17) (q := 57) 0 0 hX (c_X12_set _ μ _ _ 0 (10 + 2 * S.1.2.2.2.2.2.1) (by first | rfl | (simp only [i0, i1, i2, i3, i4, i5, i6, i7, i8, i9, i10, i11, i12, i17, i20, i24, i26, i27, i31, i32, i36, i48, i57, i59, i60, i61, i63, i64, i87, i96, i97, i99, i122, i148, i250, i255, i305, i453, i999, i1359, i1812, pk_mul, nI_add]; done) | (simp only [i0, i1, i2, i3, i4, i5, i6, i7, i8, i9, i10, i11, i12, i17, i20, i24, i26, i27, i31, i32, i36, i48, i57, i59, i60, i61, i63, i64, i87, i96, i97, i99, i122, i148, i250, i255, i305, i453, i999, i1359, i1812, pk_mul, nI_add]; congr 1; omega))) rfl ?hs_7 rfl u_846 u_848 us_28 u_12 u_849 ⟨by decide, by decide, rfl⟩ ⟨Nat.le_of_ble_eq_true rfl, Nat.le_of_ble_eq_true rfl⟩ ⟨Nat.le_of_ble_eq_true rfl, Nat.le_of_ble_eq_true rfl⟩ (Nat.le_of_ble_eq_true rfl) dX12_fact_54 ?hp_7 rfl rfl rfl ?_
        case hs_7 => first | with_reducible assumption | exact ⟨_, by with_reducible assumption⟩ | exact MM.isO hM
        case hp_7 => exact ⟨hM, h0, by omega⟩
        rintro v σ sz1 ⟨μ1, hM, hF1, rfl, e1, rfl⟩
        have hF := hF.trans hF1
        have h0 : μ1 0 0 = nI 0 := by rw [e1, m2_o (by decide)]; exact h0
        refine S_aload_n (q := 58) hX dX12_fact_57 rfl rfl ?_
        refine S_bipush (q := 60) (v := 10) hX dX12_fact_58 bp_10 rfl ?_
        refine S_iconst (q := 61) (v := 2) hX dX12_fact_60 ic_2 rfl ?_
        refine S_aload_n (q := 62) hX dX12_fact_61 rfl rfl ?_
        refine S_iconst (q := 63) (v := 4) hX dX12_fact_62 ic_4 rfl ?_
        refine S_callV (ci := 12) (C := "FanTalkModel") (T := TX12) (N := 17) (q := 66) 0 0 hX (c_X12_get _ μ1 _ 0 (4) (by first | rfl | (simp only [i0, i1, i2, i3, i4, i5, i6, i7, i8, i9, i10, i11, i12, i17, i20, i24, i26, i27, i31, i32, i36, i48, i57, i59, i60, i61, i63, i64, i87, i96, i97, i99, i122, i148, i250, i255, i305, i453, i999, i1359, i1812, pk_mul, nI_add]; done) | (simp only [i0, i1, i2, i3, i4, i5, i6, i7, i8, i9, i10, i11, i12, i17, i20, i24, i26, i27, i31, i32, i36, i48, i57, i59, i60, i61, i63, i64, i87, i96, i97, i99, i122, i148, i250, i255, i305, i453, i999, i1359, i1812, pk_mul, nI_add]; congr 1; omega))) rfl ?hs_8 rfl u_838 u_840 us_26 u_12 u_841 ⟨by decide, by decide, rfl⟩ ⟨Nat.le_of_ble_eq_true rfl, Nat.le_of_ble_eq_true rfl⟩ ⟨Nat.le_of_ble_eq_true rfl, Nat.le_of_ble_eq_true rfl⟩ (Nat.le_of_ble_eq_true rfl) dX12_fact_63 ?hp_8 rfl rfl rfl ?_
        case hs_8 => first | with_reducible assumption | exact ⟨_, by with_reducible assumption⟩ | exact MM.isO hM
        case hp_8 => exact ⟨hM, h0, by omega⟩
        rintro v σ1 sz1 ⟨rfl, rfl, rfl⟩
        rw [e1, m2_n (by omega), q4]
        refine S_imul (q := 67) hX dX12_fact_66 rfl ?_
        refine S_iadd (q := 68) hX dX12_fact_67 rfl ?_
        refine S_iconst (q := 69) (v := 1) hX dX12_fact_68 ic_1 rfl ?_
        refine S_iadd (q := 70) hX dX12_fact_69 rfl ?_
        refine S_iload_n (q := 71) hX dX12_fact_70 rfl rfl ?_
        refine S_callV (ci := 12) (C := "FanTalkModel") (T := TX12) (N := 17) (q := 74) 0 0 hX (c_X12_set _ μ1 _ _ 0 (10 + 2 * S.1.2.2.2.2.2.1 + 1) (by first | rfl | (simp only [i0, i1, i2, i3, i4, i5, i6, i7, i8, i9, i10, i11, i12, i17, i20, i24, i26, i27, i31, i32, i36, i48, i57, i59, i60, i61, i63, i64, i87, i96, i97, i99, i122, i148, i250, i255, i305, i453, i999, i1359, i1812, pk_mul, nI_add]; done) | (simp only [i0, i1, i2, i3, i4, i5, i6, i7, i8, i9, i10, i11, i12, i17, i20, i24, i26, i27, i31, i32, i36, i48, i57, i59, i60, i61, i63, i64, i87, i96, i97, i99, i122, i148, i250, i255, i305, i453, i999, i1359, i1812, pk_mul, nI_add]; congr 1; omega))) rfl ?hs_9 rfl u_846 u_848 us_28 u_12 u_849 ⟨by decide, by decide, rfl⟩ ⟨Nat.le_of_ble_eq_true rfl, Nat.le_of_ble_eq_true rfl⟩ ⟨Nat.le_of_ble_eq_true rfl, Nat.le_of_ble_eq_true rfl⟩ (Nat.le_of_ble_eq_true rfl) dX12_fact_71 ?hp_9 rfl rfl rfl ?_
        case hs_9 => first | with_reducible assumption | exact ⟨_, by with_reducible assumption⟩ | exact MM.isO hM
        case hp_9 => exact ⟨hM, h0, by omega⟩
        rintro v σ sz1 ⟨μ2, hM, hF1, rfl, e2, rfl⟩
        have hF := hF.trans hF1
        have h0 : μ2 0 0 = nI 0 := by rw [e2, m2_o (by decide)]; exact h0
        refine S_aload_n (q := 75) hX dX12_fact_74 rfl rfl ?_
        refine S_iconst (q := 76) (v := 4) hX dX12_fact_75 ic_4 rfl ?_
        refine S_aload_n (q := 77) hX dX12_fact_76 rfl rfl ?_
        refine S_iconst (q := 78) (v := 4) hX dX12_fact_77 ic_4 rfl ?_
        refine S_callV (ci := 12) (C := "FanTalkModel") (T := TX12) (N := 17) (q := 81) 0 0 hX (c_X12_get _ μ2 _ 0 (4) (by first | rfl | (simp only [i0, i1, i2, i3, i4, i5, i6, i7, i8, i9, i10, i11, i12, i17, i20, i24, i26, i27, i31, i32, i36, i48, i57, i59, i60, i61, i63, i64, i87, i96, i97, i99, i122, i148, i250, i255, i305, i453, i999, i1359, i1812, pk_mul, nI_add]; done) | (simp only [i0, i1, i2, i3, i4, i5, i6, i7, i8, i9, i10, i11, i12, i17, i20, i24, i26, i27, i31, i32, i36, i48, i57, i59, i60, i61, i63, i64, i87, i96, i97, i99, i122, i148, i250, i255, i305, i453, i999, i1359, i1812, pk_mul, nI_add]; congr 1; omega))) rfl ?hs_10 rfl u_838 u_840 us_26 u_12 u_841 ⟨by decide, by decide, rfl⟩ ⟨Nat.le_of_ble_eq_true rfl, Nat.le_of_ble_eq_true rfl⟩ ⟨Nat.le_of_ble_eq_true rfl, Nat.le_of_ble_eq_true rfl⟩ (Nat.le_of_ble_eq_true rfl) dX12_fact_78 ?hp_10 rfl rfl rfl ?_
        case hs_10 => first | with_reducible assumption | exact ⟨_, by with_reducible assumption⟩ | exact MM.isO hM
        case hp_10 => exact ⟨hM, h0, by omega⟩
        rintro v σ1 sz1 ⟨rfl, rfl, rfl⟩
        rw [e2, m2_n (by omega), e1, m2_n (by omega), q4]
        refine S_iconst (q := 82) (v := 1) hX dX12_fact_81 ic_1 rfl ?_
        refine S_iadd (q := 83) hX dX12_fact_82 rfl ?_
        refine S_callV (ci := 12) (C := "FanTalkModel") (T := TX12) (N := 17) (q := 86) 0 0 hX (c_X12_set _ μ2 _ _ 0 (4) (by first | rfl | (simp only [i0, i1, i2, i3, i4, i5, i6, i7, i8, i9, i10, i11, i12, i17, i20, i24, i26, i27, i31, i32, i36, i48, i57, i59, i60, i61, i63, i64, i87, i96, i97, i99, i122, i148, i250, i255, i305, i453, i999, i1359, i1812, pk_mul, nI_add]; done) | (simp only [i0, i1, i2, i3, i4, i5, i6, i7, i8, i9, i10, i11, i12, i17, i20, i24, i26, i27, i31, i32, i36, i48, i57, i59, i60, i61, i63, i64, i87, i96, i97, i99, i122, i148, i250, i255, i305, i453, i999, i1359, i1812, pk_mul, nI_add]; congr 1; omega))) rfl ?hs_11 rfl u_846 u_848 us_28 u_12 u_849 ⟨by decide, by decide, rfl⟩ ⟨Nat.le_of_ble_eq_true rfl, Nat.le_of_ble_eq_true rfl⟩ ⟨Nat.le_of_ble_eq_true rfl, Nat.le_of_ble_eq_true rfl⟩ (Nat.le_of_ble_eq_true rfl) dX12_fact_83 ?hp_11 rfl rfl rfl ?_
        case hs_11 => first | with_reducible assumption | exact ⟨_, by with_reducible assumption⟩ | exact MM.isO hM
        case hp_11 => exact ⟨hM, h0, by omega⟩
        rintro v σ sz1 ⟨μ3, hM, hF1, rfl, e3, rfl⟩
        have hF := hF.trans hF1
        have h0 : μ3 0 0 = nI 0 := by rw [e3, m2_o (by decide)]; exact h0
        refine S_aload_n (q := 87) hX dX12_fact_86 rfl rfl ?_
        refine S_iconst (q := 88) (v := 4) hX dX12_fact_87 ic_4 rfl ?_
        refine S_callV (ci := 12) (C := "FanTalkModel") (T := TX12) (N := 17) (q := 91) 0 0 hX (c_X12_get _ μ3 _ 0 (4) (by first | rfl | (simp only [i0, i1, i2, i3, i4, i5, i6, i7, i8, i9, i10, i11, i12, i17, i20, i24, i26, i27, i31, i32, i36, i48, i57, i59, i60, i61, i63, i64, i87, i96, i97, i99, i122, i148, i250, i255, i305, i453, i999, i1359, i1812, pk_mul, nI_add]; done) | (simp only [i0, i1, i2, i3, i4, i5, i6, i7, i8, i9, i10, i11, i12, i17, i20, i24, i26, i27, i31, i32, i36, i48, i57, i59, i60, i61, i63, i64, i87, i96, i97, i99, i122, i148, i250, i255, i305, i453, i999, i1359, i1812, pk_mul, nI_add]; congr 1; omega))) rfl ?hs_12 rfl u_838 u_840 us_26 u_12 u_841 ⟨by decide, by decide, rfl⟩ ⟨Nat.le_of_ble_eq_true rfl, Nat.le_of_ble_eq_true rfl⟩ ⟨Nat.le_of_ble_eq_true rfl, Nat.le_of_ble_eq_true rfl⟩ (Nat.le_of_ble_eq_true rfl) dX12_fact_88 ?hp_12 rfl rfl rfl ?_
        case hs_12 => first | with_reducible assumption | exact ⟨_, by with_reducible assumption⟩ | exact MM.isO hM
        case hp_12 => exact ⟨hM, h0, by omega⟩
        rintro v σ1 sz1 ⟨rfl, rfl, rfl⟩
        refine S_iconst (q := 92) (v := 1) hX dX12_fact_91 ic_1 rfl ?_
        refine S_isub (q := 93) hX dX12_fact_92 rfl ?_
        refine S_iret hX dX12_fact_93 (Nat.zero_le _) (Nat.zero_le _) ?_
        refine hP _ _ _ ?_
        have hne8 : S.1.2.2.2.2.2.1 ≠ 8 := fun q => c34 (by rw [q]; rfl)
        have hsp : sp_fact S x y = (nI S.1.2.2.2.2.2.1, stC S (S.1.1, S.1.2.1, S.1.2.2.1, S.1.2.2.2.1, S.1.2.2.2.2.1, (S.1.2.2.2.2.2.1 + 1, fu S.1.2.2.2.2.2.2 S.1.2.2.2.2.2.1 (tN x, tN y)))) := by unfold sp_fact; rw [if_neg (by rintro (q | q) <;> contradiction), if_neg (fun q => c34 (by rw [q]; rfl))]
        rw [hsp]
        refine ⟨_, hM, hF, by rw [e3, m2_y, i1, nI_add, pk_sub (by omega), Nat.add_sub_cancel], hR.now ok (fun j hj => by rw [e3, m2_o hj, e2, m2_o hj, e1, m2_o hj]) (fun i h1 h2 => by rw [e3, m2_n (by omega), e2, m2_n (by omega), e1, m2_n (by omega)]) ?_, rfl⟩
        have g : ∀ i, i ≠ 0 + (10 + 2 * S.1.2.2.2.2.2.1) → i ≠ 0 + (10 + 2 * S.1.2.2.2.2.2.1 + 1) → i ≠ 0 + 4 → μ3 1 i = μ 1 i := fun i h1 h2 h3 => by rw [e3, m2_n h3, e2, m2_n h2, e1, m2_n h1]
        refine hR.2.1.up ok.1 ((g _ (by omega) (by omega) (by omega)).trans q0) ((g _ (by omega) (by omega) (by omega)).trans q1) ((g _ (by omega) (by omega) (by omega)).trans q2) ((g _ (by omega) (by omega) (by omega)).trans q3) (by rw [e3, m2_y, i1, nI_add]) ((g _ (by omega) (by omega) (by omega)).trans q5) (Or.inl ⟨rfl, fun i h1 h2 => g _ (by omega) (by omega) (by omega)⟩) (Or.inr fun k hk => ?_) (Or.inl ⟨rfl, fun i h1 h2 => g _ (by omega) (by omega) (by omega)⟩) (Or.inl ⟨rfl, fun i h1 h2 => g _ (by omega) (by omega) (by omega)⟩)
        have hk : k < S.1.2.2.2.2.2.1 + 1 := hk
        show μ3 1 (0 + (10 + 2 * k)) = nI (fu S.1.2.2.2.2.2.2 S.1.2.2.2.2.2.1 (tN x, tN y) k).1 ∧ μ3 1 (0 + (10 + 2 * k + 1)) = nI (fu S.1.2.2.2.2.2.2 S.1.2.2.2.2.2.1 (tN x, tN y) k).2
        by_cases hkn : k = S.1.2.2.2.2.2.1
        · subst hkn
          rw [fu_eq, e3, m2_n (by omega), m2_n (by omega), e2, m2_n (by omega), m2_y, e1, m2_y]
          exact ⟨cx.1, cy.1⟩
        · rw [fu_ne hkn]
          exact ⟨(g _ (by omega) (by omega) (by omega)).trans (q7 k (by omega)).1, (g _ (by omega) (by omega) (by omega)).trans (q7 k (by omega)).2⟩
      · refine S_aload_n (q := 38) hX dX12_fact_37 rfl rfl ?_
        refine S_callV (ci := 12) (C := "FanTalkModel") (T := TX12) (N := 17) (q := 41) 0 0 hX (c_X12_full _ μ) rfl ?hs_13 rfl u_842 u_844 us_27 u_12 u_845 ⟨by decide, by decide, rfl⟩ ⟨Nat.le_of_ble_eq_true rfl, Nat.le_of_ble_eq_true rfl⟩ ⟨Nat.le_of_ble_eq_true rfl, Nat.le_of_ble_eq_true rfl⟩ (Nat.le_of_ble_eq_true rfl) dX12_fact_38 ?hp_13 rfl rfl rfl ?_
        case hs_13 => first | with_reducible assumption | exact ⟨_, by with_reducible assumption⟩ | exact MM.isO hM
        case hp_13 => exact hM
        rintro v σ sz1 ⟨μ9, hM, hF1, rfl, e9, rfl⟩
        have hF := hF.trans hF1
        refine S_iret hX dX12_fact_41 (Nat.zero_le _) (Nat.zero_le _) ?_
        refine hP _ _ _ ?_
        have hsp : sp_fact S x y = (-4, rfS S 2) := by unfold sp_fact; rw [if_neg (by rintro (q | q) <;> contradiction), if_pos (nI_inj (by omega) (by decide) c34)]
        rw [hsp]
        exact ⟨_, hM, hF, rfl, hR.rf (by decide) e9, rfl⟩
    · refine S_aload_n (q := 23) hX dX12_fact_22 rfl rfl ?_
      refine S_callV (ci := 12) (C := "FanTalkModel") (T := TX12) (N := 17) (q := 26) 0 0 hX (c_X12_bad _ μ) rfl ?hs_14 rfl u_864 u_866 us_30 u_12 u_867 ⟨by decide, by decide, rfl⟩ ⟨Nat.le_of_ble_eq_true rfl, Nat.le_of_ble_eq_true rfl⟩ ⟨Nat.le_of_ble_eq_true rfl, Nat.le_of_ble_eq_true rfl⟩ (Nat.le_of_ble_eq_true rfl) dX12_fact_23 ?hp_14 rfl rfl rfl ?_
      case hs_14 => first | with_reducible assumption | exact ⟨_, by with_reducible assumption⟩ | exact MM.isO hM
      case hp_14 => exact hM
      rintro v σ sz1 ⟨μ9, hM, hF1, rfl, e9, rfl⟩
      have hF := hF.trans hF1
      refine S_iret hX dX12_fact_26 (Nat.zero_le _) (Nat.zero_le _) ?_
      refine hP _ _ _ ?_
      have hsp : sp_fact S x y = (-2, rfS S 0) := by unfold sp_fact; rw [if_pos (Or.inr c19)]
      rw [hsp]
      exact ⟨_, hM, hF, rfl, hR.rf (by decide) e9, rfl⟩
theorem c_X12_type (m : Nat) (μ : MF) (S : ST) (v : Int64) (x : Int32) : CT_X12_type [.ref m, .long v, .int x] (fun Γ σ sz => MM σ m μ ∧ MR μ S ∧ StOk S) (fun Γ σ sz vv σ' sz' => ∃ μ', MM σ' m μ' ∧ Fr m (m + 9) σ σ' ∧ vv = some (.int (sp_type S v x).1) ∧ MR μ' (sp_type S v x).2 ∧ sz' = sz) := by
  refine CT.mkP rfl (Nat.le_of_ble_eq_true rfl) [_, _, _, _, _] rfl ?_
  intro X Γ σ sz P hX hpre hsz hP
  obtain ⟨hM, hR, ok⟩ := hpre
  have hF : Fr m (m + 9) σ σ := Fr.rf
  have h0 := hR.1
  have hC0 := hR.2.1.1
  obtain ⟨q0, q1, q2, q3, q4, q5, q6, q7, q8, q9⟩ := id hR.2.1
  obtain ⟨o1, o2, o3, o4, o5, o6, o7, o8, o9, o10⟩ := id ok.1
  obtain ⟨σ0, eσ0⟩ : ∃ z, z = σ := ⟨σ, rfl⟩
  rw [← eσ0] at hP
  have hF : Fr m (m + 9) σ0 σ := by rw [eσ0]; exact Fr.rf
  have loop : ∀ (fl : Nat) (k : Nat) (t : Nat × (Nat → Nat)) (σ : Sg) (μ1 : MF) (xi : Int32), sp_type S v x = (nI (S.2.2.2.1 + tN x), (S.1, S.2.1, S.2.2.1, tyT v (tN x) S.2.2.2)) → xi = nI k - 1 → k ≤ 8 → k < fl → t.1 + k ≤ 250 → tyT v k t = tyT v (tN x) S.2.2.2 → MM σ m μ1 → Fr m (m + 9) σ0 σ → MR μ1 (S.1, S.2.1, S.2.2.1, t) → G X Γ P 0 0 37 [some (.ref m), some (.long v), none, some (.int x), some (.int xi)] [] σ sz := by
    intro fl
    induction fl with
    | zero =>
      rintro k t σ μ1 _ hsp rfl hk hfu ht hT hM hF hR1
      exact absurd hfu (Nat.not_lt_zero _)
    | succ fl ih =>
      rintro k t σ μ1 _ hsp rfl hk hfu ht hT hM hF hR1
      refine S_iload (q := 39) hX dX12_type_37 rfl rfl ?_
      refine S_if_lt (q := 42) 80 hX dX12_type_39 rfl rfl (fun c39 => ?_) (fun c39 => ?_)
      · refine S_aload_n (q := 81) hX dX12_type_80 rfl rfl ?_
        refine S_getf (fs := ?fs_1) (v := ?v_1) (q := 84) hX u_787 fo_X12_typed dX12_type_81 ?hs_1 ?hv_1 rfl ?_
        case hs_1 => with_reducible first | exact MM.c0 hM | exact MM.c1 hM | exact MM.c5 hM | exact MM.c6 hM | exact MM.c7 hM | exact MM.c3 hM | exact MM.c4 hM | exact MM.c8 hM | exact MM.c2 hM
        case hv_1 => rfl
        refine S_iret hX dX12_type_84 (Nat.zero_le _) (Nat.zero_le _) ?_
        refine hP _ _ _ ?_
        have hk0 : k = 0 := by
          rcases Nat.eq_zero_or_pos k with q | q
          · exact q
          · exfalso
            rw [i1, pk_sub (by omega)] at c39
            exact nI_pos (by omega) c39
        subst hk0
        rw [hsp]
        have hT : t = tyT v (tN x) S.2.2.2 := hT
        refine ⟨_, hM, hF, ?_, by rw [← hT]; exact hR1, rfl⟩
        rw [show μ1 0 1 = nI t.1 from hR1.2.2.2.2.1, hT, tyT_len]
      · have hk0 : k ≠ 0 := fun z => by subst z; exact c39 (by decide)
        refine S_aload_n (q := 43) hX dX12_type_42 rfl rfl ?_
        refine S_getf (fs := ?fs_2) (v := ?v_2) (q := 46) hX u_786 fo_X12_text dX12_type_43 ?hs_2 ?hv_2 rfl ?_
        case hs_2 => with_reducible first | exact MM.c0 hM | exact MM.c1 hM | exact MM.c5 hM | exact MM.c6 hM | exact MM.c7 hM | exact MM.c3 hM | exact MM.c4 hM | exact MM.c8 hM | exact MM.c2 hM
        case hv_2 => rfl
        refine S_aload_n (q := 47) hX dX12_type_46 rfl rfl ?_
        refine S_getf (fs := ?fs_3) (v := ?v_3) (q := 50) hX u_787 fo_X12_typed dX12_type_47 ?hs_3 ?hv_3 rfl ?_
        case hs_3 => with_reducible first | exact MM.c0 hM | exact MM.c1 hM | exact MM.c5 hM | exact MM.c6 hM | exact MM.c7 hM | exact MM.c3 hM | exact MM.c4 hM | exact MM.c8 hM | exact MM.c2 hM
        case hv_3 => rfl
        refine S_lload_n (q := 51) hX dX12_type_50 rfl rfl ?_
        refine S_bipush (q := 53) (v := 8) hX dX12_type_51 bp_8 rfl ?_
        refine S_iload (q := 55) hX dX12_type_53 rfl rfl ?_
        refine S_imul (q := 56) hX dX12_type_55 rfl ?_
        refine S_lshr (q := 57) hX dX12_type_56 rfl ?_
        refine S_ldc2 (q := 60) hX u_904 dX12_type_57 rfl ?_
        refine S_land (q := 61) hX dX12_type_60 rfl ?_
        refine S_l2i (q := 62) hX dX12_type_61 rfl ?_
        refine S_i2b (q := 63) hX dX12_type_62 rfl ?_
        refine S_nm (fun x63 hx63 => ?_)
        refine S_bast (N := ?n_4) (f := ?f_4) (q := 64) hX dX12_type_63 ?hs_4 ?hi_4 rfl ?_
        case hs_4 => with_reducible first | exact MM.c0 hM | exact MM.c1 hM | exact MM.c5 hM | exact MM.c6 hM | exact MM.c7 hM | exact MM.c3 hM | exact MM.c4 hM | exact MM.c8 hM | exact MM.c2 hM
        case hi_4 => rw [show μ1 0 1 = nI t.1 from hR1.2.2.2.2.1]; exact vp_in_nI (by omega) (by decide)
        refine S_stu (q0 := m) (j := 4) (i := _) hM hF (by decide) rfl (fun σ μ63 e63 hM hF => ?_)
        subst hx63
        refine S_aload_n (q := 65) hX dX12_type_64 rfl rfl ?_
        refine S_dup (q := 66) hX dX12_type_65 rfl rfl ?_
        refine S_getf (fs := ?fs_5) (v := ?v_5) (q := 69) hX u_787 fo_X12_typed dX12_type_66 ?hs_5 ?hv_5 rfl ?_
        case hs_5 => with_reducible first | exact MM.c0 hM | exact MM.c1 hM | exact MM.c5 hM | exact MM.c6 hM | exact MM.c7 hM | exact MM.c3 hM | exact MM.c4 hM | exact MM.c8 hM | exact MM.c2 hM
        case hv_5 => rfl
        refine S_iconst (q := 70) (v := 1) hX dX12_type_69 ic_1 rfl ?_
        refine S_iadd (q := 71) hX dX12_type_70 rfl ?_
        refine S_nm (fun x71 hx71 => ?_)
        refine S_putf (fs := ?fs_6) (q := 74) hX u_787 fo_X12_typed rfl rfl ?hl_6 dX12_type_71 ?hs_6 rfl ?_
        case hs_6 => with_reducible first | exact MM.c0 hM | exact MM.c1 hM | exact MM.c5 hM | exact MM.c6 hM | exact MM.c7 hM | exact MM.c3 hM | exact MM.c4 hM | exact MM.c8 hM | exact MM.c2 hM
        case hl_6 => exact Nat.le_of_ble_eq_true rfl
        refine S_stu (q0 := m) (j := 0) (i := 1) hM hF (by decide) rfl (fun σ μ71 e71 hM hF => ?_)
        subst hx71
        refine S_iinc (q := 77) [_, _, _, _, _] hX dX12_type_74 rfl (ii_m1 _) rfl (Nat.le_of_ble_eq_true rfl) rfl rfl ?_
        refine S_goto 37 hX dX12_type_77 rfl ?_
        obtain ⟨k, rfl⟩ : ∃ j, k = j + 1 := ⟨k - 1, by omega⟩
        have ek : nI (k + 1) - 1 = nI k := by rw [i1]; exact pk_sub (by omega)
        have h01 : μ1 0 1 = nI t.1 := hR1.2.2.2.2.1
        have ev : ((v >>> ((8 * (nI (k + 1) - 1)).toInt64 &&& 63)) &&& 255).toInt32 = nI (byN v k) := by
          rw [ek, i8, pk_mul]
          exact byte_l v (by omega)
        rw [h01, nI_clamp (by omega), ev, pk_vb] at e63
        have e1 : μ63 0 1 = nI t.1 := by rw [e63, m2_o (by decide)]; exact h01
        rw [e1, i1, nI_add] at e71
        rw [ek]
        refine ih k (t.1 + 1, fu t.2 t.1 (byN v k)) σ μ71 _ hsp (by rw [Int32.sub_eq_add_neg]) (by omega) (by omega) (by show t.1 + 1 + k ≤ 250; omega) (by rw [← hT]; rfl) hM hF ?_
        obtain ⟨r0, r1, r2, r3, r4, r5⟩ := hR1
        refine ⟨by rw [e71, m2_at, if_neg (by decide), e63, m2_o (by decide)]; exact r0, by rw [e71, m2_o (by decide), e63, m2_o (by decide)]; exact r1, fun i hi => by rw [e71, m2_o (by decide), m2_o (by decide), e63, m2_o (by decide), m2_o (by decide)]; exact r2 i hi, fun i hi => by rw [e71, m2_o (by decide), e63, m2_o (by decide)]; exact r3 i hi, by rw [e71, m2_at, if_pos ⟨rfl, rfl⟩], fun i hi => ?_⟩
        have hi : i < t.1 + 1 := hi
        show μ71 4 i = (nI (fu t.2 t.1 (byN v k) i)).toInt8.toInt32
        rw [e71, m2_o (by decide), e63, m2_at]
        by_cases hin : i = t.1
        · rw [if_pos ⟨rfl, hin⟩, hin, fu_eq]
        · rw [if_neg (fun z => hin z.2), fu_ne hin]
          exact r5 i (show i < t.1 by omega)
  refine S_iload_n (q := 1) hX dX12_type_0 rfl rfl ?_
  refine S_iconst (q := 2) (v := 1) hX dX12_type_1 ic_1 rfl ?_
  refine S_bipush (q := 4) (v := 8) hX dX12_type_2 bp_8 rfl ?_
  refine S_callS (q := 7) 0 0 hX (c_X12_in _ _ _) rfl u_858 u_859 u_12 u_860 ⟨by decide, by decide, rfl⟩ ⟨Nat.le_of_ble_eq_true rfl, Nat.le_of_ble_eq_true rfl⟩ ⟨Nat.le_of_ble_eq_true rfl, Nat.le_of_ble_eq_true rfl⟩ (Nat.le_of_ble_eq_true rfl) dX12_type_4 ?hp_7 rfl rfl rfl ?_
  case hp_7 => trivial
  rintro v σ1 sz1 ⟨rfl, rfl, rfl⟩
  refine S_top (bi_congr (rg x 1 8 _ _ (by decide) (by decide))) ?_
  refine S_if_ne_b (q := 10) 15 hX dX12_type_7 rfl rfl (fun c7 => ?_) (fun c7 => ?_)
  · refine S_aload_n (q := 16) hX dX12_type_15 rfl rfl ?_
    refine S_getf (fs := ?fs_8) (v := ?v_8) (q := 19) hX u_787 fo_X12_typed dX12_type_16 ?hs_8 ?hv_8 rfl ?_
    case hs_8 => with_reducible first | exact MM.c0 hM | exact MM.c1 hM | exact MM.c5 hM | exact MM.c6 hM | exact MM.c7 hM | exact MM.c3 hM | exact MM.c4 hM | exact MM.c8 hM | exact MM.c2 hM
    case hv_8 => rfl
    refine S_iload_n (q := 20) hX dX12_type_19 rfl rfl ?_
    refine S_iadd (q := 21) hX dX12_type_20 rfl ?_
    refine S_sipush (q := 24) (v := 250) hX dX12_type_21 sp_250 rfl ?_
    refine S_icmp_le (q := 27) 32 hX dX12_type_24 rfl rfl (fun c24 => ?_) (fun c24 => ?_)
    · refine S_iload_n (q := 33) hX dX12_type_32 rfl rfl ?_
      refine S_iconst (q := 34) (v := 1) hX dX12_type_33 ic_1 rfl ?_
      refine S_isub (q := 35) hX dX12_type_34 rfl ?_
      refine S_istore (q := 37) [_, _, _, _, _] hX dX12_type_35 rfl (Nat.le_of_ble_eq_true rfl) rfl rfl ?_
      have cx := tN_ex (x := x) (by have := c7.1; omega)
      have hx8 := c7.2
      have ht250 := ok.2.2.1
      have hle : S.2.2.2.1 + tN x ≤ 250 := by
        rw [hR.2.2.2.2.1, cx.1, nI_add, show (250 : Int32) = nI 250 from rfl, nI_leI (by omega) (by omega)] at c24
        exact c24
      refine loop 9 (tN x) S.2.2.2 _ μ _ (by unfold sp_type; rw [if_neg (fun z => z c7), if_neg (by omega)]) (by rw [← cx.1]) (by omega) (by omega) hle rfl hM hF hR
    · refine S_aload_n (q := 28) hX dX12_type_27 rfl rfl ?_
      refine S_callV (ci := 12) (C := "FanTalkModel") (T := TX12) (N := 17) (q := 31) 0 0 hX (c_X12_full _ μ) rfl ?hs_9 rfl u_842 u_844 us_27 u_12 u_845 ⟨by decide, by decide, rfl⟩ ⟨Nat.le_of_ble_eq_true rfl, Nat.le_of_ble_eq_true rfl⟩ ⟨Nat.le_of_ble_eq_true rfl, Nat.le_of_ble_eq_true rfl⟩ (Nat.le_of_ble_eq_true rfl) dX12_type_28 ?hp_9 rfl rfl rfl ?_
      case hs_9 => first | with_reducible assumption | exact ⟨_, by with_reducible assumption⟩ | exact MM.isO hM
      case hp_9 => exact hM
      rintro v σ sz1 ⟨μ9, hM, hF1, rfl, e9, rfl⟩
      have hF := hF.trans hF1
      refine S_iret hX dX12_type_31 (Nat.zero_le _) (Nat.zero_le _) ?_
      refine hP _ _ _ ?_
      have cx := tN_ex (x := x) (by have := c7.1; omega)
      have hx8 := c7.2
      have ht := ok.2.2.1
      have hsp : sp_type S v x = (-4, rfS S 2) := by unfold sp_type; rw [if_neg (fun z => z c7), if_pos (by rw [hR.2.2.2.2.1, cx.1, nI_add, show (250 : Int32) = nI 250 from rfl, nI_leI (by omega) (by omega)] at c24; omega)]
      rw [hsp]
      exact ⟨_, hM, hF, rfl, hR.rf (by decide) e9, rfl⟩
  · refine S_aload_n (q := 11) hX dX12_type_10 rfl rfl ?_
    refine S_callV (ci := 12) (C := "FanTalkModel") (T := TX12) (N := 17) (q := 14) 0 0 hX (c_X12_bad _ μ) rfl ?hs_10 rfl u_864 u_866 us_30 u_12 u_867 ⟨by decide, by decide, rfl⟩ ⟨Nat.le_of_ble_eq_true rfl, Nat.le_of_ble_eq_true rfl⟩ ⟨Nat.le_of_ble_eq_true rfl, Nat.le_of_ble_eq_true rfl⟩ (Nat.le_of_ble_eq_true rfl) dX12_type_11 ?hp_10 rfl rfl rfl ?_
    case hs_10 => first | with_reducible assumption | exact ⟨_, by with_reducible assumption⟩ | exact MM.isO hM
    case hp_10 => exact hM
    rintro v σ sz1 ⟨μ9, hM, hF1, rfl, e9, rfl⟩
    have hF := hF.trans hF1
    refine S_iret hX dX12_type_14 (Nat.zero_le _) (Nat.zero_le _) ?_
    refine hP _ _ _ ?_
    have hsp : sp_type S v x = (-2, rfS S 0) := by unfold sp_type; rw [if_pos c7]
    rw [hsp]
    exact ⟨_, hM, hF, rfl, hR.rf (by decide) e9, rfl⟩
