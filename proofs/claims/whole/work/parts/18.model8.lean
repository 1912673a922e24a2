/-! the reference: utter, undo, year -/
theorem c_X12_utter (m : Nat) (μ : MF) (S : ST) (x : Int32) : CT_X12_utter [.ref m, .int x] (fun Γ σ sz => MM σ m μ ∧ MR μ S ∧ StOk S) (fun Γ σ sz v σ' sz' => ∃ μ', MM σ' m μ' ∧ Fr m (m + 9) σ σ' ∧ v = some (.int (sp_utter S x).1) ∧ MR μ' (sp_utter S x).2 ∧ sz' = sz) := by
  refine CT.mkP rfl (Nat.le_of_ble_eq_true rfl) [_, _, _, _] rfl ?_
  intro X Γ σ sz P hX hpre hsz hP
  obtain ⟨hM, hR, ok⟩ := hpre
  have hF : Fr m (m + 9) σ σ := Fr.rf
  have h0 := hR.1
  have hC0 := hR.2.1.1
  obtain ⟨q0, q1, q2, q3, q4, q5, q6, q7, q8, q9⟩ := id hR.2.1
  obtain ⟨o1, o2, o3, o4, o5, o6, o7, o8, o9, o10⟩ := id ok.1
  obtain ⟨σ0, eσ0⟩ : ∃ z, z = σ := ⟨σ, rfl⟩
  rw [← eσ0] at hP
  have hF : Fr m (m + 9) σ0 σ := by rw [eσ0]; exact Fr.rf
  obtain ⟨LL, eLL⟩ : ∃ z, z = rdS S 0 (tN x) := ⟨_, rfl⟩
  have loop : ∀ (fl : Nat) (k : Nat) (σ : Sg) (xk : Int32) (μk : MF), okc x S.1.1.1 → xk = nI k → k ≤ LL.length → LL.length - k < fl → MM σ m μk → Fr m (m + 9) σ0 σ → MR μk (stC (kS S) ((S.1.1.1, S.1.1.2.1, usL S.1.1.2.2 (LL.take k)), psh S.1.2.1 S.1.1, S.1.2.2)) → μk 0 8 = nI LL.length → WL (μk 7) LL → G X Γ P 0 0 25 [some (.ref m), some (.int x), some (.int xk), none] [] σ sz := by
    intro fl
    induction fl with
    | zero =>
      rintro k σ _ μk c5 rfl hk hfu hM hF hRk hlk hwk
      exact absurd hfu (Nat.not_lt_zero _)
    | succ fl ih =>
      rintro k σ _ μk c5 rfl hk hfu hM hF hRk hlk hwk
      have h6 : LL.length ≤ 6 := by rw [eLL]; exact rdS_len _ _ _
      have hL10 : ∀ w ∈ LL, w < 10 := by rw [eLL]; exact rdS_10 ok (okc.ex c5).2.1
      have h0 := hRk.1
      have hu9 := usL_le (u := S.1.1.2.2) (LL.take k) S.1.1.2.2 o2.2.2
      have okk := kS_ok ok
      have hw9 := getD_10 hL10 k
      have hug : μk 1 (0 + 26 + LL.getD k 0) = nI (usL S.1.1.2.2 (LL.take k) (LL.getD k 0)) := hRk.2.1.2.2.2.2.2.2.2.2.1.1 _ hw9
      refine S_iload_n (q := 26) hX dX12_utter_25 rfl rfl ?_
      refine S_aload_n (q := 27) hX dX12_utter_26 rfl rfl ?_
      refine S_getf (fs := ?fs_1) (v := ?v_1) (q := 30) hX u_797 fo_X12_wordMany dX12_utter_27 ?hs_1 ?hv_1 rfl ?_
      case hs_1 => with_reducible first | exact MM.c0 hM | exact MM.c1 hM | exact MM.c5 hM | exact MM.c6 hM | exact MM.c7 hM | exact MM.c3 hM | exact MM.c4 hM | exact MM.c8 hM | exact MM.c2 hM
      case hv_1 => rfl
      refine S_icmp_ge (q := 33) 80 hX dX12_utter_30 rfl rfl (fun c30 => ?_) (fun c30 => ?_)
      · have hge : k = LL.length := by rw [hlk, nI_leI (by omega) (by omega)] at c30; omega
        subst hge
        refine S_aload_n (q := 81) hX dX12_utter_80 rfl rfl ?_
        refine S_getf (fs := ?fs_2) (v := ?v_2) (q := 84) hX u_797 fo_X12_wordMany dX12_utter_81 ?hs_2 ?hv_2 rfl ?_
        case hs_2 => with_reducible first | exact MM.c0 hM | exact MM.c1 hM | exact MM.c5 hM | exact MM.c6 hM | exact MM.c7 hM | exact MM.c3 hM | exact MM.c4 hM | exact MM.c8 hM | exact MM.c2 hM
        case hv_2 => rfl
        refine S_iret hX dX12_utter_84 (Nat.zero_le _) (Nat.zero_le _) ?_
        refine hP _ _ _ ?_
        have hsp : sp_utter S x = (nI LL.length, stC S ((S.1.1.1, S.1.1.2.1, usL S.1.1.2.2 LL), psh S.1.2.1 S.1.1, S.1.2.2)) := by unfold sp_utter; rw [if_neg (fun z => z c5), ← eLL]
        rw [hsp]
        rw [List.take_length] at hRk
        exact ⟨_, hM, hF, by rw [hlk], hRk, rfl⟩
      · have hlt : k < LL.length := by rw [hlk, nI_leI (by omega) (by omega)] at c30; omega
        refine S_aload_n (q := 34) hX dX12_utter_33 rfl rfl ?_
        refine S_bipush (q := 36) (v := 26) hX dX12_utter_34 bp_26 rfl ?_
        refine S_aload_n (q := 37) hX dX12_utter_36 rfl rfl ?_
        refine S_getf (fs := ?fs_3) (v := ?v_3) (q := 40) hX u_796 fo_X12_words dX12_utter_37 ?hs_3 ?hv_3 rfl ?_
        case hs_3 => with_reducible first | exact MM.c0 hM | exact MM.c1 hM | exact MM.c5 hM | exact MM.c6 hM | exact MM.c7 hM | exact MM.c3 hM | exact MM.c4 hM | exact MM.c8 hM | exact MM.c2 hM
        case hv_3 => rfl
        refine S_iload_n (q := 41) hX dX12_utter_40 rfl rfl ?_
        refine S_iald (N := ?n_4) (f := ?f_4) (q := 42) hX dX12_utter_41 ?hs_4 ?hi_4 rfl ?_
        case hs_4 => with_reducible first | exact MM.c0 hM | exact MM.c1 hM | exact MM.c5 hM | exact MM.c6 hM | exact MM.c7 hM | exact MM.c3 hM | exact MM.c4 hM | exact MM.c8 hM | exact MM.c2 hM
        case hi_4 => exact vp_in_nI (by omega) (by decide)
        refine S_iadd (q := 43) hX dX12_utter_42 rfl ?_
        refine S_callV (ci := 12) (C := "FanTalkModel") (T := TX12) (N := 17) (q := 46) 0 0 hX (c_X12_get _ μk _ 0 (26 + LL.getD k 0) ((congrArg (26 + ·) ((congrArg (μk 7) (nI_clamp (by omega))).trans (hwk k hlt))).trans (nI_add _ _))) rfl ?hs_5 rfl u_838 u_840 us_26 u_12 u_841 ⟨by decide, by decide, rfl⟩ ⟨Nat.le_of_ble_eq_true rfl, Nat.le_of_ble_eq_true rfl⟩ ⟨Nat.le_of_ble_eq_true rfl, Nat.le_of_ble_eq_true rfl⟩ (Nat.le_of_ble_eq_true rfl) dX12_utter_43 ?hp_5 rfl rfl rfl ?_
        case hs_5 => first | with_reducible assumption | exact ⟨_, by with_reducible assumption⟩ | exact MM.isO hM
        case hp_5 => exact ⟨hM, h0, by omega⟩
        rintro v σ1 sz1 ⟨rfl, rfl, rfl⟩
        rw [show 0 + (26 + LL.getD k 0) = 0 + 26 + LL.getD k 0 by omega, hug]
        refine S_istore_n (q := 47) [_, _, _, _] hX dX12_utter_46 rfl (Nat.le_of_ble_eq_true rfl) rfl rfl ?_
        refine S_aload_n (q := 48) hX dX12_utter_47 rfl rfl ?_
        refine S_bipush (q := 50) (v := 26) hX dX12_utter_48 bp_26 rfl ?_
        refine S_aload_n (q := 51) hX dX12_utter_50 rfl rfl ?_
        refine S_getf (fs := ?fs_6) (v := ?v_6) (q := 54) hX u_796 fo_X12_words dX12_utter_51 ?hs_6 ?hv_6 rfl ?_
        case hs_6 => with_reducible first | exact MM.c0 hM | exact MM.c1 hM | exact MM.c5 hM | exact MM.c6 hM | exact MM.c7 hM | exact MM.c3 hM | exact MM.c4 hM | exact MM.c8 hM | exact MM.c2 hM
        case hv_6 => rfl
        refine S_iload_n (q := 55) hX dX12_utter_54 rfl rfl ?_
        refine S_iald (N := ?n_7) (f := ?f_7) (q := 56) hX dX12_utter_55 ?hs_7 ?hi_7 rfl ?_
        case hs_7 => with_reducible first | exact MM.c0 hM | exact MM.c1 hM | exact MM.c5 hM | exact MM.c6 hM | exact MM.c7 hM | exact MM.c3 hM | exact MM.c4 hM | exact MM.c8 hM | exact MM.c2 hM
        case hi_7 => exact vp_in_nI (by omega) (by decide)
        refine S_iadd (q := 57) hX dX12_utter_56 rfl ?_
        refine S_iload_n (q := 58) hX dX12_utter_57 rfl rfl ?_
        refine S_sipush (q := 61) (v := 999) hX dX12_utter_58 sp_999 rfl ?_
        refine S_icmp_ne (q := 64) 68 hX dX12_utter_61 rfl rfl (fun c61 => ?_) (fun c61 => ?_)
        · refine S_iload_n (q := 69) hX dX12_utter_68 rfl rfl ?_
          refine S_iconst (q := 70) (v := 1) hX dX12_utter_69 ic_1 rfl ?_
          refine S_iadd (q := 71) hX dX12_utter_70 rfl ?_
          refine S_callV (ci := 12) (C := "FanTalkModel") (T := TX12) (N := 17) (q := 74) 0 0 hX (c_X12_set _ μk _ _ 0 (26 + LL.getD k 0) ((congrArg (26 + ·) ((congrArg (μk 7) (nI_clamp (by omega))).trans (hwk k hlt))).trans (nI_add _ _))) rfl ?hs_8 rfl u_846 u_848 us_28 u_12 u_849 ⟨by decide, by decide, rfl⟩ ⟨Nat.le_of_ble_eq_true rfl, Nat.le_of_ble_eq_true rfl⟩ ⟨Nat.le_of_ble_eq_true rfl, Nat.le_of_ble_eq_true rfl⟩ (Nat.le_of_ble_eq_true rfl) dX12_utter_71 ?hp_8 rfl rfl rfl ?_
          case hs_8 => first | with_reducible assumption | exact ⟨_, by with_reducible assumption⟩ | exact MM.isO hM
          case hp_8 => exact ⟨hM, h0, by omega⟩
          rintro v σ sz1 ⟨μ1, hM, hF1, rfl, e1, rfl⟩
          have hF := hF.trans hF1
          refine S_iinc (q := 77) [_, _, _, _] hX dX12_utter_74 rfl (ii_1 _) rfl (Nat.le_of_ble_eq_true rfl) rfl rfl ?_
          refine S_goto 25 hX dX12_utter_77 rfl ?_
          have hM1 : MR μ1 (stC (kS S) ((S.1.1.1, S.1.1.2.1, usL S.1.1.2.2 (LL.take (k + 1))), psh S.1.2.1 S.1.1, S.1.2.2)) := by
            rw [usL_take _ hlt]
            have okk2 : StOk (stC (kS S) ((S.1.1.1, S.1.1.2.1, usL S.1.1.2.2 (LL.take k)), psh S.1.2.1 S.1.1, S.1.2.2)) := ⟨⟨o1, ⟨rfl, o2.2.1, hu9⟩, okk.1.2.2.1, okk.1.2.2.2.1, o5, o6, o7, o8, o9, o10⟩, okk.2⟩
            refine hRk.now okk2 (fun j hj => by rw [e1, m2_o hj]) (fun i h1 h2 => by rw [e1, m2_n (by omega)]) ?_
            have g : ∀ i, i ≠ 0 + (26 + LL.getD k 0) → μ1 1 i = μk 1 i := fun i h1 => by rw [e1, m2_n h1]
            obtain ⟨q0, q1, q2, q3, q4, q5, q6, q7, q8, q9⟩ := id hRk.2.1
            refine hRk.2.1.up okk2.1 ((g _ (by omega)).trans q0) ((g _ (by omega)).trans q1) ((g _ (by omega)).trans q2) ((g _ (by omega)).trans q3) ((g _ (by omega)).trans q4) ((g _ (by omega)).trans q5) (Or.inl ⟨rfl, fun i h1 h2 => g _ (by omega)⟩) (Or.inl ⟨rfl, fun i h1 h2 => g _ (by omega)⟩) (Or.inr ?_) (Or.inl ⟨rfl, fun i h1 h2 => g _ (by omega)⟩)
            refine q8.uses (w := LL.getD k 0) (x := if usL S.1.1.2.2 (LL.take k) (LL.getD k 0) = 999 then 999 else usL S.1.1.2.2 (LL.take k) (LL.getD k 0) + 1) o1 (fun c hc => (o2.2.1 c hc).1) hw9 (fun i h1 h2 h3 => g i (by omega)) ?_
            rw [show 0 + 26 + LL.getD k 0 = 0 + (26 + LL.getD k 0) by omega, e1, m2_y]
            rw [if_neg (fun z => c61 (by rw [z]; rfl)), i1, nI_add]
          refine S_wk [true, true, true, false] ?_
          exact ih (k + 1) σ _ μ1 c5 (nI_1 _) (by omega) (by omega) hM hF hM1 (by rw [e1, m2_o (by decide)]; exact hlk) (by rw [e1, m2_o (by decide)]; exact hwk)
        · refine S_iload_n (q := 65) hX dX12_utter_64 rfl rfl ?_
          refine S_goto 71 hX dX12_utter_65 rfl ?_
          refine S_callV (ci := 12) (C := "FanTalkModel") (T := TX12) (N := 17) (q := 74) 0 0 hX (c_X12_set _ μk _ _ 0 (26 + LL.getD k 0) ((congrArg (26 + ·) ((congrArg (μk 7) (nI_clamp (by omega))).trans (hwk k hlt))).trans (nI_add _ _))) rfl ?hs_9 rfl u_846 u_848 us_28 u_12 u_849 ⟨by decide, by decide, rfl⟩ ⟨Nat.le_of_ble_eq_true rfl, Nat.le_of_ble_eq_true rfl⟩ ⟨Nat.le_of_ble_eq_true rfl, Nat.le_of_ble_eq_true rfl⟩ (Nat.le_of_ble_eq_true rfl) dX12_utter_71 ?hp_9 rfl rfl rfl ?_
          case hs_9 => first | with_reducible assumption | exact ⟨_, by with_reducible assumption⟩ | exact MM.isO hM
          case hp_9 => exact ⟨hM, h0, by omega⟩
          rintro v σ sz1 ⟨μ1, hM, hF1, rfl, e1, rfl⟩
          have hF := hF.trans hF1
          refine S_iinc (q := 77) [_, _, _, _] hX dX12_utter_74 rfl (ii_1 _) rfl (Nat.le_of_ble_eq_true rfl) rfl rfl ?_
          refine S_goto 25 hX dX12_utter_77 rfl ?_
          have hM1 : MR μ1 (stC (kS S) ((S.1.1.1, S.1.1.2.1, usL S.1.1.2.2 (LL.take (k + 1))), psh S.1.2.1 S.1.1, S.1.2.2)) := by
            rw [usL_take _ hlt]
            have okk2 : StOk (stC (kS S) ((S.1.1.1, S.1.1.2.1, usL S.1.1.2.2 (LL.take k)), psh S.1.2.1 S.1.1, S.1.2.2)) := ⟨⟨o1, ⟨rfl, o2.2.1, hu9⟩, okk.1.2.2.1, okk.1.2.2.2.1, o5, o6, o7, o8, o9, o10⟩, okk.2⟩
            refine hRk.now okk2 (fun j hj => by rw [e1, m2_o hj]) (fun i h1 h2 => by rw [e1, m2_n (by omega)]) ?_
            have g : ∀ i, i ≠ 0 + (26 + LL.getD k 0) → μ1 1 i = μk 1 i := fun i h1 => by rw [e1, m2_n h1]
            obtain ⟨q0, q1, q2, q3, q4, q5, q6, q7, q8, q9⟩ := id hRk.2.1
            refine hRk.2.1.up okk2.1 ((g _ (by omega)).trans q0) ((g _ (by omega)).trans q1) ((g _ (by omega)).trans q2) ((g _ (by omega)).trans q3) ((g _ (by omega)).trans q4) ((g _ (by omega)).trans q5) (Or.inl ⟨rfl, fun i h1 h2 => g _ (by omega)⟩) (Or.inl ⟨rfl, fun i h1 h2 => g _ (by omega)⟩) (Or.inr ?_) (Or.inl ⟨rfl, fun i h1 h2 => g _ (by omega)⟩)
            refine q8.uses (w := LL.getD k 0) (x := if usL S.1.1.2.2 (LL.take k) (LL.getD k 0) = 999 then 999 else usL S.1.1.2.2 (LL.take k) (LL.getD k 0) + 1) o1 (fun c hc => (o2.2.1 c hc).1) hw9 (fun i h1 h2 h3 => g i (by omega)) ?_
            rw [show 0 + 26 + LL.getD k 0 = 0 + (26 + LL.getD k 0) by omega, e1, m2_y]
            rw [if_pos (nI_inj (by have := hu9 _ hw9; omega) (by decide) c61)]
            exact c61
          refine S_wk [true, true, true, false] ?_
          exact ih (k + 1) σ _ μ1 c5 (nI_1 _) (by omega) (by omega) hM hF hM1 (by rw [e1, m2_o (by decide)]; exact hlk) (by rw [e1, m2_o (by decide)]; exact hwk)
  refine S_aload_n (q := 1) hX dX12_utter_0 rfl rfl ?_
  refine S_iload_n (q := 2) hX dX12_utter_1 rfl rfl ?_
  refine S_callV (ci := 12) (C := "FanTalkModel") (T := TX12) (N := 17) (q := 5) 0 0 hX (c_X12_isCode _ μ _ 0 S.1.1.1) rfl ?hs_10 rfl u_854 u_856 us_29 u_12 u_857 ⟨by decide, by decide, rfl⟩ ⟨Nat.le_of_ble_eq_true rfl, Nat.le_of_ble_eq_true rfl⟩ ⟨Nat.le_of_ble_eq_true rfl, Nat.le_of_ble_eq_true rfl⟩ (Nat.le_of_ble_eq_true rfl) dX12_utter_2 ?hp_10 rfl rfl rfl ?_
  case hs_10 => first | with_reducible assumption | exact ⟨_, by with_reducible assumption⟩ | exact MM.isO hM
  case hp_10 => exact ⟨hM, h0, by decide, hC0, ok.1.1⟩
  rintro v σ1 sz1 ⟨rfl, rfl, rfl⟩
  refine S_if_ne_b (q := 8) 13 hX dX12_utter_5 rfl rfl (fun c5 => ?_) (fun c5 => ?_)
  · have cx := okc.ex c5
    refine S_aload_n (q := 14) hX dX12_utter_13 rfl rfl ?_
    refine S_callV (ci := 12) (C := "FanTalkModel") (T := TX12) (N := 17) (q := 17) 0 0 hX (c_X12_know _ μ S) rfl ?hs_11 rfl u_995 u_997 us_48 u_12 u_998 ⟨by decide, by decide, rfl⟩ ⟨Nat.le_of_ble_eq_true rfl, Nat.le_of_ble_eq_true rfl⟩ ⟨Nat.le_of_ble_eq_true rfl, Nat.le_of_ble_eq_true rfl⟩ (Nat.le_of_ble_eq_true rfl) dX12_utter_14 ?hp_11 rfl rfl rfl ?_
    case hs_11 => first | with_reducible assumption | exact ⟨_, by with_reducible assumption⟩ | exact MM.isO hM
    case hp_11 => exact ⟨hM, hR, ok⟩
    rintro v σ sz1 ⟨μ1, hM, hF1, rfl, ⟨hR1, _⟩, rfl⟩
    have hF := hF.trans hF1
    refine S_aload_n (q := 18) hX dX12_utter_17 rfl rfl ?_
    refine S_iconst (q := 19) (v := 0) hX dX12_utter_18 ic_0 rfl ?_
    refine S_iload_n (q := 20) hX dX12_utter_19 rfl rfl ?_
    refine S_callV (ci := 12) (C := "FanTalkModel") (T := TX12) (N := 17) (q := 23) 0 0 hX (c_X12_readSaying _ μ1 (kS S) _ _ 0 (tN x) rfl cx.1) rfl ?hs_12 rfl u_972 u_974 us_45 u_12 u_975 ⟨by decide, by decide, rfl⟩ ⟨Nat.le_of_ble_eq_true rfl, Nat.le_of_ble_eq_true rfl⟩ ⟨Nat.le_of_ble_eq_true rfl, Nat.le_of_ble_eq_true rfl⟩ (Nat.le_of_ble_eq_true rfl) dX12_utter_20 ?hp_12 rfl rfl rfl ?_
    case hs_12 => first | with_reducible assumption | exact ⟨_, by with_reducible assumption⟩ | exact MM.isO hM
    case hp_12 => exact ⟨hM, hR1, kS_ok ok, by decide, cx.2.1⟩
    rintro v σ sz1 ⟨μ2, hM, hF1, rfl, ⟨s2, hl2, hw2⟩, rfl⟩
    have hF := hF.trans hF1
    have hR2 := hR1.scr s2
    refine S_iconst (q := 24) (v := 0) hX dX12_utter_23 ic_0 rfl ?_
    refine S_istore_n (q := 25) [_, _, _, _] hX dX12_utter_24 rfl (Nat.le_of_ble_eq_true rfl) rfl rfl ?_
    exact loop (LL.length + 1) 0 _ _ μ2 c5 rfl (Nat.zero_le _) (by omega) hM hF hR2 (by rw [eLL]; exact hl2) (by rw [eLL]; exact hw2)
  · refine S_aload_n (q := 9) hX dX12_utter_8 rfl rfl ?_
    refine S_callV (ci := 12) (C := "FanTalkModel") (T := TX12) (N := 17) (q := 12) 0 0 hX (c_X12_bad _ μ) rfl ?hs_13 rfl u_864 u_866 us_30 u_12 u_867 ⟨by decide, by decide, rfl⟩ ⟨Nat.le_of_ble_eq_true rfl, Nat.le_of_ble_eq_true rfl⟩ ⟨Nat.le_of_ble_eq_true rfl, Nat.le_of_ble_eq_true rfl⟩ (Nat.le_of_ble_eq_true rfl) dX12_utter_9 ?hp_13 rfl rfl rfl ?_
    case hs_13 => first | with_reducible assumption | exact ⟨_, by with_reducible assumption⟩ | exact MM.isO hM
    case hp_13 => exact hM
    rintro v σ sz1 ⟨μ9, hM, hF1, rfl, e9, rfl⟩
    have hF := hF.trans hF1
    refine S_iret hX dX12_utter_12 (Nat.zero_le _) (Nat.zero_le _) ?_
    refine hP _ _ _ ?_
    have hsp : sp_utter S x = (-2, rfS S 0) := by unfold sp_utter; rw [if_pos c5]
    rw [hsp]
    exact ⟨_, hM, hF, rfl, hR.rf (by decide) e9, rfl⟩
theorem c_X12_undo (m : Nat) (μ : MF) (S : ST) : CT_X12_undo [.ref m] (fun Γ σ sz => MM σ m μ ∧ MR μ S ∧ StOk S) (fun Γ σ sz v σ' sz' => ∃ μ', MM σ' m μ' ∧ Fr m (m + 9) σ σ' ∧ v = some (.int (sp_undo S).1) ∧ MR μ' (sp_undo S).2 ∧ sz' = sz) := by
  refine CT.mkP rfl (Nat.le_of_ble_eq_true rfl) [_, _] rfl ?_
  intro X Γ σ sz P hX hpre hsz hP
  obtain ⟨hM, hR, ok⟩ := hpre
  have hF : Fr m (m + 9) σ σ := Fr.rf
  have h0 := hR.1
  have hC0 := hR.2.1.1
  obtain ⟨q0, q1, q2, q3, q4, q5, q6, q7, q8, q9⟩ := id hR.2.1
  obtain ⟨o1, o2, o3, o4, o5, o6, o7, o8, o9, o10⟩ := id ok.1
  obtain ⟨σ0, eσ0⟩ : ∃ z, z = σ := ⟨σ, rfl⟩
  rw [← eσ0] at hP
  have hF : Fr m (m + 9) σ0 σ := by rw [eσ0]; exact Fr.rf
  obtain ⟨K, eK⟩ : ∃ z, z = S.1.2.1.1 - 1 := ⟨_, rfl⟩
  have loop : ∀ (fl : Nat) (k : Nat) (σ : Sg) (xk : Int32) (μb : MF), S.1.2.1.1 = K + 1 → (∀ j, j ≠ 1 → μb j = μ j) → (∀ i, μb 1 i = if 26 ≤ i ∧ i < 26 + k then μ 1 (87 + 61 * K + (i - 26)) else if i = 5 then nI K else μ 1 i) → xk = nI k → k ≤ 61 → 61 - k < fl → MM σ m μb → Fr m (m + 9) σ0 σ → G X Γ P 0 0 27 [some (.ref m), some (.int xk)] [] σ sz := by
    intro fl
    induction fl with
    | zero =>
      rintro k σ _ μb hK hb1 hb2 rfl hk hfu hM hF
      exact absurd hfu (Nat.not_lt_zero _)
    | succ fl ih =>
      rintro k σ _ μb hK hb1 hb2 rfl hk hfu hM hF
      have h0 : μb 0 0 = nI 0 := by rw [hb1 0 (by decide)]; exact h0
      have hb5 : μb 1 (0 + 5) = nI K := by rw [hb2, if_neg (by omega), if_pos (by omega)]
      refine S_iload_n (q := 28) hX dX12_undo_27 rfl rfl ?_
      refine S_bipush (q := 30) (v := 61) hX dX12_undo_28 bp_61 rfl ?_
      refine S_icmp_ge (q := 33) 64 hX dX12_undo_30 rfl rfl (fun c30 => ?_) (fun c30 => ?_)
      · have hge : k = 61 := by rw [show (61 : Int32) = nI 61 from rfl, nI_leI (by omega) (by omega)] at c30; omega
        subst hge
        refine S_iconst (q := 65) (v := 1) hX dX12_undo_64 ic_1 rfl ?_
        refine S_iret hX dX12_undo_65 (Nat.zero_le _) (Nat.zero_le _) ?_
        refine hP _ _ _ ?_
        have hsp : sp_undo S = (1, stC S (S.1.2.1.2 K, (K, S.1.2.1.2), S.1.2.2)) := by unfold sp_undo; rw [if_neg (by omega), ← eK]
        rw [hsp]
        have g : ∀ i, ¬ (26 ≤ i ∧ i < 87) → i ≠ 5 → μb 1 i = μ 1 i := fun i h1 h2 => by rw [hb2, if_neg (by omega), if_neg h2]
        have hKo := o4 K (by omega)
        refine ⟨_, hM, hF, rfl, hR.now ok hb1 (fun i h1 h2 => g i (by omega) (by omega)) ?_, rfl⟩
        refine hR.2.1.up ok.1 ((g _ (by omega) (by omega)).trans (q0.trans (by rw [← hKo.1]))) ((g _ (by omega) (by omega)).trans q1) ((g _ (by omega) (by omega)).trans q2) ((g _ (by omega) (by omega)).trans q3) ((g _ (by omega) (by omega)).trans q4) hb5 (Or.inl ⟨rfl, fun i h1 h2 => g _ (by omega) (by omega)⟩) (Or.inl ⟨rfl, fun i h1 h2 => g _ (by omega) (by omega)⟩) (Or.inr ?_) (Or.inr fun k hk => ?_)
        · refine (q9 K (by omega)).at (hKo.le o1).1 (hKo.le o1).2 (fun i hi => ?_)
          rw [hb2, if_pos (by omega)]
          congr 1
          omega
        · have hk : k < K := hk
          have hko := (o4 k (by omega)).le o1
          exact (q9 k (by omega)).ext (n := 0) hko.1 hko.2 (fun i h1 h2 => g i (by omega) (by omega))
      · have hlt : k < 61 := by rw [show (61 : Int32) = nI 61 from rfl, nI_leI (by omega) (by omega)] at c30; omega
        refine S_aload_n (q := 34) hX dX12_undo_33 rfl rfl ?_
        refine S_bipush (q := 36) (v := 26) hX dX12_undo_34 bp_26 rfl ?_
        refine S_iload_n (q := 37) hX dX12_undo_36 rfl rfl ?_
        refine S_iadd (q := 38) hX dX12_undo_37 rfl ?_
        refine S_aload_n (q := 39) hX dX12_undo_38 rfl rfl ?_
        refine S_bipush (q := 41) (v := 87) hX dX12_undo_39 bp_87 rfl ?_
        refine S_bipush (q := 43) (v := 61) hX dX12_undo_41 bp_61 rfl ?_
        refine S_aload_n (q := 44) hX dX12_undo_43 rfl rfl ?_
        refine S_iconst (q := 45) (v := 5) hX dX12_undo_44 ic_5 rfl ?_
        refine S_callV (ci := 12) (C := "FanTalkModel") (T := TX12) (N := 17) (q := 48) 0 0 hX (c_X12_get _ μb _ 0 (5) (by first | rfl | (simp only [i0, i1, i2, i3, i4, i5, i6, i7, i8, i9, i10, i11, i12, i17, i20, i24, i26, i27, i31, i32, i36, i48, i57, i59, i60, i61, i63, i64, i87, i96, i97, i99, i122, i148, i250, i255, i305, i453, i999, i1359, i1812, pk_mul, nI_add]; done) | (simp only [i0, i1, i2, i3, i4, i5, i6, i7, i8, i9, i10, i11, i12, i17, i20, i24, i26, i27, i31, i32, i36, i48, i57, i59, i60, i61, i63, i64, i87, i96, i97, i99, i122, i148, i250, i255, i305, i453, i999, i1359, i1812, pk_mul, nI_add]; congr 1; omega))) rfl ?hs_1 rfl u_838 u_840 us_26 u_12 u_841 ⟨by decide, by decide, rfl⟩ ⟨Nat.le_of_ble_eq_true rfl, Nat.le_of_ble_eq_true rfl⟩ ⟨Nat.le_of_ble_eq_true rfl, Nat.le_of_ble_eq_true rfl⟩ (Nat.le_of_ble_eq_true rfl) dX12_undo_45 ?hp_1 rfl rfl rfl ?_
        case hs_1 => first | with_reducible assumption | exact ⟨_, by with_reducible assumption⟩ | exact MM.isO hM
        case hp_1 => exact ⟨hM, h0, by omega⟩
        rintro v σ1 sz1 ⟨rfl, rfl, rfl⟩
        rw [hb5]
        refine S_imul (q := 49) hX dX12_undo_48 rfl ?_
        refine S_iadd (q := 50) hX dX12_undo_49 rfl ?_
        refine S_iload_n (q := 51) hX dX12_undo_50 rfl rfl ?_
        refine S_iadd (q := 52) hX dX12_undo_51 rfl ?_
        refine S_callV (ci := 12) (C := "FanTalkModel") (T := TX12) (N := 17) (q := 55) 0 0 hX (c_X12_get _ μb _ 0 (87 + 61 * K + k) (by first | rfl | (simp only [i0, i1, i2, i3, i4, i5, i6, i7, i8, i9, i10, i11, i12, i17, i20, i24, i26, i27, i31, i32, i36, i48, i57, i59, i60, i61, i63, i64, i87, i96, i97, i99, i122, i148, i250, i255, i305, i453, i999, i1359, i1812, pk_mul, nI_add]; done) | (simp only [i0, i1, i2, i3, i4, i5, i6, i7, i8, i9, i10, i11, i12, i17, i20, i24, i26, i27, i31, i32, i36, i48, i57, i59, i60, i61, i63, i64, i87, i96, i97, i99, i122, i148, i250, i255, i305, i453, i999, i1359, i1812, pk_mul, nI_add]; congr 1; omega))) rfl ?hs_2 rfl u_838 u_840 us_26 u_12 u_841 ⟨by decide, by decide, rfl⟩ ⟨Nat.le_of_ble_eq_true rfl, Nat.le_of_ble_eq_true rfl⟩ ⟨Nat.le_of_ble_eq_true rfl, Nat.le_of_ble_eq_true rfl⟩ (Nat.le_of_ble_eq_true rfl) dX12_undo_52 ?hp_2 rfl rfl rfl ?_
        case hs_2 => first | with_reducible assumption | exact ⟨_, by with_reducible assumption⟩ | exact MM.isO hM
        case hp_2 => exact ⟨hM, h0, by omega⟩
        rintro v σ1 sz1 ⟨rfl, rfl, rfl⟩
        refine S_callV (ci := 12) (C := "FanTalkModel") (T := TX12) (N := 17) (q := 58) 0 0 hX (c_X12_set _ μb _ _ 0 (26 + k) (by first | rfl | (simp only [i0, i1, i2, i3, i4, i5, i6, i7, i8, i9, i10, i11, i12, i17, i20, i24, i26, i27, i31, i32, i36, i48, i57, i59, i60, i61, i63, i64, i87, i96, i97, i99, i122, i148, i250, i255, i305, i453, i999, i1359, i1812, pk_mul, nI_add]; done) | (simp only [i0, i1, i2, i3, i4, i5, i6, i7, i8, i9, i10, i11, i12, i17, i20, i24, i26, i27, i31, i32, i36, i48, i57, i59, i60, i61, i63, i64, i87, i96, i97, i99, i122, i148, i250, i255, i305, i453, i999, i1359, i1812, pk_mul, nI_add]; congr 1; omega))) rfl ?hs_3 rfl u_846 u_848 us_28 u_12 u_849 ⟨by decide, by decide, rfl⟩ ⟨Nat.le_of_ble_eq_true rfl, Nat.le_of_ble_eq_true rfl⟩ ⟨Nat.le_of_ble_eq_true rfl, Nat.le_of_ble_eq_true rfl⟩ (Nat.le_of_ble_eq_true rfl) dX12_undo_55 ?hp_3 rfl rfl rfl ?_
        case hs_3 => first | with_reducible assumption | exact ⟨_, by with_reducible assumption⟩ | exact MM.isO hM
        case hp_3 => exact ⟨hM, h0, by omega⟩
        rintro v σ sz1 ⟨μ2, hM, hF1, rfl, e2, rfl⟩
        have hF := hF.trans hF1
        have h0 : μ2 0 0 = nI 0 := by rw [e2, m2_o (by decide)]; exact h0
        refine S_iinc (q := 61) [_, _] hX dX12_undo_58 rfl (ii_1 _) rfl (Nat.le_of_ble_eq_true rfl) rfl rfl ?_
        refine S_goto 27 hX dX12_undo_61 rfl ?_
        refine ih (k + 1) σ _ μ2 hK (fun j hj => by rw [e2, m2_o hj]; exact hb1 j hj) (fun i => ?_) (nI_1 _) (by omega) (by omega) hM hF
        rw [e2, m2_11]
        by_cases hi : i = 0 + (26 + k)
        · rw [if_pos hi, if_pos (by omega), hb2, if_neg (by omega), if_neg (by omega)]
          congr 1
          omega
        · rw [if_neg hi, hb2]
          by_cases h2 : 26 ≤ i ∧ i < 26 + k
          · rw [if_pos h2, if_pos (by omega)]
          · rw [if_neg h2, if_neg (show ¬ (26 ≤ i ∧ i < 26 + (k + 1)) by omega)]
  refine S_aload_n (q := 1) hX dX12_undo_0 rfl rfl ?_
  refine S_iconst (q := 2) (v := 5) hX dX12_undo_1 ic_5 rfl ?_
  refine S_callV (ci := 12) (C := "FanTalkModel") (T := TX12) (N := 17) (q := 5) 0 0 hX (c_X12_get _ μ _ 0 (5) (by first | rfl | (simp only [i0, i1, i2, i3, i4, i5, i6, i7, i8, i9, i10, i11, i12, i17, i20, i24, i26, i27, i31, i32, i36, i48, i57, i59, i60, i61, i63, i64, i87, i96, i97, i99, i122, i148, i250, i255, i305, i453, i999, i1359, i1812, pk_mul, nI_add]; done) | (simp only [i0, i1, i2, i3, i4, i5, i6, i7, i8, i9, i10, i11, i12, i17, i20, i24, i26, i27, i31, i32, i36, i48, i57, i59, i60, i61, i63, i64, i87, i96, i97, i99, i122, i148, i250, i255, i305, i453, i999, i1359, i1812, pk_mul, nI_add]; congr 1; omega))) rfl ?hs_4 rfl u_838 u_840 us_26 u_12 u_841 ⟨by decide, by decide, rfl⟩ ⟨Nat.le_of_ble_eq_true rfl, Nat.le_of_ble_eq_true rfl⟩ ⟨Nat.le_of_ble_eq_true rfl, Nat.le_of_ble_eq_true rfl⟩ (Nat.le_of_ble_eq_true rfl) dX12_undo_2 ?hp_4 rfl rfl rfl ?_
  case hs_4 => first | with_reducible assumption | exact ⟨_, by with_reducible assumption⟩ | exact MM.isO hM
  case hp_4 => exact ⟨hM, h0, by omega⟩
  rintro v σ1 sz1 ⟨rfl, rfl, rfl⟩
  rw [q5]
  refine S_if_ne (q := 8) 13 hX dX12_undo_5 rfl rfl (fun c5 => ?_) (fun c5 => ?_)
  · have hn0 : S.1.2.1.1 ≠ 0 := fun z => c5 (by rw [z]; rfl)
    refine S_aload_n (q := 14) hX dX12_undo_13 rfl rfl ?_
    refine S_iconst (q := 15) (v := 5) hX dX12_undo_14 ic_5 rfl ?_
    refine S_aload_n (q := 16) hX dX12_undo_15 rfl rfl ?_
    refine S_iconst (q := 17) (v := 5) hX dX12_undo_16 ic_5 rfl ?_
    refine S_callV (ci := 12) (C := "FanTalkModel") (T := TX12) (N := 17) (q := 20) 0 0 hX (c_X12_get _ μ _ 0 (5) (by first | rfl | (simp only [i0, i1, i2, i3, i4, i5, i6, i7, i8, i9, i10, i11, i12, i17, i20, i24, i26, i27, i31, i32, i36, i48, i57, i59, i60, i61, i63, i64, i87, i96, i97, i99, i122, i148, i250, i255, i305, i453, i999, i1359, i1812, pk_mul, nI_add]; done) | (simp only [i0, i1, i2, i3, i4, i5, i6, i7, i8, i9, i10, i11, i12, i17, i20, i24, i26, i27, i31, i32, i36, i48, i57, i59, i60, i61, i63, i64, i87, i96, i97, i99, i122, i148, i250, i255, i305, i453, i999, i1359, i1812, pk_mul, nI_add]; congr 1; omega))) rfl ?hs_5 rfl u_838 u_840 us_26 u_12 u_841 ⟨by decide, by decide, rfl⟩ ⟨Nat.le_of_ble_eq_true rfl, Nat.le_of_ble_eq_true rfl⟩ ⟨Nat.le_of_ble_eq_true rfl, Nat.le_of_ble_eq_true rfl⟩ (Nat.le_of_ble_eq_true rfl) dX12_undo_17 ?hp_5 rfl rfl rfl ?_
    case hs_5 => first | with_reducible assumption | exact ⟨_, by with_reducible assumption⟩ | exact MM.isO hM
    case hp_5 => exact ⟨hM, h0, by omega⟩
    rintro v σ1 sz1 ⟨rfl, rfl, rfl⟩
    rw [q5]
    refine S_iconst (q := 21) (v := 1) hX dX12_undo_20 ic_1 rfl ?_
    refine S_isub (q := 22) hX dX12_undo_21 rfl ?_
    refine S_callV (ci := 12) (C := "FanTalkModel") (T := TX12) (N := 17) (q := 25) 0 0 hX (c_X12_set _ μ _ _ 0 (5) (by first | rfl | (simp only [i0, i1, i2, i3, i4, i5, i6, i7, i8, i9, i10, i11, i12, i17, i20, i24, i26, i27, i31, i32, i36, i48, i57, i59, i60, i61, i63, i64, i87, i96, i97, i99, i122, i148, i250, i255, i305, i453, i999, i1359, i1812, pk_mul, nI_add]; done) | (simp only [i0, i1, i2, i3, i4, i5, i6, i7, i8, i9, i10, i11, i12, i17, i20, i24, i26, i27, i31, i32, i36, i48, i57, i59, i60, i61, i63, i64, i87, i96, i97, i99, i122, i148, i250, i255, i305, i453, i999, i1359, i1812, pk_mul, nI_add]; congr 1; omega))) rfl ?hs_6 rfl u_846 u_848 us_28 u_12 u_849 ⟨by decide, by decide, rfl⟩ ⟨Nat.le_of_ble_eq_true rfl, Nat.le_of_ble_eq_true rfl⟩ ⟨Nat.le_of_ble_eq_true rfl, Nat.le_of_ble_eq_true rfl⟩ (Nat.le_of_ble_eq_true rfl) dX12_undo_22 ?hp_6 rfl rfl rfl ?_
    case hs_6 => first | with_reducible assumption | exact ⟨_, by with_reducible assumption⟩ | exact MM.isO hM
    case hp_6 => exact ⟨hM, h0, by omega⟩
    rintro v σ sz1 ⟨μ1, hM, hF1, rfl, e1, rfl⟩
    have hF := hF.trans hF1
    have h0 : μ1 0 0 = nI 0 := by rw [e1, m2_o (by decide)]; exact h0
    refine S_iconst (q := 26) (v := 0) hX dX12_undo_25 ic_0 rfl ?_
    refine S_istore_n (q := 27) [_, _] hX dX12_undo_26 rfl (Nat.le_of_ble_eq_true rfl) rfl rfl ?_
    have hK : S.1.2.1.1 = K + 1 := by omega
    exact loop 62 0 _ _ μ1 hK (fun j hj => by rw [e1, m2_o hj]) (fun i => by
      have hq : ¬ (26 ≤ i ∧ i < 26 + 0) := by omega
      rw [e1, m2_11, if_neg hq]
      by_cases hi : i = 5
      · subst hi
        rw [if_pos (by omega), if_pos rfl, hK, i1, pk_sub (by omega)]
        rfl
      · rw [if_neg (by omega), if_neg hi]) rfl (by omega) (by omega) hM hF
  · refine S_aload_n (q := 9) hX dX12_undo_8 rfl rfl ?_
    refine S_callV (ci := 12) (C := "FanTalkModel") (T := TX12) (N := 17) (q := 12) 0 0 hX (c_X12_no _ μ) rfl ?hs_7 rfl u_880 u_882 us_34 u_12 u_883 ⟨by decide, by decide, rfl⟩ ⟨Nat.le_of_ble_eq_true rfl, Nat.le_of_ble_eq_true rfl⟩ ⟨Nat.le_of_ble_eq_true rfl, Nat.le_of_ble_eq_true rfl⟩ (Nat.le_of_ble_eq_true rfl) dX12_undo_9 ?hp_7 rfl rfl rfl ?_
    case hs_7 => first | with_reducible assumption | exact ⟨_, by with_reducible assumption⟩ | exact MM.isO hM
    case hp_7 => exact hM
    rintro v σ sz1 ⟨μ9, hM, hF1, rfl, e9, rfl⟩
    have hF := hF.trans hF1
    refine S_iret hX dX12_undo_12 (Nat.zero_le _) (Nat.zero_le _) ?_
    refine hP _ _ _ ?_
    have hsp : sp_undo S = (-3, rfS S 1) := by unfold sp_undo; rw [if_pos (nI_inj (by omega) (by decide) c5)]
    rw [hsp]
    exact ⟨_, hM, hF, rfl, hR.rf (by decide) e9, rfl⟩
