/-! more calls of the reference -/
theorem c_X12_otherwise (m : Nat) (μ : MF) (S : ST) (x y z t : Int32) : CT_X12_otherwise [.ref m, .int x, .int y, .int z, .int t] (fun Γ σ sz => MM σ m μ ∧ MR μ S ∧ StOk S) (fun Γ σ sz v σ' sz' => ∃ μ', MM σ' m μ' ∧ Fr m (m + 9) σ σ' ∧ v = some (.int (sp_otherwise S x y z t).1) ∧ MR μ' (sp_otherwise S x y z t).2 ∧ sz' = sz) := by
  refine CT.mkP rfl (Nat.le_of_ble_eq_true rfl) [_, _, _, _, _, _, _, _] rfl ?_
  intro X Γ σ sz P hX hpre hsz hP
  obtain ⟨hM, hR, ok⟩ := hpre
  have hF : Fr m (m + 9) σ σ := Fr.rf
  have h0 := hR.1
  have hC0 := hR.2.1.1
  obtain ⟨q0, q1, q2, q3, q4, q5, q6, q7, q8, q9⟩ := id hR.2.1
  obtain ⟨o1, o2, o3, o4, o5, o6, o7, o8, o9, o10⟩ := id ok.1
  obtain ⟨σ0, eσ0⟩ : ∃ z, z = σ := ⟨σ, rfl⟩
  rw [← eσ0] at hP
  have hF : Fr m (m + 9) σ0 σ := by rw [eσ0]; exact Fr.rf
  have loop2 : ∀ (fu : Nat) (k : Nat) (xk : Int32) (mx : Nat) (σ : Sg) (μ2 : MF), okc y S.1.1.1 → okc t S.1.1.1 → sp_otherwise S x y z t = (othL (rdS S (tN x) (tN y)) (rdS S (tN z) (tN t)), S) → mx = Nat.max (rdS S (tN x) (tN y)).length (rdS S (tN z) (tN t)).length → xk = nI k → k ≤ mx → MM σ m μ2 → Fr m (m + 9) σ0 σ → MR μ2 S → μ2 0 8 = nI (rdS S (tN z) (tN t)).length → WL (μ2 7) (rdS S (tN z) (tN t)) → WL (μ2 8) (rdS S (tN x) (tN y)) → othI (rdS S (tN x) (tN y)) (rdS S (tN z) (tN t)) ((rdS S (tN x) (tN y)).length + (rdS S (tN z) (tN t)).length + 1 - k) k = othL (rdS S (tN x) (tN y)) (rdS S (tN z) (tN t)) → (rdS S (tN x) (tN y)).length + (rdS S (tN z) (tN t)).length + 1 - k < fu → G X Γ P 0 0 108 [some (.ref m), some (.int x), some (.int y), some (.int z), some (.int t), some (.int (nI (rdS S (tN x) (tN y)).length)), some (.int (nI mx)), some (.int xk)] [] σ sz := by
    intro fu
    induction fu with
    | zero =>
      rintro k _ mx σ μ2 oy ot hsp emx rfl hk hM hF hR2 hl2 hw2 h8 hoi hfu
      exact absurd hfu (Nat.not_lt_zero _)
    | succ fu ih =>
      rintro k _ mx σ μ2 oy ot hsp emx rfl hk hM hF hR2 hl2 hw2 h8 hoi hfu
      have ha6 := rdS_len S (tN x) (tN y)
      have hb6 := rdS_len S (tN z) (tN t)
      have hmx : mx ≤ 6 ∧ (∀ j, j < mx ↔ j < (rdS S (tN x) (tN y)).length ∨ j < (rdS S (tN z) (tN t)).length) := by
        refine ⟨by rw [emx]; exact Nat.max_le.mpr ⟨ha6, hb6⟩, fun j => ?_⟩
        rw [emx]; show j < max (rdS S (tN x) (tN y)).length (rdS S (tN z) (tN t)).length ↔ _; omega
      refine S_iload (q := 110) hX dX12_otherwise_108 rfl rfl ?_
      refine S_iload (q := 112) hX dX12_otherwise_110 rfl rfl ?_
      refine S_icmp_ge (q := 115) 157 hX dX12_otherwise_112 rfl rfl (fun c112 => ?_) (fun c112 => ?_)
      · have hkm : ¬ k < mx := by rw [nI_leI (by omega) (by omega)] at c112; omega
        have hkor := fun z => hkm ((hmx.2 k).mpr z)
        refine S_iconst (q := 158) (v := (-1)) hX dX12_otherwise_157 ic_m1 rfl ?_
        refine S_iret hX dX12_otherwise_158 (Nat.zero_le _) (Nat.zero_le _) ?_
        refine hP _ _ _ ?_
        rw [hsp]
        refine ⟨_, hM, hF, ?_, hR2, rfl⟩
        rw [← hoi]
        cases (rdS S (tN x) (tN y)).length + (rdS S (tN z) (tN t)).length + 1 - k with
        | zero => rfl
        | succ n => rw [othI, if_neg hkor]
      · have hkm : k < mx := by rw [nI_leI (by omega) (by omega)] at c112; omega
        have hkor := (hmx.2 k).mp hkm
        refine S_iload (q := 117) hX dX12_otherwise_115 rfl rfl ?_
        refine S_iload (q := 119) hX dX12_otherwise_117 rfl rfl ?_
        refine S_icmp_ge (q := 122) 148 hX dX12_otherwise_119 rfl rfl (fun c119 => ?_) (fun c119 => ?_)
        · have hka : ¬ k < (rdS S (tN x) (tN y)).length := by rw [nI_leI (by omega) (by omega)] at c119; omega
          refine S_iload (q := 150) hX dX12_otherwise_148 rfl rfl ?_
          refine S_iret hX dX12_otherwise_150 (Nat.zero_le _) (Nat.zero_le _) ?_
          refine hP _ _ _ ?_
          rw [hsp]
          refine ⟨_, hM, hF, ?_, hR2, rfl⟩
          rw [← hoi, show (rdS S (tN x) (tN y)).length + (rdS S (tN z) (tN t)).length + 1 - k = ((rdS S (tN x) (tN y)).length + (rdS S (tN z) (tN t)).length - k) + 1 by omega, othI, if_pos (by omega), if_neg (fun q => hka q.1)]
        · have hka : k < (rdS S (tN x) (tN y)).length := by rw [nI_leI (by omega) (by omega)] at c119; omega
          refine S_iload (q := 124) hX dX12_otherwise_122 rfl rfl ?_
          refine S_aload_n (q := 125) hX dX12_otherwise_124 rfl rfl ?_
          refine S_getf (fs := ?fs_1) (v := ?v_1) (q := 128) hX u_797 fo_X12_wordMany dX12_otherwise_125 ?hs_1 ?hv_1 rfl ?_
          case hs_1 => with_reducible first | exact MM.c0 hM | exact MM.c1 hM | exact MM.c5 hM | exact MM.c6 hM | exact MM.c7 hM | exact MM.c3 hM | exact MM.c4 hM | exact MM.c8 hM | exact MM.c2 hM
          case hv_1 => rfl
          refine S_icmp_ge (q := 131) 148 hX dX12_otherwise_128 rfl rfl (fun c128 => ?_) (fun c128 => ?_)
          · have hkb : ¬ k < (rdS S (tN z) (tN t)).length := by rw [hl2, nI_leI (by omega) (by omega)] at c128; omega
            refine S_iload (q := 150) hX dX12_otherwise_148 rfl rfl ?_
            refine S_iret hX dX12_otherwise_150 (Nat.zero_le _) (Nat.zero_le _) ?_
            refine hP _ _ _ ?_
            rw [hsp]
            refine ⟨_, hM, hF, ?_, hR2, rfl⟩
            rw [← hoi, show (rdS S (tN x) (tN y)).length + (rdS S (tN z) (tN t)).length + 1 - k = ((rdS S (tN x) (tN y)).length + (rdS S (tN z) (tN t)).length - k) + 1 by omega, othI, if_pos (by omega), if_neg (fun q => hkb q.2.1)]
          · have hkb : k < (rdS S (tN z) (tN t)).length := by rw [hl2, nI_leI (by omega) (by omega)] at c128; omega
            refine S_aload_n (q := 132) hX dX12_otherwise_131 rfl rfl ?_
            refine S_getf (fs := ?fs_2) (v := ?v_2) (q := 135) hX u_798 fo_X12_first dX12_otherwise_132 ?hs_2 ?hv_2 rfl ?_
            case hs_2 => with_reducible first | exact MM.c0 hM | exact MM.c1 hM | exact MM.c5 hM | exact MM.c6 hM | exact MM.c7 hM | exact MM.c3 hM | exact MM.c4 hM | exact MM.c8 hM | exact MM.c2 hM
            case hv_2 => rfl
            refine S_iload (q := 137) hX dX12_otherwise_135 rfl rfl ?_
            refine S_iald (N := ?n_3) (f := ?f_3) (q := 138) hX dX12_otherwise_137 ?hs_3 ?hi_3 rfl ?_
            case hs_3 => with_reducible first | exact MM.c0 hM | exact MM.c1 hM | exact MM.c5 hM | exact MM.c6 hM | exact MM.c7 hM | exact MM.c3 hM | exact MM.c4 hM | exact MM.c8 hM | exact MM.c2 hM
            case hi_3 => exact vp_in_nI (by omega) (by decide)
            refine S_aload_n (q := 139) hX dX12_otherwise_138 rfl rfl ?_
            refine S_getf (fs := ?fs_4) (v := ?v_4) (q := 142) hX u_796 fo_X12_words dX12_otherwise_139 ?hs_4 ?hv_4 rfl ?_
            case hs_4 => with_reducible first | exact MM.c0 hM | exact MM.c1 hM | exact MM.c5 hM | exact MM.c6 hM | exact MM.c7 hM | exact MM.c3 hM | exact MM.c4 hM | exact MM.c8 hM | exact MM.c2 hM
            case hv_4 => rfl
            refine S_iload (q := 144) hX dX12_otherwise_142 rfl rfl ?_
            refine S_iald (N := ?n_5) (f := ?f_5) (q := 145) hX dX12_otherwise_144 ?hs_5 ?hi_5 rfl ?_
            case hs_5 => with_reducible first | exact MM.c0 hM | exact MM.c1 hM | exact MM.c5 hM | exact MM.c6 hM | exact MM.c7 hM | exact MM.c3 hM | exact MM.c4 hM | exact MM.c8 hM | exact MM.c2 hM
            case hi_5 => exact vp_in_nI (by omega) (by decide)
            refine S_icmp_eq (q := 148) 151 hX dX12_otherwise_145 rfl rfl (fun c145 => ?_) (fun c145 => ?_)
            · refine S_iinc (q := 154) [_, _, _, _, _, _, _, _] hX dX12_otherwise_151 rfl (ii_1 _) rfl (Nat.le_of_ble_eq_true rfl) rfl rfl ?_
              refine S_goto 108 hX dX12_otherwise_154 rfl ?_
              exact ih (k + 1) _ mx σ μ2 oy ot hsp emx (nI_1 _) (by omega) hM hF hR2 hl2 hw2 h8 (by rw [← hoi, show (rdS S (tN x) (tN y)).length + (rdS S (tN z) (tN t)).length + 1 - k = ((rdS S (tN x) (tN y)).length + (rdS S (tN z) (tN t)).length + 1 - (k + 1)) + 1 by omega, othI, if_pos (by omega), if_pos ⟨by omega, by omega, nI_inj (by have := getD_10 (rdS_10 ok (okc.ex oy).2.1 (k := tN x)) k; omega) (by have := getD_10 (rdS_10 ok (okc.ex ot).2.1 (k := tN z)) k; omega) (by rw [nI_clamp (by omega), h8 k (by omega), hw2 k (by omega)] at c145; exact c145)⟩]) (by omega)
            · refine S_iload (q := 150) hX dX12_otherwise_148 rfl rfl ?_
              refine S_iret hX dX12_otherwise_150 (Nat.zero_le _) (Nat.zero_le _) ?_
              refine hP _ _ _ ?_
              rw [hsp]
              refine ⟨_, hM, hF, ?_, hR2, rfl⟩
              rw [← hoi, show (rdS S (tN x) (tN y)).length + (rdS S (tN z) (tN t)).length + 1 - k = ((rdS S (tN x) (tN y)).length + (rdS S (tN z) (tN t)).length - k) + 1 by omega, othI, if_pos (by omega), if_neg (fun q => c145 (by rw [nI_clamp (by omega), h8 k (by omega), hw2 k (by omega), q.2.2]))]
  have loop1 : ∀ (fu : Nat) (k : Nat) (xk : Int32) (σ : Sg) (μ1 : MF) (f8 : Nat → Int32), inb x 0 4 → okc y S.1.1.1 → inb z 0 4 → okc t S.1.1.1 → xk = nI k → k ≤ (rdS S (tN x) (tN y)).length → MM σ m (m1 μ1 8 f8) → Fr m (m + 9) σ0 σ → MR μ1 S → μ1 0 8 = nI (rdS S (tN x) (tN y)).length → WL (μ1 7) (rdS S (tN x) (tN y)) → (∀ i, i < k → f8 i = nI ((rdS S (tN x) (tN y)).getD i 0)) → (rdS S (tN x) (tN y)).length - k < fu → G X Γ P 0 0 51 [some (.ref m), some (.int x), some (.int y), some (.int z), some (.int t), some (.int (nI (rdS S (tN x) (tN y)).length)), some (.int xk), none] [] σ sz := by
    intro fu
    induction fu with
    | zero =>
      rintro k _ σ μ1 f8 c4 c12 c19 c28 rfl hk hM hF hR1 hl1 hw1 hf hfu
      exact absurd hfu (Nat.not_lt_zero _)
    | succ fu ih =>
      rintro k _ σ μ1 f8 c4 c12 c19 c28 rfl hk hM hF hR1 hl1 hw1 hf hfu
      have ha6 := rdS_len S (tN x) (tN y)
      have hb6 := rdS_len S (tN z) (tN t)
      have hR8 : MR (m1 μ1 8 f8) S := hR1
      have hsp : sp_otherwise S x y z t = (othL (rdS S (tN x) (tN y)) (rdS S (tN z) (tN t)), S) := by unfold sp_otherwise; rw [if_neg (by rintro (q | q | q | q) <;> contradiction)]
      refine S_iload (q := 53) hX dX12_otherwise_51 rfl rfl ?_
      refine S_iload (q := 55) hX dX12_otherwise_53 rfl rfl ?_
      refine S_icmp_ge (q := 58) 78 hX dX12_otherwise_55 rfl rfl (fun c55 => ?_) (fun c55 => ?_)
      · refine S_aload_n (q := 79) hX dX12_otherwise_78 rfl rfl ?_
        refine S_iload_n (q := 80) hX dX12_otherwise_79 rfl rfl ?_
        refine S_iload (q := 82) hX dX12_otherwise_80 rfl rfl ?_
        refine S_callV (ci := 12) (C := "FanTalkModel") (T := TX12) (N := 17) (q := 85) 0 0 hX (c_X12_readSaying _ (m1 μ1 8 f8) S _ _ (tN z) (tN t) (tN_ex c19.1).1 (okc.ex c28).1) rfl ?hs_6 rfl u_972 u_974 us_45 u_12 u_975 ⟨by decide, by decide, rfl⟩ ⟨Nat.le_of_ble_eq_true rfl, Nat.le_of_ble_eq_true rfl⟩ ⟨Nat.le_of_ble_eq_true rfl, Nat.le_of_ble_eq_true rfl⟩ (Nat.le_of_ble_eq_true rfl) dX12_otherwise_82 ?hp_6 rfl rfl rfl ?_
        case hs_6 => first | with_reducible assumption | exact ⟨_, by with_reducible assumption⟩ | exact MM.isO hM
        case hp_6 => exact ⟨hM, hR8, ok, by have := c19.2; have := (tN_ex c19.1).2.2; omega, (okc.ex c28).2.1⟩
        rintro v σ sz1 ⟨μ2, hM, hF1, rfl, ⟨s2, hl2, hw2⟩, rfl⟩
        have hF := hF.trans hF1
        have hR2 := hR8.scr s2
        have h8 : WL (m1 μ1 8 f8 8) (rdS S (tN x) (tN y)) := fun i hi => by rw [m1_eq]; exact hf i (by rw [nI_leI (by omega) (by omega)] at c55; omega)
        refine S_iload (q := 87) hX dX12_otherwise_85 rfl rfl ?_
        refine S_aload_n (q := 88) hX dX12_otherwise_87 rfl rfl ?_
        refine S_getf (fs := ?fs_7) (v := ?v_7) (q := 91) hX u_797 fo_X12_wordMany dX12_otherwise_88 ?hs_7 ?hv_7 rfl ?_
        case hs_7 => with_reducible first | exact MM.c0 hM | exact MM.c1 hM | exact MM.c5 hM | exact MM.c6 hM | exact MM.c7 hM | exact MM.c3 hM | exact MM.c4 hM | exact MM.c8 hM | exact MM.c2 hM
        case hv_7 => rfl
        refine S_icmp_le (q := 94) 99 hX dX12_otherwise_91 rfl rfl (fun c91 => ?_) (fun c91 => ?_)
        · refine S_aload_n (q := 100) hX dX12_otherwise_99 rfl rfl ?_
          refine S_getf (fs := ?fs_8) (v := ?v_8) (q := 103) hX u_797 fo_X12_wordMany dX12_otherwise_100 ?hs_8 ?hv_8 rfl ?_
          case hs_8 => with_reducible first | exact MM.c0 hM | exact MM.c1 hM | exact MM.c5 hM | exact MM.c6 hM | exact MM.c7 hM | exact MM.c3 hM | exact MM.c4 hM | exact MM.c8 hM | exact MM.c2 hM
          case hv_8 => rfl
          refine S_istore (q := 105) [_, _, _, _, _, _, _, _] hX dX12_otherwise_103 rfl (Nat.le_of_ble_eq_true rfl) rfl rfl ?_
          refine S_iconst (q := 106) (v := 0) hX dX12_otherwise_105 ic_0 rfl ?_
          refine S_istore (q := 108) [_, _, _, _, _, _, _, _] hX dX12_otherwise_106 rfl (Nat.le_of_ble_eq_true rfl) rfl rfl ?_
          rw [hl2]
          exact loop2 ((rdS S (tN x) (tN y)).length + (rdS S (tN z) (tN t)).length + 2) 0 _ _ σ μ2 c12 c28 hsp (Nat.max_eq_right (by rw [hl2, nI_leI (by omega) (by omega)] at c91; omega)).symm rfl (Nat.zero_le _) hM hF hR2 hl2 hw2 (by rw [s2.1 8 (by decide)]; exact h8) rfl (by omega)
        · refine S_iload (q := 96) hX dX12_otherwise_94 rfl rfl ?_
          refine S_goto 103 hX dX12_otherwise_96 rfl ?_
          refine S_istore (q := 105) [_, _, _, _, _, _, _, _] hX dX12_otherwise_103 rfl (Nat.le_of_ble_eq_true rfl) rfl rfl ?_
          refine S_iconst (q := 106) (v := 0) hX dX12_otherwise_105 ic_0 rfl ?_
          refine S_istore (q := 108) [_, _, _, _, _, _, _, _] hX dX12_otherwise_106 rfl (Nat.le_of_ble_eq_true rfl) rfl rfl ?_
          exact loop2 ((rdS S (tN x) (tN y)).length + (rdS S (tN z) (tN t)).length + 2) 0 _ _ σ μ2 c12 c28 hsp (Nat.max_eq_left (by rw [hl2, nI_leI (by omega) (by omega)] at c91; omega)).symm rfl (Nat.zero_le _) hM hF hR2 hl2 hw2 (by rw [s2.1 8 (by decide)]; exact h8) rfl (by omega)
      · have hlt : k < (rdS S (tN x) (tN y)).length := by rw [nI_leI (by omega) (by omega)] at c55; omega
        refine S_aload_n (q := 59) hX dX12_otherwise_58 rfl rfl ?_
        refine S_getf (fs := ?fs_9) (v := ?v_9) (q := 62) hX u_798 fo_X12_first dX12_otherwise_59 ?hs_9 ?hv_9 rfl ?_
        case hs_9 => with_reducible first | exact MM.c0 hM | exact MM.c1 hM | exact MM.c5 hM | exact MM.c6 hM | exact MM.c7 hM | exact MM.c3 hM | exact MM.c4 hM | exact MM.c8 hM | exact MM.c2 hM
        case hv_9 => rfl
        refine S_iload (q := 64) hX dX12_otherwise_62 rfl rfl ?_
        refine S_aload_n (q := 65) hX dX12_otherwise_64 rfl rfl ?_
        refine S_getf (fs := ?fs_10) (v := ?v_10) (q := 68) hX u_796 fo_X12_words dX12_otherwise_65 ?hs_10 ?hv_10 rfl ?_
        case hs_10 => with_reducible first | exact MM.c0 hM | exact MM.c1 hM | exact MM.c5 hM | exact MM.c6 hM | exact MM.c7 hM | exact MM.c3 hM | exact MM.c4 hM | exact MM.c8 hM | exact MM.c2 hM
        case hv_10 => rfl
        refine S_iload (q := 70) hX dX12_otherwise_68 rfl rfl ?_
        refine S_iald (N := ?n_11) (f := ?f_11) (q := 71) hX dX12_otherwise_70 ?hs_11 ?hi_11 rfl ?_
        case hs_11 => with_reducible first | exact MM.c0 hM | exact MM.c1 hM | exact MM.c5 hM | exact MM.c6 hM | exact MM.c7 hM | exact MM.c3 hM | exact MM.c4 hM | exact MM.c8 hM | exact MM.c2 hM
        case hi_11 => exact vp_in_nI (by omega) (by decide)
        refine S_nm (fun x71 hx71 => ?_)
        refine S_iast (N := ?n_12) (f := ?f_12) (q := 72) hX dX12_otherwise_71 ?hs_12 ?hi_12 rfl ?_
        case hs_12 => with_reducible first | exact MM.c0 hM | exact MM.c1 hM | exact MM.c5 hM | exact MM.c6 hM | exact MM.c7 hM | exact MM.c3 hM | exact MM.c4 hM | exact MM.c8 hM | exact MM.c2 hM
        case hi_12 => exact vp_in_nI (by omega) (by decide)
        refine S_stu (q0 := m) (j := 8) (i := _) hM hF (by decide) rfl (fun σ μ71 e71 hM hF => ?_)
        subst hx71
        refine S_iinc (q := 75) [_, _, _, _, _, _, _, _] hX dX12_otherwise_72 rfl (ii_1 _) rfl (Nat.le_of_ble_eq_true rfl) rfl rfl ?_
        refine S_goto 51 hX dX12_otherwise_75 rfl ?_
        rw [nI_clamp (by omega), m2_m1] at e71
        subst e71
        refine ih (k + 1) _ σ μ1 _ c4 c12 c19 c28 (nI_1 _) (by omega) hM hF hR1 hl1 hw1 (fun i hi => ?_) (by omega)
        rcases Nat.lt_succ_iff_lt_or_eq.mp hi with q | q
        · rw [upd_ne (by omega)]; exact hf i q
        · subst q; rw [upd_eq]; exact hw1 i (by omega)
  refine S_iload_n (q := 1) hX dX12_otherwise_0 rfl rfl ?_
  refine S_callS (q := 4) 0 0 hX (c_X12_isKind _) rfl u_969 u_970 u_12 u_971 ⟨by decide, by decide, rfl⟩ ⟨Nat.le_of_ble_eq_true rfl, Nat.le_of_ble_eq_true rfl⟩ ⟨Nat.le_of_ble_eq_true rfl, Nat.le_of_ble_eq_true rfl⟩ (Nat.le_of_ble_eq_true rfl) dX12_otherwise_1 ?hp_13 rfl rfl rfl ?_
  case hp_13 => trivial
  rintro v σ1 sz1 ⟨rfl, rfl, rfl⟩
  refine S_if_eq_b (q := 7) 31 hX dX12_otherwise_4 rfl rfl (fun c4 => ?_) (fun c4 => ?_)
  · refine S_aload_n (q := 32) hX dX12_otherwise_31 rfl rfl ?_
    refine S_callV (ci := 12) (C := "FanTalkModel") (T := TX12) (N := 17) (q := 35) 0 0 hX (c_X12_bad _ μ) rfl ?hs_14 rfl u_864 u_866 us_30 u_12 u_867 ⟨by decide, by decide, rfl⟩ ⟨Nat.le_of_ble_eq_true rfl, Nat.le_of_ble_eq_true rfl⟩ ⟨Nat.le_of_ble_eq_true rfl, Nat.le_of_ble_eq_true rfl⟩ (Nat.le_of_ble_eq_true rfl) dX12_otherwise_32 ?hp_14 rfl rfl rfl ?_
    case hs_14 => first | with_reducible assumption | exact ⟨_, by with_reducible assumption⟩ | exact MM.isO hM
    case hp_14 => exact hM
    rintro v σ sz1 ⟨μ9, hM, hF1, rfl, e9, rfl⟩
    have hF := hF.trans hF1
    refine S_iret hX dX12_otherwise_35 (Nat.zero_le _) (Nat.zero_le _) ?_
    refine hP _ _ _ ?_
    have hsp : sp_otherwise S x y z t = (-2, rfS S 0) := by unfold sp_otherwise; rw [if_pos (Or.inl c4)]
    rw [hsp]
    exact ⟨_, hM, hF, rfl, hR.rf (by decide) e9, rfl⟩
  · have cx := tN_ex c4.1
    have hx4 := c4.2
    refine S_aload_n (q := 8) hX dX12_otherwise_7 rfl rfl ?_
    refine S_iload_n (q := 9) hX dX12_otherwise_8 rfl rfl ?_
    refine S_callV (ci := 12) (C := "FanTalkModel") (T := TX12) (N := 17) (q := 12) 0 0 hX (c_X12_isCode _ μ _ 0 S.1.1.1) rfl ?hs_15 rfl u_854 u_856 us_29 u_12 u_857 ⟨by decide, by decide, rfl⟩ ⟨Nat.le_of_ble_eq_true rfl, Nat.le_of_ble_eq_true rfl⟩ ⟨Nat.le_of_ble_eq_true rfl, Nat.le_of_ble_eq_true rfl⟩ (Nat.le_of_ble_eq_true rfl) dX12_otherwise_9 ?hp_15 rfl rfl rfl ?_
    case hs_15 => first | with_reducible assumption | exact ⟨_, by with_reducible assumption⟩ | exact MM.isO hM
    case hp_15 => exact ⟨hM, h0, by decide, hC0, ok.1.1⟩
    rintro v σ1 sz1 ⟨rfl, rfl, rfl⟩
    refine S_if_eq_b (q := 15) 31 hX dX12_otherwise_12 rfl rfl (fun c12 => ?_) (fun c12 => ?_)
    · refine S_aload_n (q := 32) hX dX12_otherwise_31 rfl rfl ?_
      refine S_callV (ci := 12) (C := "FanTalkModel") (T := TX12) (N := 17) (q := 35) 0 0 hX (c_X12_bad _ μ) rfl ?hs_16 rfl u_864 u_866 us_30 u_12 u_867 ⟨by decide, by decide, rfl⟩ ⟨Nat.le_of_ble_eq_true rfl, Nat.le_of_ble_eq_true rfl⟩ ⟨Nat.le_of_ble_eq_true rfl, Nat.le_of_ble_eq_true rfl⟩ (Nat.le_of_ble_eq_true rfl) dX12_otherwise_32 ?hp_16 rfl rfl rfl ?_
      case hs_16 => first | with_reducible assumption | exact ⟨_, by with_reducible assumption⟩ | exact MM.isO hM
      case hp_16 => exact hM
      rintro v σ sz1 ⟨μ9, hM, hF1, rfl, e9, rfl⟩
      have hF := hF.trans hF1
      refine S_iret hX dX12_otherwise_35 (Nat.zero_le _) (Nat.zero_le _) ?_
      refine hP _ _ _ ?_
      have hsp : sp_otherwise S x y z t = (-2, rfS S 0) := by unfold sp_otherwise; rw [if_pos (Or.inr (Or.inl c12))]
      rw [hsp]
      exact ⟨_, hM, hF, rfl, hR.rf (by decide) e9, rfl⟩
    · have cy := okc.ex c12
      refine S_iload_n (q := 16) hX dX12_otherwise_15 rfl rfl ?_
      refine S_callS (q := 19) 0 0 hX (c_X12_isKind _) rfl u_969 u_970 u_12 u_971 ⟨by decide, by decide, rfl⟩ ⟨Nat.le_of_ble_eq_true rfl, Nat.le_of_ble_eq_true rfl⟩ ⟨Nat.le_of_ble_eq_true rfl, Nat.le_of_ble_eq_true rfl⟩ (Nat.le_of_ble_eq_true rfl) dX12_otherwise_16 ?hp_17 rfl rfl rfl ?_
      case hp_17 => trivial
      rintro v σ1 sz1 ⟨rfl, rfl, rfl⟩
      refine S_if_eq_b (q := 22) 31 hX dX12_otherwise_19 rfl rfl (fun c19 => ?_) (fun c19 => ?_)
      · refine S_aload_n (q := 32) hX dX12_otherwise_31 rfl rfl ?_
        refine S_callV (ci := 12) (C := "FanTalkModel") (T := TX12) (N := 17) (q := 35) 0 0 hX (c_X12_bad _ μ) rfl ?hs_18 rfl u_864 u_866 us_30 u_12 u_867 ⟨by decide, by decide, rfl⟩ ⟨Nat.le_of_ble_eq_true rfl, Nat.le_of_ble_eq_true rfl⟩ ⟨Nat.le_of_ble_eq_true rfl, Nat.le_of_ble_eq_true rfl⟩ (Nat.le_of_ble_eq_true rfl) dX12_otherwise_32 ?hp_18 rfl rfl rfl ?_
        case hs_18 => first | with_reducible assumption | exact ⟨_, by with_reducible assumption⟩ | exact MM.isO hM
        case hp_18 => exact hM
        rintro v σ sz1 ⟨μ9, hM, hF1, rfl, e9, rfl⟩
        have hF := hF.trans hF1
        refine S_iret hX dX12_otherwise_35 (Nat.zero_le _) (Nat.zero_le _) ?_
        refine hP _ _ _ ?_
        have hsp : sp_otherwise S x y z t = (-2, rfS S 0) := by unfold sp_otherwise; rw [if_pos (Or.inr (Or.inr (Or.inl c19)))]
        rw [hsp]
        exact ⟨_, hM, hF, rfl, hR.rf (by decide) e9, rfl⟩
      · have cz := tN_ex c19.1
        have hz4 := c19.2
        refine S_aload_n (q := 23) hX dX12_otherwise_22 rfl rfl ?_
        refine S_iload (q := 25) hX dX12_otherwise_23 rfl rfl ?_
        refine S_callV (ci := 12) (C := "FanTalkModel") (T := TX12) (N := 17) (q := 28) 0 0 hX (c_X12_isCode _ μ _ 0 S.1.1.1) rfl ?hs_19 rfl u_854 u_856 us_29 u_12 u_857 ⟨by decide, by decide, rfl⟩ ⟨Nat.le_of_ble_eq_true rfl, Nat.le_of_ble_eq_true rfl⟩ ⟨Nat.le_of_ble_eq_true rfl, Nat.le_of_ble_eq_true rfl⟩ (Nat.le_of_ble_eq_true rfl) dX12_otherwise_25 ?hp_19 rfl rfl rfl ?_
        case hs_19 => first | with_reducible assumption | exact ⟨_, by with_reducible assumption⟩ | exact MM.isO hM
        case hp_19 => exact ⟨hM, h0, by decide, hC0, ok.1.1⟩
        rintro v σ1 sz1 ⟨rfl, rfl, rfl⟩
        refine S_if_ne_b (q := 31) 36 hX dX12_otherwise_28 rfl rfl (fun c28 => ?_) (fun c28 => ?_)
        · have ct := okc.ex c28
          refine S_aload_n (q := 37) hX dX12_otherwise_36 rfl rfl ?_
          refine S_iload_n (q := 38) hX dX12_otherwise_37 rfl rfl ?_
          refine S_iload_n (q := 39) hX dX12_otherwise_38 rfl rfl ?_
          refine S_callV (ci := 12) (C := "FanTalkModel") (T := TX12) (N := 17) (q := 42) 0 0 hX (c_X12_readSaying _ μ S _ _ (tN x) (tN y) cx.1 cy.1) rfl ?hs_20 rfl u_972 u_974 us_45 u_12 u_975 ⟨by decide, by decide, rfl⟩ ⟨Nat.le_of_ble_eq_true rfl, Nat.le_of_ble_eq_true rfl⟩ ⟨Nat.le_of_ble_eq_true rfl, Nat.le_of_ble_eq_true rfl⟩ (Nat.le_of_ble_eq_true rfl) dX12_otherwise_39 ?hp_20 rfl rfl rfl ?_
          case hs_20 => first | with_reducible assumption | exact ⟨_, by with_reducible assumption⟩ | exact MM.isO hM
          case hp_20 => exact ⟨hM, hR, ok, by omega, cy.2.1⟩
          rintro v σ sz1 ⟨μ1, hM, hF1, rfl, ⟨s1, hl1, hw1⟩, rfl⟩
          have hF := hF.trans hF1
          have hR1 := hR.scr s1
          have ha6 := rdS_len S (tN x) (tN y)
          have hb6 := rdS_len S (tN z) (tN t)
          refine S_aload_n (q := 43) hX dX12_otherwise_42 rfl rfl ?_
          refine S_getf (fs := ?fs_21) (v := ?v_21) (q := 46) hX u_797 fo_X12_wordMany dX12_otherwise_43 ?hs_21 ?hv_21 rfl ?_
          case hs_21 => with_reducible first | exact MM.c0 hM | exact MM.c1 hM | exact MM.c5 hM | exact MM.c6 hM | exact MM.c7 hM | exact MM.c3 hM | exact MM.c4 hM | exact MM.c8 hM | exact MM.c2 hM
          case hv_21 => rfl
          rw [hl1]
          refine S_istore (q := 48) [_, _, _, _, _, _, _, _] hX dX12_otherwise_46 rfl (Nat.le_of_ble_eq_true rfl) rfl rfl ?_
          refine S_iconst (q := 49) (v := 0) hX dX12_otherwise_48 ic_0 rfl ?_
          refine S_istore (q := 51) [_, _, _, _, _, _, _, _] hX dX12_otherwise_49 rfl (Nat.le_of_ble_eq_true rfl) rfl rfl ?_
          refine loop1 ((rdS S (tN x) (tN y)).length + 1) 0 _ σ μ1 (μ1 8) c4 c12 c19 c28 rfl (Nat.zero_le _) ?_ hF hR1 hl1 hw1 (fun i hi => absurd hi (Nat.not_lt_zero _)) (by omega)
          rw [m1_id μ1 8 rfl]
          exact hM
        · refine S_aload_n (q := 32) hX dX12_otherwise_31 rfl rfl ?_
          refine S_callV (ci := 12) (C := "FanTalkModel") (T := TX12) (N := 17) (q := 35) 0 0 hX (c_X12_bad _ μ) rfl ?hs_22 rfl u_864 u_866 us_30 u_12 u_867 ⟨by decide, by decide, rfl⟩ ⟨Nat.le_of_ble_eq_true rfl, Nat.le_of_ble_eq_true rfl⟩ ⟨Nat.le_of_ble_eq_true rfl, Nat.le_of_ble_eq_true rfl⟩ (Nat.le_of_ble_eq_true rfl) dX12_otherwise_32 ?hp_22 rfl rfl rfl ?_
          case hs_22 => first | with_reducible assumption | exact ⟨_, by with_reducible assumption⟩ | exact MM.isO hM
          case hp_22 => exact hM
          rintro v σ sz1 ⟨μ9, hM, hF1, rfl, e9, rfl⟩
          have hF := hF.trans hF1
          refine S_iret hX dX12_otherwise_35 (Nat.zero_le _) (Nat.zero_le _) ?_
          refine hP _ _ _ ?_
          have hsp : sp_otherwise S x y z t = (-2, rfS S 0) := by unfold sp_otherwise; rw [if_pos (Or.inr (Or.inr (Or.inr c28)))]
          rw [hsp]
          exact ⟨_, hM, hF, rfl, hR.rf (by decide) e9, rfl⟩
