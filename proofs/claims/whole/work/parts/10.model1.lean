/-! the small methods of the reference -/
theorem c_X12_in (x lo hi : Int32) : CT_X12_in [.int x, .int lo, .int hi] (fun Γ σ sz => True) (fun Γ σ sz v σ' sz' => v = some (.int (bi (lo.toInt ≤ x.toInt ∧ x.toInt ≤ hi.toInt))) ∧ σ' = σ ∧ sz' = sz) := by
  refine CT.mkP rfl (Nat.le_of_ble_eq_true rfl) [_, _, _] rfl ?_
  intro X Γ σ sz P hX hpre hsz hP
  refine S_iload_n (q := 1) hX dX12_in_0 rfl rfl ?_
  refine S_iload_n (q := 2) hX dX12_in_1 rfl rfl ?_
  refine S_icmp_lt (q := 5) 14 hX dX12_in_2 rfl rfl (fun c2 => ?_) (fun c2 => ?_)
  · refine S_iconst (q := 15) (v := 0) hX dX12_in_14 ic_0 rfl ?_
    refine S_xret hX dX12_in_15 (Nat.zero_le _) (Nat.zero_le _) rfl ?_
    refine hP _ _ _ ?_
    refine ⟨?_, rfl, rfl⟩
    first | rw [bi_t ⟨le_i.mp (by simpa using c2), le_i.mp (by simpa using c7)⟩] | rw [bi_f (fun z => absurd (lt_i.mp c2) (by omega))] | rw [bi_f (fun z => absurd (lt_i.mp c7) (by omega))]
  · refine S_iload_n (q := 6) hX dX12_in_5 rfl rfl ?_
    refine S_iload_n (q := 7) hX dX12_in_6 rfl rfl ?_
    refine S_icmp_gt (q := 10) 14 hX dX12_in_7 rfl rfl (fun c7 => ?_) (fun c7 => ?_)
    · refine S_iconst (q := 15) (v := 0) hX dX12_in_14 ic_0 rfl ?_
      refine S_xret hX dX12_in_15 (Nat.zero_le _) (Nat.zero_le _) rfl ?_
      refine hP _ _ _ ?_
      refine ⟨?_, rfl, rfl⟩
      first | rw [bi_t ⟨le_i.mp (by simpa using c2), le_i.mp (by simpa using c7)⟩] | rw [bi_f (fun z => absurd (lt_i.mp c2) (by omega))] | rw [bi_f (fun z => absurd (lt_i.mp c7) (by omega))]
    · refine S_iconst (q := 11) (v := 1) hX dX12_in_10 ic_1 rfl ?_
      refine S_goto 15 hX dX12_in_11 rfl ?_
      refine S_xret hX dX12_in_15 (Nat.zero_le _) (Nat.zero_le _) rfl ?_
      refine hP _ _ _ ?_
      refine ⟨?_, rfl, rfl⟩
      first | rw [bi_t ⟨le_i.mp (by simpa using c2), le_i.mp (by simpa using c7)⟩] | rw [bi_f (fun z => absurd (lt_i.mp c2) (by omega))] | rw [bi_f (fun z => absurd (lt_i.mp c7) (by omega))]
theorem c_X12_bad (m : Nat) (μ : MF)  : CT_X12_bad [.ref m] (fun Γ σ sz => MM σ m μ) (fun Γ σ sz v σ' sz' => ∃ μ', MM σ' m μ' ∧ Fr m (m + 9) σ σ' ∧ v = some (.int (-2)) ∧ μ' = m2 μ 3 0 (μ 3 0 + 1) ∧ sz' = sz) := by
  refine CT.mkP rfl (Nat.le_of_ble_eq_true rfl) [_] rfl ?_
  intro X Γ σ sz P hX hpre hsz hP
  obtain ⟨hM, -⟩ := (⟨hpre, trivial⟩ : _ ∧ True)
  have hF : Fr m (m + 9) σ σ := Fr.rf
  refine S_aload_n (q := 1) hX dX12_bad_0 rfl rfl ?_
  refine S_getf (fs := ?fs_1) (v := ?v_1) (q := 4) hX u_785 fo_X12_refused dX12_bad_1 ?hs_1 ?hv_1 rfl ?_
  case hs_1 => with_reducible first | exact MM.c0 hM | exact MM.c1 hM | exact MM.c5 hM | exact MM.c6 hM | exact MM.c7 hM | exact MM.c3 hM | exact MM.c4 hM | exact MM.c8 hM | exact MM.c2 hM
  case hv_1 => rfl
  refine S_iconst (q := 5) (v := 0) hX dX12_bad_4 ic_0 rfl ?_
  refine S_dup2_11 (q := 6) hX dX12_bad_5 rfl rfl rfl ?_
  refine S_iald (N := ?n_2) (f := ?f_2) (q := 7) hX dX12_bad_6 ?hs_2 ?hi_2 rfl ?_
  case hs_2 => with_reducible first | exact MM.c0 hM | exact MM.c1 hM | exact MM.c5 hM | exact MM.c6 hM | exact MM.c7 hM | exact MM.c3 hM | exact MM.c4 hM | exact MM.c8 hM | exact MM.c2 hM
  case hi_2 => exact vp_in_nI (n := 0) (by decide) (by decide)
  refine S_iconst (q := 8) (v := 1) hX dX12_bad_7 ic_1 rfl ?_
  refine S_iadd (q := 9) hX dX12_bad_8 rfl ?_
  refine S_nm (fun x9 hx9 => ?_)
  refine S_iast (N := ?n_3) (f := ?f_3) (q := 10) hX dX12_bad_9 ?hs_3 ?hi_3 rfl ?_
  case hs_3 => with_reducible first | exact MM.c0 hM | exact MM.c1 hM | exact MM.c5 hM | exact MM.c6 hM | exact MM.c7 hM | exact MM.c3 hM | exact MM.c4 hM | exact MM.c8 hM | exact MM.c2 hM
  case hi_3 => exact vp_in_nI (n := 0) (by decide) (by decide)
  refine S_stu (q0 := m) (j := 3) (i := _) hM hF (by decide) rfl (fun σ μ9 e9 hM hF => ?_)
  subst hx9
  refine S_bipush (q := 12) (v := (-2)) hX dX12_bad_10 bp_m2 rfl ?_
  refine S_iret hX dX12_bad_12 (Nat.zero_le _) (Nat.zero_le _) ?_
  refine hP _ _ _ ?_
  exact ⟨_, hM, hF, rfl, e9, rfl⟩
theorem c_X12_no (m : Nat) (μ : MF)  : CT_X12_no [.ref m] (fun Γ σ sz => MM σ m μ) (fun Γ σ sz v σ' sz' => ∃ μ', MM σ' m μ' ∧ Fr m (m + 9) σ σ' ∧ v = some (.int (-3)) ∧ μ' = m2 μ 3 1 (μ 3 1 + 1) ∧ sz' = sz) := by
  refine CT.mkP rfl (Nat.le_of_ble_eq_true rfl) [_] rfl ?_
  intro X Γ σ sz P hX hpre hsz hP
  obtain ⟨hM, -⟩ := (⟨hpre, trivial⟩ : _ ∧ True)
  have hF : Fr m (m + 9) σ σ := Fr.rf
  refine S_aload_n (q := 1) hX dX12_no_0 rfl rfl ?_
  refine S_getf (fs := ?fs_1) (v := ?v_1) (q := 4) hX u_785 fo_X12_refused dX12_no_1 ?hs_1 ?hv_1 rfl ?_
  case hs_1 => with_reducible first | exact MM.c0 hM | exact MM.c1 hM | exact MM.c5 hM | exact MM.c6 hM | exact MM.c7 hM | exact MM.c3 hM | exact MM.c4 hM | exact MM.c8 hM | exact MM.c2 hM
  case hv_1 => rfl
  refine S_iconst (q := 5) (v := 1) hX dX12_no_4 ic_1 rfl ?_
  refine S_dup2_11 (q := 6) hX dX12_no_5 rfl rfl rfl ?_
  refine S_iald (N := ?n_2) (f := ?f_2) (q := 7) hX dX12_no_6 ?hs_2 ?hi_2 rfl ?_
  case hs_2 => with_reducible first | exact MM.c0 hM | exact MM.c1 hM | exact MM.c5 hM | exact MM.c6 hM | exact MM.c7 hM | exact MM.c3 hM | exact MM.c4 hM | exact MM.c8 hM | exact MM.c2 hM
  case hi_2 => exact vp_in_nI (n := 1) (by decide) (by decide)
  refine S_iconst (q := 8) (v := 1) hX dX12_no_7 ic_1 rfl ?_
  refine S_iadd (q := 9) hX dX12_no_8 rfl ?_
  refine S_nm (fun x9 hx9 => ?_)
  refine S_iast (N := ?n_3) (f := ?f_3) (q := 10) hX dX12_no_9 ?hs_3 ?hi_3 rfl ?_
  case hs_3 => with_reducible first | exact MM.c0 hM | exact MM.c1 hM | exact MM.c5 hM | exact MM.c6 hM | exact MM.c7 hM | exact MM.c3 hM | exact MM.c4 hM | exact MM.c8 hM | exact MM.c2 hM
  case hi_3 => exact vp_in_nI (n := 1) (by decide) (by decide)
  refine S_stu (q0 := m) (j := 3) (i := _) hM hF (by decide) rfl (fun σ μ9 e9 hM hF => ?_)
  subst hx9
  refine S_bipush (q := 12) (v := (-3)) hX dX12_no_10 bp_m3 rfl ?_
  refine S_iret hX dX12_no_12 (Nat.zero_le _) (Nat.zero_le _) ?_
  refine hP _ _ _ ?_
  exact ⟨_, hM, hF, rfl, e9, rfl⟩
theorem c_X12_full (m : Nat) (μ : MF)  : CT_X12_full [.ref m] (fun Γ σ sz => MM σ m μ) (fun Γ σ sz v σ' sz' => ∃ μ', MM σ' m μ' ∧ Fr m (m + 9) σ σ' ∧ v = some (.int (-4)) ∧ μ' = m2 μ 3 2 (μ 3 2 + 1) ∧ sz' = sz) := by
  refine CT.mkP rfl (Nat.le_of_ble_eq_true rfl) [_] rfl ?_
  intro X Γ σ sz P hX hpre hsz hP
  obtain ⟨hM, -⟩ := (⟨hpre, trivial⟩ : _ ∧ True)
  have hF : Fr m (m + 9) σ σ := Fr.rf
  refine S_aload_n (q := 1) hX dX12_full_0 rfl rfl ?_
  refine S_getf (fs := ?fs_1) (v := ?v_1) (q := 4) hX u_785 fo_X12_refused dX12_full_1 ?hs_1 ?hv_1 rfl ?_
  case hs_1 => with_reducible first | exact MM.c0 hM | exact MM.c1 hM | exact MM.c5 hM | exact MM.c6 hM | exact MM.c7 hM | exact MM.c3 hM | exact MM.c4 hM | exact MM.c8 hM | exact MM.c2 hM
  case hv_1 => rfl
  refine S_iconst (q := 5) (v := 2) hX dX12_full_4 ic_2 rfl ?_
  refine S_dup2_11 (q := 6) hX dX12_full_5 rfl rfl rfl ?_
  refine S_iald (N := ?n_2) (f := ?f_2) (q := 7) hX dX12_full_6 ?hs_2 ?hi_2 rfl ?_
  case hs_2 => with_reducible first | exact MM.c0 hM | exact MM.c1 hM | exact MM.c5 hM | exact MM.c6 hM | exact MM.c7 hM | exact MM.c3 hM | exact MM.c4 hM | exact MM.c8 hM | exact MM.c2 hM
  case hi_2 => exact vp_in_nI (n := 2) (by decide) (by decide)
  refine S_iconst (q := 8) (v := 1) hX dX12_full_7 ic_1 rfl ?_
  refine S_iadd (q := 9) hX dX12_full_8 rfl ?_
  refine S_nm (fun x9 hx9 => ?_)
  refine S_iast (N := ?n_3) (f := ?f_3) (q := 10) hX dX12_full_9 ?hs_3 ?hi_3 rfl ?_
  case hs_3 => with_reducible first | exact MM.c0 hM | exact MM.c1 hM | exact MM.c5 hM | exact MM.c6 hM | exact MM.c7 hM | exact MM.c3 hM | exact MM.c4 hM | exact MM.c8 hM | exact MM.c2 hM
  case hi_3 => exact vp_in_nI (n := 2) (by decide) (by decide)
  refine S_stu (q0 := m) (j := 3) (i := _) hM hF (by decide) rfl (fun σ μ9 e9 hM hF => ?_)
  subst hx9
  refine S_bipush (q := 12) (v := (-4)) hX dX12_full_10 bp_m4 rfl ?_
  refine S_iret hX dX12_full_12 (Nat.zero_le _) (Nat.zero_le _) ?_
  refine hP _ _ _ ?_
  exact ⟨_, hM, hF, rfl, e9, rfl⟩
theorem c_X12_get (m : Nat) (μ : MF) (x : Int32) (b k : Nat) (hk : x = nI k) : CT_X12_get [.ref m, .int x] (fun Γ σ sz => MM σ m μ ∧ μ 0 0 = nI b ∧ b + k < 1812) (fun Γ σ sz v σ' sz' => v = some (.int (μ 1 (b + k))) ∧ σ' = σ ∧ sz' = sz) := by
  refine CT.mkP rfl (Nat.le_of_ble_eq_true rfl) [_, _] rfl ?_
  intro X Γ σ sz P hX hpre hsz hP
  obtain ⟨hM, h0, hb⟩ := hpre
  have hF : Fr m (m + 9) σ σ := Fr.rf
  subst hk
  refine S_aload_n (q := 1) hX dX12_get_0 rfl rfl ?_
  refine S_getf (fs := ?fs_1) (v := ?v_1) (q := 4) hX u_782 fo_X12_now dX12_get_1 ?hs_1 ?hv_1 rfl ?_
  case hs_1 => with_reducible first | exact MM.c0 hM | exact MM.c1 hM | exact MM.c5 hM | exact MM.c6 hM | exact MM.c7 hM | exact MM.c3 hM | exact MM.c4 hM | exact MM.c8 hM | exact MM.c2 hM
  case hv_1 => rfl
  refine S_aload_n (q := 5) hX dX12_get_4 rfl rfl ?_
  refine S_getf (fs := ?fs_2) (v := ?v_2) (q := 8) hX u_783 fo_X12_base dX12_get_5 ?hs_2 ?hv_2 rfl ?_
  case hs_2 => with_reducible first | exact MM.c0 hM | exact MM.c1 hM | exact MM.c5 hM | exact MM.c6 hM | exact MM.c7 hM | exact MM.c3 hM | exact MM.c4 hM | exact MM.c8 hM | exact MM.c2 hM
  case hv_2 => rfl
  refine S_iload_n (q := 9) hX dX12_get_8 rfl rfl ?_
  refine S_iadd (q := 10) hX dX12_get_9 rfl ?_
  refine S_top ((congrArg (· + nI k) h0).trans (nI_add _ _)) ?_
  refine S_iald (N := ?n_3) (f := ?f_3) (q := 11) hX dX12_get_10 ?hs_3 ?hi_3 rfl ?_
  case hs_3 => with_reducible first | exact MM.c0 hM | exact MM.c1 hM | exact MM.c5 hM | exact MM.c6 hM | exact MM.c7 hM | exact MM.c3 hM | exact MM.c4 hM | exact MM.c8 hM | exact MM.c2 hM
  case hi_3 => exact vp_in_nI hb (by decide)
  refine S_iret hX dX12_get_11 (Nat.zero_le _) (Nat.zero_le _) ?_
  refine hP _ _ _ ?_
  rw [nI_clamp (by omega)]
  exact ⟨rfl, rfl, rfl⟩
theorem c_X12_set (m : Nat) (μ : MF) (x y : Int32) (b k : Nat) (hk : x = nI k) : CT_X12_set [.ref m, .int x, .int y] (fun Γ σ sz => MM σ m μ ∧ μ 0 0 = nI b ∧ b + k < 1812) (fun Γ σ sz v σ' sz' => ∃ μ', MM σ' m μ' ∧ Fr m (m + 9) σ σ' ∧ v = none ∧ μ' = m2 μ 1 (b + k) y ∧ sz' = sz) := by
  refine CT.mkP rfl (Nat.le_of_ble_eq_true rfl) [_, _, _] rfl ?_
  intro X Γ σ sz P hX hpre hsz hP
  obtain ⟨hM, h0, hb⟩ := hpre
  have hF : Fr m (m + 9) σ σ := Fr.rf
  subst hk
  refine S_aload_n (q := 1) hX dX12_set_0 rfl rfl ?_
  refine S_getf (fs := ?fs_1) (v := ?v_1) (q := 4) hX u_782 fo_X12_now dX12_set_1 ?hs_1 ?hv_1 rfl ?_
  case hs_1 => with_reducible first | exact MM.c0 hM | exact MM.c1 hM | exact MM.c5 hM | exact MM.c6 hM | exact MM.c7 hM | exact MM.c3 hM | exact MM.c4 hM | exact MM.c8 hM | exact MM.c2 hM
  case hv_1 => rfl
  refine S_aload_n (q := 5) hX dX12_set_4 rfl rfl ?_
  refine S_getf (fs := ?fs_2) (v := ?v_2) (q := 8) hX u_783 fo_X12_base dX12_set_5 ?hs_2 ?hv_2 rfl ?_
  case hs_2 => with_reducible first | exact MM.c0 hM | exact MM.c1 hM | exact MM.c5 hM | exact MM.c6 hM | exact MM.c7 hM | exact MM.c3 hM | exact MM.c4 hM | exact MM.c8 hM | exact MM.c2 hM
  case hv_2 => rfl
  refine S_iload_n (q := 9) hX dX12_set_8 rfl rfl ?_
  refine S_iadd (q := 10) hX dX12_set_9 rfl ?_
  refine S_top ((congrArg (· + nI k) h0).trans (nI_add _ _)) ?_
  refine S_iload_n (q := 11) hX dX12_set_10 rfl rfl ?_
  refine S_nm (fun x11 hx11 => ?_)
  refine S_iast (N := ?n_3) (f := ?f_3) (q := 12) hX dX12_set_11 ?hs_3 ?hi_3 rfl ?_
  case hs_3 => with_reducible first | exact MM.c0 hM | exact MM.c1 hM | exact MM.c5 hM | exact MM.c6 hM | exact MM.c7 hM | exact MM.c3 hM | exact MM.c4 hM | exact MM.c8 hM | exact MM.c2 hM
  case hi_3 => exact vp_in_nI hb (by decide)
  refine S_stu (q0 := m) (j := 1) (i := _) hM hF (by decide) rfl (fun σ μ11 e11 hM hF => ?_)
  subst hx11
  refine S_vret hX dX12_set_12 (Nat.zero_le _) (Nat.zero_le _) ?_
  refine hP _ _ _ ?_
  rw [nI_clamp (by omega)] at e11
  exact ⟨_, hM, hF, rfl, e11, rfl⟩
theorem c_X12_isCode (m : Nat) (μ : MF) (x : Int32) (b n : Nat) : CT_X12_isCode [.ref m, .int x] (fun Γ σ sz => MM σ m μ ∧ μ 0 0 = nI b ∧ b < 1812 ∧ μ 1 b = nI n ∧ n ≤ 3) (fun Γ σ sz v σ' sz' => v = some (.int (bi (0 ≤ x.toInt ∧ x.toInt < n))) ∧ σ' = σ ∧ sz' = sz) := by
  refine CT.mkP rfl (Nat.le_of_ble_eq_true rfl) [_, _] rfl ?_
  intro X Γ σ sz P hX hpre hsz hP
  obtain ⟨hM, h0, hb, hn, hn3⟩ := hpre
  have hF : Fr m (m + 9) σ σ := Fr.rf
  refine S_iload_n (q := 1) hX dX12_isCode_0 rfl rfl ?_
  refine S_iconst (q := 2) (v := 0) hX dX12_isCode_1 ic_0 rfl ?_
  refine S_aload_n (q := 3) hX dX12_isCode_2 rfl rfl ?_
  refine S_iconst (q := 4) (v := 0) hX dX12_isCode_3 ic_0 rfl ?_
  refine S_callV (ci := 12) (C := "FanTalkModel") (T := TX12) (N := 17) (q := 7) 0 0 hX (c_X12_get _ μ _ b 0 rfl) rfl ?hs_1 rfl u_838 u_840 us_26 u_12 u_841 ⟨by decide, by decide, rfl⟩ ⟨Nat.le_of_ble_eq_true rfl, Nat.le_of_ble_eq_true rfl⟩ ⟨Nat.le_of_ble_eq_true rfl, Nat.le_of_ble_eq_true rfl⟩ (Nat.le_of_ble_eq_true rfl) dX12_isCode_4 ?hp_1 rfl rfl rfl ?_
  case hs_1 => first | with_reducible assumption | exact ⟨_, by with_reducible assumption⟩ | exact MM.isO hM
  case hp_1 => exact ⟨hM, h0, by omega⟩
  rintro v σ1 sz1 ⟨rfl, rfl, rfl⟩
  refine S_iconst (q := 8) (v := 1) hX dX12_isCode_7 ic_1 rfl ?_
  refine S_isub (q := 9) hX dX12_isCode_8 rfl ?_
  refine S_callS (q := 12) 0 0 hX (c_X12_in _ _ _) rfl u_858 u_859 u_12 u_860 ⟨by decide, by decide, rfl⟩ ⟨Nat.le_of_ble_eq_true rfl, Nat.le_of_ble_eq_true rfl⟩ ⟨Nat.le_of_ble_eq_true rfl, Nat.le_of_ble_eq_true rfl⟩ (Nat.le_of_ble_eq_true rfl) dX12_isCode_9 ?hp_2 rfl rfl rfl ?_
  case hp_2 => trivial
  rintro v σ1 sz1 ⟨rfl, rfl, rfl⟩
  refine S_xret hX dX12_isCode_12 (Nat.zero_le _) (Nat.zero_le _) nb_bi ?_
  refine hP _ _ _ ?_
  refine ⟨?_, rfl, rfl⟩
  rw [Nat.add_zero, hn]
  refine congrArg (fun z => some (Value.int z)) (bi_congr ?_)
  rcases n with _ | n
  · rw [show (nI 0 - 1).toInt = -1 by decide, toI0]; simp; omega
  · rw [i1, pk_sub (by omega), nI_toInt (by omega), toI0]; simp; omega
theorem c_X12_entriesOf (m : Nat) (μ : MF) (x : Int32) (b c : Nat) (hc : x = nI c) : CT_X12_entriesOf [.ref m, .int x] (fun Γ σ sz => MM σ m μ ∧ μ 0 0 = nI b ∧ b + (36 + 17 * c) < 1812) (fun Γ σ sz v σ' sz' => v = some (.int (μ 1 (b + (36 + 17 * c)))) ∧ σ' = σ ∧ sz' = sz) := by
  refine CT.mkP rfl (Nat.le_of_ble_eq_true rfl) [_, _] rfl ?_
  intro X Γ σ sz P hX hpre hsz hP
  obtain ⟨hM, h0, hb⟩ := hpre
  have hF : Fr m (m + 9) σ σ := Fr.rf
  subst hc
  refine S_aload_n (q := 1) hX dX12_entriesOf_0 rfl rfl ?_
  refine S_bipush (q := 3) (v := 36) hX dX12_entriesOf_1 bp_36 rfl ?_
  refine S_bipush (q := 5) (v := 17) hX dX12_entriesOf_3 bp_17 rfl ?_
  refine S_iload_n (q := 6) hX dX12_entriesOf_5 rfl rfl ?_
  refine S_imul (q := 7) hX dX12_entriesOf_6 rfl ?_
  refine S_iadd (q := 8) hX dX12_entriesOf_7 rfl ?_
  refine S_callV (ci := 12) (C := "FanTalkModel") (T := TX12) (N := 17) (q := 11) 0 0 hX (c_X12_get _ μ _ b (36 + 17 * c) (by first | rfl | (simp only [i0, i1, i2, i3, i4, i5, i6, i7, i8, i9, i10, i11, i12, i17, i20, i24, i26, i27, i31, i32, i36, i48, i57, i59, i60, i61, i63, i64, i87, i96, i97, i99, i122, i148, i250, i255, i305, i453, i999, i1359, i1812, pk_mul, nI_add]; done) | (simp only [i0, i1, i2, i3, i4, i5, i6, i7, i8, i9, i10, i11, i12, i17, i20, i24, i26, i27, i31, i32, i36, i48, i57, i59, i60, i61, i63, i64, i87, i96, i97, i99, i122, i148, i250, i255, i305, i453, i999, i1359, i1812, pk_mul, nI_add]; congr 1; omega))) rfl ?hs_1 rfl u_838 u_840 us_26 u_12 u_841 ⟨by decide, by decide, rfl⟩ ⟨Nat.le_of_ble_eq_true rfl, Nat.le_of_ble_eq_true rfl⟩ ⟨Nat.le_of_ble_eq_true rfl, Nat.le_of_ble_eq_true rfl⟩ (Nat.le_of_ble_eq_true rfl) dX12_entriesOf_8 ?hp_1 rfl rfl rfl ?_
  case hs_1 => first | with_reducible assumption | exact ⟨_, by with_reducible assumption⟩ | exact MM.isO hM
  case hp_1 => exact ⟨hM, h0, by omega⟩
  rintro v σ1 sz1 ⟨rfl, rfl, rfl⟩
  refine S_iret hX dX12_entriesOf_11 (Nat.zero_le _) (Nat.zero_le _) ?_
  refine hP _ _ _ ?_
  exact ⟨rfl, rfl, rfl⟩
theorem c_X12_rowOf (m : Nat) (μ : MF) (x y : Int32) (b c e : Nat) (hc : x = nI c) (he : y = nI e) : CT_X12_rowOf [.ref m, .int x, .int y] (fun Γ σ sz => MM σ m μ ∧ μ 0 0 = nI b ∧ b + (36 + 17 * c + 1 + 2 * e) < 1812) (fun Γ σ sz v σ' sz' => v = some (.int (μ 1 (b + (36 + 17 * c + 1 + 2 * e)))) ∧ σ' = σ ∧ sz' = sz) := by
  refine CT.mkP rfl (Nat.le_of_ble_eq_true rfl) [_, _, _] rfl ?_
  intro X Γ σ sz P hX hpre hsz hP
  obtain ⟨hM, h0, hb⟩ := hpre
  have hF : Fr m (m + 9) σ σ := Fr.rf
  subst hc
  subst he
  refine S_aload_n (q := 1) hX dX12_rowOf_0 rfl rfl ?_
  refine S_bipush (q := 3) (v := 36) hX dX12_rowOf_1 bp_36 rfl ?_
  refine S_bipush (q := 5) (v := 17) hX dX12_rowOf_3 bp_17 rfl ?_
  refine S_iload_n (q := 6) hX dX12_rowOf_5 rfl rfl ?_
  refine S_imul (q := 7) hX dX12_rowOf_6 rfl ?_
  refine S_iadd (q := 8) hX dX12_rowOf_7 rfl ?_
  refine S_iconst (q := 9) (v := 1) hX dX12_rowOf_8 ic_1 rfl ?_
  refine S_iadd (q := 10) hX dX12_rowOf_9 rfl ?_
  refine S_iconst (q := 11) (v := 2) hX dX12_rowOf_10 ic_2 rfl ?_
  refine S_iload_n (q := 12) hX dX12_rowOf_11 rfl rfl ?_
  refine S_imul (q := 13) hX dX12_rowOf_12 rfl ?_
  refine S_iadd (q := 14) hX dX12_rowOf_13 rfl ?_
  refine S_callV (ci := 12) (C := "FanTalkModel") (T := TX12) (N := 17) (q := 17) 0 0 hX (c_X12_get _ μ _ b (36 + 17 * c + 1 + 2 * e) (by first | rfl | (simp only [i0, i1, i2, i3, i4, i5, i6, i7, i8, i9, i10, i11, i12, i17, i20, i24, i26, i27, i31, i32, i36, i48, i57, i59, i60, i61, i63, i64, i87, i96, i97, i99, i122, i148, i250, i255, i305, i453, i999, i1359, i1812, pk_mul, nI_add]; done) | (simp only [i0, i1, i2, i3, i4, i5, i6, i7, i8, i9, i10, i11, i12, i17, i20, i24, i26, i27, i31, i32, i36, i48, i57, i59, i60, i61, i63, i64, i87, i96, i97, i99, i122, i148, i250, i255, i305, i453, i999, i1359, i1812, pk_mul, nI_add]; congr 1; omega))) rfl ?hs_1 rfl u_838 u_840 us_26 u_12 u_841 ⟨by decide, by decide, rfl⟩ ⟨Nat.le_of_ble_eq_true rfl, Nat.le_of_ble_eq_true rfl⟩ ⟨Nat.le_of_ble_eq_true rfl, Nat.le_of_ble_eq_true rfl⟩ (Nat.le_of_ble_eq_true rfl) dX12_rowOf_14 ?hp_1 rfl rfl rfl ?_
  case hs_1 => first | with_reducible assumption | exact ⟨_, by with_reducible assumption⟩ | exact MM.isO hM
  case hp_1 => exact ⟨hM, h0, by omega⟩
  rintro v σ1 sz1 ⟨rfl, rfl, rfl⟩
  refine S_iret hX dX12_rowOf_17 (Nat.zero_le _) (Nat.zero_le _) ?_
  refine hP _ _ _ ?_
  exact ⟨rfl, rfl, rfl⟩
theorem c_X12_wordOf (m : Nat) (μ : MF) (x y : Int32) (b c e : Nat) (hc : x = nI c) (he : y = nI e) : CT_X12_wordOf [.ref m, .int x, .int y] (fun Γ σ sz => MM σ m μ ∧ μ 0 0 = nI b ∧ b + (36 + 17 * c + 2 + 2 * e) < 1812) (fun Γ σ sz v σ' sz' => v = some (.int (μ 1 (b + (36 + 17 * c + 2 + 2 * e)))) ∧ σ' = σ ∧ sz' = sz) := by
  refine CT.mkP rfl (Nat.le_of_ble_eq_true rfl) [_, _, _] rfl ?_
  intro X Γ σ sz P hX hpre hsz hP
  obtain ⟨hM, h0, hb⟩ := hpre
  have hF : Fr m (m + 9) σ σ := Fr.rf
  subst hc
  subst he
  refine S_aload_n (q := 1) hX dX12_wordOf_0 rfl rfl ?_
  refine S_bipush (q := 3) (v := 36) hX dX12_wordOf_1 bp_36 rfl ?_
  refine S_bipush (q := 5) (v := 17) hX dX12_wordOf_3 bp_17 rfl ?_
  refine S_iload_n (q := 6) hX dX12_wordOf_5 rfl rfl ?_
  refine S_imul (q := 7) hX dX12_wordOf_6 rfl ?_
  refine S_iadd (q := 8) hX dX12_wordOf_7 rfl ?_
  refine S_iconst (q := 9) (v := 2) hX dX12_wordOf_8 ic_2 rfl ?_
  refine S_iadd (q := 10) hX dX12_wordOf_9 rfl ?_
  refine S_iconst (q := 11) (v := 2) hX dX12_wordOf_10 ic_2 rfl ?_
  refine S_iload_n (q := 12) hX dX12_wordOf_11 rfl rfl ?_
  refine S_imul (q := 13) hX dX12_wordOf_12 rfl ?_
  refine S_iadd (q := 14) hX dX12_wordOf_13 rfl ?_
  refine S_callV (ci := 12) (C := "FanTalkModel") (T := TX12) (N := 17) (q := 17) 0 0 hX (c_X12_get _ μ _ b (36 + 17 * c + 2 + 2 * e) (by first | rfl | (simp only [i0, i1, i2, i3, i4, i5, i6, i7, i8, i9, i10, i11, i12, i17, i20, i24, i26, i27, i31, i32, i36, i48, i57, i59, i60, i61, i63, i64, i87, i96, i97, i99, i122, i148, i250, i255, i305, i453, i999, i1359, i1812, pk_mul, nI_add]; done) | (simp only [i0, i1, i2, i3, i4, i5, i6, i7, i8, i9, i10, i11, i12, i17, i20, i24, i26, i27, i31, i32, i36, i48, i57, i59, i60, i61, i63, i64, i87, i96, i97, i99, i122, i148, i250, i255, i305, i453, i999, i1359, i1812, pk_mul, nI_add]; congr 1; omega))) rfl ?hs_1 rfl u_838 u_840 us_26 u_12 u_841 ⟨by decide, by decide, rfl⟩ ⟨Nat.le_of_ble_eq_true rfl, Nat.le_of_ble_eq_true rfl⟩ ⟨Nat.le_of_ble_eq_true rfl, Nat.le_of_ble_eq_true rfl⟩ (Nat.le_of_ble_eq_true rfl) dX12_wordOf_14 ?hp_1 rfl rfl rfl ?_
  case hs_1 => first | with_reducible assumption | exact ⟨_, by with_reducible assumption⟩ | exact MM.isO hM
  case hp_1 => exact ⟨hM, h0, by omega⟩
  rintro v σ1 sz1 ⟨rfl, rfl, rfl⟩
  refine S_iret hX dX12_wordOf_17 (Nat.zero_le _) (Nat.zero_le _) ?_
  refine hP _ _ _ ?_
  exact ⟨rfl, rfl, rfl⟩
def addE (μ : MF) (b c e : Nat) (word row : Int32) : MF := m2 (m2 (m2 μ 1 (b + (36 + 17 * c + 1 + 2 * e)) row) 1 (b + (36 + 17 * c + 2 + 2 * e)) word) 1 (b + (36 + 17 * c)) (nI (e + 1))
theorem c_X12_addEntry (m : Nat) (μ : MF) (x word row : Int32) (b c e : Nat) (hc : x = nI c) : CT_X12_addEntry [.ref m, .int x, .int word, .int row] (fun Γ σ sz => MM σ m μ ∧ μ 0 0 = nI b ∧ b + (36 + 17 * c + 2 + 2 * e) < 1812 ∧ μ 1 (b + (36 + 17 * c)) = nI e) (fun Γ σ sz v σ' sz' => ∃ μ', MM σ' m μ' ∧ Fr m (m + 9) σ σ' ∧ v = none ∧ μ' = addE μ b c e word row ∧ sz' = sz) := by
  refine CT.mkP rfl (Nat.le_of_ble_eq_true rfl) [_, _, _, _, _] rfl ?_
  intro X Γ σ sz P hX hpre hsz hP
  obtain ⟨hM, h0, hb, he⟩ := hpre
  have hF : Fr m (m + 9) σ σ := Fr.rf
  subst hc
  refine S_aload_n (q := 1) hX dX12_addEntry_0 rfl rfl ?_
  refine S_iload_n (q := 2) hX dX12_addEntry_1 rfl rfl ?_
  refine S_callV (ci := 12) (C := "FanTalkModel") (T := TX12) (N := 17) (q := 5) 0 0 hX (c_X12_entriesOf _ μ _ b c rfl) rfl ?hs_1 rfl u_872 u_874 us_32 u_12 u_875 ⟨by decide, by decide, rfl⟩ ⟨Nat.le_of_ble_eq_true rfl, Nat.le_of_ble_eq_true rfl⟩ ⟨Nat.le_of_ble_eq_true rfl, Nat.le_of_ble_eq_true rfl⟩ (Nat.le_of_ble_eq_true rfl) dX12_addEntry_2 ?hp_1 rfl rfl rfl ?_
  case hs_1 => first | with_reducible assumption | exact ⟨_, by with_reducible assumption⟩ | exact MM.isO hM
  case hp_1 => exact ⟨hM, h0, by omega⟩
  rintro v σ1 sz1 ⟨rfl, rfl, rfl⟩
  rw [he]
  refine S_istore (q := 7) [_, _, _, _, _] hX dX12_addEntry_5 rfl (Nat.le_of_ble_eq_true rfl) rfl rfl ?_
  refine S_aload_n (q := 8) hX dX12_addEntry_7 rfl rfl ?_
  refine S_bipush (q := 10) (v := 36) hX dX12_addEntry_8 bp_36 rfl ?_
  refine S_bipush (q := 12) (v := 17) hX dX12_addEntry_10 bp_17 rfl ?_
  refine S_iload_n (q := 13) hX dX12_addEntry_12 rfl rfl ?_
  refine S_imul (q := 14) hX dX12_addEntry_13 rfl ?_
  refine S_iadd (q := 15) hX dX12_addEntry_14 rfl ?_
  refine S_iconst (q := 16) (v := 1) hX dX12_addEntry_15 ic_1 rfl ?_
  refine S_iadd (q := 17) hX dX12_addEntry_16 rfl ?_
  refine S_iconst (q := 18) (v := 2) hX dX12_addEntry_17 ic_2 rfl ?_
  refine S_iload (q := 20) hX dX12_addEntry_18 rfl rfl ?_
  refine S_imul (q := 21) hX dX12_addEntry_20 rfl ?_
  refine S_iadd (q := 22) hX dX12_addEntry_21 rfl ?_
  refine S_iload_n (q := 23) hX dX12_addEntry_22 rfl rfl ?_
  refine S_callV (ci := 12) (C := "FanTalkModel") (T := TX12) (N := 17) (q := 26) 0 0 hX (c_X12_set _ μ _ _ b (36 + 17 * c + 1 + 2 * e) (by first | rfl | (simp only [i0, i1, i2, i3, i4, i5, i6, i7, i8, i9, i10, i11, i12, i17, i20, i24, i26, i27, i31, i32, i36, i48, i57, i59, i60, i61, i63, i64, i87, i96, i97, i99, i122, i148, i250, i255, i305, i453, i999, i1359, i1812, pk_mul, nI_add]; done) | (simp only [i0, i1, i2, i3, i4, i5, i6, i7, i8, i9, i10, i11, i12, i17, i20, i24, i26, i27, i31, i32, i36, i48, i57, i59, i60, i61, i63, i64, i87, i96, i97, i99, i122, i148, i250, i255, i305, i453, i999, i1359, i1812, pk_mul, nI_add]; congr 1; omega))) rfl ?hs_2 rfl u_846 u_848 us_28 u_12 u_849 ⟨by decide, by decide, rfl⟩ ⟨Nat.le_of_ble_eq_true rfl, Nat.le_of_ble_eq_true rfl⟩ ⟨Nat.le_of_ble_eq_true rfl, Nat.le_of_ble_eq_true rfl⟩ (Nat.le_of_ble_eq_true rfl) dX12_addEntry_23 ?hp_2 rfl rfl rfl ?_
  case hs_2 => first | with_reducible assumption | exact ⟨_, by with_reducible assumption⟩ | exact MM.isO hM
  case hp_2 => exact ⟨hM, h0, by omega⟩
  rintro v σ sz1 ⟨μ1, hM, hF1, rfl, e1, rfl⟩
  have hF := hF.trans hF1
  refine S_aload_n (q := 27) hX dX12_addEntry_26 rfl rfl ?_
  refine S_bipush (q := 29) (v := 36) hX dX12_addEntry_27 bp_36 rfl ?_
  refine S_bipush (q := 31) (v := 17) hX dX12_addEntry_29 bp_17 rfl ?_
  refine S_iload_n (q := 32) hX dX12_addEntry_31 rfl rfl ?_
  refine S_imul (q := 33) hX dX12_addEntry_32 rfl ?_
  refine S_iadd (q := 34) hX dX12_addEntry_33 rfl ?_
  refine S_iconst (q := 35) (v := 2) hX dX12_addEntry_34 ic_2 rfl ?_
  refine S_iadd (q := 36) hX dX12_addEntry_35 rfl ?_
  refine S_iconst (q := 37) (v := 2) hX dX12_addEntry_36 ic_2 rfl ?_
  refine S_iload (q := 39) hX dX12_addEntry_37 rfl rfl ?_
  refine S_imul (q := 40) hX dX12_addEntry_39 rfl ?_
  refine S_iadd (q := 41) hX dX12_addEntry_40 rfl ?_
  refine S_iload_n (q := 42) hX dX12_addEntry_41 rfl rfl ?_
  refine S_callV (ci := 12) (C := "FanTalkModel") (T := TX12) (N := 17) (q := 45) 0 0 hX (c_X12_set _ μ1 _ _ b (36 + 17 * c + 2 + 2 * e) (by first | rfl | (simp only [i0, i1, i2, i3, i4, i5, i6, i7, i8, i9, i10, i11, i12, i17, i20, i24, i26, i27, i31, i32, i36, i48, i57, i59, i60, i61, i63, i64, i87, i96, i97, i99, i122, i148, i250, i255, i305, i453, i999, i1359, i1812, pk_mul, nI_add]; done) | (simp only [i0, i1, i2, i3, i4, i5, i6, i7, i8, i9, i10, i11, i12, i17, i20, i24, i26, i27, i31, i32, i36, i48, i57, i59, i60, i61, i63, i64, i87, i96, i97, i99, i122, i148, i250, i255, i305, i453, i999, i1359, i1812, pk_mul, nI_add]; congr 1; omega))) rfl ?hs_3 rfl u_846 u_848 us_28 u_12 u_849 ⟨by decide, by decide, rfl⟩ ⟨Nat.le_of_ble_eq_true rfl, Nat.le_of_ble_eq_true rfl⟩ ⟨Nat.le_of_ble_eq_true rfl, Nat.le_of_ble_eq_true rfl⟩ (Nat.le_of_ble_eq_true rfl) dX12_addEntry_42 ?hp_3 rfl rfl rfl ?_
  case hs_3 => first | with_reducible assumption | exact ⟨_, by with_reducible assumption⟩ | exact MM.isO hM
  case hp_3 => exact ⟨hM, by simp [e1, m2_at, h0], by omega⟩
  rintro v σ sz1 ⟨μ2, hM, hF1, rfl, e2, rfl⟩
  have hF := hF.trans hF1
  refine S_aload_n (q := 46) hX dX12_addEntry_45 rfl rfl ?_
  refine S_bipush (q := 48) (v := 36) hX dX12_addEntry_46 bp_36 rfl ?_
  refine S_bipush (q := 50) (v := 17) hX dX12_addEntry_48 bp_17 rfl ?_
  refine S_iload_n (q := 51) hX dX12_addEntry_50 rfl rfl ?_
  refine S_imul (q := 52) hX dX12_addEntry_51 rfl ?_
  refine S_iadd (q := 53) hX dX12_addEntry_52 rfl ?_
  refine S_iload (q := 55) hX dX12_addEntry_53 rfl rfl ?_
  refine S_iconst (q := 56) (v := 1) hX dX12_addEntry_55 ic_1 rfl ?_
  refine S_iadd (q := 57) hX dX12_addEntry_56 rfl ?_
  refine S_callV (ci := 12) (C := "FanTalkModel") (T := TX12) (N := 17) (q := 60) 0 0 hX (c_X12_set _ μ2 _ _ b (36 + 17 * c) (by first | rfl | (simp only [i0, i1, i2, i3, i4, i5, i6, i7, i8, i9, i10, i11, i12, i17, i20, i24, i26, i27, i31, i32, i36, i48, i57, i59, i60, i61, i63, i64, i87, i96, i97, i99, i122, i148, i250, i255, i305, i453, i999, i1359, i1812, pk_mul, nI_add]; done) | (simp only [i0, i1, i2, i3, i4, i5, i6, i7, i8, i9, i10, i11, i12, i17, i20, i24, i26, i27, i31, i32, i36, i48, i57, i59, i60, i61, i63, i64, i87, i96, i97, i99, i122, i148, i250, i255, i305, i453, i999, i1359, i1812, pk_mul, nI_add]; congr 1; omega))) rfl ?hs_4 rfl u_846 u_848 us_28 u_12 u_849 ⟨by decide, by decide, rfl⟩ ⟨Nat.le_of_ble_eq_true rfl, Nat.le_of_ble_eq_true rfl⟩ ⟨Nat.le_of_ble_eq_true rfl, Nat.le_of_ble_eq_true rfl⟩ (Nat.le_of_ble_eq_true rfl) dX12_addEntry_57 ?hp_4 rfl rfl rfl ?_
  case hs_4 => first | with_reducible assumption | exact ⟨_, by with_reducible assumption⟩ | exact MM.isO hM
  case hp_4 => exact ⟨hM, by simp [e2, e1, m2_at, h0], by omega⟩
  rintro v σ sz1 ⟨μ3, hM, hF1, rfl, e3, rfl⟩
  have hF := hF.trans hF1
  refine S_vret hX dX12_addEntry_60 (Nat.zero_le _) (Nat.zero_le _) ?_
  refine hP _ _ _ ?_
  rw [i1, nI_add, e2, e1] at e3
  exact ⟨_, hM, hF, rfl, e3, rfl⟩
theorem c_X12_lengthOf (x : Int32) : CT_X12_lengthOf [.int x] (fun Γ σ sz => True) (fun Γ σ sz v σ' sz' => v = some (.int (if lnZ x.toInt = 0 then -1 else nI (lnZ x.toInt))) ∧ σ' = σ ∧ sz' = sz) := by
  refine CT.mkP rfl (Nat.le_of_ble_eq_true rfl) [_, _, _] rfl ?_
  intro X Γ σ sz P hX hpre hsz hP
  refine S_bipush (q := 2) (v := 12) hX dX12_lengthOf_0 bp_12 rfl ?_
  refine S_istore_n (q := 3) [_, _, _] hX dX12_lengthOf_2 rfl (Nat.le_of_ble_eq_true rfl) rfl rfl ?_
  refine S_iconst (q := 4) (v := 1) hX dX12_lengthOf_3 ic_1 rfl ?_
  refine S_istore_n (q := 5) [_, _, _] hX dX12_lengthOf_4 rfl (Nat.le_of_ble_eq_true rfl) rfl rfl ?_
  refine S_iload_n (q := 6) hX dX12_lengthOf_5 rfl rfl ?_
  refine S_bipush (q := 8) (v := 6) hX dX12_lengthOf_6 bp_6 rfl ?_
  refine S_icmp_gt (q := 11) 37 hX dX12_lengthOf_8 rfl rfl (fun c8 => absurd c8 (by decide)) (fun c8 => ?_)
  refine S_iload_n (q := 12) hX dX12_lengthOf_11 rfl rfl ?_
  refine S_iload_n (q := 13) hX dX12_lengthOf_12 rfl rfl ?_
  refine S_iconst (q := 14) (v := 2) hX dX12_lengthOf_13 ic_2 rfl ?_
  refine S_iload_n (q := 15) hX dX12_lengthOf_14 rfl rfl ?_
  refine S_imul (q := 16) hX dX12_lengthOf_15 rfl ?_
  refine S_iconst (q := 17) (v := 1) hX dX12_lengthOf_16 ic_1 rfl ?_
  refine S_isub (q := 18) hX dX12_lengthOf_17 rfl ?_
  refine S_callS (q := 21) 0 0 hX (c_X12_in _ _ _) rfl u_858 u_859 u_12 u_860 ⟨by decide, by decide, rfl⟩ ⟨Nat.le_of_ble_eq_true rfl, Nat.le_of_ble_eq_true rfl⟩ ⟨Nat.le_of_ble_eq_true rfl, Nat.le_of_ble_eq_true rfl⟩ (Nat.le_of_ble_eq_true rfl) dX12_lengthOf_18 ?hp_1 rfl rfl rfl ?_
  case hp_1 => trivial
  rintro v σ1 sz1 ⟨rfl, rfl, rfl⟩
  refine S_top (bi_congr (rg x 12 23 _ _ (by decide) (by decide))) ?_
  refine S_if_eq_b (q := 24) 26 hX dX12_lengthOf_21 rfl rfl (fun c21 => ?_) (fun c21 => ?_)
  · refine S_iload_n (q := 27) hX dX12_lengthOf_26 rfl rfl ?_
    refine S_bipush (q := 29) (v := 12) hX dX12_lengthOf_27 bp_12 rfl ?_
    refine S_imul (q := 30) hX dX12_lengthOf_29 rfl ?_
    refine S_istore_n (q := 31) [_, _, _] hX dX12_lengthOf_30 rfl (Nat.le_of_ble_eq_true rfl) rfl rfl ?_
    refine S_iinc (q := 34) [_, _, _] hX dX12_lengthOf_31 rfl (ii_1 _) rfl (Nat.le_of_ble_eq_true rfl) rfl rfl ?_
    refine S_goto 5 hX dX12_lengthOf_34 rfl ?_
    refine S_iload_n (q := 6) hX dX12_lengthOf_5 rfl rfl ?_
    refine S_bipush (q := 8) (v := 6) hX dX12_lengthOf_6 bp_6 rfl ?_
    refine S_icmp_gt (q := 11) 37 hX dX12_lengthOf_8 rfl rfl (fun c8 => absurd c8 (by decide)) (fun c8 => ?_)
    refine S_iload_n (q := 12) hX dX12_lengthOf_11 rfl rfl ?_
    refine S_iload_n (q := 13) hX dX12_lengthOf_12 rfl rfl ?_
    refine S_iconst (q := 14) (v := 2) hX dX12_lengthOf_13 ic_2 rfl ?_
    refine S_iload_n (q := 15) hX dX12_lengthOf_14 rfl rfl ?_
    refine S_imul (q := 16) hX dX12_lengthOf_15 rfl ?_
    refine S_iconst (q := 17) (v := 1) hX dX12_lengthOf_16 ic_1 rfl ?_
    refine S_isub (q := 18) hX dX12_lengthOf_17 rfl ?_
    refine S_callS (q := 21) 0 0 hX (c_X12_in _ _ _) rfl u_858 u_859 u_12 u_860 ⟨by decide, by decide, rfl⟩ ⟨Nat.le_of_ble_eq_true rfl, Nat.le_of_ble_eq_true rfl⟩ ⟨Nat.le_of_ble_eq_true rfl, Nat.le_of_ble_eq_true rfl⟩ (Nat.le_of_ble_eq_true rfl) dX12_lengthOf_18 ?hp_2 rfl rfl rfl ?_
    case hp_2 => trivial
    rintro v σ1 sz1 ⟨rfl, rfl, rfl⟩
    refine S_top (bi_congr (rg x 144 287 _ _ (by decide) (by decide))) ?_
    refine S_if_eq_b (q := 24) 26 hX dX12_lengthOf_21 rfl rfl (fun c21 => ?_) (fun c21 => ?_)
    · refine S_iload_n (q := 27) hX dX12_lengthOf_26 rfl rfl ?_
      refine S_bipush (q := 29) (v := 12) hX dX12_lengthOf_27 bp_12 rfl ?_
      refine S_imul (q := 30) hX dX12_lengthOf_29 rfl ?_
      refine S_istore_n (q := 31) [_, _, _] hX dX12_lengthOf_30 rfl (Nat.le_of_ble_eq_true rfl) rfl rfl ?_
      refine S_iinc (q := 34) [_, _, _] hX dX12_lengthOf_31 rfl (ii_1 _) rfl (Nat.le_of_ble_eq_true rfl) rfl rfl ?_
      refine S_goto 5 hX dX12_lengthOf_34 rfl ?_
      refine S_iload_n (q := 6) hX dX12_lengthOf_5 rfl rfl ?_
      refine S_bipush (q := 8) (v := 6) hX dX12_lengthOf_6 bp_6 rfl ?_
      refine S_icmp_gt (q := 11) 37 hX dX12_lengthOf_8 rfl rfl (fun c8 => absurd c8 (by decide)) (fun c8 => ?_)
      refine S_iload_n (q := 12) hX dX12_lengthOf_11 rfl rfl ?_
      refine S_iload_n (q := 13) hX dX12_lengthOf_12 rfl rfl ?_
      refine S_iconst (q := 14) (v := 2) hX dX12_lengthOf_13 ic_2 rfl ?_
      refine S_iload_n (q := 15) hX dX12_lengthOf_14 rfl rfl ?_
      refine S_imul (q := 16) hX dX12_lengthOf_15 rfl ?_
      refine S_iconst (q := 17) (v := 1) hX dX12_lengthOf_16 ic_1 rfl ?_
      refine S_isub (q := 18) hX dX12_lengthOf_17 rfl ?_
      refine S_callS (q := 21) 0 0 hX (c_X12_in _ _ _) rfl u_858 u_859 u_12 u_860 ⟨by decide, by decide, rfl⟩ ⟨Nat.le_of_ble_eq_true rfl, Nat.le_of_ble_eq_true rfl⟩ ⟨Nat.le_of_ble_eq_true rfl, Nat.le_of_ble_eq_true rfl⟩ (Nat.le_of_ble_eq_true rfl) dX12_lengthOf_18 ?hp_3 rfl rfl rfl ?_
      case hp_3 => trivial
      rintro v σ1 sz1 ⟨rfl, rfl, rfl⟩
      refine S_top (bi_congr (rg x 1728 3455 _ _ (by decide) (by decide))) ?_
      refine S_if_eq_b (q := 24) 26 hX dX12_lengthOf_21 rfl rfl (fun c21 => ?_) (fun c21 => ?_)
      · refine S_iload_n (q := 27) hX dX12_lengthOf_26 rfl rfl ?_
        refine S_bipush (q := 29) (v := 12) hX dX12_lengthOf_27 bp_12 rfl ?_
        refine S_imul (q := 30) hX dX12_lengthOf_29 rfl ?_
        refine S_istore_n (q := 31) [_, _, _] hX dX12_lengthOf_30 rfl (Nat.le_of_ble_eq_true rfl) rfl rfl ?_
        refine S_iinc (q := 34) [_, _, _] hX dX12_lengthOf_31 rfl (ii_1 _) rfl (Nat.le_of_ble_eq_true rfl) rfl rfl ?_
        refine S_goto 5 hX dX12_lengthOf_34 rfl ?_
        refine S_iload_n (q := 6) hX dX12_lengthOf_5 rfl rfl ?_
        refine S_bipush (q := 8) (v := 6) hX dX12_lengthOf_6 bp_6 rfl ?_
        refine S_icmp_gt (q := 11) 37 hX dX12_lengthOf_8 rfl rfl (fun c8 => absurd c8 (by decide)) (fun c8 => ?_)
        refine S_iload_n (q := 12) hX dX12_lengthOf_11 rfl rfl ?_
        refine S_iload_n (q := 13) hX dX12_lengthOf_12 rfl rfl ?_
        refine S_iconst (q := 14) (v := 2) hX dX12_lengthOf_13 ic_2 rfl ?_
        refine S_iload_n (q := 15) hX dX12_lengthOf_14 rfl rfl ?_
        refine S_imul (q := 16) hX dX12_lengthOf_15 rfl ?_
        refine S_iconst (q := 17) (v := 1) hX dX12_lengthOf_16 ic_1 rfl ?_
        refine S_isub (q := 18) hX dX12_lengthOf_17 rfl ?_
        refine S_callS (q := 21) 0 0 hX (c_X12_in _ _ _) rfl u_858 u_859 u_12 u_860 ⟨by decide, by decide, rfl⟩ ⟨Nat.le_of_ble_eq_true rfl, Nat.le_of_ble_eq_true rfl⟩ ⟨Nat.le_of_ble_eq_true rfl, Nat.le_of_ble_eq_true rfl⟩ (Nat.le_of_ble_eq_true rfl) dX12_lengthOf_18 ?hp_4 rfl rfl rfl ?_
        case hp_4 => trivial
        rintro v σ1 sz1 ⟨rfl, rfl, rfl⟩
        refine S_top (bi_congr (rg x 20736 41471 _ _ (by decide) (by decide))) ?_
        refine S_if_eq_b (q := 24) 26 hX dX12_lengthOf_21 rfl rfl (fun c21 => ?_) (fun c21 => ?_)
        · refine S_iload_n (q := 27) hX dX12_lengthOf_26 rfl rfl ?_
          refine S_bipush (q := 29) (v := 12) hX dX12_lengthOf_27 bp_12 rfl ?_
          refine S_imul (q := 30) hX dX12_lengthOf_29 rfl ?_
          refine S_istore_n (q := 31) [_, _, _] hX dX12_lengthOf_30 rfl (Nat.le_of_ble_eq_true rfl) rfl rfl ?_
          refine S_iinc (q := 34) [_, _, _] hX dX12_lengthOf_31 rfl (ii_1 _) rfl (Nat.le_of_ble_eq_true rfl) rfl rfl ?_
          refine S_goto 5 hX dX12_lengthOf_34 rfl ?_
          refine S_iload_n (q := 6) hX dX12_lengthOf_5 rfl rfl ?_
          refine S_bipush (q := 8) (v := 6) hX dX12_lengthOf_6 bp_6 rfl ?_
          refine S_icmp_gt (q := 11) 37 hX dX12_lengthOf_8 rfl rfl (fun c8 => absurd c8 (by decide)) (fun c8 => ?_)
          refine S_iload_n (q := 12) hX dX12_lengthOf_11 rfl rfl ?_
          refine S_iload_n (q := 13) hX dX12_lengthOf_12 rfl rfl ?_
          refine S_iconst (q := 14) (v := 2) hX dX12_lengthOf_13 ic_2 rfl ?_
          refine S_iload_n (q := 15) hX dX12_lengthOf_14 rfl rfl ?_
          refine S_imul (q := 16) hX dX12_lengthOf_15 rfl ?_
          refine S_iconst (q := 17) (v := 1) hX dX12_lengthOf_16 ic_1 rfl ?_
          refine S_isub (q := 18) hX dX12_lengthOf_17 rfl ?_
          refine S_callS (q := 21) 0 0 hX (c_X12_in _ _ _) rfl u_858 u_859 u_12 u_860 ⟨by decide, by decide, rfl⟩ ⟨Nat.le_of_ble_eq_true rfl, Nat.le_of_ble_eq_true rfl⟩ ⟨Nat.le_of_ble_eq_true rfl, Nat.le_of_ble_eq_true rfl⟩ (Nat.le_of_ble_eq_true rfl) dX12_lengthOf_18 ?hp_5 rfl rfl rfl ?_
          case hp_5 => trivial
          rintro v σ1 sz1 ⟨rfl, rfl, rfl⟩
          refine S_top (bi_congr (rg x 248832 497663 _ _ (by decide) (by decide))) ?_
          refine S_if_eq_b (q := 24) 26 hX dX12_lengthOf_21 rfl rfl (fun c21 => ?_) (fun c21 => ?_)
          · refine S_iload_n (q := 27) hX dX12_lengthOf_26 rfl rfl ?_
            refine S_bipush (q := 29) (v := 12) hX dX12_lengthOf_27 bp_12 rfl ?_
            refine S_imul (q := 30) hX dX12_lengthOf_29 rfl ?_
            refine S_istore_n (q := 31) [_, _, _] hX dX12_lengthOf_30 rfl (Nat.le_of_ble_eq_true rfl) rfl rfl ?_
            refine S_iinc (q := 34) [_, _, _] hX dX12_lengthOf_31 rfl (ii_1 _) rfl (Nat.le_of_ble_eq_true rfl) rfl rfl ?_
            refine S_goto 5 hX dX12_lengthOf_34 rfl ?_
            refine S_iload_n (q := 6) hX dX12_lengthOf_5 rfl rfl ?_
            refine S_bipush (q := 8) (v := 6) hX dX12_lengthOf_6 bp_6 rfl ?_
            refine S_icmp_gt (q := 11) 37 hX dX12_lengthOf_8 rfl rfl (fun c8 => absurd c8 (by decide)) (fun c8 => ?_)
            refine S_iload_n (q := 12) hX dX12_lengthOf_11 rfl rfl ?_
            refine S_iload_n (q := 13) hX dX12_lengthOf_12 rfl rfl ?_
            refine S_iconst (q := 14) (v := 2) hX dX12_lengthOf_13 ic_2 rfl ?_
            refine S_iload_n (q := 15) hX dX12_lengthOf_14 rfl rfl ?_
            refine S_imul (q := 16) hX dX12_lengthOf_15 rfl ?_
            refine S_iconst (q := 17) (v := 1) hX dX12_lengthOf_16 ic_1 rfl ?_
            refine S_isub (q := 18) hX dX12_lengthOf_17 rfl ?_
            refine S_callS (q := 21) 0 0 hX (c_X12_in _ _ _) rfl u_858 u_859 u_12 u_860 ⟨by decide, by decide, rfl⟩ ⟨Nat.le_of_ble_eq_true rfl, Nat.le_of_ble_eq_true rfl⟩ ⟨Nat.le_of_ble_eq_true rfl, Nat.le_of_ble_eq_true rfl⟩ (Nat.le_of_ble_eq_true rfl) dX12_lengthOf_18 ?hp_6 rfl rfl rfl ?_
            case hp_6 => trivial
            rintro v σ1 sz1 ⟨rfl, rfl, rfl⟩
            refine S_top (bi_congr (rg x 2985984 5971967 _ _ (by decide) (by decide))) ?_
            refine S_if_eq_b (q := 24) 26 hX dX12_lengthOf_21 rfl rfl (fun c21 => ?_) (fun c21 => ?_)
            · refine S_iload_n (q := 27) hX dX12_lengthOf_26 rfl rfl ?_
              refine S_bipush (q := 29) (v := 12) hX dX12_lengthOf_27 bp_12 rfl ?_
              refine S_imul (q := 30) hX dX12_lengthOf_29 rfl ?_
              refine S_istore_n (q := 31) [_, _, _] hX dX12_lengthOf_30 rfl (Nat.le_of_ble_eq_true rfl) rfl rfl ?_
              refine S_iinc (q := 34) [_, _, _] hX dX12_lengthOf_31 rfl (ii_1 _) rfl (Nat.le_of_ble_eq_true rfl) rfl rfl ?_
              refine S_goto 5 hX dX12_lengthOf_34 rfl ?_
              refine S_iload_n (q := 6) hX dX12_lengthOf_5 rfl rfl ?_
              refine S_bipush (q := 8) (v := 6) hX dX12_lengthOf_6 bp_6 rfl ?_
              refine S_icmp_gt (q := 11) 37 hX dX12_lengthOf_8 rfl rfl (fun c8 => ?_) (fun c8 => absurd (by decide) c8)
              refine S_iconst (q := 38) (v := (-1)) hX dX12_lengthOf_37 ic_m1 rfl ?_
              refine S_iret hX dX12_lengthOf_38 (Nat.zero_le _) (Nat.zero_le _) ?_
              refine hP _ _ _ ?_
              refine ⟨?_, rfl, rfl⟩
              have h : lnZ x.toInt = 0 := by unfold lnZ; repeat (first | rw [if_pos (by omega)] | rw [if_neg (by omega)])
              rw [h]; rfl
            · refine S_iload_n (q := 25) hX dX12_lengthOf_24 rfl rfl ?_
              refine S_iret hX dX12_lengthOf_25 (Nat.zero_le _) (Nat.zero_le _) ?_
              refine hP _ _ _ ?_
              refine ⟨?_, rfl, rfl⟩
              have h : lnZ x.toInt = 6 := by unfold lnZ; repeat (first | rw [if_pos (by omega)] | rw [if_neg (by omega)])
              rw [h]; rfl
          · refine S_iload_n (q := 25) hX dX12_lengthOf_24 rfl rfl ?_
            refine S_iret hX dX12_lengthOf_25 (Nat.zero_le _) (Nat.zero_le _) ?_
            refine hP _ _ _ ?_
            refine ⟨?_, rfl, rfl⟩
            have h : lnZ x.toInt = 5 := by unfold lnZ; repeat (first | rw [if_pos (by omega)] | rw [if_neg (by omega)])
            rw [h]; rfl
        · refine S_iload_n (q := 25) hX dX12_lengthOf_24 rfl rfl ?_
          refine S_iret hX dX12_lengthOf_25 (Nat.zero_le _) (Nat.zero_le _) ?_
          refine hP _ _ _ ?_
          refine ⟨?_, rfl, rfl⟩
          have h : lnZ x.toInt = 4 := by unfold lnZ; repeat (first | rw [if_pos (by omega)] | rw [if_neg (by omega)])
          rw [h]; rfl
      · refine S_iload_n (q := 25) hX dX12_lengthOf_24 rfl rfl ?_
        refine S_iret hX dX12_lengthOf_25 (Nat.zero_le _) (Nat.zero_le _) ?_
        refine hP _ _ _ ?_
        refine ⟨?_, rfl, rfl⟩
        have h : lnZ x.toInt = 3 := by unfold lnZ; repeat (first | rw [if_pos (by omega)] | rw [if_neg (by omega)])
        rw [h]; rfl
    · refine S_iload_n (q := 25) hX dX12_lengthOf_24 rfl rfl ?_
      refine S_iret hX dX12_lengthOf_25 (Nat.zero_le _) (Nat.zero_le _) ?_
      refine hP _ _ _ ?_
      refine ⟨?_, rfl, rfl⟩
      have h : lnZ x.toInt = 2 := by unfold lnZ; repeat (first | rw [if_pos (by omega)] | rw [if_neg (by omega)])
      rw [h]; rfl
  · refine S_iload_n (q := 25) hX dX12_lengthOf_24 rfl rfl ?_
    refine S_iret hX dX12_lengthOf_25 (Nat.zero_le _) (Nat.zero_le _) ?_
    refine hP _ _ _ ?_
    refine ⟨?_, rfl, rfl⟩
    have h : lnZ x.toInt = 1 := by unfold lnZ; repeat (first | rw [if_pos (by omega)] | rw [if_neg (by omega)])
    rw [h]; rfl
theorem c_X12_stateOf (x y z : Int32) (r mm kk : Nat) (hx : x = nI r) (hy : y = nI mm) (hz : z = nI kk) : CT_X12_stateOf [.int x, .int y, .int z] (fun Γ σ sz => kk < mm ∧ mm < 100 ∧ r < 2 ^ 31) (fun Γ σ sz v σ' sz' => v = some (.int (nI (stN r mm kk))) ∧ σ' = σ ∧ sz' = sz) := by
  refine CT.mkP rfl (Nat.le_of_ble_eq_true rfl) [_, _, _, _, _] rfl ?_
  intro X Γ σ sz P hX hpre hsz hP
  obtain ⟨hk, hm, hr⟩ := hpre
  subst hx
  subst hy
  subst hz
  have loop : ∀ (fu : Nat) (i : Nat), kk ≤ i → i < mm → i - kk < fu → G X Γ P 0 0 7 [some (.int (nI r)), some (.int (nI mm)), some (.int (nI kk)), some (.int (nI (r / 12 ^ (mm - 1 - i)))), some (.int (nI i))] [] σ sz := by
    intro fu
    induction fu with
    | zero =>
      intro i h1 h2 hfu
      exact absurd hfu (Nat.not_lt_zero _)
    | succ fu ih =>
      intro i h1 h2 hfu
      refine S_iload (q := 9) hX dX12_stateOf_7 rfl rfl ?_
      refine S_iload_n (q := 10) hX dX12_stateOf_9 rfl rfl ?_
      refine S_icmp_le (q := 13) 24 hX dX12_stateOf_10 rfl rfl (fun c10 => ?_) (fun c10 => ?_)
      · refine S_iload_n (q := 25) hX dX12_stateOf_24 rfl rfl ?_
        refine S_bipush (q := 27) (v := 12) hX dX12_stateOf_25 bp_12 rfl ?_
        refine S_irem (q := 28) hX dX12_stateOf_27 (by decide) rfl ?_
        refine S_iret hX dX12_stateOf_28 (Nat.zero_le _) (Nat.zero_le _) ?_
        refine hP _ _ _ ?_
        refine ⟨?_, rfl, rfl⟩
        have hik : i = kk := by rw [nI_leI (by omega) (by omega)] at c10; omega
        subst hik
        rw [i12, pk_rem (Nat.lt_of_le_of_lt (Nat.div_le_self _ _) hr) (by decide) (by decide)]
        rfl
      · refine S_iload_n (q := 14) hX dX12_stateOf_13 rfl rfl ?_
        refine S_bipush (q := 16) (v := 12) hX dX12_stateOf_14 bp_12 rfl ?_
        refine S_idiv (q := 17) hX dX12_stateOf_16 (by decide) rfl ?_
        refine S_istore_n (q := 18) [_, _, _, _, _] hX dX12_stateOf_17 rfl (Nat.le_of_ble_eq_true rfl) rfl rfl ?_
        refine S_iinc (q := 21) [_, _, _, _, _] hX dX12_stateOf_18 rfl (ii_m1 _) rfl (Nat.le_of_ble_eq_true rfl) rfl rfl ?_
        refine S_goto 7 hX dX12_stateOf_21 rfl ?_
        have hik : kk < i := by rw [nI_leI (by omega) (by omega)] at c10; omega
        have e1 : nI i + -1 = nI (i - 1) := by
          obtain ⟨j, rfl⟩ : ∃ j, i = j + 1 := ⟨i - 1, by omega⟩
          exact pk_m1 j
        have hp : 12 ^ (mm - 1 - (i - 1)) = 12 ^ (mm - 1 - i) * 12 := by rw [show mm - 1 - (i - 1) = (mm - 1 - i) + 1 by omega, Nat.pow_succ]
        have e2 : nI (r / 12 ^ (mm - 1 - i)) / 12 = nI (r / 12 ^ (mm - 1 - (i - 1))) := by
          rw [i12, pk_div (Nat.lt_of_le_of_lt (Nat.div_le_self _ _) hr) (by decide) (by decide), Nat.div_div_eq_div_mul, hp]
        rw [e1, e2]
        exact ih (i - 1) (by omega) (by omega) (by omega)
  refine S_iload_n (q := 1) hX dX12_stateOf_0 rfl rfl ?_
  refine S_istore_n (q := 2) [_, _, _, _, _] hX dX12_stateOf_1 rfl (Nat.le_of_ble_eq_true rfl) rfl rfl ?_
  refine S_iload_n (q := 3) hX dX12_stateOf_2 rfl rfl ?_
  refine S_iconst (q := 4) (v := 1) hX dX12_stateOf_3 ic_1 rfl ?_
  refine S_isub (q := 5) hX dX12_stateOf_4 rfl ?_
  refine S_istore (q := 7) [_, _, _, _, _] hX dX12_stateOf_5 rfl (Nat.le_of_ble_eq_true rfl) rfl rfl ?_
  refine S_L (L' := [some (.int (nI r)), some (.int (nI mm)), some (.int (nI kk)), some (.int (nI (r / 12 ^ (mm - 1 - (mm - 1))))), some (.int (nI (mm - 1)))]) (by rw [i1, pk_sub (by omega), Nat.sub_self, Nat.pow_zero, Nat.div_one]) ?_
  exact loop mm (mm - 1) (by omega) (by omega) (by omega)
