/-! the reference's object: m; its rows stand behind it -/
abbrev mO (m : Nat) (b ty ta st so va fa be wm : Int32) : AE := .inr (12, [.ref (m + 1), .int b, .ref (m + 2), .ref (m + 3), .ref (m + 4), .int ty, .int ta, .int st, .int so, .int va, .int fa, .ref (m + 5), .int be, .ref (m + 6), .ref (m + 7), .int wm, .ref (m + 8)])
abbrev ia (n : Nat) (f : Nat → Int32) : AE := .inl (0, n, .inl f)
def MB (σ : Sg) (m b : Nat) : Prop := ∃ ty ta st so va fa be wm : Int32, σ m = some (mO m (nI b) ty ta st so va fa be wm)
theorem toI0 : (0 : Int32).toInt = 0 := rfl
theorem lt_i {x y : Int32} : x < y ↔ x.toInt < y.toInt := Int32.lt_iff_toInt_lt
theorem le_i {x y : Int32} : x ≤ y ↔ x.toInt ≤ y.toInt := Int32.le_iff_toInt_le
/-- how many states a row's number has; 0: none -/
def lnZ (z : Int) : Nat := if 12 ≤ z ∧ z ≤ 23 then 1 else if 144 ≤ z ∧ z ≤ 287 then 2 else if 1728 ≤ z ∧ z ≤ 3455 then 3 else if 20736 ≤ z ∧ z ≤ 41471 then 4 else if 248832 ≤ z ∧ z ≤ 497663 then 5 else if 2985984 ≤ z ∧ z ≤ 5971967 then 6 else 0
/-- the state at k of a row r of m states -/
def stN (r m k : Nat) : Nat := r / 12 ^ (m - 1 - k) % 12
theorem stN_lt (r m k : Nat) : stN r m k < 12 := Nat.mod_lt _ (by omega)

theorem MB.su {σ : Sg} {m b a : Nat} {e : AE} (h : MB σ m b) (ha : m ≠ a) : MB (su σ a e) m b := by
  obtain ⟨ty, ta, st, so, va, fa, be, wm, h0⟩ := h
  exact ⟨ty, ta, st, so, va, fa, be, wm, (su_ne ha).trans h0⟩
theorem MB.isO {σ : Sg} {m b : Nat} (h : MB σ m b) : isO σ m 12 := by
  obtain ⟨ty, ta, st, so, va, fa, be, wm, h0⟩ := h
  exact ⟨_, h0⟩

theorem c_X12_in (x lo hi : Int32) : CT_X12_in [.int x, .int lo, .int hi] (fun Γ σ sz => True) (fun Γ σ sz v σ' sz' => v = some (.int (bi (lo.toInt ≤ x.toInt ∧ x.toInt ≤ hi.toInt))) ∧ σ' = σ ∧ sz' = sz) := by
  refine CT.mkP rfl (Nat.le_of_ble_eq_true rfl) [_, _, _] rfl ?_
  intro X Γ σ sz P hX hpre hsz hP
  refine S_iload_n (q := 1) hX dX12_in_0 rfl rfl ?_
  refine S_iload_n (q := 2) hX dX12_in_1 rfl rfl ?_
  refine S_icmp_lt (q := 5) 14 hX dX12_in_2 rfl rfl (fun c2 => ?_) (fun c2 => ?_)
  · refine S_iconst (q := 15) (v := 0) hX dX12_in_14 ic_0 rfl ?_
    refine S_xret hX dX12_in_15 (Nat.zero_le _) (Nat.zero_le _) rfl ?_
    refine hP _ _ _ ?_
    refine ⟨?_, rfl, rfl⟩
    first | rw [bi_t ⟨le_i.mp (by simpa using c2), le_i.mp (by simpa using c7)⟩] | rw [bi_f (fun z => absurd (lt_i.mp c2) (by omega))] | rw [bi_f (fun z => absurd (lt_i.mp c7) (by omega))]
  · refine S_iload_n (q := 6) hX dX12_in_5 rfl rfl ?_
    refine S_iload_n (q := 7) hX dX12_in_6 rfl rfl ?_
    refine S_icmp_gt (q := 10) 14 hX dX12_in_7 rfl rfl (fun c7 => ?_) (fun c7 => ?_)
    · refine S_iconst (q := 15) (v := 0) hX dX12_in_14 ic_0 rfl ?_
      refine S_xret hX dX12_in_15 (Nat.zero_le _) (Nat.zero_le _) rfl ?_
      refine hP _ _ _ ?_
      refine ⟨?_, rfl, rfl⟩
      first | rw [bi_t ⟨le_i.mp (by simpa using c2), le_i.mp (by simpa using c7)⟩] | rw [bi_f (fun z => absurd (lt_i.mp c2) (by omega))] | rw [bi_f (fun z => absurd (lt_i.mp c7) (by omega))]
    · refine S_iconst (q := 11) (v := 1) hX dX12_in_10 ic_1 rfl ?_
      refine S_goto 15 hX dX12_in_11 rfl ?_
      refine S_xret hX dX12_in_15 (Nat.zero_le _) (Nat.zero_le _) rfl ?_
      refine hP _ _ _ ?_
      refine ⟨?_, rfl, rfl⟩
      first | rw [bi_t ⟨le_i.mp (by simpa using c2), le_i.mp (by simpa using c7)⟩] | rw [bi_f (fun z => absurd (lt_i.mp c2) (by omega))] | rw [bi_f (fun z => absurd (lt_i.mp c7) (by omega))]
theorem c_X12_bad (m : Nat) (f : Nat → Int32) : CT_X12_bad [.ref m] (fun Γ σ sz => (∃ b, MB σ m b) ∧ σ (m + 3) = some (ia 3 f)) (fun Γ σ sz v σ' sz' => v = some (.int (-2)) ∧ σ' = su σ (m + 3) (ia 3 (upd f 0 (f 0 + 1))) ∧ sz' = sz) := by
  refine CT.mkP rfl (Nat.le_of_ble_eq_true rfl) [_] rfl ?_
  intro X Γ σ sz P hX hpre hsz hP
  obtain ⟨⟨b, ty, ta, st, so, va, fa, be, wm, h0⟩, h3⟩ := hpre
  refine S_aload_n (q := 1) hX dX12_bad_0 rfl rfl ?_
  refine S_getf (fs := ?fs_1) (v := ?v_1) (q := 4) hX u_785 fo_X12_refused dX12_bad_1 ?hs_1 ?hv_1 rfl ?_
  case hs_1 => repeat (first | with_reducible assumption | exact su_eq _ _ _ | refine (su_ne (by omega)).trans ?_)
  case hv_1 => rfl
  refine S_iconst (q := 5) (v := 0) hX dX12_bad_4 ic_0 rfl ?_
  refine S_dup2_11 (q := 6) hX dX12_bad_5 rfl rfl rfl ?_
  refine S_iald (N := ?n_2) (f := ?f_2) (q := 7) hX dX12_bad_6 ?hs_2 ?hi_2 rfl ?_
  case hs_2 => repeat (first | with_reducible assumption | exact su_eq _ _ _ | refine (su_ne (by omega)).trans ?_)
  case hi_2 => exact vp_in_nI (n := 0) (by decide) (by decide)
  refine S_iconst (q := 8) (v := 1) hX dX12_bad_7 ic_1 rfl ?_
  refine S_iadd (q := 9) hX dX12_bad_8 rfl ?_
  refine S_iast (N := ?n_3) (f := ?f_3) (q := 10) hX dX12_bad_9 ?hs_3 ?hi_3 rfl ?_
  case hs_3 => repeat (first | with_reducible assumption | exact su_eq _ _ _ | refine (su_ne (by omega)).trans ?_)
  case hi_3 => exact vp_in_nI (n := 0) (by decide) (by decide)
  refine S_bipush (q := 12) (v := (-2)) hX dX12_bad_10 bp_m2 rfl ?_
  refine S_iret hX dX12_bad_12 (Nat.zero_le _) (Nat.zero_le _) ?_
  refine hP _ _ _ ?_
  exact ⟨rfl, rfl, rfl⟩
theorem c_X12_no (m : Nat) (f : Nat → Int32) : CT_X12_no [.ref m] (fun Γ σ sz => (∃ b, MB σ m b) ∧ σ (m + 3) = some (ia 3 f)) (fun Γ σ sz v σ' sz' => v = some (.int (-3)) ∧ σ' = su σ (m + 3) (ia 3 (upd f 1 (f 1 + 1))) ∧ sz' = sz) := by
  refine CT.mkP rfl (Nat.le_of_ble_eq_true rfl) [_] rfl ?_
  intro X Γ σ sz P hX hpre hsz hP
  obtain ⟨⟨b, ty, ta, st, so, va, fa, be, wm, h0⟩, h3⟩ := hpre
  refine S_aload_n (q := 1) hX dX12_no_0 rfl rfl ?_
  refine S_getf (fs := ?fs_1) (v := ?v_1) (q := 4) hX u_785 fo_X12_refused dX12_no_1 ?hs_1 ?hv_1 rfl ?_
  case hs_1 => repeat (first | with_reducible assumption | exact su_eq _ _ _ | refine (su_ne (by omega)).trans ?_)
  case hv_1 => rfl
  refine S_iconst (q := 5) (v := 1) hX dX12_no_4 ic_1 rfl ?_
  refine S_dup2_11 (q := 6) hX dX12_no_5 rfl rfl rfl ?_
  refine S_iald (N := ?n_2) (f := ?f_2) (q := 7) hX dX12_no_6 ?hs_2 ?hi_2 rfl ?_
  case hs_2 => repeat (first | with_reducible assumption | exact su_eq _ _ _ | refine (su_ne (by omega)).trans ?_)
  case hi_2 => exact vp_in_nI (n := 1) (by decide) (by decide)
  refine S_iconst (q := 8) (v := 1) hX dX12_no_7 ic_1 rfl ?_
  refine S_iadd (q := 9) hX dX12_no_8 rfl ?_
  refine S_iast (N := ?n_3) (f := ?f_3) (q := 10) hX dX12_no_9 ?hs_3 ?hi_3 rfl ?_
  case hs_3 => repeat (first | with_reducible assumption | exact su_eq _ _ _ | refine (su_ne (by omega)).trans ?_)
  case hi_3 => exact vp_in_nI (n := 1) (by decide) (by decide)
  refine S_bipush (q := 12) (v := (-3)) hX dX12_no_10 bp_m3 rfl ?_
  refine S_iret hX dX12_no_12 (Nat.zero_le _) (Nat.zero_le _) ?_
  refine hP _ _ _ ?_
  exact ⟨rfl, rfl, rfl⟩
theorem c_X12_full (m : Nat) (f : Nat → Int32) : CT_X12_full [.ref m] (fun Γ σ sz => (∃ b, MB σ m b) ∧ σ (m + 3) = some (ia 3 f)) (fun Γ σ sz v σ' sz' => v = some (.int (-4)) ∧ σ' = su σ (m + 3) (ia 3 (upd f 2 (f 2 + 1))) ∧ sz' = sz) := by
  refine CT.mkP rfl (Nat.le_of_ble_eq_true rfl) [_] rfl ?_
  intro X Γ σ sz P hX hpre hsz hP
  obtain ⟨⟨b, ty, ta, st, so, va, fa, be, wm, h0⟩, h3⟩ := hpre
  refine S_aload_n (q := 1) hX dX12_full_0 rfl rfl ?_
  refine S_getf (fs := ?fs_1) (v := ?v_1) (q := 4) hX u_785 fo_X12_refused dX12_full_1 ?hs_1 ?hv_1 rfl ?_
  case hs_1 => repeat (first | with_reducible assumption | exact su_eq _ _ _ | refine (su_ne (by omega)).trans ?_)
  case hv_1 => rfl
  refine S_iconst (q := 5) (v := 2) hX dX12_full_4 ic_2 rfl ?_
  refine S_dup2_11 (q := 6) hX dX12_full_5 rfl rfl rfl ?_
  refine S_iald (N := ?n_2) (f := ?f_2) (q := 7) hX dX12_full_6 ?hs_2 ?hi_2 rfl ?_
  case hs_2 => repeat (first | with_reducible assumption | exact su_eq _ _ _ | refine (su_ne (by omega)).trans ?_)
  case hi_2 => exact vp_in_nI (n := 2) (by decide) (by decide)
  refine S_iconst (q := 8) (v := 1) hX dX12_full_7 ic_1 rfl ?_
  refine S_iadd (q := 9) hX dX12_full_8 rfl ?_
  refine S_iast (N := ?n_3) (f := ?f_3) (q := 10) hX dX12_full_9 ?hs_3 ?hi_3 rfl ?_
  case hs_3 => repeat (first | with_reducible assumption | exact su_eq _ _ _ | refine (su_ne (by omega)).trans ?_)
  case hi_3 => exact vp_in_nI (n := 2) (by decide) (by decide)
  refine S_bipush (q := 12) (v := (-4)) hX dX12_full_10 bp_m4 rfl ?_
  refine S_iret hX dX12_full_12 (Nat.zero_le _) (Nat.zero_le _) ?_
  refine hP _ _ _ ?_
  exact ⟨rfl, rfl, rfl⟩
theorem c_X12_get (m : Nat) (x : Int32) (b k : Nat) (now : Nat → Int32) (hk : x = nI k) : CT_X12_get [.ref m, .int x] (fun Γ σ sz => MB σ m b ∧ σ (m + 1) = some (ia 1812 now) ∧ b + k < 1812) (fun Γ σ sz v σ' sz' => v = some (.int (now (b + k))) ∧ σ' = σ ∧ sz' = sz) := by
  refine CT.mkP rfl (Nat.le_of_ble_eq_true rfl) [_, _] rfl ?_
  intro X Γ σ sz P hX hpre hsz hP
  obtain ⟨⟨ty, ta, st, so, va, fa, be, wm, h0⟩, h1, hb⟩ := hpre
  subst hk
  refine S_aload_n (q := 1) hX dX12_get_0 rfl rfl ?_
  refine S_getf (fs := ?fs_1) (v := ?v_1) (q := 4) hX u_782 fo_X12_now dX12_get_1 ?hs_1 ?hv_1 rfl ?_
  case hs_1 => repeat (first | with_reducible assumption | exact su_eq _ _ _ | refine (su_ne (by omega)).trans ?_)
  case hv_1 => rfl
  refine S_aload_n (q := 5) hX dX12_get_4 rfl rfl ?_
  refine S_getf (fs := ?fs_2) (v := ?v_2) (q := 8) hX u_783 fo_X12_base dX12_get_5 ?hs_2 ?hv_2 rfl ?_
  case hs_2 => repeat (first | with_reducible assumption | exact su_eq _ _ _ | refine (su_ne (by omega)).trans ?_)
  case hv_2 => rfl
  refine S_iload_n (q := 9) hX dX12_get_8 rfl rfl ?_
  refine S_iadd (q := 10) hX dX12_get_9 rfl ?_
  refine S_top (nI_add _ _) ?_
  refine S_iald (N := ?n_3) (f := ?f_3) (q := 11) hX dX12_get_10 ?hs_3 ?hi_3 rfl ?_
  case hs_3 => repeat (first | with_reducible assumption | exact su_eq _ _ _ | refine (su_ne (by omega)).trans ?_)
  case hi_3 => exact vp_in_nI hb (by decide)
  refine S_iret hX dX12_get_11 (Nat.zero_le _) (Nat.zero_le _) ?_
  refine hP _ _ _ ?_
  rw [nI_clamp (by omega)]
  exact ⟨rfl, rfl, rfl⟩
theorem c_X12_set (m : Nat) (x y : Int32) (b k : Nat) (now : Nat → Int32) (hk : x = nI k) : CT_X12_set [.ref m, .int x, .int y] (fun Γ σ sz => MB σ m b ∧ σ (m + 1) = some (ia 1812 now) ∧ b + k < 1812) (fun Γ σ sz v σ' sz' => v = none ∧ σ' = su σ (m + 1) (ia 1812 (upd now (b + k) y)) ∧ sz' = sz) := by
  refine CT.mkP rfl (Nat.le_of_ble_eq_true rfl) [_, _, _] rfl ?_
  intro X Γ σ sz P hX hpre hsz hP
  obtain ⟨⟨ty, ta, st, so, va, fa, be, wm, h0⟩, h1, hb⟩ := hpre
  subst hk
  refine S_aload_n (q := 1) hX dX12_set_0 rfl rfl ?_
  refine S_getf (fs := ?fs_1) (v := ?v_1) (q := 4) hX u_782 fo_X12_now dX12_set_1 ?hs_1 ?hv_1 rfl ?_
  case hs_1 => repeat (first | with_reducible assumption | exact su_eq _ _ _ | refine (su_ne (by omega)).trans ?_)
  case hv_1 => rfl
  refine S_aload_n (q := 5) hX dX12_set_4 rfl rfl ?_
  refine S_getf (fs := ?fs_2) (v := ?v_2) (q := 8) hX u_783 fo_X12_base dX12_set_5 ?hs_2 ?hv_2 rfl ?_
  case hs_2 => repeat (first | with_reducible assumption | exact su_eq _ _ _ | refine (su_ne (by omega)).trans ?_)
  case hv_2 => rfl
  refine S_iload_n (q := 9) hX dX12_set_8 rfl rfl ?_
  refine S_iadd (q := 10) hX dX12_set_9 rfl ?_
  refine S_top (nI_add _ _) ?_
  refine S_iload_n (q := 11) hX dX12_set_10 rfl rfl ?_
  refine S_iast (N := ?n_3) (f := ?f_3) (q := 12) hX dX12_set_11 ?hs_3 ?hi_3 rfl ?_
  case hs_3 => repeat (first | with_reducible assumption | exact su_eq _ _ _ | refine (su_ne (by omega)).trans ?_)
  case hi_3 => exact vp_in_nI hb (by decide)
  refine S_vret hX dX12_set_12 (Nat.zero_le _) (Nat.zero_le _) ?_
  refine hP _ _ _ ?_
  rw [nI_clamp (by omega)]
  exact ⟨rfl, rfl, rfl⟩
theorem c_X12_isCode (m : Nat) (x : Int32) (b n : Nat) (now : Nat → Int32) : CT_X12_isCode [.ref m, .int x] (fun Γ σ sz => MB σ m b ∧ σ (m + 1) = some (ia 1812 now) ∧ b < 1812 ∧ now b = nI n ∧ n ≤ 3) (fun Γ σ sz v σ' sz' => v = some (.int (bi (0 ≤ x.toInt ∧ x.toInt < n))) ∧ σ' = σ ∧ sz' = sz) := by
  refine CT.mkP rfl (Nat.le_of_ble_eq_true rfl) [_, _] rfl ?_
  intro X Γ σ sz P hX hpre hsz hP
  obtain ⟨hMB, h1, hb, hn, hn3⟩ := hpre
  refine S_iload_n (q := 1) hX dX12_isCode_0 rfl rfl ?_
  refine S_iconst (q := 2) (v := 0) hX dX12_isCode_1 ic_0 rfl ?_
  refine S_aload_n (q := 3) hX dX12_isCode_2 rfl rfl ?_
  refine S_iconst (q := 4) (v := 0) hX dX12_isCode_3 ic_0 rfl ?_
  refine S_callV (ci := 12) (C := "FanTalkModel") (T := TX12) (N := 17) (q := 7) 0 0 hX (c_X12_get _ _ b 0 now rfl) rfl ?hs_1 rfl u_838 u_840 us_26 u_12 u_841 ⟨by decide, by decide, rfl⟩ ⟨Nat.le_of_ble_eq_true rfl, Nat.le_of_ble_eq_true rfl⟩ ⟨Nat.le_of_ble_eq_true rfl, Nat.le_of_ble_eq_true rfl⟩ (Nat.le_of_ble_eq_true rfl) dX12_isCode_4 ?hp_1 rfl rfl rfl ?_
  case hs_1 => first | with_reducible assumption | exact ⟨_, by with_reducible assumption⟩ | exact hMB.isO | exact (hMB.su (by omega)).isO
  case hp_1 => exact ⟨hMB, h1, by omega⟩
  rintro v σ1 sz1 ⟨rfl, rfl, rfl⟩
  refine S_iconst (q := 8) (v := 1) hX dX12_isCode_7 ic_1 rfl ?_
  refine S_isub (q := 9) hX dX12_isCode_8 rfl ?_
  refine S_callS (q := 12) 0 0 hX (c_X12_in _ _ _) rfl u_858 u_859 u_12 u_860 ⟨by decide, by decide, rfl⟩ ⟨Nat.le_of_ble_eq_true rfl, Nat.le_of_ble_eq_true rfl⟩ ⟨Nat.le_of_ble_eq_true rfl, Nat.le_of_ble_eq_true rfl⟩ (Nat.le_of_ble_eq_true rfl) dX12_isCode_9 ?hp_2 rfl rfl rfl ?_
  case hp_2 => trivial
  rintro v σ1 sz1 ⟨rfl, rfl, rfl⟩
  refine S_xret hX dX12_isCode_12 (Nat.zero_le _) (Nat.zero_le _) nb_bi ?_
  refine hP _ _ _ ?_
  refine ⟨?_, rfl, rfl⟩
  rw [Nat.add_zero, hn]
  refine congrArg (fun z => some (Value.int z)) (bi_congr ?_)
  rcases n with _ | n
  · simp; omega
  · rw [i1, pk_sub (by omega), nI_toInt (by omega), toI0]; simp; omega
theorem c_X12_entriesOf (m : Nat) (x : Int32) (b c : Nat) (now : Nat → Int32) (hc : x = nI c) : CT_X12_entriesOf [.ref m, .int x] (fun Γ σ sz => MB σ m b ∧ σ (m + 1) = some (ia 1812 now) ∧ b + (36 + 17 * c) < 1812) (fun Γ σ sz v σ' sz' => v = some (.int (now (b + (36 + 17 * c)))) ∧ σ' = σ ∧ sz' = sz) := by
  refine CT.mkP rfl (Nat.le_of_ble_eq_true rfl) [_, _] rfl ?_
  intro X Γ σ sz P hX hpre hsz hP
  obtain ⟨hMB, h1, hb⟩ := hpre
  subst hc
  refine S_aload_n (q := 1) hX dX12_entriesOf_0 rfl rfl ?_
  refine S_bipush (q := 3) (v := 36) hX dX12_entriesOf_1 bp_36 rfl ?_
  refine S_bipush (q := 5) (v := 17) hX dX12_entriesOf_3 bp_17 rfl ?_
  refine S_iload_n (q := 6) hX dX12_entriesOf_5 rfl rfl ?_
  refine S_imul (q := 7) hX dX12_entriesOf_6 rfl ?_
  refine S_iadd (q := 8) hX dX12_entriesOf_7 rfl ?_
  refine S_callV (ci := 12) (C := "FanTalkModel") (T := TX12) (N := 17) (q := 11) 0 0 hX (c_X12_get _ _ b (36 + 17 * c) now (by first | rfl | (simp only [i0, i1, i2, i3, i4, i5, i6, i7, i8, i9, i10, i11, i12, i17, i20, i24, i26, i27, i31, i32, i36, i48, i57, i59, i60, i61, i63, i64, i87, i96, i97, i99, i122, i148, i250, i255, i305, i453, i999, i1359, i1812, pk_mul, nI_add]; done) | (simp only [i0, i1, i2, i3, i4, i5, i6, i7, i8, i9, i10, i11, i12, i17, i20, i24, i26, i27, i31, i32, i36, i48, i57, i59, i60, i61, i63, i64, i87, i96, i97, i99, i122, i148, i250, i255, i305, i453, i999, i1359, i1812, pk_mul, nI_add]; congr 1; omega))) rfl ?hs_1 rfl u_838 u_840 us_26 u_12 u_841 ⟨by decide, by decide, rfl⟩ ⟨Nat.le_of_ble_eq_true rfl, Nat.le_of_ble_eq_true rfl⟩ ⟨Nat.le_of_ble_eq_true rfl, Nat.le_of_ble_eq_true rfl⟩ (Nat.le_of_ble_eq_true rfl) dX12_entriesOf_8 ?hp_1 rfl rfl rfl ?_
  case hs_1 => first | with_reducible assumption | exact ⟨_, by with_reducible assumption⟩ | exact hMB.isO | exact (hMB.su (by omega)).isO
  case hp_1 => exact ⟨hMB, h1, by omega⟩
  rintro v σ1 sz1 ⟨rfl, rfl, rfl⟩
  refine S_iret hX dX12_entriesOf_11 (Nat.zero_le _) (Nat.zero_le _) ?_
  refine hP _ _ _ ?_
  exact ⟨rfl, rfl, rfl⟩
theorem c_X12_rowOf (m : Nat) (x y : Int32) (b c e : Nat) (now : Nat → Int32) (hc : x = nI c) (he : y = nI e) : CT_X12_rowOf [.ref m, .int x, .int y] (fun Γ σ sz => MB σ m b ∧ σ (m + 1) = some (ia 1812 now) ∧ b + (36 + 17 * c + 1 + 2 * e) < 1812) (fun Γ σ sz v σ' sz' => v = some (.int (now (b + (36 + 17 * c + 1 + 2 * e)))) ∧ σ' = σ ∧ sz' = sz) := by
  refine CT.mkP rfl (Nat.le_of_ble_eq_true rfl) [_, _, _] rfl ?_
  intro X Γ σ sz P hX hpre hsz hP
  obtain ⟨hMB, h1, hb⟩ := hpre
  subst hc
  subst he
  refine S_aload_n (q := 1) hX dX12_rowOf_0 rfl rfl ?_
  refine S_bipush (q := 3) (v := 36) hX dX12_rowOf_1 bp_36 rfl ?_
  refine S_bipush (q := 5) (v := 17) hX dX12_rowOf_3 bp_17 rfl ?_
  refine S_iload_n (q := 6) hX dX12_rowOf_5 rfl rfl ?_
  refine S_imul (q := 7) hX dX12_rowOf_6 rfl ?_
  refine S_iadd (q := 8) hX dX12_rowOf_7 rfl ?_
  refine S_iconst (q := 9) (v := 1) hX dX12_rowOf_8 ic_1 rfl ?_
  refine S_iadd (q := 10) hX dX12_rowOf_9 rfl ?_
  refine S_iconst (q := 11) (v := 2) hX dX12_rowOf_10 ic_2 rfl ?_
  refine S_iload_n (q := 12) hX dX12_rowOf_11 rfl rfl ?_
  refine S_imul (q := 13) hX dX12_rowOf_12 rfl ?_
  refine S_iadd (q := 14) hX dX12_rowOf_13 rfl ?_
  refine S_callV (ci := 12) (C := "FanTalkModel") (T := TX12) (N := 17) (q := 17) 0 0 hX (c_X12_get _ _ b (36 + 17 * c + 1 + 2 * e) now (by first | rfl | (simp only [i0, i1, i2, i3, i4, i5, i6, i7, i8, i9, i10, i11, i12, i17, i20, i24, i26, i27, i31, i32, i36, i48, i57, i59, i60, i61, i63, i64, i87, i96, i97, i99, i122, i148, i250, i255, i305, i453, i999, i1359, i1812, pk_mul, nI_add]; done) | (simp only [i0, i1, i2, i3, i4, i5, i6, i7, i8, i9, i10, i11, i12, i17, i20, i24, i26, i27, i31, i32, i36, i48, i57, i59, i60, i61, i63, i64, i87, i96, i97, i99, i122, i148, i250, i255, i305, i453, i999, i1359, i1812, pk_mul, nI_add]; congr 1; omega))) rfl ?hs_1 rfl u_838 u_840 us_26 u_12 u_841 ⟨by decide, by decide, rfl⟩ ⟨Nat.le_of_ble_eq_true rfl, Nat.le_of_ble_eq_true rfl⟩ ⟨Nat.le_of_ble_eq_true rfl, Nat.le_of_ble_eq_true rfl⟩ (Nat.le_of_ble_eq_true rfl) dX12_rowOf_14 ?hp_1 rfl rfl rfl ?_
  case hs_1 => first | with_reducible assumption | exact ⟨_, by with_reducible assumption⟩ | exact hMB.isO | exact (hMB.su (by omega)).isO
  case hp_1 => exact ⟨hMB, h1, by omega⟩
  rintro v σ1 sz1 ⟨rfl, rfl, rfl⟩
  refine S_iret hX dX12_rowOf_17 (Nat.zero_le _) (Nat.zero_le _) ?_
  refine hP _ _ _ ?_
  exact ⟨rfl, rfl, rfl⟩
theorem c_X12_wordOf (m : Nat) (x y : Int32) (b c e : Nat) (now : Nat → Int32) (hc : x = nI c) (he : y = nI e) : CT_X12_wordOf [.ref m, .int x, .int y] (fun Γ σ sz => MB σ m b ∧ σ (m + 1) = some (ia 1812 now) ∧ b + (36 + 17 * c + 2 + 2 * e) < 1812) (fun Γ σ sz v σ' sz' => v = some (.int (now (b + (36 + 17 * c + 2 + 2 * e)))) ∧ σ' = σ ∧ sz' = sz) := by
  refine CT.mkP rfl (Nat.le_of_ble_eq_true rfl) [_, _, _] rfl ?_
  intro X Γ σ sz P hX hpre hsz hP
  obtain ⟨hMB, h1, hb⟩ := hpre
  subst hc
  subst he
  refine S_aload_n (q := 1) hX dX12_wordOf_0 rfl rfl ?_
  refine S_bipush (q := 3) (v := 36) hX dX12_wordOf_1 bp_36 rfl ?_
  refine S_bipush (q := 5) (v := 17) hX dX12_wordOf_3 bp_17 rfl ?_
  refine S_iload_n (q := 6) hX dX12_wordOf_5 rfl rfl ?_
  refine S_imul (q := 7) hX dX12_wordOf_6 rfl ?_
  refine S_iadd (q := 8) hX dX12_wordOf_7 rfl ?_
  refine S_iconst (q := 9) (v := 2) hX dX12_wordOf_8 ic_2 rfl ?_
  refine S_iadd (q := 10) hX dX12_wordOf_9 rfl ?_
  refine S_iconst (q := 11) (v := 2) hX dX12_wordOf_10 ic_2 rfl ?_
  refine S_iload_n (q := 12) hX dX12_wordOf_11 rfl rfl ?_
  refine S_imul (q := 13) hX dX12_wordOf_12 rfl ?_
  refine S_iadd (q := 14) hX dX12_wordOf_13 rfl ?_
  refine S_callV (ci := 12) (C := "FanTalkModel") (T := TX12) (N := 17) (q := 17) 0 0 hX (c_X12_get _ _ b (36 + 17 * c + 2 + 2 * e) now (by first | rfl | (simp only [i0, i1, i2, i3, i4, i5, i6, i7, i8, i9, i10, i11, i12, i17, i20, i24, i26, i27, i31, i32, i36, i48, i57, i59, i60, i61, i63, i64, i87, i96, i97, i99, i122, i148, i250, i255, i305, i453, i999, i1359, i1812, pk_mul, nI_add]; done) | (simp only [i0, i1, i2, i3, i4, i5, i6, i7, i8, i9, i10, i11, i12, i17, i20, i24, i26, i27, i31, i32, i36, i48, i57, i59, i60, i61, i63, i64, i87, i96, i97, i99, i122, i148, i250, i255, i305, i453, i999, i1359, i1812, pk_mul, nI_add]; congr 1; omega))) rfl ?hs_1 rfl u_838 u_840 us_26 u_12 u_841 ⟨by decide, by decide, rfl⟩ ⟨Nat.le_of_ble_eq_true rfl, Nat.le_of_ble_eq_true rfl⟩ ⟨Nat.le_of_ble_eq_true rfl, Nat.le_of_ble_eq_true rfl⟩ (Nat.le_of_ble_eq_true rfl) dX12_wordOf_14 ?hp_1 rfl rfl rfl ?_
  case hs_1 => first | with_reducible assumption | exact ⟨_, by with_reducible assumption⟩ | exact hMB.isO | exact (hMB.su (by omega)).isO
  case hp_1 => exact ⟨hMB, h1, by omega⟩
  rintro v σ1 sz1 ⟨rfl, rfl, rfl⟩
  refine S_iret hX dX12_wordOf_17 (Nat.zero_le _) (Nat.zero_le _) ?_
  refine hP _ _ _ ?_
  exact ⟨rfl, rfl, rfl⟩
def addE (now : Nat → Int32) (b c e : Nat) (word row : Int32) : Nat → Int32 := upd (upd (upd now (b + (36 + 17 * c + 1 + 2 * e)) row) (b + (36 + 17 * c + 2 + 2 * e)) word) (b + (36 + 17 * c)) (nI (e + 1))

theorem c_X12_addEntry (m : Nat) (x word row : Int32) (b c e : Nat) (now : Nat → Int32) (hc : x = nI c) : CT_X12_addEntry [.ref m, .int x, .int word, .int row] (fun Γ σ sz => MB σ m b ∧ σ (m + 1) = some (ia 1812 now) ∧ b + (36 + 17 * c + 2 + 2 * e) < 1812 ∧ now (b + (36 + 17 * c)) = nI e) (fun Γ σ sz v σ' sz' => v = none ∧ σ' = su σ (m + 1) (ia 1812 (addE now b c e word row)) ∧ sz' = sz) := by
  refine CT.mkP rfl (Nat.le_of_ble_eq_true rfl) [_, _, _, _, _] rfl ?_
  intro X Γ σ sz P hX hpre hsz hP
  obtain ⟨hMB, h1, hb, he⟩ := hpre
  subst hc
  refine S_aload_n (q := 1) hX dX12_addEntry_0 rfl rfl ?_
  refine S_iload_n (q := 2) hX dX12_addEntry_1 rfl rfl ?_
  refine S_callV (ci := 12) (C := "FanTalkModel") (T := TX12) (N := 17) (q := 5) 0 0 hX (c_X12_entriesOf _ _ b c now rfl) rfl ?hs_1 rfl u_872 u_874 us_32 u_12 u_875 ⟨by decide, by decide, rfl⟩ ⟨Nat.le_of_ble_eq_true rfl, Nat.le_of_ble_eq_true rfl⟩ ⟨Nat.le_of_ble_eq_true rfl, Nat.le_of_ble_eq_true rfl⟩ (Nat.le_of_ble_eq_true rfl) dX12_addEntry_2 ?hp_1 rfl rfl rfl ?_
  case hs_1 => first | with_reducible assumption | exact ⟨_, by with_reducible assumption⟩ | exact hMB.isO | exact (hMB.su (by omega)).isO
  case hp_1 => exact ⟨hMB, h1, by omega⟩
  rintro v σ1 sz1 ⟨rfl, rfl, rfl⟩
  rw [he]
  refine S_istore (q := 7) [_, _, _, _, _] hX dX12_addEntry_5 rfl (Nat.le_of_ble_eq_true rfl) rfl rfl ?_
  refine S_aload_n (q := 8) hX dX12_addEntry_7 rfl rfl ?_
  refine S_bipush (q := 10) (v := 36) hX dX12_addEntry_8 bp_36 rfl ?_
  refine S_bipush (q := 12) (v := 17) hX dX12_addEntry_10 bp_17 rfl ?_
  refine S_iload_n (q := 13) hX dX12_addEntry_12 rfl rfl ?_
  refine S_imul (q := 14) hX dX12_addEntry_13 rfl ?_
  refine S_iadd (q := 15) hX dX12_addEntry_14 rfl ?_
  refine S_iconst (q := 16) (v := 1) hX dX12_addEntry_15 ic_1 rfl ?_
  refine S_iadd (q := 17) hX dX12_addEntry_16 rfl ?_
  refine S_iconst (q := 18) (v := 2) hX dX12_addEntry_17 ic_2 rfl ?_
  refine S_iload (q := 20) hX dX12_addEntry_18 rfl rfl ?_
  refine S_imul (q := 21) hX dX12_addEntry_20 rfl ?_
  refine S_iadd (q := 22) hX dX12_addEntry_21 rfl ?_
  refine S_iload_n (q := 23) hX dX12_addEntry_22 rfl rfl ?_
  refine S_callV (ci := 12) (C := "FanTalkModel") (T := TX12) (N := 17) (q := 26) 0 0 hX (c_X12_set _ _ _ b (36 + 17 * c + 1 + 2 * e) now (by first | rfl | (simp only [i0, i1, i2, i3, i4, i5, i6, i7, i8, i9, i10, i11, i12, i17, i20, i24, i26, i27, i31, i32, i36, i48, i57, i59, i60, i61, i63, i64, i87, i96, i97, i99, i122, i148, i250, i255, i305, i453, i999, i1359, i1812, pk_mul, nI_add]; done) | (simp only [i0, i1, i2, i3, i4, i5, i6, i7, i8, i9, i10, i11, i12, i17, i20, i24, i26, i27, i31, i32, i36, i48, i57, i59, i60, i61, i63, i64, i87, i96, i97, i99, i122, i148, i250, i255, i305, i453, i999, i1359, i1812, pk_mul, nI_add]; congr 1; omega))) rfl ?hs_2 rfl u_846 u_848 us_28 u_12 u_849 ⟨by decide, by decide, rfl⟩ ⟨Nat.le_of_ble_eq_true rfl, Nat.le_of_ble_eq_true rfl⟩ ⟨Nat.le_of_ble_eq_true rfl, Nat.le_of_ble_eq_true rfl⟩ (Nat.le_of_ble_eq_true rfl) dX12_addEntry_23 ?hp_2 rfl rfl rfl ?_
  case hs_2 => first | with_reducible assumption | exact ⟨_, by with_reducible assumption⟩ | exact hMB.isO | exact (hMB.su (by omega)).isO
  case hp_2 => exact ⟨hMB, h1, by omega⟩
  rintro v σ1 sz1 ⟨rfl, rfl, rfl⟩
  refine S_aload_n (q := 27) hX dX12_addEntry_26 rfl rfl ?_
  refine S_bipush (q := 29) (v := 36) hX dX12_addEntry_27 bp_36 rfl ?_
  refine S_bipush (q := 31) (v := 17) hX dX12_addEntry_29 bp_17 rfl ?_
  refine S_iload_n (q := 32) hX dX12_addEntry_31 rfl rfl ?_
  refine S_imul (q := 33) hX dX12_addEntry_32 rfl ?_
  refine S_iadd (q := 34) hX dX12_addEntry_33 rfl ?_
  refine S_iconst (q := 35) (v := 2) hX dX12_addEntry_34 ic_2 rfl ?_
  refine S_iadd (q := 36) hX dX12_addEntry_35 rfl ?_
  refine S_iconst (q := 37) (v := 2) hX dX12_addEntry_36 ic_2 rfl ?_
  refine S_iload (q := 39) hX dX12_addEntry_37 rfl rfl ?_
  refine S_imul (q := 40) hX dX12_addEntry_39 rfl ?_
  refine S_iadd (q := 41) hX dX12_addEntry_40 rfl ?_
  refine S_iload_n (q := 42) hX dX12_addEntry_41 rfl rfl ?_
  refine S_callV (ci := 12) (C := "FanTalkModel") (T := TX12) (N := 17) (q := 45) 0 0 hX (c_X12_set _ _ _ b (36 + 17 * c + 2 + 2 * e) (upd now (b + (36 + 17 * c + 1 + 2 * e)) row) (by first | rfl | (simp only [i0, i1, i2, i3, i4, i5, i6, i7, i8, i9, i10, i11, i12, i17, i20, i24, i26, i27, i31, i32, i36, i48, i57, i59, i60, i61, i63, i64, i87, i96, i97, i99, i122, i148, i250, i255, i305, i453, i999, i1359, i1812, pk_mul, nI_add]; done) | (simp only [i0, i1, i2, i3, i4, i5, i6, i7, i8, i9, i10, i11, i12, i17, i20, i24, i26, i27, i31, i32, i36, i48, i57, i59, i60, i61, i63, i64, i87, i96, i97, i99, i122, i148, i250, i255, i305, i453, i999, i1359, i1812, pk_mul, nI_add]; congr 1; omega))) rfl ?hs_3 rfl u_846 u_848 us_28 u_12 u_849 ⟨by decide, by decide, rfl⟩ ⟨Nat.le_of_ble_eq_true rfl, Nat.le_of_ble_eq_true rfl⟩ ⟨Nat.le_of_ble_eq_true rfl, Nat.le_of_ble_eq_true rfl⟩ (Nat.le_of_ble_eq_true rfl) dX12_addEntry_42 ?hp_3 rfl rfl rfl ?_
  case hs_3 => first | with_reducible assumption | exact ⟨_, by with_reducible assumption⟩ | exact hMB.isO | exact (hMB.su (by omega)).isO
  case hp_3 => exact ⟨hMB.su (by omega), su_eq _ _ _, by omega⟩
  rintro v σ1 sz1 ⟨rfl, rfl, rfl⟩
  rw [su_su]
  refine S_aload_n (q := 46) hX dX12_addEntry_45 rfl rfl ?_
  refine S_bipush (q := 48) (v := 36) hX dX12_addEntry_46 bp_36 rfl ?_
  refine S_bipush (q := 50) (v := 17) hX dX12_addEntry_48 bp_17 rfl ?_
  refine S_iload_n (q := 51) hX dX12_addEntry_50 rfl rfl ?_
  refine S_imul (q := 52) hX dX12_addEntry_51 rfl ?_
  refine S_iadd (q := 53) hX dX12_addEntry_52 rfl ?_
  refine S_iload (q := 55) hX dX12_addEntry_53 rfl rfl ?_
  refine S_iconst (q := 56) (v := 1) hX dX12_addEntry_55 ic_1 rfl ?_
  refine S_iadd (q := 57) hX dX12_addEntry_56 rfl ?_
  refine S_callV (ci := 12) (C := "FanTalkModel") (T := TX12) (N := 17) (q := 60) 0 0 hX (c_X12_set _ _ _ b (36 + 17 * c) (upd (upd now (b + (36 + 17 * c + 1 + 2 * e)) row) (b + (36 + 17 * c + 2 + 2 * e)) word) (by first | rfl | (simp only [i0, i1, i2, i3, i4, i5, i6, i7, i8, i9, i10, i11, i12, i17, i20, i24, i26, i27, i31, i32, i36, i48, i57, i59, i60, i61, i63, i64, i87, i96, i97, i99, i122, i148, i250, i255, i305, i453, i999, i1359, i1812, pk_mul, nI_add]; done) | (simp only [i0, i1, i2, i3, i4, i5, i6, i7, i8, i9, i10, i11, i12, i17, i20, i24, i26, i27, i31, i32, i36, i48, i57, i59, i60, i61, i63, i64, i87, i96, i97, i99, i122, i148, i250, i255, i305, i453, i999, i1359, i1812, pk_mul, nI_add]; congr 1; omega))) rfl ?hs_4 rfl u_846 u_848 us_28 u_12 u_849 ⟨by decide, by decide, rfl⟩ ⟨Nat.le_of_ble_eq_true rfl, Nat.le_of_ble_eq_true rfl⟩ ⟨Nat.le_of_ble_eq_true rfl, Nat.le_of_ble_eq_true rfl⟩ (Nat.le_of_ble_eq_true rfl) dX12_addEntry_57 ?hp_4 rfl rfl rfl ?_
  case hs_4 => first | with_reducible assumption | exact ⟨_, by with_reducible assumption⟩ | exact hMB.isO | exact (hMB.su (by omega)).isO
  case hp_4 => exact ⟨hMB.su (by omega), su_eq _ _ _, by omega⟩
  rintro v σ1 sz1 ⟨rfl, rfl, rfl⟩
  rw [su_su]
  refine S_vret hX dX12_addEntry_60 (Nat.zero_le _) (Nat.zero_le _) ?_
  refine hP _ _ _ ?_
  refine ⟨rfl, ?_, rfl⟩
  rw [i1, nI_add]
  rfl
theorem rg (x : Int32) (lo hi : Int) (a b : Int32) (ha : a.toInt = lo) (hb : b.toInt = hi) : (a.toInt ≤ x.toInt ∧ x.toInt ≤ b.toInt) ↔ (lo ≤ x.toInt ∧ x.toInt ≤ hi) := by rw [ha, hb]

theorem c_X12_lengthOf (x : Int32) : CT_X12_lengthOf [.int x] (fun Γ σ sz => True) (fun Γ σ sz v σ' sz' => v = some (.int (if lnZ x.toInt = 0 then -1 else nI (lnZ x.toInt))) ∧ σ' = σ ∧ sz' = sz) := by
  refine CT.mkP rfl (Nat.le_of_ble_eq_true rfl) [_, _, _] rfl ?_
  intro X Γ σ sz P hX hpre hsz hP
  refine S_bipush (q := 2) (v := 12) hX dX12_lengthOf_0 bp_12 rfl ?_
  refine S_istore_n (q := 3) [_, _, _] hX dX12_lengthOf_2 rfl (Nat.le_of_ble_eq_true rfl) rfl rfl ?_
  refine S_iconst (q := 4) (v := 1) hX dX12_lengthOf_3 ic_1 rfl ?_
  refine S_istore_n (q := 5) [_, _, _] hX dX12_lengthOf_4 rfl (Nat.le_of_ble_eq_true rfl) rfl rfl ?_
  refine S_iload_n (q := 6) hX dX12_lengthOf_5 rfl rfl ?_
  refine S_bipush (q := 8) (v := 6) hX dX12_lengthOf_6 bp_6 rfl ?_
  refine S_icmp_gt (q := 11) 37 hX dX12_lengthOf_8 rfl rfl (fun c8 => absurd c8 (by decide)) (fun c8 => ?_)
  refine S_iload_n (q := 12) hX dX12_lengthOf_11 rfl rfl ?_
  refine S_iload_n (q := 13) hX dX12_lengthOf_12 rfl rfl ?_
  refine S_iconst (q := 14) (v := 2) hX dX12_lengthOf_13 ic_2 rfl ?_
  refine S_iload_n (q := 15) hX dX12_lengthOf_14 rfl rfl ?_
  refine S_imul (q := 16) hX dX12_lengthOf_15 rfl ?_
  refine S_iconst (q := 17) (v := 1) hX dX12_lengthOf_16 ic_1 rfl ?_
  refine S_isub (q := 18) hX dX12_lengthOf_17 rfl ?_
  refine S_callS (q := 21) 0 0 hX (c_X12_in _ _ _) rfl u_858 u_859 u_12 u_860 ⟨by decide, by decide, rfl⟩ ⟨Nat.le_of_ble_eq_true rfl, Nat.le_of_ble_eq_true rfl⟩ ⟨Nat.le_of_ble_eq_true rfl, Nat.le_of_ble_eq_true rfl⟩ (Nat.le_of_ble_eq_true rfl) dX12_lengthOf_18 ?hp_1 rfl rfl rfl ?_
  case hp_1 => trivial
  rintro v σ1 sz1 ⟨rfl, rfl, rfl⟩
  refine S_top (bi_congr (rg x 12 23 _ _ (by decide) (by decide))) ?_
  refine S_if_eq_b (q := 24) 26 hX dX12_lengthOf_21 rfl rfl (fun c21 => ?_) (fun c21 => ?_)
  · refine S_iload_n (q := 27) hX dX12_lengthOf_26 rfl rfl ?_
    refine S_bipush (q := 29) (v := 12) hX dX12_lengthOf_27 bp_12 rfl ?_
    refine S_imul (q := 30) hX dX12_lengthOf_29 rfl ?_
    refine S_istore_n (q := 31) [_, _, _] hX dX12_lengthOf_30 rfl (Nat.le_of_ble_eq_true rfl) rfl rfl ?_
    refine S_iinc (q := 34) [_, _, _] hX dX12_lengthOf_31 rfl (ii_1 _) rfl (Nat.le_of_ble_eq_true rfl) rfl rfl ?_
    refine S_goto 5 hX dX12_lengthOf_34 rfl ?_
    refine S_iload_n (q := 6) hX dX12_lengthOf_5 rfl rfl ?_
    refine S_bipush (q := 8) (v := 6) hX dX12_lengthOf_6 bp_6 rfl ?_
    refine S_icmp_gt (q := 11) 37 hX dX12_lengthOf_8 rfl rfl (fun c8 => absurd c8 (by decide)) (fun c8 => ?_)
    refine S_iload_n (q := 12) hX dX12_lengthOf_11 rfl rfl ?_
    refine S_iload_n (q := 13) hX dX12_lengthOf_12 rfl rfl ?_
    refine S_iconst (q := 14) (v := 2) hX dX12_lengthOf_13 ic_2 rfl ?_
    refine S_iload_n (q := 15) hX dX12_lengthOf_14 rfl rfl ?_
    refine S_imul (q := 16) hX dX12_lengthOf_15 rfl ?_
    refine S_iconst (q := 17) (v := 1) hX dX12_lengthOf_16 ic_1 rfl ?_
    refine S_isub (q := 18) hX dX12_lengthOf_17 rfl ?_
    refine S_callS (q := 21) 0 0 hX (c_X12_in _ _ _) rfl u_858 u_859 u_12 u_860 ⟨by decide, by decide, rfl⟩ ⟨Nat.le_of_ble_eq_true rfl, Nat.le_of_ble_eq_true rfl⟩ ⟨Nat.le_of_ble_eq_true rfl, Nat.le_of_ble_eq_true rfl⟩ (Nat.le_of_ble_eq_true rfl) dX12_lengthOf_18 ?hp_2 rfl rfl rfl ?_
    case hp_2 => trivial
    rintro v σ1 sz1 ⟨rfl, rfl, rfl⟩
    refine S_top (bi_congr (rg x 144 287 _ _ (by decide) (by decide))) ?_
    refine S_if_eq_b (q := 24) 26 hX dX12_lengthOf_21 rfl rfl (fun c21 => ?_) (fun c21 => ?_)
    · refine S_iload_n (q := 27) hX dX12_lengthOf_26 rfl rfl ?_
      refine S_bipush (q := 29) (v := 12) hX dX12_lengthOf_27 bp_12 rfl ?_
      refine S_imul (q := 30) hX dX12_lengthOf_29 rfl ?_
      refine S_istore_n (q := 31) [_, _, _] hX dX12_lengthOf_30 rfl (Nat.le_of_ble_eq_true rfl) rfl rfl ?_
      refine S_iinc (q := 34) [_, _, _] hX dX12_lengthOf_31 rfl (ii_1 _) rfl (Nat.le_of_ble_eq_true rfl) rfl rfl ?_
      refine S_goto 5 hX dX12_lengthOf_34 rfl ?_
      refine S_iload_n (q := 6) hX dX12_lengthOf_5 rfl rfl ?_
      refine S_bipush (q := 8) (v := 6) hX dX12_lengthOf_6 bp_6 rfl ?_
      refine S_icmp_gt (q := 11) 37 hX dX12_lengthOf_8 rfl rfl (fun c8 => absurd c8 (by decide)) (fun c8 => ?_)
      refine S_iload_n (q := 12) hX dX12_lengthOf_11 rfl rfl ?_
      refine S_iload_n (q := 13) hX dX12_lengthOf_12 rfl rfl ?_
      refine S_iconst (q := 14) (v := 2) hX dX12_lengthOf_13 ic_2 rfl ?_
      refine S_iload_n (q := 15) hX dX12_lengthOf_14 rfl rfl ?_
      refine S_imul (q := 16) hX dX12_lengthOf_15 rfl ?_
      refine S_iconst (q := 17) (v := 1) hX dX12_lengthOf_16 ic_1 rfl ?_
      refine S_isub (q := 18) hX dX12_lengthOf_17 rfl ?_
      refine S_callS (q := 21) 0 0 hX (c_X12_in _ _ _) rfl u_858 u_859 u_12 u_860 ⟨by decide, by decide, rfl⟩ ⟨Nat.le_of_ble_eq_true rfl, Nat.le_of_ble_eq_true rfl⟩ ⟨Nat.le_of_ble_eq_true rfl, Nat.le_of_ble_eq_true rfl⟩ (Nat.le_of_ble_eq_true rfl) dX12_lengthOf_18 ?hp_3 rfl rfl rfl ?_
      case hp_3 => trivial
      rintro v σ1 sz1 ⟨rfl, rfl, rfl⟩
      refine S_top (bi_congr (rg x 1728 3455 _ _ (by decide) (by decide))) ?_
      refine S_if_eq_b (q := 24) 26 hX dX12_lengthOf_21 rfl rfl (fun c21 => ?_) (fun c21 => ?_)
      · refine S_iload_n (q := 27) hX dX12_lengthOf_26 rfl rfl ?_
        refine S_bipush (q := 29) (v := 12) hX dX12_lengthOf_27 bp_12 rfl ?_
        refine S_imul (q := 30) hX dX12_lengthOf_29 rfl ?_
        refine S_istore_n (q := 31) [_, _, _] hX dX12_lengthOf_30 rfl (Nat.le_of_ble_eq_true rfl) rfl rfl ?_
        refine S_iinc (q := 34) [_, _, _] hX dX12_lengthOf_31 rfl (ii_1 _) rfl (Nat.le_of_ble_eq_true rfl) rfl rfl ?_
        refine S_goto 5 hX dX12_lengthOf_34 rfl ?_
        refine S_iload_n (q := 6) hX dX12_lengthOf_5 rfl rfl ?_
        refine S_bipush (q := 8) (v := 6) hX dX12_lengthOf_6 bp_6 rfl ?_
        refine S_icmp_gt (q := 11) 37 hX dX12_lengthOf_8 rfl rfl (fun c8 => absurd c8 (by decide)) (fun c8 => ?_)
        refine S_iload_n (q := 12) hX dX12_lengthOf_11 rfl rfl ?_
        refine S_iload_n (q := 13) hX dX12_lengthOf_12 rfl rfl ?_
        refine S_iconst (q := 14) (v := 2) hX dX12_lengthOf_13 ic_2 rfl ?_
        refine S_iload_n (q := 15) hX dX12_lengthOf_14 rfl rfl ?_
        refine S_imul (q := 16) hX dX12_lengthOf_15 rfl ?_
        refine S_iconst (q := 17) (v := 1) hX dX12_lengthOf_16 ic_1 rfl ?_
        refine S_isub (q := 18) hX dX12_lengthOf_17 rfl ?_
        refine S_callS (q := 21) 0 0 hX (c_X12_in _ _ _) rfl u_858 u_859 u_12 u_860 ⟨by decide, by decide, rfl⟩ ⟨Nat.le_of_ble_eq_true rfl, Nat.le_of_ble_eq_true rfl⟩ ⟨Nat.le_of_ble_eq_true rfl, Nat.le_of_ble_eq_true rfl⟩ (Nat.le_of_ble_eq_true rfl) dX12_lengthOf_18 ?hp_4 rfl rfl rfl ?_
        case hp_4 => trivial
        rintro v σ1 sz1 ⟨rfl, rfl, rfl⟩
        refine S_top (bi_congr (rg x 20736 41471 _ _ (by decide) (by decide))) ?_
        refine S_if_eq_b (q := 24) 26 hX dX12_lengthOf_21 rfl rfl (fun c21 => ?_) (fun c21 => ?_)
        · refine S_iload_n (q := 27) hX dX12_lengthOf_26 rfl rfl ?_
          refine S_bipush (q := 29) (v := 12) hX dX12_lengthOf_27 bp_12 rfl ?_
          refine S_imul (q := 30) hX dX12_lengthOf_29 rfl ?_
          refine S_istore_n (q := 31) [_, _, _] hX dX12_lengthOf_30 rfl (Nat.le_of_ble_eq_true rfl) rfl rfl ?_
          refine S_iinc (q := 34) [_, _, _] hX dX12_lengthOf_31 rfl (ii_1 _) rfl (Nat.le_of_ble_eq_true rfl) rfl rfl ?_
          refine S_goto 5 hX dX12_lengthOf_34 rfl ?_
          refine S_iload_n (q := 6) hX dX12_lengthOf_5 rfl rfl ?_
          refine S_bipush (q := 8) (v := 6) hX dX12_lengthOf_6 bp_6 rfl ?_
          refine S_icmp_gt (q := 11) 37 hX dX12_lengthOf_8 rfl rfl (fun c8 => absurd c8 (by decide)) (fun c8 => ?_)
          refine S_iload_n (q := 12) hX dX12_lengthOf_11 rfl rfl ?_
          refine S_iload_n (q := 13) hX dX12_lengthOf_12 rfl rfl ?_
          refine S_iconst (q := 14) (v := 2) hX dX12_lengthOf_13 ic_2 rfl ?_
          refine S_iload_n (q := 15) hX dX12_lengthOf_14 rfl rfl ?_
          refine S_imul (q := 16) hX dX12_lengthOf_15 rfl ?_
          refine S_iconst (q := 17) (v := 1) hX dX12_lengthOf_16 ic_1 rfl ?_
          refine S_isub (q := 18) hX dX12_lengthOf_17 rfl ?_
          refine S_callS (q := 21) 0 0 hX (c_X12_in _ _ _) rfl u_858 u_859 u_12 u_860 ⟨by decide, by decide, rfl⟩ ⟨Nat.le_of_ble_eq_true rfl, Nat.le_of_ble_eq_true rfl⟩ ⟨Nat.le_of_ble_eq_true rfl, Nat.le_of_ble_eq_true rfl⟩ (Nat.le_of_ble_eq_true rfl) dX12_lengthOf_18 ?hp_5 rfl rfl rfl ?_
          case hp_5 => trivial
          rintro v σ1 sz1 ⟨rfl, rfl, rfl⟩
          refine S_top (bi_congr (rg x 248832 497663 _ _ (by decide) (by decide))) ?_
          refine S_if_eq_b (q := 24) 26 hX dX12_lengthOf_21 rfl rfl (fun c21 => ?_) (fun c21 => ?_)
          · refine S_iload_n (q := 27) hX dX12_lengthOf_26 rfl rfl ?_
            refine S_bipush (q := 29) (v := 12) hX dX12_lengthOf_27 bp_12 rfl ?_
            refine S_imul (q := 30) hX dX12_lengthOf_29 rfl ?_
            refine S_istore_n (q := 31) [_, _, _] hX dX12_lengthOf_30 rfl (Nat.le_of_ble_eq_true rfl) rfl rfl ?_
            refine S_iinc (q := 34) [_, _, _] hX dX12_lengthOf_31 rfl (ii_1 _) rfl (Nat.le_of_ble_eq_true rfl) rfl rfl ?_
            refine S_goto 5 hX dX12_lengthOf_34 rfl ?_
            refine S_iload_n (q := 6) hX dX12_lengthOf_5 rfl rfl ?_
            refine S_bipush (q := 8) (v := 6) hX dX12_lengthOf_6 bp_6 rfl ?_
            refine S_icmp_gt (q := 11) 37 hX dX12_lengthOf_8 rfl rfl (fun c8 => absurd c8 (by decide)) (fun c8 => ?_)
            refine S_iload_n (q := 12) hX dX12_lengthOf_11 rfl rfl ?_
            refine S_iload_n (q := 13) hX dX12_lengthOf_12 rfl rfl ?_
            refine S_iconst (q := 14) (v := 2) hX dX12_lengthOf_13 ic_2 rfl ?_
            refine S_iload_n (q := 15) hX dX12_lengthOf_14 rfl rfl ?_
            refine S_imul (q := 16) hX dX12_lengthOf_15 rfl ?_
            refine S_iconst (q := 17) (v := 1) hX dX12_lengthOf_16 ic_1 rfl ?_
            refine S_isub (q := 18) hX dX12_lengthOf_17 rfl ?_
            refine S_callS (q := 21) 0 0 hX (c_X12_in _ _ _) rfl u_858 u_859 u_12 u_860 ⟨by decide, by decide, rfl⟩ ⟨Nat.le_of_ble_eq_true rfl, Nat.le_of_ble_eq_true rfl⟩ ⟨Nat.le_of_ble_eq_true rfl, Nat.le_of_ble_eq_true rfl⟩ (Nat.le_of_ble_eq_true rfl) dX12_lengthOf_18 ?hp_6 rfl rfl rfl ?_
            case hp_6 => trivial
            rintro v σ1 sz1 ⟨rfl, rfl, rfl⟩
            refine S_top (bi_congr (rg x 2985984 5971967 _ _ (by decide) (by decide))) ?_
            refine S_if_eq_b (q := 24) 26 hX dX12_lengthOf_21 rfl rfl (fun c21 => ?_) (fun c21 => ?_)
            · refine S_iload_n (q := 27) hX dX12_lengthOf_26 rfl rfl ?_
              refine S_bipush (q := 29) (v := 12) hX dX12_lengthOf_27 bp_12 rfl ?_
              refine S_imul (q := 30) hX dX12_lengthOf_29 rfl ?_
              refine S_istore_n (q := 31) [_, _, _] hX dX12_lengthOf_30 rfl (Nat.le_of_ble_eq_true rfl) rfl rfl ?_
              refine S_iinc (q := 34) [_, _, _] hX dX12_lengthOf_31 rfl (ii_1 _) rfl (Nat.le_of_ble_eq_true rfl) rfl rfl ?_
              refine S_goto 5 hX dX12_lengthOf_34 rfl ?_
              refine S_iload_n (q := 6) hX dX12_lengthOf_5 rfl rfl ?_
              refine S_bipush (q := 8) (v := 6) hX dX12_lengthOf_6 bp_6 rfl ?_
              refine S_icmp_gt (q := 11) 37 hX dX12_lengthOf_8 rfl rfl (fun c8 => ?_) (fun c8 => absurd (by decide) c8)
              refine S_iconst (q := 38) (v := (-1)) hX dX12_lengthOf_37 ic_m1 rfl ?_
              refine S_iret hX dX12_lengthOf_38 (Nat.zero_le _) (Nat.zero_le _) ?_
              refine hP _ _ _ ?_
              refine ⟨?_, rfl, rfl⟩
              have h : lnZ x.toInt = 0 := by unfold lnZ; repeat (first | rw [if_pos (by omega)] | rw [if_neg (by omega)])
              rw [h]; rfl
            · refine S_iload_n (q := 25) hX dX12_lengthOf_24 rfl rfl ?_
              refine S_iret hX dX12_lengthOf_25 (Nat.zero_le _) (Nat.zero_le _) ?_
              refine hP _ _ _ ?_
              refine ⟨?_, rfl, rfl⟩
              have h : lnZ x.toInt = 6 := by unfold lnZ; repeat (first | rw [if_pos (by omega)] | rw [if_neg (by omega)])
              rw [h]; rfl
          · refine S_iload_n (q := 25) hX dX12_lengthOf_24 rfl rfl ?_
            refine S_iret hX dX12_lengthOf_25 (Nat.zero_le _) (Nat.zero_le _) ?_
            refine hP _ _ _ ?_
            refine ⟨?_, rfl, rfl⟩
            have h : lnZ x.toInt = 5 := by unfold lnZ; repeat (first | rw [if_pos (by omega)] | rw [if_neg (by omega)])
            rw [h]; rfl
        · refine S_iload_n (q := 25) hX dX12_lengthOf_24 rfl rfl ?_
          refine S_iret hX dX12_lengthOf_25 (Nat.zero_le _) (Nat.zero_le _) ?_
          refine hP _ _ _ ?_
          refine ⟨?_, rfl, rfl⟩
          have h : lnZ x.toInt = 4 := by unfold lnZ; repeat (first | rw [if_pos (by omega)] | rw [if_neg (by omega)])
          rw [h]; rfl
      · refine S_iload_n (q := 25) hX dX12_lengthOf_24 rfl rfl ?_
        refine S_iret hX dX12_lengthOf_25 (Nat.zero_le _) (Nat.zero_le _) ?_
        refine hP _ _ _ ?_
        refine ⟨?_, rfl, rfl⟩
        have h : lnZ x.toInt = 3 := by unfold lnZ; repeat (first | rw [if_pos (by omega)] | rw [if_neg (by omega)])
        rw [h]; rfl
    · refine S_iload_n (q := 25) hX dX12_lengthOf_24 rfl rfl ?_
      refine S_iret hX dX12_lengthOf_25 (Nat.zero_le _) (Nat.zero_le _) ?_
      refine hP _ _ _ ?_
      refine ⟨?_, rfl, rfl⟩
      have h : lnZ x.toInt = 2 := by unfold lnZ; repeat (first | rw [if_pos (by omega)] | rw [if_neg (by omega)])
      rw [h]; rfl
  · refine S_iload_n (q := 25) hX dX12_lengthOf_24 rfl rfl ?_
    refine S_iret hX dX12_lengthOf_25 (Nat.zero_le _) (Nat.zero_le _) ?_
    refine hP _ _ _ ?_
    refine ⟨?_, rfl, rfl⟩
    have h : lnZ x.toInt = 1 := by unfold lnZ; repeat (first | rw [if_pos (by omega)] | rw [if_neg (by omega)])
    rw [h]; rfl
