theorem c_X11_drawSaying (q : Nat) (γ : MF) (S : ST) : CT_X11_drawSaying [.ref q] (fun Γ σ sz => FK σ q γ ∧ FR γ S ∧ StOk S) (fun Γ σ sz v σ' sz' => ∃ γ', FK σ' q γ' ∧ Fr q (q + 179) σ σ' ∧ v = none ∧ (∃ g, γ' = m1 γ 175 g ∧ ∀ i, i < ln S.1.2.2.2.1 → g i = nI (drw S.1.2.2.1 (stN S.1.2.2.2.1 (ln S.1.2.2.2.1) i) i)) ∧ sz' = sz) := by
  refine CT.mkP rfl (Nat.le_of_ble_eq_true rfl) [_] rfl ?_
  intro X Γ σ sz P hX hpre hsz hP
  obtain ⟨hM, hR, ok⟩ := hpre
  obtain ⟨σ0, eσ0⟩ : ∃ z, z = σ := ⟨σ, rfl⟩
  rw [← eσ0] at hP
  have hF : Fr q (q + 179) σ0 σ := by rw [eσ0]; exact Fr.rf
  obtain ⟨r0, r1, r2, r3, r4, r5⟩ := id hR
  obtain ⟨t0, t1, t2, t3, t4, t5, t6, t7, t8⟩ := id r0
  obtain ⟨o1, o2, o3, o4, o5, o6, o7, o8, o9, o10⟩ := id ok.1
  have h6 := ln_6 S.1.2.2.2.1
  refine S_aload_n (q := 1) hX dX11_drawSaying_0 rfl rfl ?_
  refine S_getf (fs := ?fs_1) (v := ?v_1) (q := 4) hX u_285 fo_X11_now dX11_drawSaying_1 ?hs_1 ?hv_1 rfl ?_
  case hs_1 => with_reducible first | exact FK.c0 hM | exact FK.c1 hM | exact FK.c2 hM | exact FK.c7 hM | exact FK.c129 hM | exact FK.c3 hM | exact FK.c4 hM | exact FK.c5 hM | exact FK.c6 hM | exact FK.c39 hM | exact FK.c40 hM | exact FK.c41 hM | exact FK.c42 hM | exact FK.c43 hM | exact FK.c128 hM | exact FK.c136 hM | exact FK.c137 hM | exact FK.c173 hM | exact FK.c174 hM | exact FK.c175 hM | exact FK.c176 hM | exact FK.c177 hM | exact FK.c178 hM
  case hv_1 => rfl
  refine S_getf (fs := ?fs_2) (v := ?v_2) (q := 7) hX u_91 fo_X9_saying dX11_drawSaying_4 ?hs_2 ?hv_2 rfl ?_
  case hs_2 => with_reducible first | exact FK.c0 hM | exact FK.c1 hM | exact FK.c2 hM | exact FK.c7 hM | exact FK.c129 hM | exact FK.c3 hM | exact FK.c4 hM | exact FK.c5 hM | exact FK.c6 hM | exact FK.c39 hM | exact FK.c40 hM | exact FK.c41 hM | exact FK.c42 hM | exact FK.c43 hM | exact FK.c128 hM | exact FK.c136 hM | exact FK.c137 hM | exact FK.c173 hM | exact FK.c174 hM | exact FK.c175 hM | exact FK.c176 hM | exact FK.c177 hM | exact FK.c178 hM
  case hv_2 => rfl
  refine S_aload_n (q := 8) hX dX11_drawSaying_7 rfl rfl ?_
  refine S_getf (fs := ?fs_3) (v := ?v_3) (q := 11) hX u_285 fo_X11_now dX11_drawSaying_8 ?hs_3 ?hv_3 rfl ?_
  case hs_3 => with_reducible first | exact FK.c0 hM | exact FK.c1 hM | exact FK.c2 hM | exact FK.c7 hM | exact FK.c129 hM | exact FK.c3 hM | exact FK.c4 hM | exact FK.c5 hM | exact FK.c6 hM | exact FK.c39 hM | exact FK.c40 hM | exact FK.c41 hM | exact FK.c42 hM | exact FK.c43 hM | exact FK.c128 hM | exact FK.c136 hM | exact FK.c137 hM | exact FK.c173 hM | exact FK.c174 hM | exact FK.c175 hM | exact FK.c176 hM | exact FK.c177 hM | exact FK.c178 hM
  case hv_3 => rfl
  refine S_getf (fs := ?fs_4) (v := ?v_4) (q := 14) hX u_93 fo_X9_beats dX11_drawSaying_11 ?hs_4 ?hv_4 rfl ?_
  case hs_4 => with_reducible first | exact FK.c0 hM | exact FK.c1 hM | exact FK.c2 hM | exact FK.c7 hM | exact FK.c129 hM | exact FK.c3 hM | exact FK.c4 hM | exact FK.c5 hM | exact FK.c6 hM | exact FK.c39 hM | exact FK.c40 hM | exact FK.c41 hM | exact FK.c42 hM | exact FK.c43 hM | exact FK.c128 hM | exact FK.c136 hM | exact FK.c137 hM | exact FK.c173 hM | exact FK.c174 hM | exact FK.c175 hM | exact FK.c176 hM | exact FK.c177 hM | exact FK.c178 hM
  case hv_4 => rfl
  refine S_aload_n (q := 15) hX dX11_drawSaying_14 rfl rfl ?_
  refine S_getf (fs := ?fs_5) (v := ?v_5) (q := 18) hX u_285 fo_X11_now dX11_drawSaying_15 ?hs_5 ?hv_5 rfl ?_
  case hs_5 => with_reducible first | exact FK.c0 hM | exact FK.c1 hM | exact FK.c2 hM | exact FK.c7 hM | exact FK.c129 hM | exact FK.c3 hM | exact FK.c4 hM | exact FK.c5 hM | exact FK.c6 hM | exact FK.c39 hM | exact FK.c40 hM | exact FK.c41 hM | exact FK.c42 hM | exact FK.c43 hM | exact FK.c128 hM | exact FK.c136 hM | exact FK.c137 hM | exact FK.c173 hM | exact FK.c174 hM | exact FK.c175 hM | exact FK.c176 hM | exact FK.c177 hM | exact FK.c178 hM
  case hv_5 => rfl
  refine S_getf (fs := ?fs_6) (v := ?v_6) (q := 21) hX u_89 fo_X9_draughts dX11_drawSaying_18 ?hs_6 ?hv_6 rfl ?_
  case hs_6 => with_reducible first | exact FK.c0 hM | exact FK.c1 hM | exact FK.c2 hM | exact FK.c7 hM | exact FK.c129 hM | exact FK.c3 hM | exact FK.c4 hM | exact FK.c5 hM | exact FK.c6 hM | exact FK.c39 hM | exact FK.c40 hM | exact FK.c41 hM | exact FK.c42 hM | exact FK.c43 hM | exact FK.c128 hM | exact FK.c136 hM | exact FK.c137 hM | exact FK.c173 hM | exact FK.c174 hM | exact FK.c175 hM | exact FK.c176 hM | exact FK.c177 hM | exact FK.c178 hM
  case hv_6 => rfl
  refine S_aload_n (q := 22) hX dX11_drawSaying_21 rfl rfl ?_
  refine S_getf (fs := ?fs_7) (v := ?v_7) (q := 25) hX u_292 fo_X11_drawn dX11_drawSaying_22 ?hs_7 ?hv_7 rfl ?_
  case hs_7 => with_reducible first | exact FK.c0 hM | exact FK.c1 hM | exact FK.c2 hM | exact FK.c7 hM | exact FK.c129 hM | exact FK.c3 hM | exact FK.c4 hM | exact FK.c5 hM | exact FK.c6 hM | exact FK.c39 hM | exact FK.c40 hM | exact FK.c41 hM | exact FK.c42 hM | exact FK.c43 hM | exact FK.c128 hM | exact FK.c136 hM | exact FK.c137 hM | exact FK.c173 hM | exact FK.c174 hM | exact FK.c175 hM | exact FK.c176 hM | exact FK.c177 hM | exact FK.c178 hM
  case hv_7 => rfl
  refine S_callS (q := 28) 0 0 hX (c_X7_draw _ _ (q + 39) (q + 175) 6 6 (ln S.1.2.2.2.1) S.1.2.2.1 (γ 39) (γ 175) (stN S.1.2.2.2.1 (ln S.1.2.2.2.1)) t3 t2) rfl u_511 u_512 u_13 u_513 ⟨by decide, by decide, rfl⟩ ⟨Nat.le_of_ble_eq_true rfl, Nat.le_of_ble_eq_true rfl⟩ ⟨Nat.le_of_ble_eq_true rfl, Nat.le_of_ble_eq_true rfl⟩ (Nat.le_of_ble_eq_true rfl) dX11_drawSaying_25 ?hp_8 rfl rfl rfl ?_
  case hp_8 => exact ⟨FK.c39 hM, FK.c175 hM, by omega, h6, h6, h6, by decide, by decide, o5, fun i hi => ⟨t4 i hi, stN_lt _ _ _⟩⟩
  rintro v σ1 sz1 ⟨g', rfl, rfl, hg1, rfl⟩
  have hM := hM.st (j := 175) (g := g') (e := ia 6 g') (by decide) rfl
  have hF := hF.su (a := q + 175) (e := ia 6 g') (by omega)
  refine S_vret hX dX11_drawSaying_28 (Nat.zero_le _) (Nat.zero_le _) ?_
  refine hP _ _ _ ?_
  exact ⟨_, hM, hF, rfl, ⟨g', rfl, hg1⟩, rfl⟩
theorem LisP.ext {f g : MF} {kd n : Nat} {C : CodT} {w : Nat → Nat} (h : LisP f kd C w n) (e : ∀ j, j < 7 → g j = f j) : LisP g kd C w n := by
  obtain ⟨hf, lk, lf, h1, h2, h3, h4, h5, h6, h7⟩ := h
  have e0 := e 0 (by decide)
  have e1 := e 1 (by decide)
  have e2 := e 2 (by decide)
  exact ⟨hf.of (by rw [e0]) (e 4 (by decide)) (e 5 (by decide)) (e 6 (by decide)), lk, lf, by rw [e0]; exact h1, h2, by rw [e0]; exact h3, by rw [e1]; exact h4, fun j hj => by rw [e2]; exact h5 j hj, h6, h7⟩
/-- how many words, and which -/
theorem LisP.w {f : MF} {kd n : Nat} {C : CodT} {w : Nat → Nat} (h : LisP f kd C w n) : f 0 1 = nI (rdK kd w n C).length ∧ WL (f 1) (rdK kd w n C) := by
  obtain ⟨hf, lk, lf, h1, h2, h3, h4, h5, h6, h7⟩ := h
  exact ⟨h3, h4⟩

theorem c_X11_readSaying (q : Nat) (γ : MF) (S : ST) (x y : Int32) (kd c : Nat) (hx : x = nI kd) (hy : y = nI c) : CT_X11_readSaying [.ref q, .int x, .int y] (fun Γ σ sz => FK σ q γ ∧ FR γ S ∧ StOk S ∧ kd < 5 ∧ c < S.1.1.1) (fun Γ σ sz v σ' sz' => ∃ γ', FK σ' q γ' ∧ Fr q (q + 179) σ σ' ∧ v = some (.ref (q + (138 + 7 * kd))) ∧ ((∀ j, j ≠ 175 → (j < 138 + 7 * kd ∨ 138 + 7 * kd + 7 ≤ j) → γ' j = γ j) ∧ LisP (fun j => γ' (138 + 7 * kd + j)) kd (S.1.1.2.1 c) (fun b => drw S.1.2.2.1 (stN S.1.2.2.2.1 (ln S.1.2.2.2.1) b) b) (ln S.1.2.2.2.1)) ∧ sz' = sz) := by
  refine CT.mkP rfl (Nat.le_of_ble_eq_true rfl) [_, _, _, _] rfl ?_
  intro X Γ σ sz P hX hpre hsz hP
  obtain ⟨hM, hR, ok, hkd, hc⟩ := hpre
  subst hx
  subst hy
  obtain ⟨σ0, eσ0⟩ : ∃ z, z = σ := ⟨σ, rfl⟩
  rw [← eσ0] at hP
  have hF : Fr q (q + 179) σ0 σ := by rw [eσ0]; exact Fr.rf
  obtain ⟨r0, r1, r2, r3, r4, r5⟩ := id hR
  obtain ⟨t0, t1, t2, t3, t4, t5, t6, t7, t8⟩ := id r0
  obtain ⟨o1, o2, o3, o4, o5, o6, o7, o8, o9, o10⟩ := id ok.1
  have h6 := ln_6 S.1.2.2.2.1
  have hco : CoR (fun j => γ (2 + j)) S.1.1 := t0.ext (fun j hj => by show γ (2 + j) = γ (1 + (1 + j)); congr 1; omega)
  refine S_aload_n (q := 1) hX dX11_readSaying_0 rfl rfl ?_
  refine S_callV (ci := 11) (C := "FanTalk") (T := TX11) (N := 11) (q := 4) 0 0 hX (c_X11_drawSaying q γ S) rfl ?hs_1 rfl u_507 u_509 us_12 u_1 u_510 ⟨by decide, by decide, rfl⟩ ⟨Nat.le_of_ble_eq_true rfl, Nat.le_of_ble_eq_true rfl⟩ ⟨Nat.le_of_ble_eq_true rfl, Nat.le_of_ble_eq_true rfl⟩ (Nat.le_of_ble_eq_true rfl) dX11_readSaying_1 ?hp_1 rfl rfl rfl ?_
  case hs_1 => first | with_reducible assumption | exact ⟨_, FK.c0 hM⟩ | exact ⟨_, FK.c2 hM⟩ | exact ⟨_, FK.c7 hM⟩ | exact ⟨_, FK.c129 hM⟩ | exact ⟨_, FK.c173 hM⟩ | exact ⟨_, FK.c1 hM⟩
  case hp_1 => exact ⟨hM, hR, ok⟩
  rintro v σ sz1 ⟨μ1, hM, hF1, rfl, ⟨gd, ed, hgd⟩, rfl⟩
  have hF := hF.trans hF1
  have hR1 := hR.scr (γ' := μ1) ok (fun j hj => by rw [ed, m1_ne (by omega)])
  refine S_aload_n (q := 5) hX dX11_readSaying_4 rfl rfl ?_
  refine S_getf (fs := ?fs_2) (v := ?v_2) (q := 8) hX u_290 fo_X11_readers dX11_readSaying_5 ?hs_2 ?hv_2 rfl ?_
  case hs_2 => with_reducible first | exact FK.c0 hM | exact FK.c1 hM | exact FK.c2 hM | exact FK.c7 hM | exact FK.c129 hM | exact FK.c3 hM | exact FK.c4 hM | exact FK.c5 hM | exact FK.c6 hM | exact FK.c39 hM | exact FK.c40 hM | exact FK.c41 hM | exact FK.c42 hM | exact FK.c43 hM | exact FK.c128 hM | exact FK.c136 hM | exact FK.c137 hM | exact FK.c173 hM | exact FK.c174 hM | exact FK.c175 hM | exact FK.c176 hM | exact FK.c177 hM | exact FK.c178 hM | exact RK.c0 (FK.rk hkd hM) | exact RK.c1 (FK.rk hkd hM)
  case hv_2 => rfl
  refine S_iload_n (q := 9) hX dX11_readSaying_8 rfl rfl ?_
  refine S_aald (N := ?n_3) (f := ?f_3) (y := q + (138 + 7 * kd)) (q := 10) (t := 3) hX dX11_readSaying_9 (by decide) rfl ?hs_3 ?hi_3 ?hy_3 rfl ?_
  case hs_3 => with_reducible first | exact FK.c0 hM | exact FK.c1 hM | exact FK.c2 hM | exact FK.c7 hM | exact FK.c129 hM | exact FK.c3 hM | exact FK.c4 hM | exact FK.c5 hM | exact FK.c6 hM | exact FK.c39 hM | exact FK.c40 hM | exact FK.c41 hM | exact FK.c42 hM | exact FK.c43 hM | exact FK.c128 hM | exact FK.c136 hM | exact FK.c137 hM | exact FK.c173 hM | exact FK.c174 hM | exact FK.c175 hM | exact FK.c176 hM | exact FK.c177 hM | exact FK.c178 hM | exact RK.c0 (FK.rk hkd hM) | exact RK.c1 (FK.rk hkd hM)
  case hi_3 => exact vp_in_nI hkd (by decide)
  case hy_3 => show some (q + (138 + 7 * (nI kd).toNatClampNeg)) = some _; rw [nI_clamp (by omega)]
  refine S_astore_n (q := 11) [_, _, _, _] hX dX11_readSaying_10 rfl (Nat.le_of_ble_eq_true rfl) rfl rfl ?_
  refine S_aload_n (q := 12) hX dX11_readSaying_11 rfl rfl ?_
  refine S_aload_n (q := 13) hX dX11_readSaying_12 rfl rfl ?_
  refine S_getf (fs := ?fs_4) (v := ?v_4) (q := 16) hX u_285 fo_X11_now dX11_readSaying_13 ?hs_4 ?hv_4 rfl ?_
  case hs_4 => with_reducible first | exact FK.c0 hM | exact FK.c1 hM | exact FK.c2 hM | exact FK.c7 hM | exact FK.c129 hM | exact FK.c3 hM | exact FK.c4 hM | exact FK.c5 hM | exact FK.c6 hM | exact FK.c39 hM | exact FK.c40 hM | exact FK.c41 hM | exact FK.c42 hM | exact FK.c43 hM | exact FK.c128 hM | exact FK.c136 hM | exact FK.c137 hM | exact FK.c173 hM | exact FK.c174 hM | exact FK.c175 hM | exact FK.c176 hM | exact FK.c177 hM | exact FK.c178 hM | exact RK.c0 (FK.rk hkd hM) | exact RK.c1 (FK.rk hkd hM)
  case hv_4 => rfl
  refine S_getf (fs := ?fs_5) (v := ?v_5) (q := 19) hX u_85 fo_X9_codes dX11_readSaying_16 ?hs_5 ?hv_5 rfl ?_
  case hs_5 => with_reducible first | exact FK.c0 hM | exact FK.c1 hM | exact FK.c2 hM | exact FK.c7 hM | exact FK.c129 hM | exact FK.c3 hM | exact FK.c4 hM | exact FK.c5 hM | exact FK.c6 hM | exact FK.c39 hM | exact FK.c40 hM | exact FK.c41 hM | exact FK.c42 hM | exact FK.c43 hM | exact FK.c128 hM | exact FK.c136 hM | exact FK.c137 hM | exact FK.c173 hM | exact FK.c174 hM | exact FK.c175 hM | exact FK.c176 hM | exact FK.c177 hM | exact FK.c178 hM | exact RK.c0 (FK.rk hkd hM) | exact RK.c1 (FK.rk hkd hM)
  case hv_5 => rfl
  refine S_iload_n (q := 20) hX dX11_readSaying_19 rfl rfl ?_
  refine S_callK (q := 23) 0 0 (hkd) hX (c_X3_learn (q + (138 + 7 * kd)) (fun j => μ1 (138 + 7 * kd + j)) kd (q + 2) c _ (fun j => μ1 (2 + j)) (S.1.1.2.1 c) rfl) rfl ?hs_6 u_525 u_528 u_526 u_6 u_533 u_527 u_531 u_530 u_532 u_529 ⟨by decide, by decide, rfl⟩ ⟨Nat.le_of_ble_eq_true rfl, Nat.le_of_ble_eq_true rfl⟩ ⟨Nat.le_of_ble_eq_true rfl, Nat.le_of_ble_eq_true rfl⟩ (Nat.le_of_ble_eq_true rfl) dX11_readSaying_20 ?hp_6 rfl rfl rfl ?_
  case hs_6 => exact ⟨_, (FK.rk hkd hM).c0⟩
  case hp_6 => exact ⟨FK.rk hkd hM, FK.co hM, by left; omega, by omega, o2.2.1 c hc, (hco.ext (fun j hj => by show μ1 (2 + j) = γ (2 + j); rw [ed, m1_ne (by omega)])).2.1 c hc⟩
  rintro v σ sz1 ⟨g1, hM1, hF1, rfl, hfd, rfl⟩
  have hM := FK.jrk hkd hM hF1 hM1
  have hF := hF.trans (hF1.mono (Nat.le_add_right _ _) (by omega))
  refine S_aload_n (q := 24) hX dX11_readSaying_23 rfl rfl ?_
  refine S_aload_n (q := 25) hX dX11_readSaying_24 rfl rfl ?_
  refine S_getf (fs := ?fs_7) (v := ?v_7) (q := 28) hX u_292 fo_X11_drawn dX11_readSaying_25 ?hs_7 ?hv_7 rfl ?_
  case hs_7 => with_reducible first | exact FK.c0 hM | exact FK.c1 hM | exact FK.c2 hM | exact FK.c7 hM | exact FK.c129 hM | exact FK.c3 hM | exact FK.c4 hM | exact FK.c5 hM | exact FK.c6 hM | exact FK.c39 hM | exact FK.c40 hM | exact FK.c41 hM | exact FK.c42 hM | exact FK.c43 hM | exact FK.c128 hM | exact FK.c136 hM | exact FK.c137 hM | exact FK.c173 hM | exact FK.c174 hM | exact FK.c175 hM | exact FK.c176 hM | exact FK.c177 hM | exact FK.c178 hM | exact RK.c0 (FK.rk hkd hM) | exact RK.c1 (FK.rk hkd hM)
  case hv_7 => rfl
  refine S_aload_n (q := 29) hX dX11_readSaying_28 rfl rfl ?_
  refine S_getf (fs := ?fs_8) (v := ?v_8) (q := 32) hX u_285 fo_X11_now dX11_readSaying_29 ?hs_8 ?hv_8 rfl ?_
  case hs_8 => with_reducible first | exact FK.c0 hM | exact FK.c1 hM | exact FK.c2 hM | exact FK.c7 hM | exact FK.c129 hM | exact FK.c3 hM | exact FK.c4 hM | exact FK.c5 hM | exact FK.c6 hM | exact FK.c39 hM | exact FK.c40 hM | exact FK.c41 hM | exact FK.c42 hM | exact FK.c43 hM | exact FK.c128 hM | exact FK.c136 hM | exact FK.c137 hM | exact FK.c173 hM | exact FK.c174 hM | exact FK.c175 hM | exact FK.c176 hM | exact FK.c177 hM | exact FK.c178 hM | exact RK.c0 (FK.rk hkd hM) | exact RK.c1 (FK.rk hkd hM)
  case hv_8 => rfl
  refine S_getf (fs := ?fs_9) (v := ?v_9) (q := 35) hX u_93 fo_X9_beats dX11_readSaying_32 ?hs_9 ?hv_9 rfl ?_
  case hs_9 => with_reducible first | exact FK.c0 hM | exact FK.c1 hM | exact FK.c2 hM | exact FK.c7 hM | exact FK.c129 hM | exact FK.c3 hM | exact FK.c4 hM | exact FK.c5 hM | exact FK.c6 hM | exact FK.c39 hM | exact FK.c40 hM | exact FK.c41 hM | exact FK.c42 hM | exact FK.c43 hM | exact FK.c128 hM | exact FK.c136 hM | exact FK.c137 hM | exact FK.c173 hM | exact FK.c174 hM | exact FK.c175 hM | exact FK.c176 hM | exact FK.c177 hM | exact FK.c178 hM | exact RK.c0 (FK.rk hkd hM) | exact RK.c1 (FK.rk hkd hM)
  case hv_9 => rfl
  refine S_callK (q := 38) 0 0 (hkd) hX (c_X3_listen (q + (138 + 7 * kd)) (fun j => spl μ1 (138 + 7 * kd) 7 g1 (138 + 7 * kd + j)) kd (q + 175) 6 (ln S.1.2.2.2.1) _ (spl μ1 (138 + 7 * kd) 7 g1 175) (fun b => drw S.1.2.2.1 (stN S.1.2.2.2.1 (ln S.1.2.2.2.1) b) b) (S.1.1.2.1 c) (by rw [spl_out (by omega), ed, m1_ne (by decide)]; exact t3)) rfl ?hs_10 u_536 u_539 u_537 u_6 u_544 u_538 u_542 u_541 u_543 u_540 ⟨by decide, by decide, rfl⟩ ⟨Nat.le_of_ble_eq_true rfl, Nat.le_of_ble_eq_true rfl⟩ ⟨Nat.le_of_ble_eq_true rfl, Nat.le_of_ble_eq_true rfl⟩ (Nat.le_of_ble_eq_true rfl) dX11_readSaying_35 ?hp_10 rfl rfl rfl ?_
  case hs_10 => exact ⟨_, (FK.rk hkd hM).c0⟩
  case hp_10 =>
    refine ⟨FK.rk hkd hM, hkd, hfd.of ?_ ?_ ?_ ?_, o2.2.1 c hc, by omega, h6, by decide, FK.c175 hM, by right; omega, fun i hi => ⟨?_, drw_lt (stN_lt _ _ _)⟩⟩
    · show spl _ _ _ _ (138 + 7 * kd + 0) 2 = _; rw [spl_in ⟨by omega, by omega⟩, Nat.add_sub_cancel_left]
    · show spl _ _ _ _ (138 + 7 * kd + 4) = _; rw [spl_in ⟨by omega, by omega⟩, Nat.add_sub_cancel_left]
    · show spl _ _ _ _ (138 + 7 * kd + 5) = _; rw [spl_in ⟨by omega, by omega⟩, Nat.add_sub_cancel_left]
    · show spl _ _ _ _ (138 + 7 * kd + 6) = _; rw [spl_in ⟨by omega, by omega⟩, Nat.add_sub_cancel_left]
    · rw [spl_out (by omega), ed, m1_eq]; exact hgd i hi
  rintro v σ sz1 ⟨g2, hM2, hF2, rfl, hL, rfl⟩
  have hM := FK.jrk hkd hM hF2 hM2
  have hF := hF.trans (hF2.mono (Nat.le_add_right _ _) (by omega))
  refine S_aload_n (q := 39) hX dX11_readSaying_38 rfl rfl ?_
  refine S_aret hX (Or.inl ⟨_, rfl⟩) dX11_readSaying_39 (Nat.zero_le _) (Nat.zero_le _) ?_
  refine hP _ _ _ ?_
  refine ⟨_, hM, hF, rfl, ⟨fun j h1 h2 => by rw [spl_out (by omega), spl_out (by omega), ed, m1_ne h1], ?_⟩, rfl⟩
  have e3 : ∀ j, j < 7 → spl (spl μ1 (138 + 7 * kd) 7 g1) (138 + 7 * kd) 7 g2 (138 + 7 * kd + j) = g2 j := fun j hj => by rw [spl_in ⟨by omega, by omega⟩, Nat.add_sub_cancel_left]
  exact hL.ext e3
theorem c_X11_say (q : Nat) (γ : MF) (S : ST) (x : Int32) : CT_X11_say [.ref q, .int x] (fun Γ σ sz => FK σ q γ ∧ FR γ S ∧ StOk S) (fun Γ σ sz v σ' sz' => ∃ γ', FK σ' q γ' ∧ Fr q (q + 179) σ σ' ∧ v = some (.int (sp_say S x).1) ∧ FR γ' (sp_say S x).2 ∧ sz' = sz) := by
  refine CT.mkP rfl (Nat.le_of_ble_eq_true rfl) [_, _, _] rfl ?_
  intro X Γ σ sz P hX hpre hsz hP
  obtain ⟨hM, hR, ok⟩ := hpre
  obtain ⟨σ0, eσ0⟩ : ∃ z, z = σ := ⟨σ, rfl⟩
  rw [← eσ0] at hP
  have hF : Fr q (q + 179) σ0 σ := by rw [eσ0]; exact Fr.rf
  obtain ⟨r0, r1, r2, r3, r4, r5⟩ := id hR
  obtain ⟨t0, t1, t2, t3, t4, t5, t6, t7, t8⟩ := id r0
  obtain ⟨o1, o2, o3, o4, o5, o6, o7, o8, o9, o10⟩ := id ok.1
  have h6 := lnZ_6 x.toInt
  refine S_iload_n (q := 1) hX dX11_say_0 rfl rfl ?_
  refine S_callS (q := 4) 0 0 hX (c_X7_beats x) rfl u_335 u_336 u_13 u_337 ⟨by decide, by decide, rfl⟩ ⟨Nat.le_of_ble_eq_true rfl, Nat.le_of_ble_eq_true rfl⟩ ⟨Nat.le_of_ble_eq_true rfl, Nat.le_of_ble_eq_true rfl⟩ (Nat.le_of_ble_eq_true rfl) dX11_say_1 ?hp_1 rfl rfl rfl ?_
  case hp_1 => trivial
  rintro v σ1 sz1 ⟨rfl, rfl, rfl⟩
  refine S_istore_n (q := 5) [_, _, _] hX dX11_say_4 rfl (Nat.le_of_ble_eq_true rfl) rfl rfl ?_
  refine S_iload_n (q := 6) hX dX11_say_5 rfl rfl ?_
  refine S_iconst (q := 7) (v := 1) hX dX11_say_6 ic_1 rfl ?_
  refine S_icmp_ge (q := 10) 19 hX dX11_say_7 rfl rfl (fun c7 => ?_) (fun c7 => ?_)
  · have k7 := c7
    rw [show (1 : Int32) = nI 1 from rfl, nI_leI (by have := lnZ_6 x.toInt; omega) (by have := lnZ_6 x.toInt; omega)] at k7
    have cz := lnZ_row (x := x) (by omega)
    refine S_iload_n (q := 20) hX dX11_say_19 rfl rfl ?_
    refine S_iload_n (q := 21) hX dX11_say_20 rfl rfl ?_
    refine S_aload_n (q := 22) hX dX11_say_21 rfl rfl ?_
    refine S_getf (fs := ?fs_2) (v := ?v_2) (q := 25) hX u_294 fo_X11_spelt dX11_say_22 ?hs_2 ?hv_2 rfl ?_
    case hs_2 => with_reducible first | exact FK.c0 hM | exact FK.c1 hM | exact FK.c2 hM | exact FK.c7 hM | exact FK.c129 hM | exact FK.c3 hM | exact FK.c4 hM | exact FK.c5 hM | exact FK.c6 hM | exact FK.c39 hM | exact FK.c40 hM | exact FK.c41 hM | exact FK.c42 hM | exact FK.c43 hM | exact FK.c128 hM | exact FK.c136 hM | exact FK.c137 hM | exact FK.c173 hM | exact FK.c174 hM | exact FK.c175 hM | exact FK.c176 hM | exact FK.c177 hM | exact FK.c178 hM
    case hv_2 => rfl
    refine S_iconst (q := 26) (v := 0) hX dX11_say_25 ic_0 rfl ?_
    refine S_callS (q := 29) 0 0 hX (c_X7_spell _ _ _ (q + 177) 6 (tN x) (lnZ x.toInt) 0 (γ 177) cz.1 rfl rfl) rfl u_493 u_494 u_13 u_495 ⟨by decide, by decide, rfl⟩ ⟨Nat.le_of_ble_eq_true rfl, Nat.le_of_ble_eq_true rfl⟩ ⟨Nat.le_of_ble_eq_true rfl, Nat.le_of_ble_eq_true rfl⟩ (Nat.le_of_ble_eq_true rfl) dX11_say_26 ?hp_3 rfl rfl rfl ?_
    case hp_3 => exact ⟨FK.c177 hM, by omega, by decide, cz.2.1⟩
    rintro v σ1 sz1 ⟨g', rfl, rfl, ⟨hg1, hg2⟩, rfl⟩
    have hM := hM.st (j := 177) (g := g') (e := ia 6 g') (by decide) rfl
    have hF := hF.su (a := q + 177) (e := ia 6 g') (by omega)
    have hRs := hR.scr ok (γ' := m1 γ 177 g') (fun j hj => m1_ne (by omega))
    refine S_aload_n (q := 30) hX dX11_say_29 rfl rfl ?_
    refine S_getf (fs := ?fs_4) (v := ?v_4) (q := 33) hX u_294 fo_X11_spelt dX11_say_30 ?hs_4 ?hv_4 rfl ?_
    case hs_4 => with_reducible first | exact FK.c0 hM | exact FK.c1 hM | exact FK.c2 hM | exact FK.c7 hM | exact FK.c129 hM | exact FK.c3 hM | exact FK.c4 hM | exact FK.c5 hM | exact FK.c6 hM | exact FK.c39 hM | exact FK.c40 hM | exact FK.c41 hM | exact FK.c42 hM | exact FK.c43 hM | exact FK.c128 hM | exact FK.c136 hM | exact FK.c137 hM | exact FK.c173 hM | exact FK.c174 hM | exact FK.c175 hM | exact FK.c176 hM | exact FK.c177 hM | exact FK.c178 hM
    case hv_4 => rfl
    refine S_iload_n (q := 34) hX dX11_say_33 rfl rfl ?_
    refine S_callS (q := 37) 0 0 hX (c_X7_isLawful _ (q + 177) 6 (lnZ x.toInt) g' (stN (tN x) (lnZ x.toInt)) rfl) rfl u_496 u_497 u_13 u_498 ⟨by decide, by decide, rfl⟩ ⟨Nat.le_of_ble_eq_true rfl, Nat.le_of_ble_eq_true rfl⟩ ⟨Nat.le_of_ble_eq_true rfl, Nat.le_of_ble_eq_true rfl⟩ (Nat.le_of_ble_eq_true rfl) dX11_say_34 ?hp_5 rfl rfl rfl ?_
    case hp_5 => exact ⟨su_eq _ _ _, by omega, by decide, fun i hi => ⟨by have := hg1 i hi; rw [Nat.zero_add] at this; exact this, stN_lt _ _ _⟩⟩
    rintro v σ1 sz1 ⟨rfl, rfl, rfl⟩
    refine S_if_ne_b (q := 40) 49 hX dX11_say_37 rfl rfl (fun c37 => ?_) (fun c37 => ?_)
    · refine S_aload_n (q := 50) hX dX11_say_49 rfl rfl ?_
      refine S_getf (fs := ?fs_6) (v := ?v_6) (q := 53) hX u_294 fo_X11_spelt dX11_say_50 ?hs_6 ?hv_6 rfl ?_
      case hs_6 => with_reducible first | exact FK.c0 hM | exact FK.c1 hM | exact FK.c2 hM | exact FK.c7 hM | exact FK.c129 hM | exact FK.c3 hM | exact FK.c4 hM | exact FK.c5 hM | exact FK.c6 hM | exact FK.c39 hM | exact FK.c40 hM | exact FK.c41 hM | exact FK.c42 hM | exact FK.c43 hM | exact FK.c128 hM | exact FK.c136 hM | exact FK.c137 hM | exact FK.c173 hM | exact FK.c174 hM | exact FK.c175 hM | exact FK.c176 hM | exact FK.c177 hM | exact FK.c178 hM
      case hv_6 => rfl
      refine S_iconst (q := 54) (v := 0) hX dX11_say_53 ic_0 rfl ?_
      refine S_aload_n (q := 55) hX dX11_say_54 rfl rfl ?_
      refine S_getf (fs := ?fs_7) (v := ?v_7) (q := 58) hX u_285 fo_X11_now dX11_say_55 ?hs_7 ?hv_7 rfl ?_
      case hs_7 => with_reducible first | exact FK.c0 hM | exact FK.c1 hM | exact FK.c2 hM | exact FK.c7 hM | exact FK.c129 hM | exact FK.c3 hM | exact FK.c4 hM | exact FK.c5 hM | exact FK.c6 hM | exact FK.c39 hM | exact FK.c40 hM | exact FK.c41 hM | exact FK.c42 hM | exact FK.c43 hM | exact FK.c128 hM | exact FK.c136 hM | exact FK.c137 hM | exact FK.c173 hM | exact FK.c174 hM | exact FK.c175 hM | exact FK.c176 hM | exact FK.c177 hM | exact FK.c178 hM
      case hv_7 => rfl
      refine S_getf (fs := ?fs_8) (v := ?v_8) (q := 61) hX u_91 fo_X9_saying dX11_say_58 ?hs_8 ?hv_8 rfl ?_
      case hs_8 => with_reducible first | exact FK.c0 hM | exact FK.c1 hM | exact FK.c2 hM | exact FK.c7 hM | exact FK.c129 hM | exact FK.c3 hM | exact FK.c4 hM | exact FK.c5 hM | exact FK.c6 hM | exact FK.c39 hM | exact FK.c40 hM | exact FK.c41 hM | exact FK.c42 hM | exact FK.c43 hM | exact FK.c128 hM | exact FK.c136 hM | exact FK.c137 hM | exact FK.c173 hM | exact FK.c174 hM | exact FK.c175 hM | exact FK.c176 hM | exact FK.c177 hM | exact FK.c178 hM
      case hv_8 => rfl
      refine S_iconst (q := 62) (v := 0) hX dX11_say_61 ic_0 rfl ?_
      refine S_iload_n (q := 63) hX dX11_say_62 rfl rfl ?_
      refine S_copy (n0 := ?n0_9) (n1 := ?n1_9) (f := ?f_9) (g := ?g_9) (q := 66) hX u_502 u_487 u_486 u_18 ?hs_9 ?h1_9 ?h2_9 ?h3_9 ?h4_9 ?h5_9 ?h6_9 (by decide) (Nat.le_of_ble_eq_true rfl) dX11_say_63 rfl ?_
      case hs_9 => with_reducible first | exact FK.c0 hM | exact FK.c1 hM | exact FK.c2 hM | exact FK.c7 hM | exact FK.c129 hM | exact FK.c3 hM | exact FK.c4 hM | exact FK.c5 hM | exact FK.c6 hM | exact FK.c39 hM | exact FK.c40 hM | exact FK.c41 hM | exact FK.c42 hM | exact FK.c43 hM | exact FK.c128 hM | exact FK.c136 hM | exact FK.c137 hM | exact FK.c173 hM | exact FK.c174 hM | exact FK.c175 hM | exact FK.c176 hM | exact FK.c177 hM | exact FK.c178 hM
      case h1_9 => with_reducible first | exact FK.c0 hM | exact FK.c1 hM | exact FK.c2 hM | exact FK.c7 hM | exact FK.c129 hM | exact FK.c3 hM | exact FK.c4 hM | exact FK.c5 hM | exact FK.c6 hM | exact FK.c39 hM | exact FK.c40 hM | exact FK.c41 hM | exact FK.c42 hM | exact FK.c43 hM | exact FK.c128 hM | exact FK.c136 hM | exact FK.c137 hM | exact FK.c173 hM | exact FK.c174 hM | exact FK.c175 hM | exact FK.c176 hM | exact FK.c177 hM | exact FK.c178 hM
      case h2_9 => first | decide | exact nI_pos (by omega) | (rw [nI_clamp (by omega)]; show 0 + _ ≤ 6; omega)
      case h3_9 => first | decide | exact nI_pos (by omega) | (rw [nI_clamp (by omega)]; show 0 + _ ≤ 6; omega)
      case h4_9 => first | decide | exact nI_pos (by omega) | (rw [nI_clamp (by omega)]; show 0 + _ ≤ 6; omega)
      case h5_9 => first | decide | exact nI_pos (by omega) | (rw [nI_clamp (by omega)]; show 0 + _ ≤ 6; omega)
      case h6_9 => first | decide | exact nI_pos (by omega) | (rw [nI_clamp (by omega)]; show 0 + _ ≤ 6; omega)
      refine S_stn (q0 := q) (j := 39) hM hF (by decide) rfl (fun σ μ63 e63 hM hF => ?_)
      refine S_aload_n (q := 67) hX dX11_say_66 rfl rfl ?_
      refine S_getf (fs := ?fs_10) (v := ?v_10) (q := 70) hX u_285 fo_X11_now dX11_say_67 ?hs_10 ?hv_10 rfl ?_
      case hs_10 => with_reducible first | exact FK.c0 hM | exact FK.c1 hM | exact FK.c2 hM | exact FK.c7 hM | exact FK.c129 hM | exact FK.c3 hM | exact FK.c4 hM | exact FK.c5 hM | exact FK.c6 hM | exact FK.c39 hM | exact FK.c40 hM | exact FK.c41 hM | exact FK.c42 hM | exact FK.c43 hM | exact FK.c128 hM | exact FK.c136 hM | exact FK.c137 hM | exact FK.c173 hM | exact FK.c174 hM | exact FK.c175 hM | exact FK.c176 hM | exact FK.c177 hM | exact FK.c178 hM
      case hv_10 => rfl
      refine S_iload_n (q := 71) hX dX11_say_70 rfl rfl ?_
      refine S_nm (fun x71 hx71 => ?_)
      refine S_putf (fs := ?fs_11) (q := 74) hX u_93 fo_X9_beats rfl rfl ?hl_11 dX11_say_71 ?hs_11 rfl ?_
      case hs_11 => with_reducible first | exact FK.c0 hM | exact FK.c1 hM | exact FK.c2 hM | exact FK.c7 hM | exact FK.c129 hM | exact FK.c3 hM | exact FK.c4 hM | exact FK.c5 hM | exact FK.c6 hM | exact FK.c39 hM | exact FK.c40 hM | exact FK.c41 hM | exact FK.c42 hM | exact FK.c43 hM | exact FK.c128 hM | exact FK.c136 hM | exact FK.c137 hM | exact FK.c173 hM | exact FK.c174 hM | exact FK.c175 hM | exact FK.c176 hM | exact FK.c177 hM | exact FK.c178 hM
      case hl_11 => exact Nat.le_of_ble_eq_true rfl
      refine S_stu (q0 := q) (j := 1) (i := 1) hM hF (by decide) rfl (fun σ μ71 e71 hM hF => ?_)
      subst hx71
      refine S_iload_n (q := 75) hX dX11_say_74 rfl rfl ?_
      refine S_iret hX dX11_say_75 (Nat.zero_le _) (Nat.zero_le _) ?_
      refine hP _ _ _ ?_
      have hsp : sp_say S x = (nI (ln (tN x)), stC S (S.1.1, S.1.2.1, S.1.2.2.1, tN x, S.1.2.2.2.2)) := by unfold sp_say; rw [if_neg (by omega), if_neg (fun z => z (by unfold lwR; rw [cz.2.2]; exact c37))]
      rw [hsp]
      have g : ∀ j, j ≠ 1 → j ≠ 39 → j < 137 → μ71 j = γ j := fun j h1 h2 h3 => by rw [e71, m2_o h1, e63, m1_ne h2, m1_ne (by omega)]
      have g0 : ∀ i, i ≠ 1 → μ71 1 i = γ 1 i := fun i hi => by rw [e71, m2_at, if_neg (fun z => hi z.2), e63, m1_ne (by decide), m1_ne (by decide)]
      refine ⟨_, hM, hF, by rw [cz.2.2], hR.now ok (fun j a b => g j (by omega) (by omega) b) ⟨t0.ext (fun j hj => g _ (by omega) (by omega) (by omega)), t1.ext o3 (fun j h1 h2 => g _ (by omega) (by omega) (by omega)), (g0 0 (by decide)).trans t2, ?_, fun k hk => ?_, (g0 2 (by decide)).trans t5, fun k hk => by show μ71 (1 + 39) k = _; rw [g _ (by decide) (by decide) (by decide)]; exact t6 k hk, (g0 3 (by decide)).trans t7, fun k hk => by show μ71 (1 + 40) k = _ ∧ μ71 (1 + 41) k = _; rw [g _ (by decide) (by decide) (by decide), g _ (by decide) (by decide) (by decide)]; exact t8 k hk⟩, rfl⟩
      · show μ71 1 1 = nI (ln (tN x)); rw [e71, m2_at, if_pos ⟨rfl, rfl⟩, cz.2.2]
      · have hk : k < ln (tN x) := hk
        rw [cz.2.2] at hk
        show μ71 39 k = nI (stN (tN x) (ln (tN x)) k)
        rw [e71, m2_o (by decide), e63, m1_eq, nI_clamp (by omega), cz.2.2]
        have := hg1 k hk
        rw [Nat.zero_add] at this
        exact (pk_cpy_in (Nat.zero_le _) (by show k < 0 + lnZ x.toInt; omega)).trans (by rw [m1_eq]; show g' (0 + k) = _; rw [Nat.zero_add]; exact this)
    · refine S_aload_n (q := 41) hX dX11_say_40 rfl rfl ?_
      refine S_bipush (q := 43) (v := (-3)) hX dX11_say_41 bp_m3 rfl ?_
      refine S_bipush (q := 45) (v := (-3)) hX dX11_say_43 bp_m3 rfl ?_
      refine S_callV (ci := 11) (C := "FanTalk") (T := TX11) (N := 11) (q := 48) 0 0 hX (c_X11_refused q (m1 γ 177 g') _ _ 1 (by decide)) rfl ?hs_12 rfl u_323 u_325 us_0 u_1 u_326 ⟨by decide, by decide, rfl⟩ ⟨Nat.le_of_ble_eq_true rfl, Nat.le_of_ble_eq_true rfl⟩ ⟨Nat.le_of_ble_eq_true rfl, Nat.le_of_ble_eq_true rfl⟩ (Nat.le_of_ble_eq_true rfl) dX11_say_45 ?hp_12 rfl rfl rfl ?_
      case hs_12 => first | with_reducible assumption | exact ⟨_, FK.c0 hM⟩ | exact ⟨_, FK.c2 hM⟩ | exact ⟨_, FK.c7 hM⟩ | exact ⟨_, FK.c129 hM⟩ | exact ⟨_, FK.c173 hM⟩ | exact ⟨_, FK.c1 hM⟩
      case hp_12 => exact ⟨hM, by decide⟩
      rintro v σ sz1 ⟨μ9, hM, hF1, rfl, e9, rfl⟩
      have hF := hF.trans hF1
      refine S_iret hX dX11_say_48 (Nat.zero_le _) (Nat.zero_le _) ?_
      refine hP _ _ _ ?_
      have hsp : sp_say S x = (-3, rfS S 1) := by unfold sp_say; rw [if_neg (by omega), if_pos (fun z => c37 (by rw [← cz.2.2]; exact z))]
      rw [hsp]
      exact ⟨_, hM, hF, rfl, hRs.rf ok e9, rfl⟩
  · have k7 := c7
    rw [show (1 : Int32) = nI 1 from rfl, nI_leI (by have := lnZ_6 x.toInt; omega) (by have := lnZ_6 x.toInt; omega)] at k7
    refine S_aload_n (q := 11) hX dX11_say_10 rfl rfl ?_
    refine S_bipush (q := 13) (v := (-2)) hX dX11_say_11 bp_m2 rfl ?_
    refine S_bipush (q := 15) (v := (-2)) hX dX11_say_13 bp_m2 rfl ?_
    refine S_callV (ci := 11) (C := "FanTalk") (T := TX11) (N := 11) (q := 18) 0 0 hX (c_X11_refused q γ _ _ 0 (by decide)) rfl ?hs_13 rfl u_323 u_325 us_0 u_1 u_326 ⟨by decide, by decide, rfl⟩ ⟨Nat.le_of_ble_eq_true rfl, Nat.le_of_ble_eq_true rfl⟩ ⟨Nat.le_of_ble_eq_true rfl, Nat.le_of_ble_eq_true rfl⟩ (Nat.le_of_ble_eq_true rfl) dX11_say_15 ?hp_13 rfl rfl rfl ?_
    case hs_13 => first | with_reducible assumption | exact ⟨_, FK.c0 hM⟩ | exact ⟨_, FK.c2 hM⟩ | exact ⟨_, FK.c7 hM⟩ | exact ⟨_, FK.c129 hM⟩ | exact ⟨_, FK.c173 hM⟩ | exact ⟨_, FK.c1 hM⟩
    case hp_13 => exact ⟨hM, by decide⟩
    rintro v σ sz1 ⟨μ9, hM, hF1, rfl, e9, rfl⟩
    have hF := hF.trans hF1
    refine S_iret hX dX11_say_18 (Nat.zero_le _) (Nat.zero_le _) ?_
    refine hP _ _ _ ?_
    have hsp : sp_say S x = (-2, rfS S 0) := by unfold sp_say; rw [if_pos (by omega)]
    rw [hsp]
    exact ⟨_, hM, hF, rfl, hR.rf ok e9, rfl⟩
theorem c_X11_seen (q : Nat) (γ : MF) (S : ST) (x : Int32) : CT_X11_seen [.ref q, .int x] (fun Γ σ sz => FK σ q γ ∧ FR γ S ∧ StOk S) (fun Γ σ sz v σ' sz' => ∃ γ', FK σ' q γ' ∧ Fr q (q + 179) σ σ' ∧ v = some (.int (sp_seen S x).1) ∧ FR γ' (sp_seen S x).2 ∧ sz' = sz) := by
  refine CT.mkP rfl (Nat.le_of_ble_eq_true rfl) [_, _] rfl ?_
  intro X Γ σ sz P hX hpre hsz hP
  obtain ⟨hM, hR, ok⟩ := hpre
  obtain ⟨σ0, eσ0⟩ : ∃ z, z = σ := ⟨σ, rfl⟩
  rw [← eσ0] at hP
  have hF : Fr q (q + 179) σ0 σ := by rw [eσ0]; exact Fr.rf
  obtain ⟨r0, r1, r2, r3, r4, r5⟩ := id hR
  obtain ⟨t0, t1, t2, t3, t4, t5, t6, t7, t8⟩ := id r0
  obtain ⟨o1, o2, o3, o4, o5, o6, o7, o8, o9, o10⟩ := id ok.1
  have h6 := ln_6 S.1.2.2.2.1
  have hb : γ 1 1 = nI (ln S.1.2.2.2.1) := t3
  refine S_iload_n (q := 1) hX dX11_seen_0 rfl rfl ?_
  refine S_if_ge (q := 4) 13 hX dX11_seen_1 rfl rfl (fun c1 => ?_) (fun c1 => ?_)
  · have k1 := c1
    rw [le_i, show ((0 : Int32)).toInt = 0 by decide] at k1
    refine S_iload_n (q := 14) hX dX11_seen_13 rfl rfl ?_
    refine S_aload_n (q := 15) hX dX11_seen_14 rfl rfl ?_
    refine S_getf (fs := ?fs_1) (v := ?v_1) (q := 18) hX u_285 fo_X11_now dX11_seen_15 ?hs_1 ?hv_1 rfl ?_
    case hs_1 => with_reducible first | exact FK.c0 hM | exact FK.c1 hM | exact FK.c2 hM | exact FK.c7 hM | exact FK.c129 hM | exact FK.c3 hM | exact FK.c4 hM | exact FK.c5 hM | exact FK.c6 hM | exact FK.c39 hM | exact FK.c40 hM | exact FK.c41 hM | exact FK.c42 hM | exact FK.c43 hM | exact FK.c128 hM | exact FK.c136 hM | exact FK.c137 hM | exact FK.c173 hM | exact FK.c174 hM | exact FK.c175 hM | exact FK.c176 hM | exact FK.c177 hM | exact FK.c178 hM
    case hv_1 => rfl
    refine S_getf (fs := ?fs_2) (v := ?v_2) (q := 21) hX u_93 fo_X9_beats dX11_seen_18 ?hs_2 ?hv_2 rfl ?_
    case hs_2 => with_reducible first | exact FK.c0 hM | exact FK.c1 hM | exact FK.c2 hM | exact FK.c7 hM | exact FK.c129 hM | exact FK.c3 hM | exact FK.c4 hM | exact FK.c5 hM | exact FK.c6 hM | exact FK.c39 hM | exact FK.c40 hM | exact FK.c41 hM | exact FK.c42 hM | exact FK.c43 hM | exact FK.c128 hM | exact FK.c136 hM | exact FK.c137 hM | exact FK.c173 hM | exact FK.c174 hM | exact FK.c175 hM | exact FK.c176 hM | exact FK.c177 hM | exact FK.c178 hM
    case hv_2 => rfl
    refine S_icmp_lt (q := 24) 26 hX dX11_seen_21 rfl rfl (fun c21 => ?_) (fun c21 => ?_)
    · have k21 := c21
      rw [hb, lt_i, nI_toInt (by omega)] at k21
      refine S_aload_n (q := 27) hX dX11_seen_26 rfl rfl ?_
      refine S_callV (ci := 11) (C := "FanTalk") (T := TX11) (N := 11) (q := 30) 0 0 hX (c_X11_drawSaying q γ S) rfl ?hs_3 rfl u_507 u_509 us_12 u_1 u_510 ⟨by decide, by decide, rfl⟩ ⟨Nat.le_of_ble_eq_true rfl, Nat.le_of_ble_eq_true rfl⟩ ⟨Nat.le_of_ble_eq_true rfl, Nat.le_of_ble_eq_true rfl⟩ (Nat.le_of_ble_eq_true rfl) dX11_seen_27 ?hp_3 rfl rfl rfl ?_
      case hs_3 => first | with_reducible assumption | exact ⟨_, FK.c0 hM⟩ | exact ⟨_, FK.c2 hM⟩ | exact ⟨_, FK.c7 hM⟩ | exact ⟨_, FK.c129 hM⟩ | exact ⟨_, FK.c173 hM⟩ | exact ⟨_, FK.c1 hM⟩
      case hp_3 => exact ⟨hM, hR, ok⟩
      rintro v σ sz1 ⟨μ1, hM, hF1, rfl, ⟨gd, ed, hgd⟩, rfl⟩
      have hF := hF.trans hF1
      have hR1 := hR.scr (γ' := μ1) ok (fun j hj => by rw [ed, m1_ne (by omega)])
      refine S_aload_n (q := 31) hX dX11_seen_30 rfl rfl ?_
      refine S_getf (fs := ?fs_4) (v := ?v_4) (q := 34) hX u_292 fo_X11_drawn dX11_seen_31 ?hs_4 ?hv_4 rfl ?_
      case hs_4 => with_reducible first | exact FK.c0 hM | exact FK.c1 hM | exact FK.c2 hM | exact FK.c7 hM | exact FK.c129 hM | exact FK.c3 hM | exact FK.c4 hM | exact FK.c5 hM | exact FK.c6 hM | exact FK.c39 hM | exact FK.c40 hM | exact FK.c41 hM | exact FK.c42 hM | exact FK.c43 hM | exact FK.c128 hM | exact FK.c136 hM | exact FK.c137 hM | exact FK.c173 hM | exact FK.c174 hM | exact FK.c175 hM | exact FK.c176 hM | exact FK.c177 hM | exact FK.c178 hM
      case hv_4 => rfl
      refine S_iload_n (q := 35) hX dX11_seen_34 rfl rfl ?_
      refine S_iald (N := ?n_5) (f := ?f_5) (q := 36) hX dX11_seen_35 ?hs_5 ?hi_5 rfl ?_
      case hs_5 => with_reducible first | exact FK.c0 hM | exact FK.c1 hM | exact FK.c2 hM | exact FK.c7 hM | exact FK.c129 hM | exact FK.c3 hM | exact FK.c4 hM | exact FK.c5 hM | exact FK.c6 hM | exact FK.c39 hM | exact FK.c40 hM | exact FK.c41 hM | exact FK.c42 hM | exact FK.c43 hM | exact FK.c128 hM | exact FK.c136 hM | exact FK.c137 hM | exact FK.c173 hM | exact FK.c174 hM | exact FK.c175 hM | exact FK.c176 hM | exact FK.c177 hM | exact FK.c178 hM
      case hi_5 => rw [vp_in_iff]; omega
      refine S_iret hX dX11_seen_36 (Nat.zero_le _) (Nat.zero_le _) ?_
      refine hP _ _ _ ?_
      have cx := tN_ex (x := x) (by omega)
      have hsp : sp_seen S x = (nI (drw S.1.2.2.1 (stN S.1.2.2.2.1 (ln S.1.2.2.2.1) (tN x)) (tN x)), S) := by unfold sp_seen; rw [if_neg (by omega), if_neg (by omega)]
      rw [hsp]
      exact ⟨_, hM, hF, congrArg (fun z => some (Value.int z)) (by rw [ed, m1_eq]; exact hgd (tN x) (by omega)), hR1, rfl⟩
    · have k21 := c21
      rw [hb, lt_i, nI_toInt (by omega)] at k21
      refine S_iconst (q := 25) (v := (-1)) hX dX11_seen_24 ic_m1 rfl ?_
      refine S_iret hX dX11_seen_25 (Nat.zero_le _) (Nat.zero_le _) ?_
      refine hP _ _ _ ?_
      have hsp : sp_seen S x = (-1, S) := by unfold sp_seen; rw [if_neg (by omega), if_pos (by omega)]
      rw [hsp]
      exact ⟨_, hM, hF, rfl, hR, rfl⟩
  · have k1 := c1
    rw [le_i, show ((0 : Int32)).toInt = 0 by decide] at k1
    refine S_aload_n (q := 5) hX dX11_seen_4 rfl rfl ?_
    refine S_bipush (q := 7) (v := (-2)) hX dX11_seen_5 bp_m2 rfl ?_
    refine S_bipush (q := 9) (v := (-2)) hX dX11_seen_7 bp_m2 rfl ?_
    refine S_callV (ci := 11) (C := "FanTalk") (T := TX11) (N := 11) (q := 12) 0 0 hX (c_X11_refused q γ _ _ 0 (by decide)) rfl ?hs_6 rfl u_323 u_325 us_0 u_1 u_326 ⟨by decide, by decide, rfl⟩ ⟨Nat.le_of_ble_eq_true rfl, Nat.le_of_ble_eq_true rfl⟩ ⟨Nat.le_of_ble_eq_true rfl, Nat.le_of_ble_eq_true rfl⟩ (Nat.le_of_ble_eq_true rfl) dX11_seen_9 ?hp_6 rfl rfl rfl ?_
    case hs_6 => first | with_reducible assumption | exact ⟨_, FK.c0 hM⟩ | exact ⟨_, FK.c2 hM⟩ | exact ⟨_, FK.c7 hM⟩ | exact ⟨_, FK.c129 hM⟩ | exact ⟨_, FK.c173 hM⟩ | exact ⟨_, FK.c1 hM⟩
    case hp_6 => exact ⟨hM, by decide⟩
    rintro v σ sz1 ⟨μ9, hM, hF1, rfl, e9, rfl⟩
    have hF := hF.trans hF1
    refine S_iret hX dX11_seen_12 (Nat.zero_le _) (Nat.zero_le _) ?_
    refine hP _ _ _ ?_
    have hsp : sp_seen S x = (-2, rfS S 0) := by unfold sp_seen; rw [if_pos (by omega)]
    rw [hsp]
    exact ⟨_, hM, hF, rfl, hR.rf ok e9, rfl⟩
theorem c_X11_reads (q : Nat) (γ : MF) (S : ST) (x y z : Int32) : CT_X11_reads [.ref q, .int x, .int y, .int z] (fun Γ σ sz => FK σ q γ ∧ FR γ S ∧ StOk S) (fun Γ σ sz v σ' sz' => ∃ γ', FK σ' q γ' ∧ Fr q (q + 179) σ σ' ∧ v = some (.int (sp_reads S x y z).1) ∧ FR γ' (sp_reads S x y z).2 ∧ sz' = sz) := by
  refine CT.mkP rfl (Nat.le_of_ble_eq_true rfl) [_, _, _, _, _] rfl ?_
  intro X Γ σ sz P hX hpre hsz hP
  obtain ⟨hM, hR, ok⟩ := hpre
  obtain ⟨σ0, eσ0⟩ : ∃ z, z = σ := ⟨σ, rfl⟩
  rw [← eσ0] at hP
  have hF : Fr q (q + 179) σ0 σ := by rw [eσ0]; exact Fr.rf
  obtain ⟨r0, r1, r2, r3, r4, r5⟩ := id hR
  obtain ⟨t0, t1, t2, t3, t4, t5, t6, t7, t8⟩ := id r0
  obtain ⟨o1, o2, o3, o4, o5, o6, o7, o8, o9, o10⟩ := id ok.1
  refine S_iload_n (q := 1) hX dX11_reads_0 rfl rfl ?_
  refine S_callS (q := 4) 0 0 hX (c_X11_isKind _) rfl u_518 u_519 u_1 u_520 ⟨by decide, by decide, rfl⟩ ⟨Nat.le_of_ble_eq_true rfl, Nat.le_of_ble_eq_true rfl⟩ ⟨Nat.le_of_ble_eq_true rfl, Nat.le_of_ble_eq_true rfl⟩ (Nat.le_of_ble_eq_true rfl) dX11_reads_1 ?hp_1 rfl rfl rfl ?_
  case hp_1 => trivial
  rintro v σ1 sz1 ⟨rfl, rfl, rfl⟩
  refine S_if_eq_b (q := 7) 20 hX dX11_reads_4 rfl rfl (fun c4 => ?_) (fun c4 => ?_)
  · refine S_aload_n (q := 21) hX dX11_reads_20 rfl rfl ?_
    refine S_bipush (q := 23) (v := (-2)) hX dX11_reads_21 bp_m2 rfl ?_
    refine S_bipush (q := 25) (v := (-10)) hX dX11_reads_23 bp_m10 rfl ?_
    refine S_callV (ci := 11) (C := "FanTalk") (T := TX11) (N := 11) (q := 28) 0 0 hX (c_X11_refused q γ _ _ 0 (by decide)) rfl ?hs_2 rfl u_323 u_325 us_0 u_1 u_326 ⟨by decide, by decide, rfl⟩ ⟨Nat.le_of_ble_eq_true rfl, Nat.le_of_ble_eq_true rfl⟩ ⟨Nat.le_of_ble_eq_true rfl, Nat.le_of_ble_eq_true rfl⟩ (Nat.le_of_ble_eq_true rfl) dX11_reads_25 ?hp_2 rfl rfl rfl ?_
    case hs_2 => first | with_reducible assumption | exact ⟨_, FK.c0 hM⟩ | exact ⟨_, FK.c2 hM⟩ | exact ⟨_, FK.c7 hM⟩ | exact ⟨_, FK.c129 hM⟩ | exact ⟨_, FK.c173 hM⟩ | exact ⟨_, FK.c1 hM⟩
    case hp_2 => exact ⟨hM, by decide⟩
    rintro v σ sz1 ⟨μ9, hM, hF1, rfl, e9, rfl⟩
    have hF := hF.trans hF1
    refine S_iret hX dX11_reads_28 (Nat.zero_le _) (Nat.zero_le _) ?_
    refine hP _ _ _ ?_
    have hsp : sp_reads S x y z = (-10, rfS S 0) := by unfold sp_reads; rw [if_pos (Or.inl c4)]
    rw [hsp]
    exact ⟨_, hM, hF, rfl, hR.rf ok e9, rfl⟩
  · have cx := tN_ex c4.1
    have hkd : tN x < 5 := by have := c4.2; omega
    refine S_aload_n (q := 8) hX dX11_reads_7 rfl rfl ?_
    refine S_iload_n (q := 9) hX dX11_reads_8 rfl rfl ?_
    refine S_callV (ci := 11) (C := "FanTalk") (T := TX11) (N := 11) (q := 12) 0 0 hX (c_X11_isCode q γ S _) rfl ?hs_3 rfl u_338 u_340 us_1 u_1 u_341 ⟨by decide, by decide, rfl⟩ ⟨Nat.le_of_ble_eq_true rfl, Nat.le_of_ble_eq_true rfl⟩ ⟨Nat.le_of_ble_eq_true rfl, Nat.le_of_ble_eq_true rfl⟩ (Nat.le_of_ble_eq_true rfl) dX11_reads_9 ?hp_3 rfl rfl rfl ?_
    case hs_3 => first | with_reducible assumption | exact ⟨_, FK.c0 hM⟩ | exact ⟨_, FK.c2 hM⟩ | exact ⟨_, FK.c7 hM⟩ | exact ⟨_, FK.c129 hM⟩ | exact ⟨_, FK.c173 hM⟩ | exact ⟨_, FK.c1 hM⟩
    case hp_3 => exact ⟨hM, hR, ok⟩
    rintro v σ1 sz1 ⟨rfl, rfl, rfl⟩
    refine S_if_eq_b (q := 15) 20 hX dX11_reads_12 rfl rfl (fun c12 => ?_) (fun c12 => ?_)
    · refine S_aload_n (q := 21) hX dX11_reads_20 rfl rfl ?_
      refine S_bipush (q := 23) (v := (-2)) hX dX11_reads_21 bp_m2 rfl ?_
      refine S_bipush (q := 25) (v := (-10)) hX dX11_reads_23 bp_m10 rfl ?_
      refine S_callV (ci := 11) (C := "FanTalk") (T := TX11) (N := 11) (q := 28) 0 0 hX (c_X11_refused q γ _ _ 0 (by decide)) rfl ?hs_4 rfl u_323 u_325 us_0 u_1 u_326 ⟨by decide, by decide, rfl⟩ ⟨Nat.le_of_ble_eq_true rfl, Nat.le_of_ble_eq_true rfl⟩ ⟨Nat.le_of_ble_eq_true rfl, Nat.le_of_ble_eq_true rfl⟩ (Nat.le_of_ble_eq_true rfl) dX11_reads_25 ?hp_4 rfl rfl rfl ?_
      case hs_4 => first | with_reducible assumption | exact ⟨_, FK.c0 hM⟩ | exact ⟨_, FK.c2 hM⟩ | exact ⟨_, FK.c7 hM⟩ | exact ⟨_, FK.c129 hM⟩ | exact ⟨_, FK.c173 hM⟩ | exact ⟨_, FK.c1 hM⟩
      case hp_4 => exact ⟨hM, by decide⟩
      rintro v σ sz1 ⟨μ9, hM, hF1, rfl, e9, rfl⟩
      have hF := hF.trans hF1
      refine S_iret hX dX11_reads_28 (Nat.zero_le _) (Nat.zero_le _) ?_
      refine hP _ _ _ ?_
      have hsp : sp_reads S x y z = (-10, rfS S 0) := by unfold sp_reads; rw [if_pos (Or.inr (Or.inl c12))]
      rw [hsp]
      exact ⟨_, hM, hF, rfl, hR.rf ok e9, rfl⟩
    · have cy := okc.ex c12
      refine S_iload_n (q := 16) hX dX11_reads_15 rfl rfl ?_
      refine S_iconst (q := 17) (v := (-1)) hX dX11_reads_16 ic_m1 rfl ?_
      refine S_icmp_ge (q := 20) 29 hX dX11_reads_17 rfl rfl (fun c17 => ?_) (fun c17 => ?_)
      · have k17 := c17
        rw [le_i, show (((-1) : Int32)).toInt = -1 by decide] at k17
        refine S_aload_n (q := 30) hX dX11_reads_29 rfl rfl ?_
        refine S_iload_n (q := 31) hX dX11_reads_30 rfl rfl ?_
        refine S_iload_n (q := 32) hX dX11_reads_31 rfl rfl ?_
        refine S_callV (ci := 11) (C := "FanTalk") (T := TX11) (N := 11) (q := 35) 0 0 hX (c_X11_readSaying q γ (S) _ _ (tN x) (tN y) cx.1 cy.1) rfl ?hs_5 rfl u_521 u_523 us_13 u_1 u_524 ⟨by decide, by decide, rfl⟩ ⟨Nat.le_of_ble_eq_true rfl, Nat.le_of_ble_eq_true rfl⟩ ⟨Nat.le_of_ble_eq_true rfl, Nat.le_of_ble_eq_true rfl⟩ (Nat.le_of_ble_eq_true rfl) dX11_reads_32 ?hp_5 rfl rfl rfl ?_
        case hs_5 => first | with_reducible assumption | exact ⟨_, FK.c0 hM⟩ | exact ⟨_, FK.c2 hM⟩ | exact ⟨_, FK.c7 hM⟩ | exact ⟨_, FK.c129 hM⟩ | exact ⟨_, FK.c173 hM⟩ | exact ⟨_, FK.c1 hM⟩
        case hp_5 => exact ⟨hM, hR, ok, hkd, cy.2.1⟩
        rintro v σ sz1 ⟨μ1, hM, hF1, rfl, ⟨o1, hL1⟩, rfl⟩
        have hF := hF.trans hF1
        have hR1 := hR.scr (γ' := μ1) ok (fun j hj => o1 j (by omega) (by omega))
        have hw1 := hL1.w
        have hl6 := rdS_len S (tN x) (tN y)
        refine S_astore (q := 37) [_, _, _, _, _] hX dX11_reads_35 rfl (Nat.le_of_ble_eq_true rfl) rfl rfl ?_
        refine S_iload_n (q := 38) hX dX11_reads_37 rfl rfl ?_
        refine S_iconst (q := 39) (v := (-1)) hX dX11_reads_38 ic_m1 rfl ?_
        refine S_icmp_ne (q := 42) 48 hX dX11_reads_39 rfl rfl (fun c39 => ?_) (fun c39 => ?_)
        · have hz0 : 0 ≤ z.toInt := by
            have : z.toInt ≠ -1 := fun w => c39 (eq_i.mpr (w.trans (by decide)))
            omega
          refine S_iload_n (q := 49) hX dX11_reads_48 rfl rfl ?_
          refine S_aload (q := 51) hX dX11_reads_49 rfl rfl ?_
          refine S_getf (fs := ?fs_6) (v := ?v_6) (q := 54) hX u_181 (fo_F_heard (cik_F (tN x))) dX11_reads_51 ?hs_6 ?hv_6 rfl ?_
          case hs_6 => with_reducible first | exact FK.c0 hM | exact FK.c1 hM | exact FK.c2 hM | exact FK.c7 hM | exact FK.c129 hM | exact FK.c3 hM | exact FK.c4 hM | exact FK.c5 hM | exact FK.c6 hM | exact FK.c39 hM | exact FK.c40 hM | exact FK.c41 hM | exact FK.c42 hM | exact FK.c43 hM | exact FK.c128 hM | exact FK.c136 hM | exact FK.c137 hM | exact FK.c173 hM | exact FK.c174 hM | exact FK.c175 hM | exact FK.c176 hM | exact FK.c177 hM | exact FK.c178 hM | exact RK.c0 (FK.rk hkd hM) | exact RK.c1 (FK.rk hkd hM)
          case hv_6 => rfl
          refine S_icmp_ge (q := 57) 67 hX dX11_reads_54 rfl rfl (fun c54 => ?_) (fun c54 => ?_)
          · have k54 := c54
            rw [show μ1 (138 + 7 * tN x + 0) 1 = nI (rdS S (tN x) (tN y)).length from hw1.1, le_i, nI_toInt (by omega)] at k54
            refine S_bipush (q := 69) (v := (-5)) hX dX11_reads_67 bp_m5 rfl ?_
            refine S_iret hX dX11_reads_69 (Nat.zero_le _) (Nat.zero_le _) ?_
            refine hP _ _ _ ?_
            have hz : ¬ z.toInt = -1 := fun w => c39 (eq_i.mpr (w.trans (by decide)))
            have hsp : sp_reads S x y z = (-5, S) := by unfold sp_reads; rw [if_neg (by rintro (w | w | w); exact w c4; exact w c12; exact absurd w (by omega)), if_neg hz, if_neg (by have := (tN_ex (x := z) (by omega)).2.2; omega)]
            rw [hsp]
            exact ⟨_, hM, hF, rfl, hR1, rfl⟩
          · have k54 := c54
            rw [show μ1 (138 + 7 * tN x + 0) 1 = nI (rdS S (tN x) (tN y)).length from hw1.1, le_i, nI_toInt (by omega)] at k54
            refine S_aload (q := 59) hX dX11_reads_57 rfl rfl ?_
            refine S_getf (fs := ?fs_7) (v := ?v_7) (q := 62) hX u_175 (fo_F_words (cik_F (tN x))) dX11_reads_59 ?hs_7 ?hv_7 rfl ?_
            case hs_7 => with_reducible first | exact FK.c0 hM | exact FK.c1 hM | exact FK.c2 hM | exact FK.c7 hM | exact FK.c129 hM | exact FK.c3 hM | exact FK.c4 hM | exact FK.c5 hM | exact FK.c6 hM | exact FK.c39 hM | exact FK.c40 hM | exact FK.c41 hM | exact FK.c42 hM | exact FK.c43 hM | exact FK.c128 hM | exact FK.c136 hM | exact FK.c137 hM | exact FK.c173 hM | exact FK.c174 hM | exact FK.c175 hM | exact FK.c176 hM | exact FK.c177 hM | exact FK.c178 hM | exact RK.c0 (FK.rk hkd hM) | exact RK.c1 (FK.rk hkd hM)
            case hv_7 => rfl
            refine S_iload_n (q := 63) hX dX11_reads_62 rfl rfl ?_
            refine S_iald (N := ?n_8) (f := ?f_8) (q := 64) hX dX11_reads_63 ?hs_8 ?hi_8 rfl ?_
            case hs_8 => with_reducible first | exact FK.c0 hM | exact FK.c1 hM | exact FK.c2 hM | exact FK.c7 hM | exact FK.c129 hM | exact FK.c3 hM | exact FK.c4 hM | exact FK.c5 hM | exact FK.c6 hM | exact FK.c39 hM | exact FK.c40 hM | exact FK.c41 hM | exact FK.c42 hM | exact FK.c43 hM | exact FK.c128 hM | exact FK.c136 hM | exact FK.c137 hM | exact FK.c173 hM | exact FK.c174 hM | exact FK.c175 hM | exact FK.c176 hM | exact FK.c177 hM | exact FK.c178 hM | exact RK.c0 (FK.rk hkd hM) | exact RK.c1 (FK.rk hkd hM)
            case hi_8 => rw [vp_in_iff]; omega
            refine S_goto 69 hX dX11_reads_64 rfl ?_
            refine S_iret hX dX11_reads_69 (Nat.zero_le _) (Nat.zero_le _) ?_
            refine hP _ _ _ ?_
            have hz : ¬ z.toInt = -1 := fun w => c39 (eq_i.mpr (w.trans (by decide)))
            have cz := tN_ex (x := z) (by omega)
            have hsp : sp_reads S x y z = (nI ((rdS S (tN x) (tN y)).getD (tN z) 0), S) := by unfold sp_reads; rw [if_neg (by rintro (w | w | w); exact w c4; exact w c12; exact absurd w (by omega)), if_neg hz, if_pos (by omega)]
            rw [hsp]
            exact ⟨_, hM, hF, congrArg (fun z => some (Value.int z)) (hw1.2 (tN z) (by show tN z < (rdS S (tN x) (tN y)).length; omega)), hR1, rfl⟩
        · refine S_aload (q := 44) hX dX11_reads_42 rfl rfl ?_
          refine S_getf (fs := ?fs_9) (v := ?v_9) (q := 47) hX u_181 (fo_F_heard (cik_F (tN x))) dX11_reads_44 ?hs_9 ?hv_9 rfl ?_
          case hs_9 => with_reducible first | exact FK.c0 hM | exact FK.c1 hM | exact FK.c2 hM | exact FK.c7 hM | exact FK.c129 hM | exact FK.c3 hM | exact FK.c4 hM | exact FK.c5 hM | exact FK.c6 hM | exact FK.c39 hM | exact FK.c40 hM | exact FK.c41 hM | exact FK.c42 hM | exact FK.c43 hM | exact FK.c128 hM | exact FK.c136 hM | exact FK.c137 hM | exact FK.c173 hM | exact FK.c174 hM | exact FK.c175 hM | exact FK.c176 hM | exact FK.c177 hM | exact FK.c178 hM | exact RK.c0 (FK.rk hkd hM) | exact RK.c1 (FK.rk hkd hM)
          case hv_9 => rfl
          refine S_iret hX dX11_reads_47 (Nat.zero_le _) (Nat.zero_le _) ?_
          refine hP _ _ _ ?_
          have hz : z.toInt = -1 := by rw [c39]; rfl
          have hsp : sp_reads S x y z = (nI (rdS S (tN x) (tN y)).length, S) := by unfold sp_reads; rw [if_neg (by rintro (w | w | w); exact w c4; exact w c12; exact absurd w (by omega)), if_pos hz]
          rw [hsp]
          exact ⟨_, hM, hF, congrArg (fun z => some (Value.int z)) hw1.1, hR1, rfl⟩
      · have k17 := c17
        rw [le_i, show (((-1) : Int32)).toInt = -1 by decide] at k17
        refine S_aload_n (q := 21) hX dX11_reads_20 rfl rfl ?_
        refine S_bipush (q := 23) (v := (-2)) hX dX11_reads_21 bp_m2 rfl ?_
        refine S_bipush (q := 25) (v := (-10)) hX dX11_reads_23 bp_m10 rfl ?_
        refine S_callV (ci := 11) (C := "FanTalk") (T := TX11) (N := 11) (q := 28) 0 0 hX (c_X11_refused q γ _ _ 0 (by decide)) rfl ?hs_10 rfl u_323 u_325 us_0 u_1 u_326 ⟨by decide, by decide, rfl⟩ ⟨Nat.le_of_ble_eq_true rfl, Nat.le_of_ble_eq_true rfl⟩ ⟨Nat.le_of_ble_eq_true rfl, Nat.le_of_ble_eq_true rfl⟩ (Nat.le_of_ble_eq_true rfl) dX11_reads_25 ?hp_10 rfl rfl rfl ?_
        case hs_10 => first | with_reducible assumption | exact ⟨_, FK.c0 hM⟩ | exact ⟨_, FK.c2 hM⟩ | exact ⟨_, FK.c7 hM⟩ | exact ⟨_, FK.c129 hM⟩ | exact ⟨_, FK.c173 hM⟩ | exact ⟨_, FK.c1 hM⟩
        case hp_10 => exact ⟨hM, by decide⟩
        rintro v σ sz1 ⟨μ9, hM, hF1, rfl, e9, rfl⟩
        have hF := hF.trans hF1
        refine S_iret hX dX11_reads_28 (Nat.zero_le _) (Nat.zero_le _) ?_
        refine hP _ _ _ ?_
        have hsp : sp_reads S x y z = (-10, rfS S 0) := by unfold sp_reads; rw [if_pos (Or.inr (Or.inr (by omega)))]
        rw [hsp]
        exact ⟨_, hM, hF, rfl, hR.rf ok e9, rfl⟩
theorem c_X11_otherwise (q : Nat) (γ : MF) (S : ST) (x y z u : Int32) : CT_X11_otherwise [.ref q, .int x, .int y, .int z, .int u] (fun Γ σ sz => FK σ q γ ∧ FR γ S ∧ StOk S) (fun Γ σ sz v σ' sz' => ∃ γ', FK σ' q γ' ∧ Fr q (q + 179) σ σ' ∧ v = some (.int (sp_otherwise S x y z u).1) ∧ FR γ' (sp_otherwise S x y z u).2 ∧ sz' = sz) := by
  refine CT.mkP rfl (Nat.le_of_ble_eq_true rfl) [_, _, _, _, _, _, _, _, _] rfl ?_
  intro X Γ σ sz P hX hpre hsz hP
  obtain ⟨hM, hR, ok⟩ := hpre
  obtain ⟨σ0, eσ0⟩ : ∃ z, z = σ := ⟨σ, rfl⟩
  rw [← eσ0] at hP
  have hF : Fr q (q + 179) σ0 σ := by rw [eσ0]; exact Fr.rf
  obtain ⟨r0, r1, r2, r3, r4, r5⟩ := id hR
  obtain ⟨t0, t1, t2, t3, t4, t5, t6, t7, t8⟩ := id r0
  obtain ⟨o1, o2, o3, o4, o5, o6, o7, o8, o9, o10⟩ := id ok.1
  have l95 : tN x < 5 → tN z < 5 → sp_otherwise S x y z u = (othL (rdS S (tN x) (tN y)) (rdS S (tN z) (tN u)), S) → tN y < S.1.1.1 → tN u < S.1.1.1 → ∀ (mn : Nat), mn = (if (rdS S (tN z) (tN u)).length < (rdS S (tN x) (tN y)).length then (rdS S (tN z) (tN u)).length else (rdS S (tN x) (tN y)).length) → ∀ (fl i : Nat) (σ : Sg) (μ : MF), FR μ S → WL (μ 176) (rdS S (tN x) (tN y)) → μ (138 + 7 * tN z) 1 = nI (rdS S (tN z) (tN u)).length → WL (μ (138 + 7 * tN z + 1)) (rdS S (tN z) (tN u)) → i ≤ mn → mn - i < fl → othL (rdS S (tN x) (tN y)) (rdS S (tN z) (tN u)) = othI (rdS S (tN x) (tN y)) (rdS S (tN z) (tN u)) ((rdS S (tN x) (tN y)).length + (rdS S (tN z) (tN u)).length + 1 - i) i → FK σ q μ → Fr q (q + 179) σ0 σ → G X Γ P 0 0 95 [some (.ref q), some (.int x), some (.int y), some (.int z), some (.int u), some (.ref (q + (138 + 7 * tN z))), some (.int (nI (rdS S (tN x) (tN y)).length)), some (.int (nI mn)), some (.int (nI i))] [] σ sz := by
    intro hkx hkd hsp hcy hcu mn emn fl
    have a6 := rdS_len S (tN x) (tN y)
    have b6 := rdS_len S (tN z) (tN u)
    have aw : ∀ i, (rdS S (tN x) (tN y)).getD i 0 < 2147483648 := fun i => by have := getD_10 (rdS_10 ok (k := tN x) (c := tN y) hcy) i; omega
    have bw : ∀ i, (rdS S (tN z) (tN u)).getD i 0 < 2147483648 := fun i => by have := getD_10 (rdS_10 ok (k := tN z) (c := tN u) hcu) i; omega
    induction fl with
      | zero => intro i σ μ h1 h2 h3 h4 h5 h6; omega
      | succ fl ih =>
        intro i σ μ hRm hf hn hg hi hfu hO hM hF
        have hm1 : mn ≤ (rdS S (tN x) (tN y)).length := by rw [emn]; split <;> omega
        have hm2 : mn ≤ (rdS S (tN z) (tN u)).length := by rw [emn]; split <;> omega
        refine S_iload (q := 97) hX dX11_otherwise_95 rfl rfl ?_
        refine S_iload (q := 99) hX dX11_otherwise_97 rfl rfl ?_
        refine S_icmp_ge (q := 102) 129 hX dX11_otherwise_99 rfl rfl (fun c99 => ?_) (fun c99 => ?_)
        · have hge : i = mn := by rw [nI_leI (by omega) (by omega)] at c99; omega
          refine S_iload (q := 131) hX dX11_otherwise_129 rfl rfl ?_
          refine S_aload (q := 133) hX dX11_otherwise_131 rfl rfl ?_
          refine S_getf (fs := ?fs_1) (v := ?v_1) (q := 136) hX u_181 (fo_F_heard (cik_F (tN z))) dX11_otherwise_133 ?hs_1 ?hv_1 rfl ?_
          case hs_1 => with_reducible first | exact FK.c0 hM | exact FK.c1 hM | exact FK.c2 hM | exact FK.c7 hM | exact FK.c129 hM | exact FK.c3 hM | exact FK.c4 hM | exact FK.c5 hM | exact FK.c6 hM | exact FK.c39 hM | exact FK.c40 hM | exact FK.c41 hM | exact FK.c42 hM | exact FK.c43 hM | exact FK.c128 hM | exact FK.c136 hM | exact FK.c137 hM | exact FK.c173 hM | exact FK.c174 hM | exact FK.c175 hM | exact FK.c176 hM | exact FK.c177 hM | exact FK.c178 hM | exact RK.c0 (FK.rk hkd hM) | exact RK.c1 (FK.rk hkd hM) | exact RK.c0 (FK.rk hkx hM) | exact RK.c1 (FK.rk hkx hM)
          case hv_1 => rfl
          refine S_icmp_ne (q := 139) 143 hX dX11_otherwise_136 rfl rfl (fun c136 => ?_) (fun c136 => ?_)
          · have hne : ¬ (rdS S (tN x) (tN y)).length = (rdS S (tN z) (tN u)).length := fun w => c136 (by rw [w]; exact hn.symm)
            refine S_iload (q := 145) hX dX11_otherwise_143 rfl rfl ?_
            refine S_iret hX dX11_otherwise_145 (Nat.zero_le _) (Nat.zero_le _) ?_
            refine hP _ _ _ ?_
            rw [hsp]
            refine ⟨_, hM, hF, congrArg (fun z => some (Value.int z)) (Eq.symm ?_), hRm, rfl⟩
            rw [hO, show (rdS S (tN x) (tN y)).length + (rdS S (tN z) (tN u)).length + 1 - i = ((rdS S (tN x) (tN y)).length + (rdS S (tN z) (tN u)).length - i) + 1 by omega, othI, if_pos (by rw [hge]; by_cases q : (rdS S (tN z) (tN u)).length < (rdS S (tN x) (tN y)).length <;> simp only [q, if_true, if_false] at emn <;> omega), if_neg (fun w => by have w1 := w.1; have w2 := w.2.1; by_cases q : (rdS S (tN z) (tN u)).length < (rdS S (tN x) (tN y)).length <;> simp only [q, if_true, if_false] at emn <;> omega), hge]
          · have hne : (rdS S (tN x) (tN y)).length = (rdS S (tN z) (tN u)).length := nI_inj (by omega) (by omega) (c136.trans hn)
            refine S_iconst (q := 140) (v := (-1)) hX dX11_otherwise_139 ic_m1 rfl ?_
            refine S_goto 145 hX dX11_otherwise_140 rfl ?_
            refine S_iret hX dX11_otherwise_145 (Nat.zero_le _) (Nat.zero_le _) ?_
            refine hP _ _ _ ?_
            rw [hsp]
            refine ⟨_, hM, hF, congrArg (fun z => some (Value.int z)) (Eq.symm ?_), hRm, rfl⟩
            rw [hO, show (rdS S (tN x) (tN y)).length + (rdS S (tN z) (tN u)).length + 1 - i = ((rdS S (tN x) (tN y)).length + (rdS S (tN z) (tN u)).length - i) + 1 by omega, othI, if_neg (by rw [hge, emn]; split <;> omega)]
        · have hlt : i < mn := by rw [nI_leI (by omega) (by omega)] at c99; omega
          have f1 : μ 176 (nI i).toNatClampNeg = nI ((rdS S (tN x) (tN y)).getD i 0) := by rw [nI_clamp (by omega)]; exact hf i (by omega)
          have f2 : μ (138 + 7 * tN z + 1) (nI i).toNatClampNeg = nI ((rdS S (tN z) (tN u)).getD i 0) := by rw [nI_clamp (by omega)]; exact hg i (by omega)
          refine S_aload_n (q := 103) hX dX11_otherwise_102 rfl rfl ?_
          refine S_getf (fs := ?fs_2) (v := ?v_2) (q := 106) hX u_293 fo_X11_first dX11_otherwise_103 ?hs_2 ?hv_2 rfl ?_
          case hs_2 => with_reducible first | exact FK.c0 hM | exact FK.c1 hM | exact FK.c2 hM | exact FK.c7 hM | exact FK.c129 hM | exact FK.c3 hM | exact FK.c4 hM | exact FK.c5 hM | exact FK.c6 hM | exact FK.c39 hM | exact FK.c40 hM | exact FK.c41 hM | exact FK.c42 hM | exact FK.c43 hM | exact FK.c128 hM | exact FK.c136 hM | exact FK.c137 hM | exact FK.c173 hM | exact FK.c174 hM | exact FK.c175 hM | exact FK.c176 hM | exact FK.c177 hM | exact FK.c178 hM | exact RK.c0 (FK.rk hkd hM) | exact RK.c1 (FK.rk hkd hM) | exact RK.c0 (FK.rk hkx hM) | exact RK.c1 (FK.rk hkx hM)
          case hv_2 => rfl
          refine S_iload (q := 108) hX dX11_otherwise_106 rfl rfl ?_
          refine S_iald (N := ?n_3) (f := ?f_3) (q := 109) hX dX11_otherwise_108 ?hs_3 ?hi_3 rfl ?_
          case hs_3 => with_reducible first | exact FK.c0 hM | exact FK.c1 hM | exact FK.c2 hM | exact FK.c7 hM | exact FK.c129 hM | exact FK.c3 hM | exact FK.c4 hM | exact FK.c5 hM | exact FK.c6 hM | exact FK.c39 hM | exact FK.c40 hM | exact FK.c41 hM | exact FK.c42 hM | exact FK.c43 hM | exact FK.c128 hM | exact FK.c136 hM | exact FK.c137 hM | exact FK.c173 hM | exact FK.c174 hM | exact FK.c175 hM | exact FK.c176 hM | exact FK.c177 hM | exact FK.c178 hM | exact RK.c0 (FK.rk hkd hM) | exact RK.c1 (FK.rk hkd hM) | exact RK.c0 (FK.rk hkx hM) | exact RK.c1 (FK.rk hkx hM)
          case hi_3 => exact vp_in_nI (by omega) (by decide)
          refine S_aload (q := 111) hX dX11_otherwise_109 rfl rfl ?_
          refine S_getf (fs := ?fs_4) (v := ?v_4) (q := 114) hX u_175 (fo_F_words (cik_F (tN z))) dX11_otherwise_111 ?hs_4 ?hv_4 rfl ?_
          case hs_4 => with_reducible first | exact FK.c0 hM | exact FK.c1 hM | exact FK.c2 hM | exact FK.c7 hM | exact FK.c129 hM | exact FK.c3 hM | exact FK.c4 hM | exact FK.c5 hM | exact FK.c6 hM | exact FK.c39 hM | exact FK.c40 hM | exact FK.c41 hM | exact FK.c42 hM | exact FK.c43 hM | exact FK.c128 hM | exact FK.c136 hM | exact FK.c137 hM | exact FK.c173 hM | exact FK.c174 hM | exact FK.c175 hM | exact FK.c176 hM | exact FK.c177 hM | exact FK.c178 hM | exact RK.c0 (FK.rk hkd hM) | exact RK.c1 (FK.rk hkd hM) | exact RK.c0 (FK.rk hkx hM) | exact RK.c1 (FK.rk hkx hM)
          case hv_4 => rfl
          refine S_iload (q := 116) hX dX11_otherwise_114 rfl rfl ?_
          refine S_iald (N := ?n_5) (f := ?f_5) (q := 117) hX dX11_otherwise_116 ?hs_5 ?hi_5 rfl ?_
          case hs_5 => with_reducible first | exact FK.c0 hM | exact FK.c1 hM | exact FK.c2 hM | exact FK.c7 hM | exact FK.c129 hM | exact FK.c3 hM | exact FK.c4 hM | exact FK.c5 hM | exact FK.c6 hM | exact FK.c39 hM | exact FK.c40 hM | exact FK.c41 hM | exact FK.c42 hM | exact FK.c43 hM | exact FK.c128 hM | exact FK.c136 hM | exact FK.c137 hM | exact FK.c173 hM | exact FK.c174 hM | exact FK.c175 hM | exact FK.c176 hM | exact FK.c177 hM | exact FK.c178 hM | exact RK.c0 (FK.rk hkd hM) | exact RK.c1 (FK.rk hkd hM) | exact RK.c0 (FK.rk hkx hM) | exact RK.c1 (FK.rk hkx hM)
          case hi_5 => exact vp_in_nI (by omega) (by decide)
          refine S_icmp_eq (q := 120) 123 hX dX11_otherwise_117 rfl rfl (fun c117 => ?_) (fun c117 => ?_)
          · have heq : (rdS S (tN x) (tN y)).getD i 0 = (rdS S (tN z) (tN u)).getD i 0 := by
              have c := c117
              rw [f1] at c
              exact nI_inj (aw i) (bw i) (c.trans f2)
            refine S_iinc (q := 126) [_, _, _, _, _, _, _, _, _] hX dX11_otherwise_123 rfl (ii_1 _) rfl (Nat.le_of_ble_eq_true rfl) rfl rfl ?_
            refine S_goto 95 hX dX11_otherwise_126 rfl ?_
            rw [nI_1]
            refine ih (i + 1) _ μ hRm hf hn hg (by omega) (by omega) ?_ hM hF
            rw [hO, show (rdS S (tN x) (tN y)).length + (rdS S (tN z) (tN u)).length + 1 - i = ((rdS S (tN x) (tN y)).length + (rdS S (tN z) (tN u)).length + 1 - (i + 1)) + 1 by omega, othI, if_pos (Or.inl (by omega)), if_pos ⟨by omega, by omega, heq⟩]
          · have heq : ¬ (rdS S (tN x) (tN y)).getD i 0 = (rdS S (tN z) (tN u)).getD i 0 := fun z => c117 (by rw [f1, z]; exact f2.symm)
            refine S_iload (q := 122) hX dX11_otherwise_120 rfl rfl ?_
            refine S_iret hX dX11_otherwise_122 (Nat.zero_le _) (Nat.zero_le _) ?_
            refine hP _ _ _ ?_
            rw [hsp]
            refine ⟨_, hM, hF, congrArg (fun z => some (Value.int z)) (Eq.symm ?_), hRm, rfl⟩
            rw [hO, show (rdS S (tN x) (tN y)).length + (rdS S (tN z) (tN u)).length + 1 - i = ((rdS S (tN x) (tN y)).length + (rdS S (tN z) (tN u)).length - i) + 1 by omega, othI, if_pos (Or.inl (by omega)), if_neg (fun w => heq w.2.2)]
  refine S_iload_n (q := 1) hX dX11_otherwise_0 rfl rfl ?_
  refine S_callS (q := 4) 0 0 hX (c_X11_isKind _) rfl u_518 u_519 u_1 u_520 ⟨by decide, by decide, rfl⟩ ⟨Nat.le_of_ble_eq_true rfl, Nat.le_of_ble_eq_true rfl⟩ ⟨Nat.le_of_ble_eq_true rfl, Nat.le_of_ble_eq_true rfl⟩ (Nat.le_of_ble_eq_true rfl) dX11_otherwise_1 ?hp_6 rfl rfl rfl ?_
  case hp_6 => trivial
  rintro v σ1 sz1 ⟨rfl, rfl, rfl⟩
  refine S_if_eq_b (q := 7) 31 hX dX11_otherwise_4 rfl rfl (fun c4 => ?_) (fun c4 => ?_)
  · refine S_aload_n (q := 32) hX dX11_otherwise_31 rfl rfl ?_
    refine S_bipush (q := 34) (v := (-2)) hX dX11_otherwise_32 bp_m2 rfl ?_
    refine S_bipush (q := 36) (v := (-2)) hX dX11_otherwise_34 bp_m2 rfl ?_
    refine S_callV (ci := 11) (C := "FanTalk") (T := TX11) (N := 11) (q := 39) 0 0 hX (c_X11_refused q γ _ _ 0 (by decide)) rfl ?hs_7 rfl u_323 u_325 us_0 u_1 u_326 ⟨by decide, by decide, rfl⟩ ⟨Nat.le_of_ble_eq_true rfl, Nat.le_of_ble_eq_true rfl⟩ ⟨Nat.le_of_ble_eq_true rfl, Nat.le_of_ble_eq_true rfl⟩ (Nat.le_of_ble_eq_true rfl) dX11_otherwise_36 ?hp_7 rfl rfl rfl ?_
    case hs_7 => first | with_reducible assumption | exact ⟨_, FK.c0 hM⟩ | exact ⟨_, FK.c2 hM⟩ | exact ⟨_, FK.c7 hM⟩ | exact ⟨_, FK.c129 hM⟩ | exact ⟨_, FK.c173 hM⟩ | exact ⟨_, FK.c1 hM⟩
    case hp_7 => exact ⟨hM, by decide⟩
    rintro v σ sz1 ⟨μ9, hM, hF1, rfl, e9, rfl⟩
    have hF := hF.trans hF1
    refine S_iret hX dX11_otherwise_39 (Nat.zero_le _) (Nat.zero_le _) ?_
    refine hP _ _ _ ?_
    have hsp : sp_otherwise S x y z u = (-2, rfS S 0) := by unfold sp_otherwise; rw [if_pos (Or.inl c4)]
    rw [hsp]
    exact ⟨_, hM, hF, rfl, hR.rf ok e9, rfl⟩
  · have cx := tN_ex c4.1
    have hkx : tN x < 5 := by have := c4.2; omega
    refine S_aload_n (q := 8) hX dX11_otherwise_7 rfl rfl ?_
    refine S_iload_n (q := 9) hX dX11_otherwise_8 rfl rfl ?_
    refine S_callV (ci := 11) (C := "FanTalk") (T := TX11) (N := 11) (q := 12) 0 0 hX (c_X11_isCode q γ S _) rfl ?hs_8 rfl u_338 u_340 us_1 u_1 u_341 ⟨by decide, by decide, rfl⟩ ⟨Nat.le_of_ble_eq_true rfl, Nat.le_of_ble_eq_true rfl⟩ ⟨Nat.le_of_ble_eq_true rfl, Nat.le_of_ble_eq_true rfl⟩ (Nat.le_of_ble_eq_true rfl) dX11_otherwise_9 ?hp_8 rfl rfl rfl ?_
    case hs_8 => first | with_reducible assumption | exact ⟨_, FK.c0 hM⟩ | exact ⟨_, FK.c2 hM⟩ | exact ⟨_, FK.c7 hM⟩ | exact ⟨_, FK.c129 hM⟩ | exact ⟨_, FK.c173 hM⟩ | exact ⟨_, FK.c1 hM⟩
    case hp_8 => exact ⟨hM, hR, ok⟩
    rintro v σ1 sz1 ⟨rfl, rfl, rfl⟩
    refine S_if_eq_b (q := 15) 31 hX dX11_otherwise_12 rfl rfl (fun c12 => ?_) (fun c12 => ?_)
    · refine S_aload_n (q := 32) hX dX11_otherwise_31 rfl rfl ?_
      refine S_bipush (q := 34) (v := (-2)) hX dX11_otherwise_32 bp_m2 rfl ?_
      refine S_bipush (q := 36) (v := (-2)) hX dX11_otherwise_34 bp_m2 rfl ?_
      refine S_callV (ci := 11) (C := "FanTalk") (T := TX11) (N := 11) (q := 39) 0 0 hX (c_X11_refused q γ _ _ 0 (by decide)) rfl ?hs_9 rfl u_323 u_325 us_0 u_1 u_326 ⟨by decide, by decide, rfl⟩ ⟨Nat.le_of_ble_eq_true rfl, Nat.le_of_ble_eq_true rfl⟩ ⟨Nat.le_of_ble_eq_true rfl, Nat.le_of_ble_eq_true rfl⟩ (Nat.le_of_ble_eq_true rfl) dX11_otherwise_36 ?hp_9 rfl rfl rfl ?_
      case hs_9 => first | with_reducible assumption | exact ⟨_, FK.c0 hM⟩ | exact ⟨_, FK.c2 hM⟩ | exact ⟨_, FK.c7 hM⟩ | exact ⟨_, FK.c129 hM⟩ | exact ⟨_, FK.c173 hM⟩ | exact ⟨_, FK.c1 hM⟩
      case hp_9 => exact ⟨hM, by decide⟩
      rintro v σ sz1 ⟨μ9, hM, hF1, rfl, e9, rfl⟩
      have hF := hF.trans hF1
      refine S_iret hX dX11_otherwise_39 (Nat.zero_le _) (Nat.zero_le _) ?_
      refine hP _ _ _ ?_
      have hsp : sp_otherwise S x y z u = (-2, rfS S 0) := by unfold sp_otherwise; rw [if_pos (Or.inr (Or.inl c12))]
      rw [hsp]
      exact ⟨_, hM, hF, rfl, hR.rf ok e9, rfl⟩
    · have cy := okc.ex c12
      have hcy := cy.2.1
      refine S_iload_n (q := 16) hX dX11_otherwise_15 rfl rfl ?_
      refine S_callS (q := 19) 0 0 hX (c_X11_isKind _) rfl u_518 u_519 u_1 u_520 ⟨by decide, by decide, rfl⟩ ⟨Nat.le_of_ble_eq_true rfl, Nat.le_of_ble_eq_true rfl⟩ ⟨Nat.le_of_ble_eq_true rfl, Nat.le_of_ble_eq_true rfl⟩ (Nat.le_of_ble_eq_true rfl) dX11_otherwise_16 ?hp_10 rfl rfl rfl ?_
      case hp_10 => trivial
      rintro v σ1 sz1 ⟨rfl, rfl, rfl⟩
      refine S_if_eq_b (q := 22) 31 hX dX11_otherwise_19 rfl rfl (fun c19 => ?_) (fun c19 => ?_)
      · refine S_aload_n (q := 32) hX dX11_otherwise_31 rfl rfl ?_
        refine S_bipush (q := 34) (v := (-2)) hX dX11_otherwise_32 bp_m2 rfl ?_
        refine S_bipush (q := 36) (v := (-2)) hX dX11_otherwise_34 bp_m2 rfl ?_
        refine S_callV (ci := 11) (C := "FanTalk") (T := TX11) (N := 11) (q := 39) 0 0 hX (c_X11_refused q γ _ _ 0 (by decide)) rfl ?hs_11 rfl u_323 u_325 us_0 u_1 u_326 ⟨by decide, by decide, rfl⟩ ⟨Nat.le_of_ble_eq_true rfl, Nat.le_of_ble_eq_true rfl⟩ ⟨Nat.le_of_ble_eq_true rfl, Nat.le_of_ble_eq_true rfl⟩ (Nat.le_of_ble_eq_true rfl) dX11_otherwise_36 ?hp_11 rfl rfl rfl ?_
        case hs_11 => first | with_reducible assumption | exact ⟨_, FK.c0 hM⟩ | exact ⟨_, FK.c2 hM⟩ | exact ⟨_, FK.c7 hM⟩ | exact ⟨_, FK.c129 hM⟩ | exact ⟨_, FK.c173 hM⟩ | exact ⟨_, FK.c1 hM⟩
        case hp_11 => exact ⟨hM, by decide⟩
        rintro v σ sz1 ⟨μ9, hM, hF1, rfl, e9, rfl⟩
        have hF := hF.trans hF1
        refine S_iret hX dX11_otherwise_39 (Nat.zero_le _) (Nat.zero_le _) ?_
        refine hP _ _ _ ?_
        have hsp : sp_otherwise S x y z u = (-2, rfS S 0) := by unfold sp_otherwise; rw [if_pos (Or.inr (Or.inr (Or.inl c19)))]
        rw [hsp]
        exact ⟨_, hM, hF, rfl, hR.rf ok e9, rfl⟩
      · have cz := tN_ex c19.1
        have hkd : tN z < 5 := by have := c19.2; omega
        refine S_aload_n (q := 23) hX dX11_otherwise_22 rfl rfl ?_
        refine S_iload (q := 25) hX dX11_otherwise_23 rfl rfl ?_
        refine S_callV (ci := 11) (C := "FanTalk") (T := TX11) (N := 11) (q := 28) 0 0 hX (c_X11_isCode q γ S _) rfl ?hs_12 rfl u_338 u_340 us_1 u_1 u_341 ⟨by decide, by decide, rfl⟩ ⟨Nat.le_of_ble_eq_true rfl, Nat.le_of_ble_eq_true rfl⟩ ⟨Nat.le_of_ble_eq_true rfl, Nat.le_of_ble_eq_true rfl⟩ (Nat.le_of_ble_eq_true rfl) dX11_otherwise_25 ?hp_12 rfl rfl rfl ?_
        case hs_12 => first | with_reducible assumption | exact ⟨_, FK.c0 hM⟩ | exact ⟨_, FK.c2 hM⟩ | exact ⟨_, FK.c7 hM⟩ | exact ⟨_, FK.c129 hM⟩ | exact ⟨_, FK.c173 hM⟩ | exact ⟨_, FK.c1 hM⟩
        case hp_12 => exact ⟨hM, hR, ok⟩
        rintro v σ1 sz1 ⟨rfl, rfl, rfl⟩
        refine S_if_ne_b (q := 31) 40 hX dX11_otherwise_28 rfl rfl (fun c28 => ?_) (fun c28 => ?_)
        · have cu := okc.ex c28
          have hcu := cu.2.1
          have hsp : sp_otherwise S x y z u = (othL (rdS S (tN x) (tN y)) (rdS S (tN z) (tN u)), S) := by unfold sp_otherwise; rw [if_neg (by rintro (w | w | w | w); exact w c4; exact w c12; exact w c19; exact w c28)]
          refine S_aload_n (q := 41) hX dX11_otherwise_40 rfl rfl ?_
          refine S_iload_n (q := 42) hX dX11_otherwise_41 rfl rfl ?_
          refine S_iload_n (q := 43) hX dX11_otherwise_42 rfl rfl ?_
          refine S_callV (ci := 11) (C := "FanTalk") (T := TX11) (N := 11) (q := 46) 0 0 hX (c_X11_readSaying q γ (S) _ _ (tN x) (tN y) cx.1 cy.1) rfl ?hs_13 rfl u_521 u_523 us_13 u_1 u_524 ⟨by decide, by decide, rfl⟩ ⟨Nat.le_of_ble_eq_true rfl, Nat.le_of_ble_eq_true rfl⟩ ⟨Nat.le_of_ble_eq_true rfl, Nat.le_of_ble_eq_true rfl⟩ (Nat.le_of_ble_eq_true rfl) dX11_otherwise_43 ?hp_13 rfl rfl rfl ?_
          case hs_13 => first | with_reducible assumption | exact ⟨_, FK.c0 hM⟩ | exact ⟨_, FK.c2 hM⟩ | exact ⟨_, FK.c7 hM⟩ | exact ⟨_, FK.c129 hM⟩ | exact ⟨_, FK.c173 hM⟩ | exact ⟨_, FK.c1 hM⟩
          case hp_13 => exact ⟨hM, hR, ok, hkx, cy.2.1⟩
          rintro v σ sz1 ⟨μ1, hM, hF1, rfl, ⟨o1, hL1⟩, rfl⟩
          have hF := hF.trans hF1
          have hR1 := hR.scr (γ' := μ1) ok (fun j hj => o1 j (by omega) (by omega))
          have hw1 := hL1.w
          have hl6 := rdS_len S (tN x) (tN y)
          have hh1 : μ1 (138 + 7 * tN x + 0) 1 = nI (rdS S (tN x) (tN y)).length := hw1.1
          refine S_astore (q := 48) [_, _, _, _, _, _, _, _, _] hX dX11_otherwise_46 rfl (Nat.le_of_ble_eq_true rfl) rfl rfl ?_
          refine S_aload (q := 50) hX dX11_otherwise_48 rfl rfl ?_
          refine S_getf (fs := ?fs_14) (v := ?v_14) (q := 53) hX u_181 (fo_F_heard (cik_F (tN x))) dX11_otherwise_50 ?hs_14 ?hv_14 rfl ?_
          case hs_14 => with_reducible first | exact FK.c0 hM | exact FK.c1 hM | exact FK.c2 hM | exact FK.c7 hM | exact FK.c129 hM | exact FK.c3 hM | exact FK.c4 hM | exact FK.c5 hM | exact FK.c6 hM | exact FK.c39 hM | exact FK.c40 hM | exact FK.c41 hM | exact FK.c42 hM | exact FK.c43 hM | exact FK.c128 hM | exact FK.c136 hM | exact FK.c137 hM | exact FK.c173 hM | exact FK.c174 hM | exact FK.c175 hM | exact FK.c176 hM | exact FK.c177 hM | exact FK.c178 hM | exact RK.c0 (FK.rk hkd hM) | exact RK.c1 (FK.rk hkd hM) | exact RK.c0 (FK.rk hkx hM) | exact RK.c1 (FK.rk hkx hM)
          case hv_14 => rfl
          refine S_istore (q := 55) [_, _, _, _, _, _, _, _, _] hX dX11_otherwise_53 rfl (Nat.le_of_ble_eq_true rfl) rfl rfl ?_
          refine S_L (L' := [some (.ref q), some (.int x), some (.int y), some (.int z), some (.int u), some (.ref (q + (138 + 7 * tN x))), some (.int (nI (rdS S (tN x) (tN y)).length)), none, none]) (by rw [← hh1]) ?_
          refine S_aload (q := 57) hX dX11_otherwise_55 rfl rfl ?_
          refine S_getf (fs := ?fs_15) (v := ?v_15) (q := 60) hX u_175 (fo_F_words (cik_F (tN x))) dX11_otherwise_57 ?hs_15 ?hv_15 rfl ?_
          case hs_15 => with_reducible first | exact FK.c0 hM | exact FK.c1 hM | exact FK.c2 hM | exact FK.c7 hM | exact FK.c129 hM | exact FK.c3 hM | exact FK.c4 hM | exact FK.c5 hM | exact FK.c6 hM | exact FK.c39 hM | exact FK.c40 hM | exact FK.c41 hM | exact FK.c42 hM | exact FK.c43 hM | exact FK.c128 hM | exact FK.c136 hM | exact FK.c137 hM | exact FK.c173 hM | exact FK.c174 hM | exact FK.c175 hM | exact FK.c176 hM | exact FK.c177 hM | exact FK.c178 hM | exact RK.c0 (FK.rk hkd hM) | exact RK.c1 (FK.rk hkd hM) | exact RK.c0 (FK.rk hkx hM) | exact RK.c1 (FK.rk hkx hM)
          case hv_15 => rfl
          refine S_iconst (q := 61) (v := 0) hX dX11_otherwise_60 ic_0 rfl ?_
          refine S_aload_n (q := 62) hX dX11_otherwise_61 rfl rfl ?_
          refine S_getf (fs := ?fs_16) (v := ?v_16) (q := 65) hX u_293 fo_X11_first dX11_otherwise_62 ?hs_16 ?hv_16 rfl ?_
          case hs_16 => with_reducible first | exact FK.c0 hM | exact FK.c1 hM | exact FK.c2 hM | exact FK.c7 hM | exact FK.c129 hM | exact FK.c3 hM | exact FK.c4 hM | exact FK.c5 hM | exact FK.c6 hM | exact FK.c39 hM | exact FK.c40 hM | exact FK.c41 hM | exact FK.c42 hM | exact FK.c43 hM | exact FK.c128 hM | exact FK.c136 hM | exact FK.c137 hM | exact FK.c173 hM | exact FK.c174 hM | exact FK.c175 hM | exact FK.c176 hM | exact FK.c177 hM | exact FK.c178 hM | exact RK.c0 (FK.rk hkd hM) | exact RK.c1 (FK.rk hkd hM) | exact RK.c0 (FK.rk hkx hM) | exact RK.c1 (FK.rk hkx hM)
          case hv_16 => rfl
          refine S_iconst (q := 66) (v := 0) hX dX11_otherwise_65 ic_0 rfl ?_
          refine S_iload (q := 68) hX dX11_otherwise_66 rfl rfl ?_
          refine S_copy (n0 := ?n0_17) (n1 := ?n1_17) (f := ?f_17) (g := ?g_17) (q := 71) hX u_502 u_487 u_486 u_18 ?hs_17 ?h1_17 ?h2_17 ?h3_17 ?h4_17 ?h5_17 ?h6_17 (by decide) (Nat.le_of_ble_eq_true rfl) dX11_otherwise_68 rfl ?_
          case hs_17 => with_reducible first | exact FK.c0 hM | exact FK.c1 hM | exact FK.c2 hM | exact FK.c7 hM | exact FK.c129 hM | exact FK.c3 hM | exact FK.c4 hM | exact FK.c5 hM | exact FK.c6 hM | exact FK.c39 hM | exact FK.c40 hM | exact FK.c41 hM | exact FK.c42 hM | exact FK.c43 hM | exact FK.c128 hM | exact FK.c136 hM | exact FK.c137 hM | exact FK.c173 hM | exact FK.c174 hM | exact FK.c175 hM | exact FK.c176 hM | exact FK.c177 hM | exact FK.c178 hM | exact RK.c0 (FK.rk hkd hM) | exact RK.c1 (FK.rk hkd hM) | exact RK.c0 (FK.rk hkx hM) | exact RK.c1 (FK.rk hkx hM)
          case h1_17 => with_reducible first | exact FK.c0 hM | exact FK.c1 hM | exact FK.c2 hM | exact FK.c7 hM | exact FK.c129 hM | exact FK.c3 hM | exact FK.c4 hM | exact FK.c5 hM | exact FK.c6 hM | exact FK.c39 hM | exact FK.c40 hM | exact FK.c41 hM | exact FK.c42 hM | exact FK.c43 hM | exact FK.c128 hM | exact FK.c136 hM | exact FK.c137 hM | exact FK.c173 hM | exact FK.c174 hM | exact FK.c175 hM | exact FK.c176 hM | exact FK.c177 hM | exact FK.c178 hM | exact RK.c0 (FK.rk hkd hM) | exact RK.c1 (FK.rk hkd hM) | exact RK.c0 (FK.rk hkx hM) | exact RK.c1 (FK.rk hkx hM)
          case h2_17 => first | decide | exact nI_pos (by omega) | (rw [nI_clamp (by omega)]; show 0 + _ ≤ _; omega)
          case h3_17 => first | decide | exact nI_pos (by omega) | (rw [nI_clamp (by omega)]; show 0 + _ ≤ _; omega)
          case h4_17 => first | decide | exact nI_pos (by omega) | (rw [nI_clamp (by omega)]; show 0 + _ ≤ _; omega)
          case h5_17 => first | decide | exact nI_pos (by omega) | (rw [nI_clamp (by omega)]; show 0 + _ ≤ _; omega)
          case h6_17 => first | decide | exact nI_pos (by omega) | (rw [nI_clamp (by omega)]; show 0 + _ ≤ _; omega)
          refine S_stn (q0 := q) (j := 176) hM hF (by decide) rfl (fun σ μ68 e68 hM hF => ?_)
          have hR68 := hR1.scr (γ' := μ68) ok (fun j hj => by rw [e68, m1_ne (by omega)])
          refine S_aload_n (q := 72) hX dX11_otherwise_71 rfl rfl ?_
          refine S_iload_n (q := 73) hX dX11_otherwise_72 rfl rfl ?_
          refine S_iload (q := 75) hX dX11_otherwise_73 rfl rfl ?_
          refine S_callV (ci := 11) (C := "FanTalk") (T := TX11) (N := 11) (q := 78) 0 0 hX (c_X11_readSaying q μ68 (S) _ _ (tN z) (tN u) cz.1 cu.1) rfl ?hs_18 rfl u_521 u_523 us_13 u_1 u_524 ⟨by decide, by decide, rfl⟩ ⟨Nat.le_of_ble_eq_true rfl, Nat.le_of_ble_eq_true rfl⟩ ⟨Nat.le_of_ble_eq_true rfl, Nat.le_of_ble_eq_true rfl⟩ (Nat.le_of_ble_eq_true rfl) dX11_otherwise_75 ?hp_18 rfl rfl rfl ?_
          case hs_18 => first | with_reducible assumption | exact ⟨_, FK.c0 hM⟩ | exact ⟨_, FK.c2 hM⟩ | exact ⟨_, FK.c7 hM⟩ | exact ⟨_, FK.c129 hM⟩ | exact ⟨_, FK.c173 hM⟩ | exact ⟨_, FK.c1 hM⟩
          case hp_18 => exact ⟨hM, hR68, ok, hkd, cu.2.1⟩
          rintro v σ sz1 ⟨μ2, hM, hF1, rfl, ⟨o2, hL2⟩, rfl⟩
          have hF := hF.trans hF1
          have hR2 := hR68.scr (γ' := μ2) ok (fun j hj => o2 j (by omega) (by omega))
          refine S_astore (q := 80) [_, _, _, _, _, _, _, _, _] hX dX11_otherwise_78 rfl (Nat.le_of_ble_eq_true rfl) rfl rfl ?_
          refine S_iload (q := 82) hX dX11_otherwise_80 rfl rfl ?_
          refine S_aload (q := 84) hX dX11_otherwise_82 rfl rfl ?_
          refine S_getf (fs := ?fs_19) (v := ?v_19) (q := 87) hX u_181 (fo_F_heard (cik_F (tN z))) dX11_otherwise_84 ?hs_19 ?hv_19 rfl ?_
          case hs_19 => with_reducible first | exact FK.c0 hM | exact FK.c1 hM | exact FK.c2 hM | exact FK.c7 hM | exact FK.c129 hM | exact FK.c3 hM | exact FK.c4 hM | exact FK.c5 hM | exact FK.c6 hM | exact FK.c39 hM | exact FK.c40 hM | exact FK.c41 hM | exact FK.c42 hM | exact FK.c43 hM | exact FK.c128 hM | exact FK.c136 hM | exact FK.c137 hM | exact FK.c173 hM | exact FK.c174 hM | exact FK.c175 hM | exact FK.c176 hM | exact FK.c177 hM | exact FK.c178 hM | exact RK.c0 (FK.rk hkd hM) | exact RK.c1 (FK.rk hkd hM) | exact RK.c0 (FK.rk hkx hM) | exact RK.c1 (FK.rk hkx hM)
          case hv_19 => rfl
          refine S_min (q := 90) hX u_593 u_546 u_19 u_547 (by decide) (Nat.le_of_ble_eq_true rfl) ⟨Nat.zero_le _, Nat.zero_le _⟩ dX11_otherwise_87 rfl ?_
          have hmn : (if μ2 (138 + 7 * tN z + 0) 1 < nI (rdS S (tN x) (tN y)).length then μ2 (138 + 7 * tN z + 0) 1 else nI (rdS S (tN x) (tN y)).length) = nI (if (rdS S (tN z) (tN u)).length < (rdS S (tN x) (tN y)).length then (rdS S (tN z) (tN u)).length else (rdS S (tN x) (tN y)).length) := by
            have hb6 := rdS_len S (tN z) (tN u)
            rw [show μ2 (138 + 7 * tN z + 0) 1 = nI (rdS S (tN z) (tN u)).length from hL2.w.1]
            have e : nI (rdS S (tN z) (tN u)).length < nI (rdS S (tN x) (tN y)).length ↔ (rdS S (tN z) (tN u)).length < (rdS S (tN x) (tN y)).length := nI_ltI (by omega) (by omega)
            by_cases h : (rdS S (tN z) (tN u)).length < (rdS S (tN x) (tN y)).length
            · rw [if_pos (e.mpr h), if_pos h]
            · rw [if_neg (fun w => h (e.mp w)), if_neg h]
          refine S_top hmn ?_
          refine S_istore (q := 92) [_, _, _, _, _, _, _, _, _] hX dX11_otherwise_90 rfl (Nat.le_of_ble_eq_true rfl) rfl rfl ?_
          refine S_iconst (q := 93) (v := 0) hX dX11_otherwise_92 ic_0 rfl ?_
          refine S_istore (q := 95) [_, _, _, _, _, _, _, _, _] hX dX11_otherwise_93 rfl (Nat.le_of_ble_eq_true rfl) rfl rfl ?_
          have hw2 := hL2.w
          refine S_L (L' := [some (.ref q), some (.int x), some (.int y), some (.int z), some (.int u), some (.ref (q + (138 + 7 * tN z))), some (.int (nI (rdS S (tN x) (tN y)).length)), some (.int (nI (if (rdS S (tN z) (tN u)).length < (rdS S (tN x) (tN y)).length then (rdS S (tN z) (tN u)).length else (rdS S (tN x) (tN y)).length))), some (.int (nI 0))]) rfl ?_
          refine l95 hkx hkd hsp hcy hcu _ rfl 7 0 _ μ2 hR2 ?_ hw2.1 hw2.2 (Nat.zero_le _) (by have := rdS_len S (tN x) (tN y); split <;> omega) rfl hM hF
          intro i hi
          have hk6 := rdS_len S (tN x) (tN y)
          rw [o2 176 (by decide) (by right; omega), e68, m1_eq, nI_clamp (by omega)]
          exact (pk_cpy_in (Nat.zero_le _) (by show i < 0 + _; omega)).trans (by show μ1 (138 + 7 * tN x + 1) (0 + (i - 0)) = _; rw [Nat.zero_add, Nat.sub_zero]; exact hw1.2 i hi)
        · refine S_aload_n (q := 32) hX dX11_otherwise_31 rfl rfl ?_
          refine S_bipush (q := 34) (v := (-2)) hX dX11_otherwise_32 bp_m2 rfl ?_
          refine S_bipush (q := 36) (v := (-2)) hX dX11_otherwise_34 bp_m2 rfl ?_
          refine S_callV (ci := 11) (C := "FanTalk") (T := TX11) (N := 11) (q := 39) 0 0 hX (c_X11_refused q γ _ _ 0 (by decide)) rfl ?hs_20 rfl u_323 u_325 us_0 u_1 u_326 ⟨by decide, by decide, rfl⟩ ⟨Nat.le_of_ble_eq_true rfl, Nat.le_of_ble_eq_true rfl⟩ ⟨Nat.le_of_ble_eq_true rfl, Nat.le_of_ble_eq_true rfl⟩ (Nat.le_of_ble_eq_true rfl) dX11_otherwise_36 ?hp_20 rfl rfl rfl ?_
          case hs_20 => first | with_reducible assumption | exact ⟨_, FK.c0 hM⟩ | exact ⟨_, FK.c2 hM⟩ | exact ⟨_, FK.c7 hM⟩ | exact ⟨_, FK.c129 hM⟩ | exact ⟨_, FK.c173 hM⟩ | exact ⟨_, FK.c1 hM⟩
          case hp_20 => exact ⟨hM, by decide⟩
          rintro v σ sz1 ⟨μ9, hM, hF1, rfl, e9, rfl⟩
          have hF := hF.trans hF1
          refine S_iret hX dX11_otherwise_39 (Nat.zero_le _) (Nat.zero_le _) ?_
          refine hP _ _ _ ?_
          have hsp : sp_otherwise S x y z u = (-2, rfS S 0) := by unfold sp_otherwise; rw [if_pos (Or.inr (Or.inr (Or.inr c28)))]
          rw [hsp]
          exact ⟨_, hM, hF, rfl, hR.rf ok e9, rfl⟩
