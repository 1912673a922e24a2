theorem rdK_len (kd : Nat) (w : Nat → Nat) (n : Nat) (C : CodT) : (rdK kd w n C).length ≤ n := by
  have h := rdL_len (sh := srt kd) (v := fun b => vw kd (w b) b) (n := n) (C := C) (n + 1) 0
  exact h
theorem LisP.tm {f : MF} {kd n : Nat} {C : CodT} {w : Nat → Nat} (h : LisP f kd C w n) (hok : CodOk C) : f 0 1 = nI (rdK kd w n C).length ∧ (rdK kd w n C).length ≤ n ∧ WL (f 1) (rdK kd w n C) ∧ ∀ i, i < (rdK kd w n C).length → (rdK kd w n C).getD i 0 < 2147483648 := by
  refine ⟨h.w.1, rdK_len kd w n C, h.w.2, fun i hi => ?_⟩
  have := getD_10 (L := rdK kd w n C) (rdL_10 hok _ _) i
  omega
theorem spR {f g : MF} {d : Nat} {j : Nat} (h : j < 7) : spl f d 7 g (d + j) = g j := by rw [spl_in ⟨by omega, by omega⟩, Nat.add_sub_cancel_left]
theorem LisP.sp {f g : MF} {d kd n : Nat} {C : CodT} {w : Nat → Nat} (h : LisP g kd C w n) : LisP (fun j => spl f d 7 g (d + j)) kd C w n := h.ext (fun j hj => spR hj)
theorem FdC.sp {f g : MF} {d : Nat} {C : CodT} (h : FdC g C) : FdC (fun j => spl f d 7 g (d + j)) C := by
  have e0 : spl f d 7 g (d + 0) = g 0 := spR (by decide)
  exact h.of (by show spl f d 7 g (d + 0) 2 = _; rw [e0]) (spR (by decide)) (spR (by decide)) (spR (by decide))
theorem FdC.ext {f g : MF} {C : CodT} (h : FdC f C) (e : ∀ j, j < 7 → g j = f j) : FdC g C := h.of (by rw [e 0 (by decide)]) (e 4 (by decide)) (e 5 (by decide)) (e 6 (by decide))

theorem c_X11_heat (q : Nat) (γ : MF) (S : ST) (x y z u s : Int32) : CT_X11_heat [.ref q, .int x, .int y, .int z, .int u, .int s] (fun Γ σ sz => FK σ q γ ∧ FR γ S ∧ StOk S) (fun Γ σ sz v σ' sz' => ∃ γ', FK σ' q γ' ∧ Fr q (q + 179) σ σ' ∧ v = some (.int (sp_heat S x y z u s).1) ∧ FR γ' (sp_heat S x y z u s).2 ∧ sz' = sz) := by
  refine CT.mkP rfl (Nat.le_of_ble_eq_true rfl) [_, _, _, _, _, _, _, _, _] rfl ?_
  intro X Γ σ sz P hX hpre hsz hP
  obtain ⟨hM, hR, ok⟩ := hpre
  obtain ⟨σ0, eσ0⟩ : ∃ z, z = σ := ⟨σ, rfl⟩
  rw [← eσ0] at hP
  have hF : Fr q (q + 179) σ0 σ := by rw [eσ0]; exact Fr.rf
  obtain ⟨r0, r1, r2, r3, r4, r5⟩ := id hR
  obtain ⟨t0, t1, t2, t3, t4, t5, t6, t7, t8⟩ := id r0
  obtain ⟨o1, o2, o3, o4, o5, o6, o7, o8, o9, o10⟩ := id ok.1
  have hco : CoR (fun j => γ (2 + j)) S.1.1 := t0.ext (fun j hj => by show γ (2 + j) = γ (1 + (1 + j)); congr 1; omega)
  have l63 : sp_heat S x y z u s = (nI ((rdK (tN x) (fun b => htS (tN s) b) (tN u) (S.1.1.2.1 (tN y))).count (tN z)), S) → x = nI (tN x) → y = nI (tN y) → z = nI (tN z) → u = nI (tN u) → tN x < 5 → tN y < S.1.1.1 → tN z < 10 → tN u ≤ 60 → tN s < 2147483648 → ∀ (fl k : Nat) (σ : Sg) (μ : MF), k ≤ tN u → tN u - k < fl → (∀ j, j ≠ 178 → μ j = γ j) → (∀ i, i < k → μ 178 i = nI (htS (tN s) i)) → FK σ q μ → Fr q (q + 179) σ0 σ → G X Γ P 0 0 63 [some (.ref q), some (.int x), some (.int y), some (.int z), some (.int u), some (.int s), some (.long (lN (lcgN (tN s) k))), none, some (.int (nI k))] [] σ sz := by
    intro hsp ex ey ez eu hkd hcy hwd hu60 hsd fl
    have hcx := o2.2.1 (tN y) hcy
    induction fl with
      | zero => intro k σ μ h1 h2; omega
      | succ fl ih =>
        intro k σ μ hk hfu ho hg hM hF
        have hl := lcgN_lt hsd k
        refine S_iload (q := 65) hX dX11_heat_63 rfl rfl ?_
        refine S_iload (q := 67) hX dX11_heat_65 rfl rfl ?_
        refine S_icmp_ge (q := 70) 110 hX dX11_heat_67 rfl rfl (fun c67 => ?_) (fun c67 => ?_)
        · have hge : k = tN u := by rw [eu, nI_leI (by omega) (by omega)] at c67; omega
          refine S_aload_n (q := 111) hX dX11_heat_110 rfl rfl ?_
          refine S_getf (fs := ?fs_1) (v := ?v_1) (q := 114) hX u_290 fo_X11_readers dX11_heat_111 ?hs_1 ?hv_1 rfl ?_
          case hs_1 => with_reducible first | exact FK.c0 hM | exact FK.c1 hM | exact FK.c2 hM | exact FK.c7 hM | exact FK.c129 hM | exact FK.c3 hM | exact FK.c4 hM | exact FK.c5 hM | exact FK.c6 hM | exact FK.c39 hM | exact FK.c40 hM | exact FK.c41 hM | exact FK.c42 hM | exact FK.c43 hM | exact FK.c128 hM | exact FK.c136 hM | exact FK.c137 hM | exact FK.c173 hM | exact FK.c174 hM | exact FK.c175 hM | exact FK.c176 hM | exact FK.c177 hM | exact FK.c178 hM | exact RK.c0 (FK.rk hkd hM) | exact RK.c1 (FK.rk hkd hM)
          case hv_1 => rfl
          refine S_iload_n (q := 115) hX dX11_heat_114 rfl rfl ?_
          refine S_aald (N := ?n_2) (f := ?f_2) (y := q + (138 + 7 * tN x)) (q := 116) (t := 3) hX dX11_heat_115 (by decide) rfl ?hs_2 ?hi_2 ?hy_2 rfl ?_
          case hs_2 => with_reducible first | exact FK.c0 hM | exact FK.c1 hM | exact FK.c2 hM | exact FK.c7 hM | exact FK.c129 hM | exact FK.c3 hM | exact FK.c4 hM | exact FK.c5 hM | exact FK.c6 hM | exact FK.c39 hM | exact FK.c40 hM | exact FK.c41 hM | exact FK.c42 hM | exact FK.c43 hM | exact FK.c128 hM | exact FK.c136 hM | exact FK.c137 hM | exact FK.c173 hM | exact FK.c174 hM | exact FK.c175 hM | exact FK.c176 hM | exact FK.c177 hM | exact FK.c178 hM | exact RK.c0 (FK.rk hkd hM) | exact RK.c1 (FK.rk hkd hM)
          case hi_2 => rw [ex]; exact vp_in_nI hkd (by decide)
          case hy_2 => show some (q + (138 + 7 * x.toNatClampNeg)) = some (q + (138 + 7 * tN x)); rw [ex, nI_clamp (by omega), tN_nI (by omega)]
          refine S_astore (q := 118) [_, _, _, _, _, _, _, _, _] hX dX11_heat_116 rfl (Nat.le_of_ble_eq_true rfl) rfl rfl ?_
          refine S_aload (q := 120) hX dX11_heat_118 rfl rfl ?_
          refine S_aload_n (q := 121) hX dX11_heat_120 rfl rfl ?_
          refine S_getf (fs := ?fs_3) (v := ?v_3) (q := 124) hX u_285 fo_X11_now dX11_heat_121 ?hs_3 ?hv_3 rfl ?_
          case hs_3 => with_reducible first | exact FK.c0 hM | exact FK.c1 hM | exact FK.c2 hM | exact FK.c7 hM | exact FK.c129 hM | exact FK.c3 hM | exact FK.c4 hM | exact FK.c5 hM | exact FK.c6 hM | exact FK.c39 hM | exact FK.c40 hM | exact FK.c41 hM | exact FK.c42 hM | exact FK.c43 hM | exact FK.c128 hM | exact FK.c136 hM | exact FK.c137 hM | exact FK.c173 hM | exact FK.c174 hM | exact FK.c175 hM | exact FK.c176 hM | exact FK.c177 hM | exact FK.c178 hM | exact RK.c0 (FK.rk hkd hM) | exact RK.c1 (FK.rk hkd hM)
          case hv_3 => rfl
          refine S_getf (fs := ?fs_4) (v := ?v_4) (q := 127) hX u_85 fo_X9_codes dX11_heat_124 ?hs_4 ?hv_4 rfl ?_
          case hs_4 => with_reducible first | exact FK.c0 hM | exact FK.c1 hM | exact FK.c2 hM | exact FK.c7 hM | exact FK.c129 hM | exact FK.c3 hM | exact FK.c4 hM | exact FK.c5 hM | exact FK.c6 hM | exact FK.c39 hM | exact FK.c40 hM | exact FK.c41 hM | exact FK.c42 hM | exact FK.c43 hM | exact FK.c128 hM | exact FK.c136 hM | exact FK.c137 hM | exact FK.c173 hM | exact FK.c174 hM | exact FK.c175 hM | exact FK.c176 hM | exact FK.c177 hM | exact FK.c178 hM | exact RK.c0 (FK.rk hkd hM) | exact RK.c1 (FK.rk hkd hM)
          case hv_4 => rfl
          refine S_iload_n (q := 128) hX dX11_heat_127 rfl rfl ?_
          refine S_callK (q := 131) 0 0 (hkd) hX (c_X3_learn (q + (138 + 7 * (tN x))) (fun j => μ (138 + 7 * (tN x) + j)) (tN x) (q + 2) (tN y) _ (fun j => μ (2 + j)) (S.1.1.2.1 (tN y)) ey) rfl ?hs_5 u_525 u_528 u_526 u_6 u_533 u_527 u_531 u_530 u_532 u_529 ⟨by decide, by decide, rfl⟩ ⟨Nat.le_of_ble_eq_true rfl, Nat.le_of_ble_eq_true rfl⟩ ⟨Nat.le_of_ble_eq_true rfl, Nat.le_of_ble_eq_true rfl⟩ (Nat.le_of_ble_eq_true rfl) dX11_heat_128 ?hp_5 rfl rfl rfl ?_
          case hs_5 => exact ⟨_, (FK.rk hkd hM).c0⟩
          case hp_5 => exact ⟨FK.rk hkd hM, FK.co hM, by left; omega, by omega, hcx, (hco.ext (fun j hj => ho _ (by omega))).2.1 _ hcy⟩
          rintro v σ sz1 ⟨g1, hM1, hF1, rfl, hfd1, rfl⟩
          have hM := FK.jrk hkd hM hF1 hM1
          have hF := hF.trans (hF1.mono (Nat.le_add_right _ _) (by omega))
          refine S_aload (q := 133) hX dX11_heat_131 rfl rfl ?_
          refine S_aload_n (q := 134) hX dX11_heat_133 rfl rfl ?_
          refine S_getf (fs := ?fs_6) (v := ?v_6) (q := 137) hX u_295 fo_X11_air dX11_heat_134 ?hs_6 ?hv_6 rfl ?_
          case hs_6 => with_reducible first | exact FK.c0 hM | exact FK.c1 hM | exact FK.c2 hM | exact FK.c7 hM | exact FK.c129 hM | exact FK.c3 hM | exact FK.c4 hM | exact FK.c5 hM | exact FK.c6 hM | exact FK.c39 hM | exact FK.c40 hM | exact FK.c41 hM | exact FK.c42 hM | exact FK.c43 hM | exact FK.c128 hM | exact FK.c136 hM | exact FK.c137 hM | exact FK.c173 hM | exact FK.c174 hM | exact FK.c175 hM | exact FK.c176 hM | exact FK.c177 hM | exact FK.c178 hM | exact RK.c0 (FK.rk hkd hM) | exact RK.c1 (FK.rk hkd hM)
          case hv_6 => rfl
          refine S_iload (q := 139) hX dX11_heat_137 rfl rfl ?_
          refine S_callK (q := 142) 0 0 (hkd) hX (c_X3_listen (q + (138 + 7 * (tN x))) (fun j => (spl μ (138 + 7 * tN x) 7 g1) (138 + 7 * (tN x) + j)) (tN x) (q + 178) 60 (tN u) _ ((spl μ (138 + 7 * tN x) 7 g1) 178) (htS (tN s)) (S.1.1.2.1 (tN y)) (eu)) rfl ?hs_7 u_536 u_539 u_537 u_6 u_544 u_538 u_542 u_541 u_543 u_540 ⟨by decide, by decide, rfl⟩ ⟨Nat.le_of_ble_eq_true rfl, Nat.le_of_ble_eq_true rfl⟩ ⟨Nat.le_of_ble_eq_true rfl, Nat.le_of_ble_eq_true rfl⟩ (Nat.le_of_ble_eq_true rfl) dX11_heat_139 ?hp_7 rfl rfl rfl ?_
          case hs_7 => exact ⟨_, (FK.rk hkd hM).c0⟩
          case hp_7 =>
            refine ⟨FK.rk hkd hM, hkd, hfd1.sp, hcx, by omega, by omega, by decide, FK.c178 hM, by right; omega, ?_⟩
            intro i hi
            rw [spl_out (by omega)]
            exact ⟨hg i (by omega), htS_lt _ _⟩
          rintro v σ sz1 ⟨g2, hM2, hF2, rfl, hL2, rfl⟩
          have hM := FK.jrk hkd hM hF2 hM2
          have hF := hF.trans (hF2.mono (Nat.le_add_right _ _) (by omega))
          refine S_aload (q := 144) hX dX11_heat_142 rfl rfl ?_
          refine S_iload_n (q := 145) hX dX11_heat_144 rfl rfl ?_
          refine S_callK (q := 148) 0 0 (hkd) hX (c_X3_timesOf (q + (138 + 7 * tN x)) (fun j => spl (spl μ (138 + 7 * tN x) 7 g1) (138 + 7 * tN x) 7 g2 (138 + 7 * tN x + j)) (tN x) _ (tN z) (rdK (tN x) (htS (tN s)) (tN u) (S.1.1.2.1 (tN y))) ez) rfl ?hs_8 u_703 u_706 u_704 u_6 u_711 u_705 u_709 u_708 u_710 u_707 ⟨by decide, by decide, rfl⟩ ⟨Nat.le_of_ble_eq_true rfl, Nat.le_of_ble_eq_true rfl⟩ ⟨Nat.le_of_ble_eq_true rfl, Nat.le_of_ble_eq_true rfl⟩ (Nat.le_of_ble_eq_true rfl) dX11_heat_145 ?hp_8 rfl rfl rfl ?_
          case hs_8 => exact ⟨_, (FK.rk hkd hM).c0⟩
          case hp_8 =>
            have ht := (LisP.sp (f := spl μ (138 + 7 * tN x) 7 g1) (d := 138 + 7 * tN x) hL2).tm hcx
            exact ⟨FK.rk hkd hM, ht.1, by have := ht.2.1; omega, ht.2.2.1, by omega, ht.2.2.2⟩
          rintro v σ1 sz1 ⟨rfl, rfl, rfl⟩
          refine S_iret hX dX11_heat_148 (Nat.zero_le _) (Nat.zero_le _) ?_
          refine hP _ _ _ ?_
          rw [hsp]
          exact ⟨_, hM, hF, rfl, hR.scr ok (fun j hj => by rw [spl_out (by omega), spl_out (by omega)]; exact ho j (by omega)), rfl⟩
        · have hlt : k < tN u := by rw [eu, nI_leI (by omega) (by omega)] at c67; omega
          refine S_lload (q := 72) hX dX11_heat_70 rfl rfl ?_
          refine S_ldc2 (q := 75) hX u_729 dX11_heat_72 rfl ?_
          refine S_lmul (q := 76) hX dX11_heat_75 rfl ?_
          refine S_ldc2 (q := 79) hX u_730 dX11_heat_76 rfl ?_
          refine S_ladd (q := 80) hX dX11_heat_79 rfl ?_
          refine S_ldc2 (q := 83) hX u_731 dX11_heat_80 rfl ?_
          refine S_lrem (q := 84) hX dX11_heat_83 (by decide) rfl ?_
          refine S_topl (l_lcg2 hl) ?_
          refine S_lstore (q := 86) [_, _, _, _, _, _, _, _, _] hX dX11_heat_84 rfl (Nat.le_of_ble_eq_true rfl) rfl rfl ?_
          refine S_aload_n (q := 87) hX dX11_heat_86 rfl rfl ?_
          refine S_getf (fs := ?fs_9) (v := ?v_9) (q := 90) hX u_295 fo_X11_air dX11_heat_87 ?hs_9 ?hv_9 rfl ?_
          case hs_9 => with_reducible first | exact FK.c0 hM | exact FK.c1 hM | exact FK.c2 hM | exact FK.c7 hM | exact FK.c129 hM | exact FK.c3 hM | exact FK.c4 hM | exact FK.c5 hM | exact FK.c6 hM | exact FK.c39 hM | exact FK.c40 hM | exact FK.c41 hM | exact FK.c42 hM | exact FK.c43 hM | exact FK.c128 hM | exact FK.c136 hM | exact FK.c137 hM | exact FK.c173 hM | exact FK.c174 hM | exact FK.c175 hM | exact FK.c176 hM | exact FK.c177 hM | exact FK.c178 hM | exact RK.c0 (FK.rk hkd hM) | exact RK.c1 (FK.rk hkd hM)
          case hv_9 => rfl
          refine S_iload (q := 92) hX dX11_heat_90 rfl rfl ?_
          refine S_lload (q := 94) hX dX11_heat_92 rfl rfl ?_
          refine S_ldc2 (q := 97) hX u_732 dX11_heat_94 rfl ?_
          refine S_ldiv (q := 98) hX dX11_heat_97 (by decide) rfl ?_
          refine S_ldc2 (q := 101) hX u_733 dX11_heat_98 rfl ?_
          refine S_lrem (q := 102) hX dX11_heat_101 (by decide) rfl ?_
          refine S_l2i (q := 103) hX dX11_heat_102 rfl ?_
          refine S_nm (fun x103 hx103 => ?_)
          refine S_iast (N := ?n_10) (f := ?f_10) (q := 104) hX dX11_heat_103 ?hs_10 ?hi_10 rfl ?_
          case hs_10 => with_reducible first | exact FK.c0 hM | exact FK.c1 hM | exact FK.c2 hM | exact FK.c7 hM | exact FK.c129 hM | exact FK.c3 hM | exact FK.c4 hM | exact FK.c5 hM | exact FK.c6 hM | exact FK.c39 hM | exact FK.c40 hM | exact FK.c41 hM | exact FK.c42 hM | exact FK.c43 hM | exact FK.c128 hM | exact FK.c136 hM | exact FK.c137 hM | exact FK.c173 hM | exact FK.c174 hM | exact FK.c175 hM | exact FK.c176 hM | exact FK.c177 hM | exact FK.c178 hM | exact RK.c0 (FK.rk hkd hM) | exact RK.c1 (FK.rk hkd hM)
          case hi_10 => exact vp_in_nI (by omega) (by decide)
          refine S_stu (q0 := q) (j := 178) (i := _) hM hF (by decide) rfl (fun σ μ103 e103 hM hF => ?_)
          subst hx103
          refine S_iinc (q := 107) [_, _, _, _, _, _, _, _, _] hX dX11_heat_104 rfl (ii_1 _) rfl (Nat.le_of_ble_eq_true rfl) rfl rfl ?_
          refine S_goto 63 hX dX11_heat_107 rfl ?_
          rw [nI_clamp (by omega)] at e103
          rw [nI_1]
          refine ih (k + 1) _ μ103 hlt (by omega) (fun j hj => by rw [e103, m2_o hj]; exact ho j hj) (fun i hi => ?_) hM hF
          rw [e103, m2_at]
          by_cases hik : i = k
          · rw [if_pos ⟨rfl, hik⟩, hik]; exact l_ht2 (lcgN_lt hsd _)
          · rw [if_neg (fun z => hik z.2)]; exact hg i (by omega)
  refine S_iload_n (q := 1) hX dX11_heat_0 rfl rfl ?_
  refine S_callS (q := 4) 0 0 hX (c_X11_isKind _) rfl u_518 u_519 u_1 u_520 ⟨by decide, by decide, rfl⟩ ⟨Nat.le_of_ble_eq_true rfl, Nat.le_of_ble_eq_true rfl⟩ ⟨Nat.le_of_ble_eq_true rfl, Nat.le_of_ble_eq_true rfl⟩ (Nat.le_of_ble_eq_true rfl) dX11_heat_1 ?hp_11 rfl rfl rfl ?_
  case hp_11 => trivial
  rintro v σ1 sz1 ⟨rfl, rfl, rfl⟩
  refine S_if_eq_b (q := 7) 46 hX dX11_heat_4 rfl rfl (fun c4 => ?_) (fun c4 => ?_)
  · refine S_aload_n (q := 47) hX dX11_heat_46 rfl rfl ?_
    refine S_bipush (q := 49) (v := (-2)) hX dX11_heat_47 bp_m2 rfl ?_
    refine S_bipush (q := 51) (v := (-2)) hX dX11_heat_49 bp_m2 rfl ?_
    refine S_callV (ci := 11) (C := "FanTalk") (T := TX11) (N := 11) (q := 54) 0 0 hX (c_X11_refused q γ _ _ 0 (by decide)) rfl ?hs_12 rfl u_323 u_325 us_0 u_1 u_326 ⟨by decide, by decide, rfl⟩ ⟨Nat.le_of_ble_eq_true rfl, Nat.le_of_ble_eq_true rfl⟩ ⟨Nat.le_of_ble_eq_true rfl, Nat.le_of_ble_eq_true rfl⟩ (Nat.le_of_ble_eq_true rfl) dX11_heat_51 ?hp_12 rfl rfl rfl ?_
    case hs_12 => first | with_reducible assumption | exact ⟨_, FK.c0 hM⟩ | exact ⟨_, FK.c2 hM⟩ | exact ⟨_, FK.c7 hM⟩ | exact ⟨_, FK.c129 hM⟩ | exact ⟨_, FK.c173 hM⟩ | exact ⟨_, FK.c1 hM⟩
    case hp_12 => exact ⟨hM, by decide⟩
    rintro v σ sz1 ⟨μ9, hM, hF1, rfl, e9, rfl⟩
    have hF := hF.trans hF1
    refine S_iret hX dX11_heat_54 (Nat.zero_le _) (Nat.zero_le _) ?_
    refine hP _ _ _ ?_
    have hsp : sp_heat S x y z u s = (-2, rfS S 0) := by unfold sp_heat; rw [if_pos (Or.inl c4)]
    rw [hsp]
    exact ⟨_, hM, hF, rfl, hR.rf ok e9, rfl⟩
  · have cx := tN_ex c4.1
    have hkd : tN x < 5 := by have := c4.2; omega
    refine S_aload_n (q := 8) hX dX11_heat_7 rfl rfl ?_
    refine S_iload_n (q := 9) hX dX11_heat_8 rfl rfl ?_
    refine S_callV (ci := 11) (C := "FanTalk") (T := TX11) (N := 11) (q := 12) 0 0 hX (c_X11_isCode q γ S _) rfl ?hs_13 rfl u_338 u_340 us_1 u_1 u_341 ⟨by decide, by decide, rfl⟩ ⟨Nat.le_of_ble_eq_true rfl, Nat.le_of_ble_eq_true rfl⟩ ⟨Nat.le_of_ble_eq_true rfl, Nat.le_of_ble_eq_true rfl⟩ (Nat.le_of_ble_eq_true rfl) dX11_heat_9 ?hp_13 rfl rfl rfl ?_
    case hs_13 => first | with_reducible assumption | exact ⟨_, FK.c0 hM⟩ | exact ⟨_, FK.c2 hM⟩ | exact ⟨_, FK.c7 hM⟩ | exact ⟨_, FK.c129 hM⟩ | exact ⟨_, FK.c173 hM⟩ | exact ⟨_, FK.c1 hM⟩
    case hp_13 => exact ⟨hM, hR, ok⟩
    rintro v σ1 sz1 ⟨rfl, rfl, rfl⟩
    refine S_if_eq_b (q := 15) 46 hX dX11_heat_12 rfl rfl (fun c12 => ?_) (fun c12 => ?_)
    · refine S_aload_n (q := 47) hX dX11_heat_46 rfl rfl ?_
      refine S_bipush (q := 49) (v := (-2)) hX dX11_heat_47 bp_m2 rfl ?_
      refine S_bipush (q := 51) (v := (-2)) hX dX11_heat_49 bp_m2 rfl ?_
      refine S_callV (ci := 11) (C := "FanTalk") (T := TX11) (N := 11) (q := 54) 0 0 hX (c_X11_refused q γ _ _ 0 (by decide)) rfl ?hs_14 rfl u_323 u_325 us_0 u_1 u_326 ⟨by decide, by decide, rfl⟩ ⟨Nat.le_of_ble_eq_true rfl, Nat.le_of_ble_eq_true rfl⟩ ⟨Nat.le_of_ble_eq_true rfl, Nat.le_of_ble_eq_true rfl⟩ (Nat.le_of_ble_eq_true rfl) dX11_heat_51 ?hp_14 rfl rfl rfl ?_
      case hs_14 => first | with_reducible assumption | exact ⟨_, FK.c0 hM⟩ | exact ⟨_, FK.c2 hM⟩ | exact ⟨_, FK.c7 hM⟩ | exact ⟨_, FK.c129 hM⟩ | exact ⟨_, FK.c173 hM⟩ | exact ⟨_, FK.c1 hM⟩
      case hp_14 => exact ⟨hM, by decide⟩
      rintro v σ sz1 ⟨μ9, hM, hF1, rfl, e9, rfl⟩
      have hF := hF.trans hF1
      refine S_iret hX dX11_heat_54 (Nat.zero_le _) (Nat.zero_le _) ?_
      refine hP _ _ _ ?_
      have hsp : sp_heat S x y z u s = (-2, rfS S 0) := by unfold sp_heat; rw [if_pos (Or.inr (Or.inl c12))]
      rw [hsp]
      exact ⟨_, hM, hF, rfl, hR.rf ok e9, rfl⟩
    · have cy := okc.ex c12
      refine S_iload_n (q := 16) hX dX11_heat_15 rfl rfl ?_
      refine S_callS (q := 19) 0 0 hX (c_X11_isWord _) rfl u_342 u_343 u_1 u_344 ⟨by decide, by decide, rfl⟩ ⟨Nat.le_of_ble_eq_true rfl, Nat.le_of_ble_eq_true rfl⟩ ⟨Nat.le_of_ble_eq_true rfl, Nat.le_of_ble_eq_true rfl⟩ (Nat.le_of_ble_eq_true rfl) dX11_heat_16 ?hp_15 rfl rfl rfl ?_
      case hp_15 => trivial
      rintro v σ1 sz1 ⟨rfl, rfl, rfl⟩
      refine S_if_eq_b (q := 22) 46 hX dX11_heat_19 rfl rfl (fun c19 => ?_) (fun c19 => ?_)
      · refine S_aload_n (q := 47) hX dX11_heat_46 rfl rfl ?_
        refine S_bipush (q := 49) (v := (-2)) hX dX11_heat_47 bp_m2 rfl ?_
        refine S_bipush (q := 51) (v := (-2)) hX dX11_heat_49 bp_m2 rfl ?_
        refine S_callV (ci := 11) (C := "FanTalk") (T := TX11) (N := 11) (q := 54) 0 0 hX (c_X11_refused q γ _ _ 0 (by decide)) rfl ?hs_16 rfl u_323 u_325 us_0 u_1 u_326 ⟨by decide, by decide, rfl⟩ ⟨Nat.le_of_ble_eq_true rfl, Nat.le_of_ble_eq_true rfl⟩ ⟨Nat.le_of_ble_eq_true rfl, Nat.le_of_ble_eq_true rfl⟩ (Nat.le_of_ble_eq_true rfl) dX11_heat_51 ?hp_16 rfl rfl rfl ?_
        case hs_16 => first | with_reducible assumption | exact ⟨_, FK.c0 hM⟩ | exact ⟨_, FK.c2 hM⟩ | exact ⟨_, FK.c7 hM⟩ | exact ⟨_, FK.c129 hM⟩ | exact ⟨_, FK.c173 hM⟩ | exact ⟨_, FK.c1 hM⟩
        case hp_16 => exact ⟨hM, by decide⟩
        rintro v σ sz1 ⟨μ9, hM, hF1, rfl, e9, rfl⟩
        have hF := hF.trans hF1
        refine S_iret hX dX11_heat_54 (Nat.zero_le _) (Nat.zero_le _) ?_
        refine hP _ _ _ ?_
        have hsp : sp_heat S x y z u s = (-2, rfS S 0) := by unfold sp_heat; rw [if_pos (Or.inr (Or.inr (Or.inl c19)))]
        rw [hsp]
        exact ⟨_, hM, hF, rfl, hR.rf ok e9, rfl⟩
      · have cz := tN_ex c19.1
        have hwd : tN z < 10 := by have := c19.2; omega
        refine S_iload (q := 24) hX dX11_heat_22 rfl rfl ?_
        refine S_if_lt (q := 27) 46 hX dX11_heat_24 rfl rfl (fun c24 => ?_) (fun c24 => ?_)
        · have k24 := c24
          rw [lt_i, show ((0 : Int32)).toInt = 0 by decide] at k24
          refine S_aload_n (q := 47) hX dX11_heat_46 rfl rfl ?_
          refine S_bipush (q := 49) (v := (-2)) hX dX11_heat_47 bp_m2 rfl ?_
          refine S_bipush (q := 51) (v := (-2)) hX dX11_heat_49 bp_m2 rfl ?_
          refine S_callV (ci := 11) (C := "FanTalk") (T := TX11) (N := 11) (q := 54) 0 0 hX (c_X11_refused q γ _ _ 0 (by decide)) rfl ?hs_17 rfl u_323 u_325 us_0 u_1 u_326 ⟨by decide, by decide, rfl⟩ ⟨Nat.le_of_ble_eq_true rfl, Nat.le_of_ble_eq_true rfl⟩ ⟨Nat.le_of_ble_eq_true rfl, Nat.le_of_ble_eq_true rfl⟩ (Nat.le_of_ble_eq_true rfl) dX11_heat_51 ?hp_17 rfl rfl rfl ?_
          case hs_17 => first | with_reducible assumption | exact ⟨_, FK.c0 hM⟩ | exact ⟨_, FK.c2 hM⟩ | exact ⟨_, FK.c7 hM⟩ | exact ⟨_, FK.c129 hM⟩ | exact ⟨_, FK.c173 hM⟩ | exact ⟨_, FK.c1 hM⟩
          case hp_17 => exact ⟨hM, by decide⟩
          rintro v σ sz1 ⟨μ9, hM, hF1, rfl, e9, rfl⟩
          have hF := hF.trans hF1
          refine S_iret hX dX11_heat_54 (Nat.zero_le _) (Nat.zero_le _) ?_
          refine hP _ _ _ ?_
          have hsp : sp_heat S x y z u s = (-2, rfS S 0) := by unfold sp_heat; rw [if_pos (Or.inr (Or.inr (Or.inr (Or.inl (fun w => by have := w.1; have := w.2; omega)))))]
          rw [hsp]
          exact ⟨_, hM, hF, rfl, hR.rf ok e9, rfl⟩
        · have k24 := c24
          rw [lt_i, show ((0 : Int32)).toInt = 0 by decide] at k24
          refine S_iload (q := 29) hX dX11_heat_27 rfl rfl ?_
          refine S_bipush (q := 31) (v := 60) hX dX11_heat_29 bp_60 rfl ?_
          refine S_icmp_gt (q := 34) 46 hX dX11_heat_31 rfl rfl (fun c31 => ?_) (fun c31 => ?_)
          · have k31 := c31
            rw [lt_i, show ((60 : Int32)).toInt = 60 by decide] at k31
            refine S_aload_n (q := 47) hX dX11_heat_46 rfl rfl ?_
            refine S_bipush (q := 49) (v := (-2)) hX dX11_heat_47 bp_m2 rfl ?_
            refine S_bipush (q := 51) (v := (-2)) hX dX11_heat_49 bp_m2 rfl ?_
            refine S_callV (ci := 11) (C := "FanTalk") (T := TX11) (N := 11) (q := 54) 0 0 hX (c_X11_refused q γ _ _ 0 (by decide)) rfl ?hs_18 rfl u_323 u_325 us_0 u_1 u_326 ⟨by decide, by decide, rfl⟩ ⟨Nat.le_of_ble_eq_true rfl, Nat.le_of_ble_eq_true rfl⟩ ⟨Nat.le_of_ble_eq_true rfl, Nat.le_of_ble_eq_true rfl⟩ (Nat.le_of_ble_eq_true rfl) dX11_heat_51 ?hp_18 rfl rfl rfl ?_
            case hs_18 => first | with_reducible assumption | exact ⟨_, FK.c0 hM⟩ | exact ⟨_, FK.c2 hM⟩ | exact ⟨_, FK.c7 hM⟩ | exact ⟨_, FK.c129 hM⟩ | exact ⟨_, FK.c173 hM⟩ | exact ⟨_, FK.c1 hM⟩
            case hp_18 => exact ⟨hM, by decide⟩
            rintro v σ sz1 ⟨μ9, hM, hF1, rfl, e9, rfl⟩
            have hF := hF.trans hF1
            refine S_iret hX dX11_heat_54 (Nat.zero_le _) (Nat.zero_le _) ?_
            refine hP _ _ _ ?_
            have hsp : sp_heat S x y z u s = (-2, rfS S 0) := by unfold sp_heat; rw [if_pos (Or.inr (Or.inr (Or.inr (Or.inl (fun w => by have := w.1; have := w.2; omega)))))]
            rw [hsp]
            exact ⟨_, hM, hF, rfl, hR.rf ok e9, rfl⟩
          · have k31 := c31
            rw [lt_i, show ((60 : Int32)).toInt = 60 by decide] at k31
            refine S_iload (q := 36) hX dX11_heat_34 rfl rfl ?_
            refine S_if_lt (q := 39) 46 hX dX11_heat_36 rfl rfl (fun c36 => ?_) (fun c36 => ?_)
            · have k36 := c36
              rw [lt_i, show ((0 : Int32)).toInt = 0 by decide] at k36
              refine S_aload_n (q := 47) hX dX11_heat_46 rfl rfl ?_
              refine S_bipush (q := 49) (v := (-2)) hX dX11_heat_47 bp_m2 rfl ?_
              refine S_bipush (q := 51) (v := (-2)) hX dX11_heat_49 bp_m2 rfl ?_
              refine S_callV (ci := 11) (C := "FanTalk") (T := TX11) (N := 11) (q := 54) 0 0 hX (c_X11_refused q γ _ _ 0 (by decide)) rfl ?hs_19 rfl u_323 u_325 us_0 u_1 u_326 ⟨by decide, by decide, rfl⟩ ⟨Nat.le_of_ble_eq_true rfl, Nat.le_of_ble_eq_true rfl⟩ ⟨Nat.le_of_ble_eq_true rfl, Nat.le_of_ble_eq_true rfl⟩ (Nat.le_of_ble_eq_true rfl) dX11_heat_51 ?hp_19 rfl rfl rfl ?_
              case hs_19 => first | with_reducible assumption | exact ⟨_, FK.c0 hM⟩ | exact ⟨_, FK.c2 hM⟩ | exact ⟨_, FK.c7 hM⟩ | exact ⟨_, FK.c129 hM⟩ | exact ⟨_, FK.c173 hM⟩ | exact ⟨_, FK.c1 hM⟩
              case hp_19 => exact ⟨hM, by decide⟩
              rintro v σ sz1 ⟨μ9, hM, hF1, rfl, e9, rfl⟩
              have hF := hF.trans hF1
              refine S_iret hX dX11_heat_54 (Nat.zero_le _) (Nat.zero_le _) ?_
              refine hP _ _ _ ?_
              have hsp : sp_heat S x y z u s = (-2, rfS S 0) := by unfold sp_heat; rw [if_pos (Or.inr (Or.inr (Or.inr (Or.inr (fun w => by have := w.1; have := w.2; omega)))))]
              rw [hsp]
              exact ⟨_, hM, hF, rfl, hR.rf ok e9, rfl⟩
            · have k36 := c36
              rw [lt_i, show ((0 : Int32)).toInt = 0 by decide] at k36
              refine S_iload (q := 41) hX dX11_heat_39 rfl rfl ?_
              refine S_ldc (q := 43) hX u_728 dX11_heat_41 rfl ?_
              refine S_icmp_le (q := 46) 55 hX dX11_heat_43 rfl rfl (fun c43 => ?_) (fun c43 => ?_)
              · have k43 := c43
                rw [le_i, show ((999999 : Int32)).toInt = 999999 by decide] at k43
                refine S_iload (q := 57) hX dX11_heat_55 rfl rfl ?_
                refine S_i2l (q := 58) hX dX11_heat_57 rfl ?_
                have cs := tN_ex (x := s) (by omega)
                refine S_topl (show s.toInt64 = lN (lcgN (tN s) 0) by rw [lcgN_0, ← nI_l cs.2.1, ← cs.1]) ?_
                refine S_lstore (q := 60) [_, _, _, _, _, _, _, _, _] hX dX11_heat_58 rfl (Nat.le_of_ble_eq_true rfl) rfl rfl ?_
                refine S_iconst (q := 61) (v := 0) hX dX11_heat_60 ic_0 rfl ?_
                refine S_istore (q := 63) [_, _, _, _, _, _, _, _, _] hX dX11_heat_61 rfl (Nat.le_of_ble_eq_true rfl) rfl rfl ?_
                have cu := tN_ex (x := u) (by omega)
                refine l63 (by unfold sp_heat; rw [if_neg (by rintro (w | w | w | w | w); exact w c4; exact w c12; exact w c19; exact w ⟨by omega, by omega⟩; exact w ⟨by omega, by omega⟩)]) cx.1 cy.1 cz.1 cu.1 hkd cy.2.1 hwd (by omega) (by omega) 61 0 _ γ (Nat.zero_le _) (by omega) (fun j _ => rfl) (fun i hi => absurd hi (Nat.not_lt_zero _)) hM hF
              · have k43 := c43
                rw [le_i, show ((999999 : Int32)).toInt = 999999 by decide] at k43
                refine S_aload_n (q := 47) hX dX11_heat_46 rfl rfl ?_
                refine S_bipush (q := 49) (v := (-2)) hX dX11_heat_47 bp_m2 rfl ?_
                refine S_bipush (q := 51) (v := (-2)) hX dX11_heat_49 bp_m2 rfl ?_
                refine S_callV (ci := 11) (C := "FanTalk") (T := TX11) (N := 11) (q := 54) 0 0 hX (c_X11_refused q γ _ _ 0 (by decide)) rfl ?hs_20 rfl u_323 u_325 us_0 u_1 u_326 ⟨by decide, by decide, rfl⟩ ⟨Nat.le_of_ble_eq_true rfl, Nat.le_of_ble_eq_true rfl⟩ ⟨Nat.le_of_ble_eq_true rfl, Nat.le_of_ble_eq_true rfl⟩ (Nat.le_of_ble_eq_true rfl) dX11_heat_51 ?hp_20 rfl rfl rfl ?_
                case hs_20 => first | with_reducible assumption | exact ⟨_, FK.c0 hM⟩ | exact ⟨_, FK.c2 hM⟩ | exact ⟨_, FK.c7 hM⟩ | exact ⟨_, FK.c129 hM⟩ | exact ⟨_, FK.c173 hM⟩ | exact ⟨_, FK.c1 hM⟩
                case hp_20 => exact ⟨hM, by decide⟩
                rintro v σ sz1 ⟨μ9, hM, hF1, rfl, e9, rfl⟩
                have hF := hF.trans hF1
                refine S_iret hX dX11_heat_54 (Nat.zero_le _) (Nat.zero_le _) ?_
                refine hP _ _ _ ?_
                have hsp : sp_heat S x y z u s = (-2, rfS S 0) := by unfold sp_heat; rw [if_pos (Or.inr (Or.inr (Or.inr (Or.inr (fun w => by have := w.1; have := w.2; omega)))))]
                rw [hsp]
                exact ⟨_, hM, hF, rfl, hR.rf ok e9, rfl⟩
