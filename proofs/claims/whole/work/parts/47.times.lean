theorem rdK_len (kd : Nat) (w : Nat → Nat) (n : Nat) (C : CodT) : (rdK kd w n C).length ≤ n := by
  have h := rdL_len (sh := srt kd) (v := fun b => vw kd (w b) b) (n := n) (C := C) (n + 1) 0
  exact h
theorem LisP.tm {f : MF} {kd n : Nat} {C : CodT} {w : Nat → Nat} (h : LisP f kd C w n) (hok : CodOk C) : f 0 1 = nI (rdK kd w n C).length ∧ (rdK kd w n C).length ≤ n ∧ WL (f 1) (rdK kd w n C) ∧ ∀ i, i < (rdK kd w n C).length → (rdK kd w n C).getD i 0 < 2147483648 := by
  refine ⟨h.w.1, rdK_len kd w n C, h.w.2, fun i hi => ?_⟩
  have := getD_10 (L := rdK kd w n C) (rdL_10 hok _ _) i
  omega
theorem spR {f g : MF} {d : Nat} {j : Nat} (h : j < 7) : spl f d 7 g (d + j) = g j := by rw [spl_in ⟨by omega, by omega⟩, Nat.add_sub_cancel_left]
theorem LisP.sp {f g : MF} {d kd n : Nat} {C : CodT} {w : Nat → Nat} (h : LisP g kd C w n) : LisP (fun j => spl f d 7 g (d + j)) kd C w n := h.ext (fun j hj => spR hj)
theorem FdC.sp {f g : MF} {d : Nat} {C : CodT} (h : FdC g C) : FdC (fun j => spl f d 7 g (d + j)) C := by
  have e0 : spl f d 7 g (d + 0) = g 0 := spR (by decide)
  exact h.of (by show spl f d 7 g (d + 0) 2 = _; rw [e0]) (spR (by decide)) (spR (by decide)) (spR (by decide))
theorem FdC.ext {f g : MF} {C : CodT} (h : FdC f C) (e : ∀ j, j < 7 → g j = f j) : FdC g C := h.of (by rw [e 0 (by decide)]) (e 4 (by decide)) (e 5 (by decide)) (e 6 (by decide))

theorem c_X11_heat (q : Nat) (γ : MF) (S : ST) (x y z u s : Int32) : CT_X11_heat [.ref q, .int x, .int y, .int z, .int u, .int s] (fun Γ σ sz => FK σ q γ ∧ FR γ S ∧ StOk S) (fun Γ σ sz v σ' sz' => ∃ γ', FK σ' q γ' ∧ Fr q (q + 179) σ σ' ∧ v = some (.int (sp_heat S x y z u s).1) ∧ FR γ' (sp_heat S x y z u s).2 ∧ sz' = sz) := by
  refine CT.mkP rfl (Nat.le_of_ble_eq_true rfl) [_, _, _, _, _, _, _, _, _] rfl ?_
  intro X Γ σ sz P hX hpre hsz hP
  obtain ⟨hM, hR, ok⟩ := hpre
  obtain ⟨σ0, eσ0⟩ : ∃ z, z = σ := ⟨σ, rfl⟩
  rw [← eσ0] at hP
  have hF : Fr q (q + 179) σ0 σ := by rw [eσ0]; exact Fr.rf
  obtain ⟨r0, r1, r2, r3, r4, r5⟩ := id hR
  obtain ⟨t0, t1, t2, t3, t4, t5, t6, t7, t8⟩ := id r0
  obtain ⟨o1, o2, o3, o4, o5, o6, o7, o8, o9, o10⟩ := id ok.1
  have hco : CoR (fun j => γ (2 + j)) S.1.1 := t0.ext (fun j hj => by show γ (2 + j) = γ (1 + (1 + j)); congr 1; omega)
  have l63 : sp_heat S x y z u s = (nI ((rdK (tN x) (fun b => htS (tN s) b) (tN u) (S.1.1.2.1 (tN y))).count (tN z)), S) → x = nI (tN x) → y = nI (tN y) → z = nI (tN z) → u = nI (tN u) → tN x < 5 → tN y < S.1.1.1 → tN z < 10 → tN u ≤ 60 → tN s < 2147483648 → ∀ (fl k : Nat) (σ : Sg) (μ : MF), k ≤ tN u → tN u - k < fl → (∀ j, j ≠ 178 → μ j = γ j) → (∀ i, i < k → μ 178 i = nI (htS (tN s) i)) → FK σ q μ → Fr q (q + 179) σ0 σ → G X Γ P 0 0 63 [some (.ref q), some (.int x), some (.int y), some (.int z), some (.int u), some (.int s), some (.long (lN (lcgN (tN s) k))), none, some (.int (nI k))] [] σ sz := by
    intro hsp ex ey ez eu hkd hcy hwd hu60 hsd fl
    have hcx := o2.2.1 (tN y) hcy
    induction fl with
      | zero => intro k σ μ h1 h2; omega
      | succ fl ih =>
        intro k σ μ hk hfu ho hg hM hF
        have hl := lcgN_lt hsd k
        refine S_iload (q := 65) hX dX11_heat_63 rfl rfl ?_
        refine S_iload (q := 67) hX dX11_heat_65 rfl rfl ?_
        refine S_icmp_ge (q := 70) 110 hX dX11_heat_67 rfl rfl (fun c67 => ?_) (fun c67 => ?_)
        · have hge : k = tN u := by rw [eu, nI_leI (by omega) (by omega)] at c67; omega
          refine S_aload_n (q := 111) hX dX11_heat_110 rfl rfl ?_
          refine S_getf (fs := ?fs_1) (v := ?v_1) (q := 114) hX u_290 fo_X11_readers dX11_heat_111 ?hs_1 ?hv_1 rfl ?_
          case hs_1 => with_reducible first | exact FK.c0 hM | exact FK.c1 hM | exact FK.c2 hM | exact FK.c7 hM | exact FK.c129 hM | exact FK.c3 hM | exact FK.c4 hM | exact FK.c5 hM | exact FK.c6 hM | exact FK.c39 hM | exact FK.c40 hM | exact FK.c41 hM | exact FK.c42 hM | exact FK.c43 hM | exact FK.c128 hM | exact FK.c136 hM | exact FK.c137 hM | exact FK.c173 hM | exact FK.c174 hM | exact FK.c175 hM | exact FK.c176 hM | exact FK.c177 hM | exact FK.c178 hM | exact RK.c0 (FK.rk hkd hM) | exact RK.c1 (FK.rk hkd hM)
          case hv_1 => rfl
          refine S_iload_n (q := 115) hX dX11_heat_114 rfl rfl ?_
          refine S_aald (N := ?n_2) (f := ?f_2) (y := q + (138 + 7 * tN x)) (q := 116) (t := 3) hX dX11_heat_115 (by decide) rfl ?hs_2 ?hi_2 ?hy_2 rfl ?_
          case hs_2 => with_reducible first | exact FK.c0 hM | exact FK.c1 hM | exact FK.c2 hM | exact FK.c7 hM | exact FK.c129 hM | exact FK.c3 hM | exact FK.c4 hM | exact FK.c5 hM | exact FK.c6 hM | exact FK.c39 hM | exact FK.c40 hM | exact FK.c41 hM | exact FK.c42 hM | exact FK.c43 hM | exact FK.c128 hM | exact FK.c136 hM | exact FK.c137 hM | exact FK.c173 hM | exact FK.c174 hM | exact FK.c175 hM | exact FK.c176 hM | exact FK.c177 hM | exact FK.c178 hM | exact RK.c0 (FK.rk hkd hM) | exact RK.c1 (FK.rk hkd hM)
          case hi_2 => rw [ex]; exact vp_in_nI hkd (by decide)
          case hy_2 => show some (q + (138 + 7 * x.toNatClampNeg)) = some (q + (138 + 7 * tN x)); rw [ex, nI_clamp (by omega), tN_nI (by omega)]
          refine S_astore (q := 118) [_, _, _, _, _, _, _, _, _] hX dX11_heat_116 rfl (Nat.le_of_ble_eq_true rfl) rfl rfl ?_
          refine S_aload (q := 120) hX dX11_heat_118 rfl rfl ?_
          refine S_aload_n (q := 121) hX dX11_heat_120 rfl rfl ?_
          refine S_getf (fs := ?fs_3) (v := ?v_3) (q := 124) hX u_285 fo_X11_now dX11_heat_121 ?hs_3 ?hv_3 rfl ?_
          case hs_3 => with_reducible first | exact FK.c0 hM | exact FK.c1 hM | exact FK.c2 hM | exact FK.c7 hM | exact FK.c129 hM | exact FK.c3 hM | exact FK.c4 hM | exact FK.c5 hM | exact FK.c6 hM | exact FK.c39 hM | exact FK.c40 hM | exact FK.c41 hM | exact FK.c42 hM | exact FK.c43 hM | exact FK.c128 hM | exact FK.c136 hM | exact FK.c137 hM | exact FK.c173 hM | exact FK.c174 hM | exact FK.c175 hM | exact FK.c176 hM | exact FK.c177 hM | exact FK.c178 hM | exact RK.c0 (FK.rk hkd hM) | exact RK.c1 (FK.rk hkd hM)
          case hv_3 => rfl
          refine S_getf (fs := ?fs_4) (v := ?v_4) (q := 127) hX u_85 fo_X9_codes dX11_heat_124 ?hs_4 ?hv_4 rfl ?_
          case hs_4 => with_reducible first | exact FK.c0 hM | exact FK.c1 hM | exact FK.c2 hM | exact FK.c7 hM | exact FK.c129 hM | exact FK.c3 hM | exact FK.c4 hM | exact FK.c5 hM | exact FK.c6 hM | exact FK.c39 hM | exact FK.c40 hM | exact FK.c41 hM | exact FK.c42 hM | exact FK.c43 hM | exact FK.c128 hM | exact FK.c136 hM | exact FK.c137 hM | exact FK.c173 hM | exact FK.c174 hM | exact FK.c175 hM | exact FK.c176 hM | exact FK.c177 hM | exact FK.c178 hM | exact RK.c0 (FK.rk hkd hM) | exact RK.c1 (FK.rk hkd hM)
          case hv_4 => rfl
          refine S_iload_n (q := 128) hX dX11_heat_127 rfl rfl ?_
          refine S_callK (q := 131) 0 0 (hkd) hX (c_X3_learn (q + (138 + 7 * (tN x))) (fun j => μ (138 + 7 * (tN x) + j)) (tN x) (q + 2) (tN y) _ (fun j => μ (2 + j)) (S.1.1.2.1 (tN y)) ey) rfl ?hs_5 u_525 u_528 u_526 u_6 u_533 u_527 u_531 u_530 u_532 u_529 ⟨by decide, by decide, rfl⟩ ⟨Nat.le_of_ble_eq_true rfl, Nat.le_of_ble_eq_true rfl⟩ ⟨Nat.le_of_ble_eq_true rfl, Nat.le_of_ble_eq_true rfl⟩ (Nat.le_of_ble_eq_true rfl) dX11_heat_128 ?hp_5 rfl rfl rfl ?_
          case hs_5 => exact ⟨_, (FK.rk hkd hM).c0⟩
          case hp_5 => exact ⟨FK.rk hkd hM, FK.co hM, by left; omega, by omega, hcx, (hco.ext (fun j hj => ho _ (by omega))).2.1 _ hcy⟩
          rintro v σ sz1 ⟨g1, hM1, hF1, rfl, hfd1, rfl⟩
          have hM := FK.jrk hkd hM hF1 hM1
          have hF := hF.trans (hF1.mono (Nat.le_add_right _ _) (by omega))
          refine S_aload (q := 133) hX dX11_heat_131 rfl rfl ?_
          refine S_aload_n (q := 134) hX dX11_heat_133 rfl rfl ?_
          refine S_getf (fs := ?fs_6) (v := ?v_6) (q := 137) hX u_295 fo_X11_air dX11_heat_134 ?hs_6 ?hv_6 rfl ?_
          case hs_6 => with_reducible first | exact FK.c0 hM | exact FK.c1 hM | exact FK.c2 hM | exact FK.c7 hM | exact FK.c129 hM | exact FK.c3 hM | exact FK.c4 hM | exact FK.c5 hM | exact FK.c6 hM | exact FK.c39 hM | exact FK.c40 hM | exact FK.c41 hM | exact FK.c42 hM | exact FK.c43 hM | exact FK.c128 hM | exact FK.c136 hM | exact FK.c137 hM | exact FK.c173 hM | exact FK.c174 hM | exact FK.c175 hM | exact FK.c176 hM | exact FK.c177 hM | exact FK.c178 hM | exact RK.c0 (FK.rk hkd hM) | exact RK.c1 (FK.rk hkd hM)
          case hv_6 => rfl
          refine S_iload (q := 139) hX dX11_heat_137 rfl rfl ?_
          refine S_callK (q := 142) 0 0 (hkd) hX (c_X3_listen (q + (138 + 7 * (tN x))) (fun j => (spl μ (138 + 7 * tN x) 7 g1) (138 + 7 * (tN x) + j)) (tN x) (q + 178) 60 (tN u) _ ((spl μ (138 + 7 * tN x) 7 g1) 178) (htS (tN s)) (S.1.1.2.1 (tN y)) (eu)) rfl ?hs_7 u_536 u_539 u_537 u_6 u_544 u_538 u_542 u_541 u_543 u_540 ⟨by decide, by decide, rfl⟩ ⟨Nat.le_of_ble_eq_true rfl, Nat.le_of_ble_eq_true rfl⟩ ⟨Nat.le_of_ble_eq_true rfl, Nat.le_of_ble_eq_true rfl⟩ (Nat.le_of_ble_eq_true rfl) dX11_heat_139 ?hp_7 rfl rfl rfl ?_
          case hs_7 => exact ⟨_, (FK.rk hkd hM).c0⟩
          case hp_7 =>
            refine ⟨FK.rk hkd hM, hkd, hfd1.sp, hcx, by omega, by omega, by decide, FK.c178 hM, by right; omega, ?_⟩
            intro i hi
            rw [spl_out (by omega)]
            exact ⟨hg i (by omega), htS_lt _ _⟩
          rintro v σ sz1 ⟨g2, hM2, hF2, rfl, hL2, rfl⟩
          have hM := FK.jrk hkd hM hF2 hM2
          have hF := hF.trans (hF2.mono (Nat.le_add_right _ _) (by omega))
          refine S_aload (q := 144) hX dX11_heat_142 rfl rfl ?_
          refine S_iload_n (q := 145) hX dX11_heat_144 rfl rfl ?_
          refine S_callK (q := 148) 0 0 (hkd) hX (c_X3_timesOf (q + (138 + 7 * tN x)) (fun j => spl (spl μ (138 + 7 * tN x) 7 g1) (138 + 7 * tN x) 7 g2 (138 + 7 * tN x + j)) (tN x) _ (tN z) (rdK (tN x) (htS (tN s)) (tN u) (S.1.1.2.1 (tN y))) ez) rfl ?hs_8 u_703 u_706 u_704 u_6 u_711 u_705 u_709 u_708 u_710 u_707 ⟨by decide, by decide, rfl⟩ ⟨Nat.le_of_ble_eq_true rfl, Nat.le_of_ble_eq_true rfl⟩ ⟨Nat.le_of_ble_eq_true rfl, Nat.le_of_ble_eq_true rfl⟩ (Nat.le_of_ble_eq_true rfl) dX11_heat_145 ?hp_8 rfl rfl rfl ?_
          case hs_8 => exact ⟨_, (FK.rk hkd hM).c0⟩
          case hp_8 =>
            have ht := (LisP.sp (f := spl μ (138 + 7 * tN x) 7 g1) (d := 138 + 7 * tN x) hL2).tm hcx
            exact ⟨FK.rk hkd hM, ht.1, by have := ht.2.1; omega, ht.2.2.1, by omega, ht.2.2.2⟩
          rintro v σ1 sz1 ⟨rfl, rfl, rfl⟩
          refine S_iret hX dX11_heat_148 (Nat.zero_le _) (Nat.zero_le _) ?_
          refine hP _ _ _ ?_
          rw [hsp]
          exact ⟨_, hM, hF, rfl, hR.scr ok (fun j hj => by rw [spl_out (by omega), spl_out (by omega)]; exact ho j (by omega)), rfl⟩
        · have hlt : k < tN u := by rw [eu, nI_leI (by omega) (by omega)] at c67; omega
          refine S_lload (q := 72) hX dX11_heat_70 rfl rfl ?_
          refine S_ldc2 (q := 75) hX u_729 dX11_heat_72 rfl ?_
          refine S_lmul (q := 76) hX dX11_heat_75 rfl ?_
          refine S_ldc2 (q := 79) hX u_730 dX11_heat_76 rfl ?_
          refine S_ladd (q := 80) hX dX11_heat_79 rfl ?_
          refine S_ldc2 (q := 83) hX u_731 dX11_heat_80 rfl ?_
          refine S_lrem (q := 84) hX dX11_heat_83 (by decide) rfl ?_
          refine S_topl (l_lcg2 hl) ?_
          refine S_lstore (q := 86) [_, _, _, _, _, _, _, _, _] hX dX11_heat_84 rfl (Nat.le_of_ble_eq_true rfl) rfl rfl ?_
          refine S_aload_n (q := 87) hX dX11_heat_86 rfl rfl ?_
          refine S_getf (fs := ?fs_9) (v := ?v_9) (q := 90) hX u_295 fo_X11_air dX11_heat_87 ?hs_9 ?hv_9 rfl ?_
          case hs_9 => with_reducible first | exact FK.c0 hM | exact FK.c1 hM | exact FK.c2 hM | exact FK.c7 hM | exact FK.c129 hM | exact FK.c3 hM | exact FK.c4 hM | exact FK.c5 hM | exact FK.c6 hM | exact FK.c39 hM | exact FK.c40 hM | exact FK.c41 hM | exact FK.c42 hM | exact FK.c43 hM | exact FK.c128 hM | exact FK.c136 hM | exact FK.c137 hM | exact FK.c173 hM | exact FK.c174 hM | exact FK.c175 hM | exact FK.c176 hM | exact FK.c177 hM | exact FK.c178 hM | exact RK.c0 (FK.rk hkd hM) | exact RK.c1 (FK.rk hkd hM)
          case hv_9 => rfl
          refine S_iload (q := 92) hX dX11_heat_90 rfl rfl ?_
          refine S_lload (q := 94) hX dX11_heat_92 rfl rfl ?_
          refine S_ldc2 (q := 97) hX u_732 dX11_heat_94 rfl ?_
          refine S_ldiv (q := 98) hX dX11_heat_97 (by decide) rfl ?_
          refine S_ldc2 (q := 101) hX u_733 dX11_heat_98 rfl ?_
          refine S_lrem (q := 102) hX dX11_heat_101 (by decide) rfl ?_
          refine S_l2i (q := 103) hX dX11_heat_102 rfl ?_
          refine S_nm (fun x103 hx103 => ?_)
          refine S_iast (N := ?n_10) (f := ?f_10) (q := 104) hX dX11_heat_103 ?hs_10 ?hi_10 rfl ?_
          case hs_10 => with_reducible first | exact FK.c0 hM | exact FK.c1 hM | exact FK.c2 hM | exact FK.c7 hM | exact FK.c129 hM | exact FK.c3 hM | exact FK.c4 hM | exact FK.c5 hM | exact FK.c6 hM | exact FK.c39 hM | exact FK.c40 hM | exact FK.c41 hM | exact FK.c42 hM | exact FK.c43 hM | exact FK.c128 hM | exact FK.c136 hM | exact FK.c137 hM | exact FK.c173 hM | exact FK.c174 hM | exact FK.c175 hM | exact FK.c176 hM | exact FK.c177 hM | exact FK.c178 hM | exact RK.c0 (FK.rk hkd hM) | exact RK.c1 (FK.rk hkd hM)
          case hi_10 => exact vp_in_nI (by omega) (by decide)
          refine S_stu (q0 := q) (j := 178) (i := _) hM hF (by decide) rfl (fun σ μ103 e103 hM hF => ?_)
          subst hx103
          refine S_iinc (q := 107) [_, _, _, _, _, _, _, _, _] hX dX11_heat_104 rfl (ii_1 _) rfl (Nat.le_of_ble_eq_true rfl) rfl rfl ?_
          refine S_goto 63 hX dX11_heat_107 rfl ?_
          rw [nI_clamp (by omega)] at e103
          rw [nI_1]
          refine ih (k + 1) _ μ103 hlt (by omega) (fun j hj => by rw [e103, m2_o hj]; exact ho j hj) (fun i hi => ?_) hM hF
          rw [e103, m2_at]
          by_cases hik : i = k
          · rw [if_pos ⟨rfl, hik⟩, hik]; exact l_ht2 (lcgN_lt hsd _)
          · rw [if_neg (fun z => hik z.2)]; exact hg i (by omega)
  refine S_iload_n (q := 1) hX dX11_heat_0 rfl rfl ?_
  refine S_callS (q := 4) 0 0 hX (c_X11_isKind _) rfl u_518 u_519 u_1 u_520 ⟨by decide, by decide, rfl⟩ ⟨Nat.le_of_ble_eq_true rfl, Nat.le_of_ble_eq_true rfl⟩ ⟨Nat.le_of_ble_eq_true rfl, Nat.le_of_ble_eq_true rfl⟩ (Nat.le_of_ble_eq_true rfl) dX11_heat_1 ?hp_11 rfl rfl rfl ?_
  case hp_11 => trivial
  rintro v σ1 sz1 ⟨rfl, rfl, rfl⟩
  refine S_if_eq_b (q := 7) 46 hX dX11_heat_4 rfl rfl (fun c4 => ?_) (fun c4 => ?_)
  · refine S_aload_n (q := 47) hX dX11_heat_46 rfl rfl ?_
    refine S_bipush (q := 49) (v := (-2)) hX dX11_heat_47 bp_m2 rfl ?_
    refine S_bipush (q := 51) (v := (-2)) hX dX11_heat_49 bp_m2 rfl ?_
    refine S_callV (ci := 11) (C := "FanTalk") (T := TX11) (N := 11) (q := 54) 0 0 hX (c_X11_refused q γ _ _ 0 (by decide)) rfl ?hs_12 rfl u_323 u_325 us_0 u_1 u_326 ⟨by decide, by decide, rfl⟩ ⟨Nat.le_of_ble_eq_true rfl, Nat.le_of_ble_eq_true rfl⟩ ⟨Nat.le_of_ble_eq_true rfl, Nat.le_of_ble_eq_true rfl⟩ (Nat.le_of_ble_eq_true rfl) dX11_heat_51 ?hp_12 rfl rfl rfl ?_
    case hs_12 => first | with_reducible assumption | exact ⟨_, FK.c0 hM⟩ | exact ⟨_, FK.c2 hM⟩ | exact ⟨_, FK.c7 hM⟩ | exact ⟨_, FK.c129 hM⟩ | exact ⟨_, FK.c173 hM⟩ | exact ⟨_, FK.c1 hM⟩
    case hp_12 => exact ⟨hM, by decide⟩
    rintro v σ sz1 ⟨μ9, hM, hF1, rfl, e9, rfl⟩
    have hF := hF.trans hF1
    refine S_iret hX dX11_heat_54 (Nat.zero_le _) (Nat.zero_le _) ?_
    refine hP _ _ _ ?_
    have hsp : sp_heat S x y z u s = (-2, rfS S 0) := by unfold sp_heat; rw [if_pos (Or.inl c4)]
    rw [hsp]
    exact ⟨_, hM, hF, rfl, hR.rf ok e9, rfl⟩
  · have cx := tN_ex c4.1
    have hkd : tN x < 5 := by have := c4.2; omega
    refine S_aload_n (q := 8) hX dX11_heat_7 rfl rfl ?_
    refine S_iload_n (q := 9) hX dX11_heat_8 rfl rfl ?_
    refine S_callV (ci := 11) (C := "FanTalk") (T := TX11) (N := 11) (q := 12) 0 0 hX (c_X11_isCode q γ S _) rfl ?hs_13 rfl u_338 u_340 us_1 u_1 u_341 ⟨by decide, by decide, rfl⟩ ⟨Nat.le_of_ble_eq_true rfl, Nat.le_of_ble_eq_true rfl⟩ ⟨Nat.le_of_ble_eq_true rfl, Nat.le_of_ble_eq_true rfl⟩ (Nat.le_of_ble_eq_true rfl) dX11_heat_9 ?hp_13 rfl rfl rfl ?_
    case hs_13 => first | with_reducible assumption | exact ⟨_, FK.c0 hM⟩ | exact ⟨_, FK.c2 hM⟩ | exact ⟨_, FK.c7 hM⟩ | exact ⟨_, FK.c129 hM⟩ | exact ⟨_, FK.c173 hM⟩ | exact ⟨_, FK.c1 hM⟩
    case hp_13 => exact ⟨hM, hR, ok⟩
    rintro v σ1 sz1 ⟨rfl, rfl, rfl⟩
    refine S_if_eq_b (q := 15) 46 hX dX11_heat_12 rfl rfl (fun c12 => ?_) (fun c12 => ?_)
    · refine S_aload_n (q := 47) hX dX11_heat_46 rfl rfl ?_
      refine S_bipush (q := 49) (v := (-2)) hX dX11_heat_47 bp_m2 rfl ?_
      refine S_bipush (q := 51) (v := (-2)) hX dX11_heat_49 bp_m2 rfl ?_
      refine S_callV (ci := 11) (C := "FanTalk") (T := TX11) (N := 11) (q := 54) 0 0 hX (c_X11_refused q γ _ _ 0 (by decide)) rfl ?hs_14 rfl u_323 u_325 us_0 u_1 u_326 ⟨by decide, by decide, rfl⟩ ⟨Nat.le_of_ble_eq_true rfl, Nat.le_of_ble_eq_true rfl⟩ ⟨Nat.le_of_ble_eq_true rfl, Nat.le_of_ble_eq_true rfl⟩ (Nat.le_of_ble_eq_true rfl) dX11_heat_51 ?hp_14 rfl rfl rfl ?_
      case hs_14 => first | with_reducible assumption | exact ⟨_, FK.c0 hM⟩ | exact ⟨_, FK.c2 hM⟩ | exact ⟨_, FK.c7 hM⟩ | exact ⟨_, FK.c129 hM⟩ | exact ⟨_, FK.c173 hM⟩ | exact ⟨_, FK.c1 hM⟩
      case hp_14 => exact ⟨hM, by decide⟩
      rintro v σ sz1 ⟨μ9, hM, hF1, rfl, e9, rfl⟩
      have hF := hF.trans hF1
      refine S_iret hX dX11_heat_54 (Nat.zero_le _) (Nat.zero_le _) ?_
      refine hP _ _ _ ?_
      have hsp : sp_heat S x y z u s = (-2, rfS S 0) := by unfold sp_heat; rw [if_pos (Or.inr (Or.inl c12))]
      rw [hsp]
      exact ⟨_, hM, hF, rfl, hR.rf ok e9, rfl⟩
    · have cy := okc.ex c12
      refine S_iload_n (q := 16) hX dX11_heat_15 rfl rfl ?_
      refine S_callS (q := 19) 0 0 hX (c_X11_isWord _) rfl u_342 u_343 u_1 u_344 ⟨by decide, by decide, rfl⟩ ⟨Nat.le_of_ble_eq_true rfl, Nat.le_of_ble_eq_true rfl⟩ ⟨Nat.le_of_ble_eq_true rfl, Nat.le_of_ble_eq_true rfl⟩ (Nat.le_of_ble_eq_true rfl) dX11_heat_16 ?hp_15 rfl rfl rfl ?_
      case hp_15 => trivial
      rintro v σ1 sz1 ⟨rfl, rfl, rfl⟩
      refine S_if_eq_b (q := 22) 46 hX dX11_heat_19 rfl rfl (fun c19 => ?_) (fun c19 => ?_)
      · refine S_aload_n (q := 47) hX dX11_heat_46 rfl rfl ?_
        refine S_bipush (q := 49) (v := (-2)) hX dX11_heat_47 bp_m2 rfl ?_
        refine S_bipush (q := 51) (v := (-2)) hX dX11_heat_49 bp_m2 rfl ?_
        refine S_callV (ci := 11) (C := "FanTalk") (T := TX11) (N := 11) (q := 54) 0 0 hX (c_X11_refused q γ _ _ 0 (by decide)) rfl ?hs_16 rfl u_323 u_325 us_0 u_1 u_326 ⟨by decide, by decide, rfl⟩ ⟨Nat.le_of_ble_eq_true rfl, Nat.le_of_ble_eq_true rfl⟩ ⟨Nat.le_of_ble_eq_true rfl, Nat.le_of_ble_eq_true rfl⟩ (Nat.le_of_ble_eq_true rfl) dX11_heat_51 ?hp_16 rfl rfl rfl ?_
        case hs_16 => first | with_reducible assumption | exact ⟨_, FK.c0 hM⟩ | exact ⟨_, FK.c2 hM⟩ | exact ⟨_, FK.c7 hM⟩ | exact ⟨_, FK.c129 hM⟩ | exact ⟨_, FK.c173 hM⟩ | exact ⟨_, FK.c1 hM⟩
        case hp_16 => exact ⟨hM, by decide⟩
        rintro v σ sz1 ⟨μ9, hM, hF1, rfl, e9, rfl⟩
        have hF := hF.trans hF1
        refine S_iret hX dX11_heat_54 (Nat.zero_le _) (Nat.zero_le _) ?_
        refine hP _ _ _ ?_
        have hsp : sp_heat S x y z u s = (-2, rfS S 0) := by unfold sp_heat; rw [if_pos (Or.inr (Or.inr (Or.inl c19)))]
        rw [hsp]
        exact ⟨_, hM, hF, rfl, hR.rf ok e9, rfl⟩
      · have cz := tN_ex c19.1
        have hwd : tN z < 10 := by have := c19.2; omega
        refine S_iload (q := 24) hX dX11_heat_22 rfl rfl ?_
        refine S_if_lt (q := 27) 46 hX dX11_heat_24 rfl rfl (fun c24 => ?_) (fun c24 => ?_)
        · have k24 := c24
          rw [lt_i, show ((0 : Int32)).toInt = 0 by decide] at k24
          refine S_aload_n (q := 47) hX dX11_heat_46 rfl rfl ?_
          refine S_bipush (q := 49) (v := (-2)) hX dX11_heat_47 bp_m2 rfl ?_
          refine S_bipush (q := 51) (v := (-2)) hX dX11_heat_49 bp_m2 rfl ?_
          refine S_callV (ci := 11) (C := "FanTalk") (T := TX11) (N := 11) (q := 54) 0 0 hX (c_X11_refused q γ _ _ 0 (by decide)) rfl ?hs_17 rfl u_323 u_325 us_0 u_1 u_326 ⟨by decide, by decide, rfl⟩ ⟨Nat.le_of_ble_eq_true rfl, Nat.le_of_ble_eq_true rfl⟩ ⟨Nat.le_of_ble_eq_true rfl, Nat.le_of_ble_eq_true rfl⟩ (Nat.le_of_ble_eq_true rfl) dX11_heat_51 ?hp_17 rfl rfl rfl ?_
          case hs_17 => first | with_reducible assumption | exact ⟨_, FK.c0 hM⟩ | exact ⟨_, FK.c2 hM⟩ | exact ⟨_, FK.c7 hM⟩ | exact ⟨_, FK.c129 hM⟩ | exact ⟨_, FK.c173 hM⟩ | exact ⟨_, FK.c1 hM⟩
          case hp_17 => exact ⟨hM, by decide⟩
          rintro v σ sz1 ⟨μ9, hM, hF1, rfl, e9, rfl⟩
          have hF := hF.trans hF1
          refine S_iret hX dX11_heat_54 (Nat.zero_le _) (Nat.zero_le _) ?_
          refine hP _ _ _ ?_
          have hsp : sp_heat S x y z u s = (-2, rfS S 0) := by unfold sp_heat; rw [if_pos (Or.inr (Or.inr (Or.inr (Or.inl (fun w => by have := w.1; have := w.2; omega)))))]
          rw [hsp]
          exact ⟨_, hM, hF, rfl, hR.rf ok e9, rfl⟩
        · have k24 := c24
          rw [lt_i, show ((0 : Int32)).toInt = 0 by decide] at k24
          refine S_iload (q := 29) hX dX11_heat_27 rfl rfl ?_
          refine S_bipush (q := 31) (v := 60) hX dX11_heat_29 bp_60 rfl ?_
          refine S_icmp_gt (q := 34) 46 hX dX11_heat_31 rfl rfl (fun c31 => ?_) (fun c31 => ?_)
          · have k31 := c31
            rw [lt_i, show ((60 : Int32)).toInt = 60 by decide] at k31
            refine S_aload_n (q := 47) hX dX11_heat_46 rfl rfl ?_
            refine S_bipush (q := 49) (v := (-2)) hX dX11_heat_47 bp_m2 rfl ?_
            refine S_bipush (q := 51) (v := (-2)) hX dX11_heat_49 bp_m2 rfl ?_
            refine S_callV (ci := 11) (C := "FanTalk") (T := TX11) (N := 11) (q := 54) 0 0 hX (c_X11_refused q γ _ _ 0 (by decide)) rfl ?hs_18 rfl u_323 u_325 us_0 u_1 u_326 ⟨by decide, by decide, rfl⟩ ⟨Nat.le_of_ble_eq_true rfl, Nat.le_of_ble_eq_true rfl⟩ ⟨Nat.le_of_ble_eq_true rfl, Nat.le_of_ble_eq_true rfl⟩ (Nat.le_of_ble_eq_true rfl) dX11_heat_51 ?hp_18 rfl rfl rfl ?_
            case hs_18 => first | with_reducible assumption | exact ⟨_, FK.c0 hM⟩ | exact ⟨_, FK.c2 hM⟩ | exact ⟨_, FK.c7 hM⟩ | exact ⟨_, FK.c129 hM⟩ | exact ⟨_, FK.c173 hM⟩ | exact ⟨_, FK.c1 hM⟩
            case hp_18 => exact ⟨hM, by decide⟩
            rintro v σ sz1 ⟨μ9, hM, hF1, rfl, e9, rfl⟩
            have hF := hF.trans hF1
            refine S_iret hX dX11_heat_54 (Nat.zero_le _) (Nat.zero_le _) ?_
            refine hP _ _ _ ?_
            have hsp : sp_heat S x y z u s = (-2, rfS S 0) := by unfold sp_heat; rw [if_pos (Or.inr (Or.inr (Or.inr (Or.inl (fun w => by have := w.1; have := w.2; omega)))))]
            rw [hsp]
            exact ⟨_, hM, hF, rfl, hR.rf ok e9, rfl⟩
          · have k31 := c31
            rw [lt_i, show ((60 : Int32)).toInt = 60 by decide] at k31
            refine S_iload (q := 36) hX dX11_heat_34 rfl rfl ?_
            refine S_if_lt (q := 39) 46 hX dX11_heat_36 rfl rfl (fun c36 => ?_) (fun c36 => ?_)
            · have k36 := c36
              rw [lt_i, show ((0 : Int32)).toInt = 0 by decide] at k36
              refine S_aload_n (q := 47) hX dX11_heat_46 rfl rfl ?_
              refine S_bipush (q := 49) (v := (-2)) hX dX11_heat_47 bp_m2 rfl ?_
              refine S_bipush (q := 51) (v := (-2)) hX dX11_heat_49 bp_m2 rfl ?_
              refine S_callV (ci := 11) (C := "FanTalk") (T := TX11) (N := 11) (q := 54) 0 0 hX (c_X11_refused q γ _ _ 0 (by decide)) rfl ?hs_19 rfl u_323 u_325 us_0 u_1 u_326 ⟨by decide, by decide, rfl⟩ ⟨Nat.le_of_ble_eq_true rfl, Nat.le_of_ble_eq_true rfl⟩ ⟨Nat.le_of_ble_eq_true rfl, Nat.le_of_ble_eq_true rfl⟩ (Nat.le_of_ble_eq_true rfl) dX11_heat_51 ?hp_19 rfl rfl rfl ?_
              case hs_19 => first | with_reducible assumption | exact ⟨_, FK.c0 hM⟩ | exact ⟨_, FK.c2 hM⟩ | exact ⟨_, FK.c7 hM⟩ | exact ⟨_, FK.c129 hM⟩ | exact ⟨_, FK.c173 hM⟩ | exact ⟨_, FK.c1 hM⟩
              case hp_19 => exact ⟨hM, by decide⟩
              rintro v σ sz1 ⟨μ9, hM, hF1, rfl, e9, rfl⟩
              have hF := hF.trans hF1
              refine S_iret hX dX11_heat_54 (Nat.zero_le _) (Nat.zero_le _) ?_
              refine hP _ _ _ ?_
              have hsp : sp_heat S x y z u s = (-2, rfS S 0) := by unfold sp_heat; rw [if_pos (Or.inr (Or.inr (Or.inr (Or.inr (fun w => by have := w.1; have := w.2; omega)))))]
              rw [hsp]
              exact ⟨_, hM, hF, rfl, hR.rf ok e9, rfl⟩
            · have k36 := c36
              rw [lt_i, show ((0 : Int32)).toInt = 0 by decide] at k36
              refine S_iload (q := 41) hX dX11_heat_39 rfl rfl ?_
              refine S_ldc (q := 43) hX u_728 dX11_heat_41 rfl ?_
              refine S_icmp_le (q := 46) 55 hX dX11_heat_43 rfl rfl (fun c43 => ?_) (fun c43 => ?_)
              · have k43 := c43
                rw [le_i, show ((999999 : Int32)).toInt = 999999 by decide] at k43
                refine S_iload (q := 57) hX dX11_heat_55 rfl rfl ?_
                refine S_i2l (q := 58) hX dX11_heat_57 rfl ?_
                have cs := tN_ex (x := s) (by omega)
                refine S_topl (show s.toInt64 = lN (lcgN (tN s) 0) by rw [lcgN_0, ← nI_l cs.2.1, ← cs.1]) ?_
                refine S_lstore (q := 60) [_, _, _, _, _, _, _, _, _] hX dX11_heat_58 rfl (Nat.le_of_ble_eq_true rfl) rfl rfl ?_
                refine S_iconst (q := 61) (v := 0) hX dX11_heat_60 ic_0 rfl ?_
                refine S_istore (q := 63) [_, _, _, _, _, _, _, _, _] hX dX11_heat_61 rfl (Nat.le_of_ble_eq_true rfl) rfl rfl ?_
                have cu := tN_ex (x := u) (by omega)
                refine l63 (by unfold sp_heat; rw [if_neg (by rintro (w | w | w | w | w); exact w c4; exact w c12; exact w c19; exact w ⟨by omega, by omega⟩; exact w ⟨by omega, by omega⟩)]) cx.1 cy.1 cz.1 cu.1 hkd cy.2.1 hwd (by omega) (by omega) 61 0 _ γ (Nat.zero_le _) (by omega) (fun j _ => rfl) (fun i hi => absurd hi (Nat.not_lt_zero _)) hM hF
              · have k43 := c43
                rw [le_i, show ((999999 : Int32)).toInt = 999999 by decide] at k43
                refine S_aload_n (q := 47) hX dX11_heat_46 rfl rfl ?_
                refine S_bipush (q := 49) (v := (-2)) hX dX11_heat_47 bp_m2 rfl ?_
                refine S_bipush (q := 51) (v := (-2)) hX dX11_heat_49 bp_m2 rfl ?_
                refine S_callV (ci := 11) (C := "FanTalk") (T := TX11) (N := 11) (q := 54) 0 0 hX (c_X11_refused q γ _ _ 0 (by decide)) rfl ?hs_20 rfl u_323 u_325 us_0 u_1 u_326 ⟨by decide, by decide, rfl⟩ ⟨Nat.le_of_ble_eq_true rfl, Nat.le_of_ble_eq_true rfl⟩ ⟨Nat.le_of_ble_eq_true rfl, Nat.le_of_ble_eq_true rfl⟩ (Nat.le_of_ble_eq_true rfl) dX11_heat_51 ?hp_20 rfl rfl rfl ?_
                case hs_20 => first | with_reducible assumption | exact ⟨_, FK.c0 hM⟩ | exact ⟨_, FK.c2 hM⟩ | exact ⟨_, FK.c7 hM⟩ | exact ⟨_, FK.c129 hM⟩ | exact ⟨_, FK.c173 hM⟩ | exact ⟨_, FK.c1 hM⟩
                case hp_20 => exact ⟨hM, by decide⟩
                rintro v σ sz1 ⟨μ9, hM, hF1, rfl, e9, rfl⟩
                have hF := hF.trans hF1
                refine S_iret hX dX11_heat_54 (Nat.zero_le _) (Nat.zero_le _) ?_
                refine hP _ _ _ ?_
                have hsp : sp_heat S x y z u s = (-2, rfS S 0) := by unfold sp_heat; rw [if_pos (Or.inr (Or.inr (Or.inr (Or.inr (fun w => by have := w.1; have := w.2; omega)))))]
                rw [hsp]
                exact ⟨_, hM, hF, rfl, hR.rf ok e9, rfl⟩
theorem c_X11_isSafe (q : Nat) (γ : MF) (S : ST) (C : CodT) (x y : Int32) (r wd : Nat) (hx : x = nI r) (hy : y = nI wd) : CT_X11_isSafe [.ref q, .int x, .int y] (fun Γ σ sz => FK σ q γ ∧ FR γ S ∧ StOk S ∧ FdC (fun j => γ (138 + 7 * 0 + j)) C ∧ CodOk C ∧ 1 ≤ ln r ∧ ln r ≤ 3 ∧ r < 2147483648 ∧ wd < 10) (fun Γ σ sz v σ' sz' => ∃ γ', FK σ' q γ' ∧ Fr q (q + 179) σ σ' ∧ v = some (.int (bP (∀ d, d < 2 ^ ln r → ∀ w ∈ rdR 0 d r C, w = wd))) ∧ ((∀ j, j < 137 → γ' j = γ j) ∧ FdC (fun j => γ' (138 + 7 * 0 + j)) C) ∧ sz' = sz) := by
  refine CT.mkP rfl (Nat.le_of_ble_eq_true rfl) [_, _, _, _, _, _] rfl ?_
  intro X Γ σ sz P hX hpre hsz hP
  obtain ⟨hM, hR, ok, hfd, hC, hl1, hl3, hr, hwd⟩ := hpre
  subst hx
  subst hy
  obtain ⟨σ0, eσ0⟩ : ∃ z, z = σ := ⟨σ, rfl⟩
  rw [← eσ0] at hP
  have hF : Fr q (q + 179) σ0 σ := by rw [eσ0]; exact Fr.rf
  have hkd : 0 < 5 := by decide
  have h8 := two_pow3 hl3
  have l26 : ∀ (fl d : Nat) (σ : Sg) (μ : MF), d ≤ 2 ^ ln r → 2 ^ ln r - d < fl → (∀ j, j < 137 → μ j = γ j) → FdC (fun j => μ (138 + 7 * 0 + j)) C → (∀ i, i < ln r → μ 177 i = nI (stN r (ln r) i)) → (∀ e, e < d → ∀ w ∈ rdR 0 e r C, w = wd) → FK σ q μ → Fr q (q + 179) σ0 σ → G X Γ P 0 0 26 [some (.ref q), some (.int (nI r)), some (.int (nI wd)), some (.int (nI (ln r))), some (.ref (q + (138 + 7 * 0))), some (.int (nI d))] [] σ sz := by
    intro fl
    induction fl with
      | zero => intro d σ μ h1 h2; omega
      | succ fl ih =>
        intro d σ μ hd hfu ho hfd hsl hal hM hF
        refine S_iload (q := 28) hX dX11_isSafe_26 rfl rfl ?_
        refine S_iconst (q := 29) (v := 1) hX dX11_isSafe_28 ic_1 rfl ?_
        refine S_iload_n (q := 30) hX dX11_isSafe_29 rfl rfl ?_
        refine S_ishl (q := 31) hX dX11_isSafe_30 rfl ?_
        refine S_icmp_ge (q := 34) 80 hX dX11_isSafe_31 rfl rfl (fun c31 => ?_) (fun c31 => ?_)
        · have hge : d = 2 ^ ln r := by rw [sh_pow (by omega), nI_leI (by omega) (by omega)] at c31; omega
          refine S_iconst (q := 81) (v := 1) hX dX11_isSafe_80 ic_1 rfl ?_
          refine S_xret hX dX11_isSafe_81 (Nat.zero_le _) (Nat.zero_le _) (by decide) ?_
          refine hP _ _ _ ?_
          exact ⟨_, hM, hF, by rw [bP_t (fun e he => hal e (by omega))], ⟨ho, hfd⟩, rfl⟩
        · have hlt : d < 2 ^ ln r := by rw [sh_pow (by omega), nI_leI (by omega) (by omega)] at c31; omega
          refine S_aload_n (q := 35) hX dX11_isSafe_34 rfl rfl ?_
          refine S_getf (fs := ?fs_1) (v := ?v_1) (q := 38) hX u_294 fo_X11_spelt dX11_isSafe_35 ?hs_1 ?hv_1 rfl ?_
          case hs_1 => with_reducible first | exact FK.c0 hM | exact FK.c1 hM | exact FK.c2 hM | exact FK.c7 hM | exact FK.c129 hM | exact FK.c3 hM | exact FK.c4 hM | exact FK.c5 hM | exact FK.c6 hM | exact FK.c39 hM | exact FK.c40 hM | exact FK.c41 hM | exact FK.c42 hM | exact FK.c43 hM | exact FK.c128 hM | exact FK.c136 hM | exact FK.c137 hM | exact FK.c173 hM | exact FK.c174 hM | exact FK.c175 hM | exact FK.c176 hM | exact FK.c177 hM | exact FK.c178 hM | exact RK.c0 (FK.rk hkd hM) | exact RK.c1 (FK.rk hkd hM)
          case hv_1 => rfl
          refine S_iload_n (q := 39) hX dX11_isSafe_38 rfl rfl ?_
          refine S_iload (q := 41) hX dX11_isSafe_39 rfl rfl ?_
          refine S_aload_n (q := 42) hX dX11_isSafe_41 rfl rfl ?_
          refine S_getf (fs := ?fs_2) (v := ?v_2) (q := 45) hX u_292 fo_X11_drawn dX11_isSafe_42 ?hs_2 ?hv_2 rfl ?_
          case hs_2 => with_reducible first | exact FK.c0 hM | exact FK.c1 hM | exact FK.c2 hM | exact FK.c7 hM | exact FK.c129 hM | exact FK.c3 hM | exact FK.c4 hM | exact FK.c5 hM | exact FK.c6 hM | exact FK.c39 hM | exact FK.c40 hM | exact FK.c41 hM | exact FK.c42 hM | exact FK.c43 hM | exact FK.c128 hM | exact FK.c136 hM | exact FK.c137 hM | exact FK.c173 hM | exact FK.c174 hM | exact FK.c175 hM | exact FK.c176 hM | exact FK.c177 hM | exact FK.c178 hM | exact RK.c0 (FK.rk hkd hM) | exact RK.c1 (FK.rk hkd hM)
          case hv_2 => rfl
          refine S_callS (q := 48) 0 0 hX (c_X7_draw _ _ (q + 177) (q + 175) 6 6 (ln r) d (μ 177) (μ 175) (stN r (ln r)) rfl rfl) rfl u_511 u_512 u_13 u_513 ⟨by decide, by decide, rfl⟩ ⟨Nat.le_of_ble_eq_true rfl, Nat.le_of_ble_eq_true rfl⟩ ⟨Nat.le_of_ble_eq_true rfl, Nat.le_of_ble_eq_true rfl⟩ (Nat.le_of_ble_eq_true rfl) dX11_isSafe_45 ?hp_3 rfl rfl rfl ?_
          case hp_3 => exact ⟨FK.c177 hM, FK.c175 hM, by omega, by omega, by omega, by omega, by decide, by decide, by omega, fun i hi => ⟨hsl i hi, stN_lt _ _ _⟩⟩
          rintro v σ1 sz1 ⟨gd, rfl, rfl, hgd, rfl⟩
          have hM := hM.st (j := 175) (g := gd) (e := ia 6 gd) (by decide) rfl
          have hF := hF.su (a := q + 175) (e := ia 6 gd) (by omega)
          refine S_aload (q := 50) hX dX11_isSafe_48 rfl rfl ?_
          refine S_aload_n (q := 51) hX dX11_isSafe_50 rfl rfl ?_
          refine S_getf (fs := ?fs_4) (v := ?v_4) (q := 54) hX u_292 fo_X11_drawn dX11_isSafe_51 ?hs_4 ?hv_4 rfl ?_
          case hs_4 => with_reducible first | exact FK.c0 hM | exact FK.c1 hM | exact FK.c2 hM | exact FK.c7 hM | exact FK.c129 hM | exact FK.c3 hM | exact FK.c4 hM | exact FK.c5 hM | exact FK.c6 hM | exact FK.c39 hM | exact FK.c40 hM | exact FK.c41 hM | exact FK.c42 hM | exact FK.c43 hM | exact FK.c128 hM | exact FK.c136 hM | exact FK.c137 hM | exact FK.c173 hM | exact FK.c174 hM | exact FK.c175 hM | exact FK.c176 hM | exact FK.c177 hM | exact FK.c178 hM | exact RK.c0 (FK.rk hkd hM) | exact RK.c1 (FK.rk hkd hM)
          case hv_4 => rfl
          refine S_iload_n (q := 55) hX dX11_isSafe_54 rfl rfl ?_
          refine S_callK (q := 58) 0 0 (hkd) hX (c_X3_listen (q + (138 + 7 * (0))) (fun j => (m1 μ 175 gd) (138 + 7 * (0) + j)) (0) (q + 175) 6 (ln r) _ ((m1 μ 175 gd) 175) (fun b => drw d (stN r (ln r) b) b) (C) (rfl)) rfl ?hs_5 u_536 u_539 u_537 u_6 u_544 u_538 u_542 u_541 u_543 u_540 ⟨by decide, by decide, rfl⟩ ⟨Nat.le_of_ble_eq_true rfl, Nat.le_of_ble_eq_true rfl⟩ ⟨Nat.le_of_ble_eq_true rfl, Nat.le_of_ble_eq_true rfl⟩ (Nat.le_of_ble_eq_true rfl) dX11_isSafe_55 ?hp_5 rfl rfl rfl ?_
          case hs_5 => exact ⟨_, (FK.rk hkd hM).c0⟩
          case hp_5 =>
            refine ⟨FK.rk hkd hM, hkd, hfd.ext (fun j hj => m1_ne (by omega)), hC, by omega, by omega, by decide, FK.c175 hM, by right; omega, ?_⟩
            intro i hi
            rw [m1_eq]
            exact ⟨hgd i hi, drw_lt (stN_lt _ _ _)⟩
          rintro v σ sz1 ⟨g2, hM2, hF2, rfl, hL2, rfl⟩
          have hM := FK.jrk hkd hM hF2 hM2
          have hF := hF.trans (hF2.mono (Nat.le_add_right _ _) (by omega))
          have ht := (LisP.sp (f := m1 μ 175 gd) (d := 138 + 7 * 0) hL2).tm hC
          have ht1 : spl (m1 μ 175 gd) (138 + 7 * 0) 7 g2 (138 + 7 * 0 + 0) 1 = nI (rdR 0 d r C).length := ht.1
          have ht6 : (rdR 0 d r C).length ≤ ln r := ht.2.1
          have ho' : ∀ j, j < 137 → spl (m1 μ 175 gd) (138 + 7 * 0) 7 g2 j = γ j := fun j hj => by rw [spl_out (by omega), m1_ne (by omega)]; exact ho j hj
          refine S_aload (q := 60) hX dX11_isSafe_58 rfl rfl ?_
          refine S_iload_n (q := 61) hX dX11_isSafe_60 rfl rfl ?_
          refine S_callK (q := 64) 0 0 (hkd) hX (c_X3_timesOf (q + (138 + 7 * 0)) (fun j => spl (m1 μ 175 gd) (138 + 7 * 0) 7 g2 (138 + 7 * 0 + j)) 0 _ (wd) (rdR 0 d r C) rfl) rfl ?hs_6 u_703 u_706 u_704 u_6 u_711 u_705 u_709 u_708 u_710 u_707 ⟨by decide, by decide, rfl⟩ ⟨Nat.le_of_ble_eq_true rfl, Nat.le_of_ble_eq_true rfl⟩ ⟨Nat.le_of_ble_eq_true rfl, Nat.le_of_ble_eq_true rfl⟩ (Nat.le_of_ble_eq_true rfl) dX11_isSafe_61 ?hp_6 rfl rfl rfl ?_
          case hs_6 => exact ⟨_, (FK.rk hkd hM).c0⟩
          case hp_6 => exact ⟨FK.rk hkd hM, ht.1, by have := ht.2.1; omega, ht.2.2.1, by omega, ht.2.2.2⟩
          rintro v σ1 sz1 ⟨rfl, rfl, rfl⟩
          refine S_aload (q := 66) hX dX11_isSafe_64 rfl rfl ?_
          refine S_getf (fs := ?fs_7) (v := ?v_7) (q := 69) hX u_181 (fo_F_heard (cik_F 0)) dX11_isSafe_66 ?hs_7 ?hv_7 rfl ?_
          case hs_7 => with_reducible first | exact FK.c0 hM | exact FK.c1 hM | exact FK.c2 hM | exact FK.c7 hM | exact FK.c129 hM | exact FK.c3 hM | exact FK.c4 hM | exact FK.c5 hM | exact FK.c6 hM | exact FK.c39 hM | exact FK.c40 hM | exact FK.c41 hM | exact FK.c42 hM | exact FK.c43 hM | exact FK.c128 hM | exact FK.c136 hM | exact FK.c137 hM | exact FK.c173 hM | exact FK.c174 hM | exact FK.c175 hM | exact FK.c176 hM | exact FK.c177 hM | exact FK.c178 hM | exact RK.c0 (FK.rk hkd hM) | exact RK.c1 (FK.rk hkd hM)
          case hv_7 => rfl
          refine S_icmp_ge (q := 72) 74 hX dX11_isSafe_69 rfl rfl (fun c69 => ?_) (fun c69 => ?_)
          · have hall : ∀ w ∈ rdR 0 d r C, w = wd := by
              have hc := List.count_le_length (a := wd) (l := rdR 0 d r C)
              have k := c69
              rw [ht1, nI_leI (by omega) (by omega)] at k
              exact fun w hw => (List.count_eq_length.mp (show (rdR 0 d r C).count wd = (rdR 0 d r C).length by omega) w hw).symm
            refine S_iinc (q := 77) [_, _, _, _, _, _] hX dX11_isSafe_74 rfl (ii_1 _) rfl (Nat.le_of_ble_eq_true rfl) rfl rfl ?_
            refine S_goto 26 hX dX11_isSafe_77 rfl ?_
            rw [nI_1]
            exact ih (d + 1) _ _ hlt (by omega) ho' (FdC.sp hL2.1) (fun i hi => by rw [spl_out (by omega), m1_ne (by decide)]; exact hsl i hi) (fun e he => by rcases Nat.lt_succ_iff_lt_or_eq.mp he with z | z; exact hal e z; rw [z]; exact hall) hM hF
          · have hall : ¬ ∀ w ∈ rdR 0 d r C, w = wd := fun h => by
              have hc := List.count_eq_length.mpr (fun w hw => (h w hw).symm : ∀ w ∈ rdR 0 d r C, wd = w)
              refine c69 ?_
              rw [ht1, hc]
              exact Int32.le_refl _
            refine S_iconst (q := 73) (v := 0) hX dX11_isSafe_72 ic_0 rfl ?_
            refine S_xret hX dX11_isSafe_73 (Nat.zero_le _) (Nat.zero_le _) (by decide) ?_
            refine hP _ _ _ ?_
            exact ⟨_, hM, hF, by rw [bP_f (fun w => hall (w d hlt))], ⟨ho', FdC.sp hL2.1⟩, rfl⟩
  refine S_iload_n (q := 1) hX dX11_isSafe_0 rfl rfl ?_
  refine S_callS (q := 4) 0 0 hX (c_X7_beats _) rfl u_335 u_336 u_13 u_337 ⟨by decide, by decide, rfl⟩ ⟨Nat.le_of_ble_eq_true rfl, Nat.le_of_ble_eq_true rfl⟩ ⟨Nat.le_of_ble_eq_true rfl, Nat.le_of_ble_eq_true rfl⟩ (Nat.le_of_ble_eq_true rfl) dX11_isSafe_1 ?hp_8 rfl rfl rfl ?_
  case hp_8 => trivial
  rintro v σ1 sz1 ⟨rfl, rfl, rfl⟩
  rw [lnZ_nI hr]
  refine S_istore_n (q := 5) [_, _, _, _, _, _] hX dX11_isSafe_4 rfl (Nat.le_of_ble_eq_true rfl) rfl rfl ?_
  refine S_iload_n (q := 6) hX dX11_isSafe_5 rfl rfl ?_
  refine S_iload_n (q := 7) hX dX11_isSafe_6 rfl rfl ?_
  refine S_aload_n (q := 8) hX dX11_isSafe_7 rfl rfl ?_
  refine S_getf (fs := ?fs_9) (v := ?v_9) (q := 11) hX u_294 fo_X11_spelt dX11_isSafe_8 ?hs_9 ?hv_9 rfl ?_
  case hs_9 => with_reducible first | exact FK.c0 hM | exact FK.c1 hM | exact FK.c2 hM | exact FK.c7 hM | exact FK.c129 hM | exact FK.c3 hM | exact FK.c4 hM | exact FK.c5 hM | exact FK.c6 hM | exact FK.c39 hM | exact FK.c40 hM | exact FK.c41 hM | exact FK.c42 hM | exact FK.c43 hM | exact FK.c128 hM | exact FK.c136 hM | exact FK.c137 hM | exact FK.c173 hM | exact FK.c174 hM | exact FK.c175 hM | exact FK.c176 hM | exact FK.c177 hM | exact FK.c178 hM | exact RK.c0 (FK.rk hkd hM) | exact RK.c1 (FK.rk hkd hM)
  case hv_9 => rfl
  refine S_iconst (q := 12) (v := 0) hX dX11_isSafe_11 ic_0 rfl ?_
  refine S_callS (q := 15) 0 0 hX (c_X7_spell _ _ _ (q + 177) 6 r (ln r) 0 (γ 177) rfl rfl rfl) rfl u_493 u_494 u_13 u_495 ⟨by decide, by decide, rfl⟩ ⟨Nat.le_of_ble_eq_true rfl, Nat.le_of_ble_eq_true rfl⟩ ⟨Nat.le_of_ble_eq_true rfl, Nat.le_of_ble_eq_true rfl⟩ (Nat.le_of_ble_eq_true rfl) dX11_isSafe_12 ?hp_10 rfl rfl rfl ?_
  case hp_10 => exact ⟨FK.c177 hM, by omega, by decide, hr⟩
  rintro v σ1 sz1 ⟨g', rfl, rfl, ⟨hg1, hg2⟩, rfl⟩
  have hM := hM.st (j := 177) (g := g') (e := ia 6 g') (by decide) rfl
  have hF := hF.su (a := q + 177) (e := ia 6 g') (by omega)
  refine S_aload_n (q := 16) hX dX11_isSafe_15 rfl rfl ?_
  refine S_getf (fs := ?fs_11) (v := ?v_11) (q := 19) hX u_290 fo_X11_readers dX11_isSafe_16 ?hs_11 ?hv_11 rfl ?_
  case hs_11 => with_reducible first | exact FK.c0 hM | exact FK.c1 hM | exact FK.c2 hM | exact FK.c7 hM | exact FK.c129 hM | exact FK.c3 hM | exact FK.c4 hM | exact FK.c5 hM | exact FK.c6 hM | exact FK.c39 hM | exact FK.c40 hM | exact FK.c41 hM | exact FK.c42 hM | exact FK.c43 hM | exact FK.c128 hM | exact FK.c136 hM | exact FK.c137 hM | exact FK.c173 hM | exact FK.c174 hM | exact FK.c175 hM | exact FK.c176 hM | exact FK.c177 hM | exact FK.c178 hM | exact RK.c0 (FK.rk hkd hM) | exact RK.c1 (FK.rk hkd hM)
  case hv_11 => rfl
  refine S_iconst (q := 20) (v := 0) hX dX11_isSafe_19 ic_0 rfl ?_
  refine S_aald (N := ?n_12) (f := ?f_12) (y := q + (138 + 7 * 0)) (q := 21) (t := 3) hX dX11_isSafe_20 (by decide) rfl ?hs_12 ?hi_12 ?hy_12 rfl ?_
  case hs_12 => with_reducible first | exact FK.c0 hM | exact FK.c1 hM | exact FK.c2 hM | exact FK.c7 hM | exact FK.c129 hM | exact FK.c3 hM | exact FK.c4 hM | exact FK.c5 hM | exact FK.c6 hM | exact FK.c39 hM | exact FK.c40 hM | exact FK.c41 hM | exact FK.c42 hM | exact FK.c43 hM | exact FK.c128 hM | exact FK.c136 hM | exact FK.c137 hM | exact FK.c173 hM | exact FK.c174 hM | exact FK.c175 hM | exact FK.c176 hM | exact FK.c177 hM | exact FK.c178 hM | exact RK.c0 (FK.rk hkd hM) | exact RK.c1 (FK.rk hkd hM)
  case hi_12 => exact vp_in_nI (show 0 < 5 by decide) (by decide)
  case hy_12 => show some (q + (138 + 7 * (nI 0).toNatClampNeg)) = some (q + (138 + 7 * 0)); rw [nI_clamp (by omega)]
  refine S_astore (q := 23) [_, _, _, _, _, _] hX dX11_isSafe_21 rfl (Nat.le_of_ble_eq_true rfl) rfl rfl ?_
  refine S_iconst (q := 24) (v := 0) hX dX11_isSafe_23 ic_0 rfl ?_
  refine S_istore (q := 26) [_, _, _, _, _, _] hX dX11_isSafe_24 rfl (Nat.le_of_ble_eq_true rfl) rfl rfl ?_
  refine l26 (2 ^ ln r + 1) 0 _ (m1 γ 177 g') (Nat.zero_le _) (Nat.lt_succ_self _) (fun j hj => m1_ne (by omega)) (hfd.ext (fun j hj => m1_ne (by omega))) (fun i hi => ?_) (fun e he => absurd he (Nat.not_lt_zero _)) hM hF
  rw [m1_eq]
  have := hg1 i hi
  rw [Nat.zero_add] at this
  exact this
theorem c_X11_safe (q : Nat) (γ : MF) (S : ST) (x : Int32) : CT_X11_safe [.ref q, .int x] (fun Γ σ sz => FK σ q γ ∧ FR γ S ∧ StOk S) (fun Γ σ sz v σ' sz' => ∃ γ', FK σ' q γ' ∧ Fr q (q + 179) σ σ' ∧ v = some (.int (sp_safe S x).1) ∧ FR γ' (sp_safe S x).2 ∧ sz' = sz) := by
  refine CT.mkP rfl (Nat.le_of_ble_eq_true rfl) [_, _, _, _, _, _, _] rfl ?_
  intro X Γ σ sz P hX hpre hsz hP
  obtain ⟨hM, hR, ok⟩ := hpre
  obtain ⟨σ0, eσ0⟩ : ∃ z, z = σ := ⟨σ, rfl⟩
  rw [← eσ0] at hP
  have hF : Fr q (q + 179) σ0 σ := by rw [eσ0]; exact Fr.rf
  obtain ⟨r0, r1, r2, r3, r4, r5⟩ := id hR
  obtain ⟨t0, t1, t2, t3, t4, t5, t6, t7, t8⟩ := id r0
  obtain ⟨o1, o2, o3, o4, o5, o6, o7, o8, o9, o10⟩ := id ok.1
  have hkd : 0 < 5 := by decide
  have hco : CoR (fun j => γ (2 + j)) S.1.1 := t0.ext (fun j hj => by show γ (2 + j) = γ (1 + (1 + j)); congr 1; omega)
  have l41 : okc x S.1.1.1 → x = nI (tN x) → tN x < S.1.1.1 → ∀ (fl e : Nat) (o5 o6 : Option Value) (σ : Sg) (μ : MF), e ≤ (S.1.1.2.1 (tN x)).1 → (S.1.1.2.1 (tN x)).1 - e < fl → (∀ j, j < 137 → μ j = γ j) → FdC (fun j => μ (138 + 7 * 0 + j)) (S.1.1.2.1 (tN x)) → FK σ q μ → Fr q (q + 179) σ0 σ → G X Γ P 0 0 41 [some (.ref q), some (.int x), some (.int (sfI (S.1.1.2.1 (tN x)) e).1), some (.int (sfI (S.1.1.2.1 (tN x)) e).2), some (.int (nI e)), o5, o6] [] σ sz := by
    intro hokx ex hcy fl
    have hcx := o2.2.1 (tN x) hcy
    have hcc := hco.2.1 (tN x) hcy
    have hc8 := hcx.1
    induction fl with
      | zero => intro e o5 o6 σ μ h1 h2; omega
      | succ fl ih =>
        intro e o5 o6 σ μ he hfu ho hfd hM hF
        have h3 : μ 3 (x.toNatClampNeg) = nI (S.1.1.2.1 (tN x)).1 := by rw [ho 3 (by decide)]; exact hcc.1
        refine S_iload (q := 43) hX dX11_safe_41 rfl rfl ?_
        refine S_aload_n (q := 44) hX dX11_safe_43 rfl rfl ?_
        refine S_getf (fs := ?fs_1) (v := ?v_1) (q := 47) hX u_285 fo_X11_now dX11_safe_44 ?hs_1 ?hv_1 rfl ?_
        case hs_1 => with_reducible first | exact FK.c0 hM | exact FK.c1 hM | exact FK.c2 hM | exact FK.c7 hM | exact FK.c129 hM | exact FK.c3 hM | exact FK.c4 hM | exact FK.c5 hM | exact FK.c6 hM | exact FK.c39 hM | exact FK.c40 hM | exact FK.c41 hM | exact FK.c42 hM | exact FK.c43 hM | exact FK.c128 hM | exact FK.c136 hM | exact FK.c137 hM | exact FK.c173 hM | exact FK.c174 hM | exact FK.c175 hM | exact FK.c176 hM | exact FK.c177 hM | exact FK.c178 hM | exact RK.c0 (FK.rk hkd hM) | exact RK.c1 (FK.rk hkd hM)
        case hv_1 => rfl
        refine S_getf (fs := ?fs_2) (v := ?v_2) (q := 50) hX u_85 fo_X9_codes dX11_safe_47 ?hs_2 ?hv_2 rfl ?_
        case hs_2 => with_reducible first | exact FK.c0 hM | exact FK.c1 hM | exact FK.c2 hM | exact FK.c7 hM | exact FK.c129 hM | exact FK.c3 hM | exact FK.c4 hM | exact FK.c5 hM | exact FK.c6 hM | exact FK.c39 hM | exact FK.c40 hM | exact FK.c41 hM | exact FK.c42 hM | exact FK.c43 hM | exact FK.c128 hM | exact FK.c136 hM | exact FK.c137 hM | exact FK.c173 hM | exact FK.c174 hM | exact FK.c175 hM | exact FK.c176 hM | exact FK.c177 hM | exact FK.c178 hM | exact RK.c0 (FK.rk hkd hM) | exact RK.c1 (FK.rk hkd hM)
        case hv_2 => rfl
        refine S_getf (fs := ?fs_3) (v := ?v_3) (q := 53) hX u_44 fo_X2_entries dX11_safe_50 ?hs_3 ?hv_3 rfl ?_
        case hs_3 => with_reducible first | exact FK.c0 hM | exact FK.c1 hM | exact FK.c2 hM | exact FK.c7 hM | exact FK.c129 hM | exact FK.c3 hM | exact FK.c4 hM | exact FK.c5 hM | exact FK.c6 hM | exact FK.c39 hM | exact FK.c40 hM | exact FK.c41 hM | exact FK.c42 hM | exact FK.c43 hM | exact FK.c128 hM | exact FK.c136 hM | exact FK.c137 hM | exact FK.c173 hM | exact FK.c174 hM | exact FK.c175 hM | exact FK.c176 hM | exact FK.c177 hM | exact FK.c178 hM | exact RK.c0 (FK.rk hkd hM) | exact RK.c1 (FK.rk hkd hM)
        case hv_3 => rfl
        refine S_iload_n (q := 54) hX dX11_safe_53 rfl rfl ?_
        refine S_iald (N := ?n_4) (f := ?f_4) (q := 55) hX dX11_safe_54 ?hs_4 ?hi_4 rfl ?_
        case hs_4 => with_reducible first | exact FK.c0 hM | exact FK.c1 hM | exact FK.c2 hM | exact FK.c7 hM | exact FK.c129 hM | exact FK.c3 hM | exact FK.c4 hM | exact FK.c5 hM | exact FK.c6 hM | exact FK.c39 hM | exact FK.c40 hM | exact FK.c41 hM | exact FK.c42 hM | exact FK.c43 hM | exact FK.c128 hM | exact FK.c136 hM | exact FK.c137 hM | exact FK.c173 hM | exact FK.c174 hM | exact FK.c175 hM | exact FK.c176 hM | exact FK.c177 hM | exact FK.c178 hM | exact RK.c0 (FK.rk hkd hM) | exact RK.c1 (FK.rk hkd hM)
        case hi_4 => rw [ex]; exact vp_in_nI (by omega) (by decide)
        refine S_icmp_ge (q := 58) 124 hX dX11_safe_55 rfl rfl (fun c55 => ?_) (fun c55 => ?_)
        · have hge : e = (S.1.1.2.1 (tN x)).1 := by rw [h3, nI_leI (by omega) (by omega)] at c55; omega
          refine S_iload_n (q := 125) hX dX11_safe_124 rfl rfl ?_
          refine S_iload_n (q := 126) hX dX11_safe_125 rfl rfl ?_
          refine S_iconst (q := 127) (v := (-1)) hX dX11_safe_126 ic_m1 rfl ?_
          refine S_ixor (q := 128) hX dX11_safe_127 rfl ?_
          refine S_iand (q := 129) hX dX11_safe_128 rfl ?_
          refine S_iret hX dX11_safe_129 (Nat.zero_le _) (Nat.zero_le _) ?_
          refine hP _ _ _ ?_
          have hsp : sp_safe S x = ((sfI (S.1.1.2.1 (tN x)) (S.1.1.2.1 (tN x)).1).1 &&& ((sfI (S.1.1.2.1 (tN x)) (S.1.1.2.1 (tN x)).1).2 ^^^ (-1)), S) := by unfold sp_safe; rw [if_neg (fun w => w hokx)]
          rw [hsp, ← hge]
          exact ⟨_, hM, hF, rfl, hR.scr ok ho, rfl⟩
        · have hlt : e < (S.1.1.2.1 (tN x)).1 := by rw [h3, nI_leI (by omega) (by omega)] at c55; omega
          have hix : x * 8 + nI e = nI (8 * tN x + e) := by rw [ex, i8, pk_mul, nI_add, Nat.mul_comm, tN_nI (by omega)]
          have hce := hcc.2 e hlt
          have f4 : μ 4 (x * 8 + nI e).toNatClampNeg = nI ((S.1.1.2.1 (tN x)).2 e).1 := by rw [hix, nI_clamp (by omega), ho 4 (by decide)]; exact hce.1
          have f5 : μ 5 (x * 8 + nI e).toNatClampNeg = nI ((S.1.1.2.1 (tN x)).2 e).2 := by rw [hix, nI_clamp (by omega), ho 5 (by decide)]; exact hce.2
          have hr := hcx.2 e hlt
          refine S_iload_n (q := 59) hX dX11_safe_58 rfl rfl ?_
          refine S_bipush (q := 61) (v := 8) hX dX11_safe_59 bp_8 rfl ?_
          refine S_imul (q := 62) hX dX11_safe_61 rfl ?_
          refine S_iload (q := 64) hX dX11_safe_62 rfl rfl ?_
          refine S_iadd (q := 65) hX dX11_safe_64 rfl ?_
          refine S_istore (q := 67) [_, _, _, _, _, _, _] hX dX11_safe_65 rfl (Nat.le_of_ble_eq_true rfl) rfl rfl ?_
          refine S_aload_n (q := 68) hX dX11_safe_67 rfl rfl ?_
          refine S_getf (fs := ?fs_5) (v := ?v_5) (q := 71) hX u_285 fo_X11_now dX11_safe_68 ?hs_5 ?hv_5 rfl ?_
          case hs_5 => with_reducible first | exact FK.c0 hM | exact FK.c1 hM | exact FK.c2 hM | exact FK.c7 hM | exact FK.c129 hM | exact FK.c3 hM | exact FK.c4 hM | exact FK.c5 hM | exact FK.c6 hM | exact FK.c39 hM | exact FK.c40 hM | exact FK.c41 hM | exact FK.c42 hM | exact FK.c43 hM | exact FK.c128 hM | exact FK.c136 hM | exact FK.c137 hM | exact FK.c173 hM | exact FK.c174 hM | exact FK.c175 hM | exact FK.c176 hM | exact FK.c177 hM | exact FK.c178 hM | exact RK.c0 (FK.rk hkd hM) | exact RK.c1 (FK.rk hkd hM)
          case hv_5 => rfl
          refine S_getf (fs := ?fs_6) (v := ?v_6) (q := 74) hX u_85 fo_X9_codes dX11_safe_71 ?hs_6 ?hv_6 rfl ?_
          case hs_6 => with_reducible first | exact FK.c0 hM | exact FK.c1 hM | exact FK.c2 hM | exact FK.c7 hM | exact FK.c129 hM | exact FK.c3 hM | exact FK.c4 hM | exact FK.c5 hM | exact FK.c6 hM | exact FK.c39 hM | exact FK.c40 hM | exact FK.c41 hM | exact FK.c42 hM | exact FK.c43 hM | exact FK.c128 hM | exact FK.c136 hM | exact FK.c137 hM | exact FK.c173 hM | exact FK.c174 hM | exact FK.c175 hM | exact FK.c176 hM | exact FK.c177 hM | exact FK.c178 hM | exact RK.c0 (FK.rk hkd hM) | exact RK.c1 (FK.rk hkd hM)
          case hv_6 => rfl
          refine S_getf (fs := ?fs_7) (v := ?v_7) (q := 77) hX u_52 fo_X2_words dX11_safe_74 ?hs_7 ?hv_7 rfl ?_
          case hs_7 => with_reducible first | exact FK.c0 hM | exact FK.c1 hM | exact FK.c2 hM | exact FK.c7 hM | exact FK.c129 hM | exact FK.c3 hM | exact FK.c4 hM | exact FK.c5 hM | exact FK.c6 hM | exact FK.c39 hM | exact FK.c40 hM | exact FK.c41 hM | exact FK.c42 hM | exact FK.c43 hM | exact FK.c128 hM | exact FK.c136 hM | exact FK.c137 hM | exact FK.c173 hM | exact FK.c174 hM | exact FK.c175 hM | exact FK.c176 hM | exact FK.c177 hM | exact FK.c178 hM | exact RK.c0 (FK.rk hkd hM) | exact RK.c1 (FK.rk hkd hM)
          case hv_7 => rfl
          refine S_iload (q := 79) hX dX11_safe_77 rfl rfl ?_
          refine S_iald (N := ?n_8) (f := ?f_8) (q := 80) hX dX11_safe_79 ?hs_8 ?hi_8 rfl ?_
          case hs_8 => with_reducible first | exact FK.c0 hM | exact FK.c1 hM | exact FK.c2 hM | exact FK.c7 hM | exact FK.c129 hM | exact FK.c3 hM | exact FK.c4 hM | exact FK.c5 hM | exact FK.c6 hM | exact FK.c39 hM | exact FK.c40 hM | exact FK.c41 hM | exact FK.c42 hM | exact FK.c43 hM | exact FK.c128 hM | exact FK.c136 hM | exact FK.c137 hM | exact FK.c173 hM | exact FK.c174 hM | exact FK.c175 hM | exact FK.c176 hM | exact FK.c177 hM | exact FK.c178 hM | exact RK.c0 (FK.rk hkd hM) | exact RK.c1 (FK.rk hkd hM)
          case hi_8 => rw [hix]; exact vp_in_nI (by omega) (by decide)
          rw [f5]
          refine S_istore (q := 82) [_, _, _, _, _, _, _] hX dX11_safe_80 rfl (Nat.le_of_ble_eq_true rfl) rfl rfl ?_
          refine S_iload_n (q := 83) hX dX11_safe_82 rfl rfl ?_
          refine S_iconst (q := 84) (v := 1) hX dX11_safe_83 ic_1 rfl ?_
          refine S_iload (q := 86) hX dX11_safe_84 rfl rfl ?_
          refine S_ishl (q := 87) hX dX11_safe_86 rfl ?_
          refine S_ior (q := 88) hX dX11_safe_87 rfl ?_
          refine S_istore_n (q := 89) [_, _, _, _, _, _, _] hX dX11_safe_88 rfl (Nat.le_of_ble_eq_true rfl) rfl rfl ?_
          refine S_aload_n (q := 90) hX dX11_safe_89 rfl rfl ?_
          refine S_aload_n (q := 91) hX dX11_safe_90 rfl rfl ?_
          refine S_getf (fs := ?fs_9) (v := ?v_9) (q := 94) hX u_285 fo_X11_now dX11_safe_91 ?hs_9 ?hv_9 rfl ?_
          case hs_9 => with_reducible first | exact FK.c0 hM | exact FK.c1 hM | exact FK.c2 hM | exact FK.c7 hM | exact FK.c129 hM | exact FK.c3 hM | exact FK.c4 hM | exact FK.c5 hM | exact FK.c6 hM | exact FK.c39 hM | exact FK.c40 hM | exact FK.c41 hM | exact FK.c42 hM | exact FK.c43 hM | exact FK.c128 hM | exact FK.c136 hM | exact FK.c137 hM | exact FK.c173 hM | exact FK.c174 hM | exact FK.c175 hM | exact FK.c176 hM | exact FK.c177 hM | exact FK.c178 hM | exact RK.c0 (FK.rk hkd hM) | exact RK.c1 (FK.rk hkd hM)
          case hv_9 => rfl
          refine S_getf (fs := ?fs_10) (v := ?v_10) (q := 97) hX u_85 fo_X9_codes dX11_safe_94 ?hs_10 ?hv_10 rfl ?_
          case hs_10 => with_reducible first | exact FK.c0 hM | exact FK.c1 hM | exact FK.c2 hM | exact FK.c7 hM | exact FK.c129 hM | exact FK.c3 hM | exact FK.c4 hM | exact FK.c5 hM | exact FK.c6 hM | exact FK.c39 hM | exact FK.c40 hM | exact FK.c41 hM | exact FK.c42 hM | exact FK.c43 hM | exact FK.c128 hM | exact FK.c136 hM | exact FK.c137 hM | exact FK.c173 hM | exact FK.c174 hM | exact FK.c175 hM | exact FK.c176 hM | exact FK.c177 hM | exact FK.c178 hM | exact RK.c0 (FK.rk hkd hM) | exact RK.c1 (FK.rk hkd hM)
          case hv_10 => rfl
          refine S_getf (fs := ?fs_11) (v := ?v_11) (q := 100) hX u_49 fo_X2_rows dX11_safe_97 ?hs_11 ?hv_11 rfl ?_
          case hs_11 => with_reducible first | exact FK.c0 hM | exact FK.c1 hM | exact FK.c2 hM | exact FK.c7 hM | exact FK.c129 hM | exact FK.c3 hM | exact FK.c4 hM | exact FK.c5 hM | exact FK.c6 hM | exact FK.c39 hM | exact FK.c40 hM | exact FK.c41 hM | exact FK.c42 hM | exact FK.c43 hM | exact FK.c128 hM | exact FK.c136 hM | exact FK.c137 hM | exact FK.c173 hM | exact FK.c174 hM | exact FK.c175 hM | exact FK.c176 hM | exact FK.c177 hM | exact FK.c178 hM | exact RK.c0 (FK.rk hkd hM) | exact RK.c1 (FK.rk hkd hM)
          case hv_11 => rfl
          refine S_iload (q := 102) hX dX11_safe_100 rfl rfl ?_
          refine S_iald (N := ?n_12) (f := ?f_12) (q := 103) hX dX11_safe_102 ?hs_12 ?hi_12 rfl ?_
          case hs_12 => with_reducible first | exact FK.c0 hM | exact FK.c1 hM | exact FK.c2 hM | exact FK.c7 hM | exact FK.c129 hM | exact FK.c3 hM | exact FK.c4 hM | exact FK.c5 hM | exact FK.c6 hM | exact FK.c39 hM | exact FK.c40 hM | exact FK.c41 hM | exact FK.c42 hM | exact FK.c43 hM | exact FK.c128 hM | exact FK.c136 hM | exact FK.c137 hM | exact FK.c173 hM | exact FK.c174 hM | exact FK.c175 hM | exact FK.c176 hM | exact FK.c177 hM | exact FK.c178 hM | exact RK.c0 (FK.rk hkd hM) | exact RK.c1 (FK.rk hkd hM)
          case hi_12 => rw [hix]; exact vp_in_nI (by omega) (by decide)
          rw [f4]
          refine S_iload (q := 105) hX dX11_safe_103 rfl rfl ?_
          refine S_callV (ci := 11) (C := "FanTalk") (T := TX11) (N := 11) (q := 108) 0 0 hX (c_X11_isSafe q μ S (S.1.1.2.1 (tN x)) _ _ ((S.1.1.2.1 (tN x)).2 e).1 ((S.1.1.2.1 (tN x)).2 e).2 rfl rfl) rfl ?hs_13 rfl u_699 u_701 us_23 u_1 u_702 ⟨by decide, by decide, rfl⟩ ⟨Nat.le_of_ble_eq_true rfl, Nat.le_of_ble_eq_true rfl⟩ ⟨Nat.le_of_ble_eq_true rfl, Nat.le_of_ble_eq_true rfl⟩ (Nat.le_of_ble_eq_true rfl) dX11_safe_105 ?hp_13 rfl rfl rfl ?_
          case hs_13 => first | with_reducible assumption | exact ⟨_, FK.c0 hM⟩ | exact ⟨_, FK.c2 hM⟩ | exact ⟨_, FK.c7 hM⟩ | exact ⟨_, FK.c129 hM⟩ | exact ⟨_, FK.c173 hM⟩ | exact ⟨_, FK.c1 hM⟩
          case hp_13 => exact ⟨hM, hR.scr ok ho, ok, hfd, hcx, hr.1, hr.2.1, hr.2.2.1, hr.2.2.2⟩
          rintro v σ sz1 ⟨μ1, hM, hF1, rfl, ⟨ho1, hfd1⟩, rfl⟩
          have hF := hF.trans hF1
          have ho2 : ∀ j, j < 137 → μ1 j = γ j := fun j hj => (ho1 j hj).trans (ho j hj)
          refine S_if_ne (q := 111) 118 hX dX11_safe_108 rfl rfl (fun c108 => ?_) (fun c108 => ?_)
          · have hun : ¬ unsE (S.1.1.2.1 (tN x)) e := fun ⟨d, hd, w, hw, hn⟩ => c108 (bP_f (fun h => hn (h d hd w hw)))
            refine S_iinc (q := 121) [_, _, _, _, _, _, _] hX dX11_safe_118 rfl (ii_1 _) rfl (Nat.le_of_ble_eq_true rfl) rfl rfl ?_
            refine S_goto 41 hX dX11_safe_121 rfl ?_
            rw [nI_1]
            have e1 : (sfI (S.1.1.2.1 (tN x)) (e + 1)).1 = (sfI (S.1.1.2.1 (tN x)) e).1 ||| ((1 : Int32) <<< (nI ((S.1.1.2.1 (tN x)).2 e).2 &&& 31)) := rfl
            have e2 : (sfI (S.1.1.2.1 (tN x)) (e + 1)).2 = (sfI (S.1.1.2.1 (tN x)) e).2 := by rw [sfI]; exact if_neg hun
            refine S_L (L' := [some (.ref q), some (.int x), some (.int (sfI (S.1.1.2.1 (tN x)) (e + 1)).1), some (.int (sfI (S.1.1.2.1 (tN x)) (e + 1)).2), some (.int (nI (e + 1))), _, _]) (by rw [e1, e2]) ?_
            exact ih (e + 1) _ _ _ μ1 hlt (by omega) ho2 hfd1 hM hF
          · have hun : unsE (S.1.1.2.1 (tN x)) e := by
              apply Classical.byContradiction; intro h
              refine absurd c108 (fun z => ?_)
              rw [bP_t (fun d hd w hw => Classical.byContradiction fun hn => h ⟨d, hd, w, hw, hn⟩)] at z
              exact absurd z (by decide)
            refine S_iload_n (q := 112) hX dX11_safe_111 rfl rfl ?_
            refine S_iconst (q := 113) (v := 1) hX dX11_safe_112 ic_1 rfl ?_
            refine S_iload (q := 115) hX dX11_safe_113 rfl rfl ?_
            refine S_ishl (q := 116) hX dX11_safe_115 rfl ?_
            refine S_ior (q := 117) hX dX11_safe_116 rfl ?_
            refine S_istore_n (q := 118) [_, _, _, _, _, _, _] hX dX11_safe_117 rfl (Nat.le_of_ble_eq_true rfl) rfl rfl ?_
            refine S_iinc (q := 121) [_, _, _, _, _, _, _] hX dX11_safe_118 rfl (ii_1 _) rfl (Nat.le_of_ble_eq_true rfl) rfl rfl ?_
            refine S_goto 41 hX dX11_safe_121 rfl ?_
            rw [nI_1]
            have e1 : (sfI (S.1.1.2.1 (tN x)) (e + 1)).1 = (sfI (S.1.1.2.1 (tN x)) e).1 ||| ((1 : Int32) <<< (nI ((S.1.1.2.1 (tN x)).2 e).2 &&& 31)) := rfl
            have e2 : (sfI (S.1.1.2.1 (tN x)) (e + 1)).2 = (sfI (S.1.1.2.1 (tN x)) e).2 ||| ((1 : Int32) <<< (nI ((S.1.1.2.1 (tN x)).2 e).2 &&& 31)) := by rw [sfI]; exact if_pos hun
            refine S_L (L' := [some (.ref q), some (.int x), some (.int (sfI (S.1.1.2.1 (tN x)) (e + 1)).1), some (.int (sfI (S.1.1.2.1 (tN x)) (e + 1)).2), some (.int (nI (e + 1))), _, _]) (by rw [e1, e2]) ?_
            exact ih (e + 1) _ _ _ μ1 hlt (by omega) ho2 hfd1 hM hF
  refine S_aload_n (q := 1) hX dX11_safe_0 rfl rfl ?_
  refine S_iload_n (q := 2) hX dX11_safe_1 rfl rfl ?_
  refine S_callV (ci := 11) (C := "FanTalk") (T := TX11) (N := 11) (q := 5) 0 0 hX (c_X11_isCode q γ S _) rfl ?hs_14 rfl u_338 u_340 us_1 u_1 u_341 ⟨by decide, by decide, rfl⟩ ⟨Nat.le_of_ble_eq_true rfl, Nat.le_of_ble_eq_true rfl⟩ ⟨Nat.le_of_ble_eq_true rfl, Nat.le_of_ble_eq_true rfl⟩ (Nat.le_of_ble_eq_true rfl) dX11_safe_2 ?hp_14 rfl rfl rfl ?_
  case hs_14 => first | with_reducible assumption | exact ⟨_, FK.c0 hM⟩ | exact ⟨_, FK.c2 hM⟩ | exact ⟨_, FK.c7 hM⟩ | exact ⟨_, FK.c129 hM⟩ | exact ⟨_, FK.c173 hM⟩ | exact ⟨_, FK.c1 hM⟩
  case hp_14 => exact ⟨hM, hR, ok⟩
  rintro v σ1 sz1 ⟨rfl, rfl, rfl⟩
  refine S_if_ne_b (q := 8) 17 hX dX11_safe_5 rfl rfl (fun c5 => ?_) (fun c5 => ?_)
  · have cx := okc.ex c5
    refine S_aload_n (q := 18) hX dX11_safe_17 rfl rfl ?_
    refine S_getf (fs := ?fs_15) (v := ?v_15) (q := 21) hX u_290 fo_X11_readers dX11_safe_18 ?hs_15 ?hv_15 rfl ?_
    case hs_15 => with_reducible first | exact FK.c0 hM | exact FK.c1 hM | exact FK.c2 hM | exact FK.c7 hM | exact FK.c129 hM | exact FK.c3 hM | exact FK.c4 hM | exact FK.c5 hM | exact FK.c6 hM | exact FK.c39 hM | exact FK.c40 hM | exact FK.c41 hM | exact FK.c42 hM | exact FK.c43 hM | exact FK.c128 hM | exact FK.c136 hM | exact FK.c137 hM | exact FK.c173 hM | exact FK.c174 hM | exact FK.c175 hM | exact FK.c176 hM | exact FK.c177 hM | exact FK.c178 hM | exact RK.c0 (FK.rk hkd hM) | exact RK.c1 (FK.rk hkd hM)
    case hv_15 => rfl
    refine S_iconst (q := 22) (v := 0) hX dX11_safe_21 ic_0 rfl ?_
    refine S_aald (N := ?n_16) (f := ?f_16) (y := q + (138 + 7 * 0)) (q := 23) (t := 3) hX dX11_safe_22 (by decide) rfl ?hs_16 ?hi_16 ?hy_16 rfl ?_
    case hs_16 => with_reducible first | exact FK.c0 hM | exact FK.c1 hM | exact FK.c2 hM | exact FK.c7 hM | exact FK.c129 hM | exact FK.c3 hM | exact FK.c4 hM | exact FK.c5 hM | exact FK.c6 hM | exact FK.c39 hM | exact FK.c40 hM | exact FK.c41 hM | exact FK.c42 hM | exact FK.c43 hM | exact FK.c128 hM | exact FK.c136 hM | exact FK.c137 hM | exact FK.c173 hM | exact FK.c174 hM | exact FK.c175 hM | exact FK.c176 hM | exact FK.c177 hM | exact FK.c178 hM | exact RK.c0 (FK.rk hkd hM) | exact RK.c1 (FK.rk hkd hM)
    case hi_16 => exact vp_in_nI (show 0 < 5 by decide) (by decide)
    case hy_16 => show some (q + (138 + 7 * (nI 0).toNatClampNeg)) = some (q + (138 + 7 * 0)); rw [nI_clamp (by omega)]
    refine S_aload_n (q := 24) hX dX11_safe_23 rfl rfl ?_
    refine S_getf (fs := ?fs_17) (v := ?v_17) (q := 27) hX u_285 fo_X11_now dX11_safe_24 ?hs_17 ?hv_17 rfl ?_
    case hs_17 => with_reducible first | exact FK.c0 hM | exact FK.c1 hM | exact FK.c2 hM | exact FK.c7 hM | exact FK.c129 hM | exact FK.c3 hM | exact FK.c4 hM | exact FK.c5 hM | exact FK.c6 hM | exact FK.c39 hM | exact FK.c40 hM | exact FK.c41 hM | exact FK.c42 hM | exact FK.c43 hM | exact FK.c128 hM | exact FK.c136 hM | exact FK.c137 hM | exact FK.c173 hM | exact FK.c174 hM | exact FK.c175 hM | exact FK.c176 hM | exact FK.c177 hM | exact FK.c178 hM | exact RK.c0 (FK.rk hkd hM) | exact RK.c1 (FK.rk hkd hM)
    case hv_17 => rfl
    refine S_getf (fs := ?fs_18) (v := ?v_18) (q := 30) hX u_85 fo_X9_codes dX11_safe_27 ?hs_18 ?hv_18 rfl ?_
    case hs_18 => with_reducible first | exact FK.c0 hM | exact FK.c1 hM | exact FK.c2 hM | exact FK.c7 hM | exact FK.c129 hM | exact FK.c3 hM | exact FK.c4 hM | exact FK.c5 hM | exact FK.c6 hM | exact FK.c39 hM | exact FK.c40 hM | exact FK.c41 hM | exact FK.c42 hM | exact FK.c43 hM | exact FK.c128 hM | exact FK.c136 hM | exact FK.c137 hM | exact FK.c173 hM | exact FK.c174 hM | exact FK.c175 hM | exact FK.c176 hM | exact FK.c177 hM | exact FK.c178 hM | exact RK.c0 (FK.rk hkd hM) | exact RK.c1 (FK.rk hkd hM)
    case hv_18 => rfl
    refine S_iload_n (q := 31) hX dX11_safe_30 rfl rfl ?_
    refine S_callK (q := 34) 0 0 (hkd) hX (c_X3_learn (q + (138 + 7 * (0))) (fun j => γ (138 + 7 * (0) + j)) (0) (q + 2) (tN x) _ (fun j => γ (2 + j)) (S.1.1.2.1 (tN x)) cx.1) rfl ?hs_19 u_525 u_528 u_526 u_6 u_533 u_527 u_531 u_530 u_532 u_529 ⟨by decide, by decide, rfl⟩ ⟨Nat.le_of_ble_eq_true rfl, Nat.le_of_ble_eq_true rfl⟩ ⟨Nat.le_of_ble_eq_true rfl, Nat.le_of_ble_eq_true rfl⟩ (Nat.le_of_ble_eq_true rfl) dX11_safe_31 ?hp_19 rfl rfl rfl ?_
    case hs_19 => exact ⟨_, (FK.rk hkd hM).c0⟩
    case hp_19 => exact ⟨FK.rk hkd hM, FK.co hM, by left; omega, by omega, o2.2.1 _ cx.2.1, hco.2.1 _ cx.2.1⟩
    rintro v σ sz1 ⟨g1, hM1, hF1, rfl, hfd1, rfl⟩
    have hM := FK.jrk hkd hM hF1 hM1
    have hF := hF.trans (hF1.mono (Nat.le_add_right _ _) (by omega))
    refine S_iconst (q := 35) (v := 0) hX dX11_safe_34 ic_0 rfl ?_
    refine S_istore_n (q := 36) [_, _, _, _, _, _, _] hX dX11_safe_35 rfl (Nat.le_of_ble_eq_true rfl) rfl rfl ?_
    refine S_iconst (q := 37) (v := 0) hX dX11_safe_36 ic_0 rfl ?_
    refine S_istore_n (q := 38) [_, _, _, _, _, _, _] hX dX11_safe_37 rfl (Nat.le_of_ble_eq_true rfl) rfl rfl ?_
    refine S_iconst (q := 39) (v := 0) hX dX11_safe_38 ic_0 rfl ?_
    refine S_istore (q := 41) [_, _, _, _, _, _, _] hX dX11_safe_39 rfl (Nat.le_of_ble_eq_true rfl) rfl rfl ?_
    exact l41 c5 cx.1 cx.2.1 9 0 _ _ _ (spl γ (138 + 7 * 0) 7 g1) (Nat.zero_le _) (by have := (o2.2.1 _ cx.2.1).1; omega) (fun j hj => spl_out (by omega)) hfd1.sp hM hF
  · refine S_aload_n (q := 9) hX dX11_safe_8 rfl rfl ?_
    refine S_bipush (q := 11) (v := (-2)) hX dX11_safe_9 bp_m2 rfl ?_
    refine S_bipush (q := 13) (v := (-2)) hX dX11_safe_11 bp_m2 rfl ?_
    refine S_callV (ci := 11) (C := "FanTalk") (T := TX11) (N := 11) (q := 16) 0 0 hX (c_X11_refused q γ _ _ 0 (by decide)) rfl ?hs_20 rfl u_323 u_325 us_0 u_1 u_326 ⟨by decide, by decide, rfl⟩ ⟨Nat.le_of_ble_eq_true rfl, Nat.le_of_ble_eq_true rfl⟩ ⟨Nat.le_of_ble_eq_true rfl, Nat.le_of_ble_eq_true rfl⟩ (Nat.le_of_ble_eq_true rfl) dX11_safe_13 ?hp_20 rfl rfl rfl ?_
    case hs_20 => first | with_reducible assumption | exact ⟨_, FK.c0 hM⟩ | exact ⟨_, FK.c2 hM⟩ | exact ⟨_, FK.c7 hM⟩ | exact ⟨_, FK.c129 hM⟩ | exact ⟨_, FK.c173 hM⟩ | exact ⟨_, FK.c1 hM⟩
    case hp_20 => exact ⟨hM, by decide⟩
    rintro v σ sz1 ⟨μ9, hM, hF1, rfl, e9, rfl⟩
    have hF := hF.trans hF1
    refine S_iret hX dX11_safe_16 (Nat.zero_le _) (Nat.zero_le _) ?_
    refine hP _ _ _ ?_
    have hsp : sp_safe S x = (-2, rfS S 0) := by unfold sp_safe; rw [if_pos c5]
    rw [hsp]
    exact ⟨_, hM, hF, rfl, hR.rf ok e9, rfl⟩
theorem c_X11_bearsFacts (q : Nat) (γ : MF) (S : ST) (x : Int32) (c : Nat) (hx : x = nI c) : CT_X11_bearsFacts [.ref q, .int x] (fun Γ σ sz => FK σ q γ ∧ FR γ S ∧ StOk S ∧ c < S.1.1.1) (fun Γ σ sz v σ' sz' => ∃ γ', FK σ' q γ' ∧ Fr q (q + 179) σ σ' ∧ v = some (.int (bP (bears S c))) ∧ (∀ j, j < 137 → γ' j = γ j) ∧ sz' = sz) := by
  refine CT.mkP rfl (Nat.le_of_ble_eq_true rfl) [_, _, _, _, _] rfl ?_
  intro X Γ σ sz P hX hpre hsz hP
  obtain ⟨hM, hR, ok, hc⟩ := hpre
  subst hx
  obtain ⟨σ0, eσ0⟩ : ∃ z, z = σ := ⟨σ, rfl⟩
  rw [← eσ0] at hP
  have hF : Fr q (q + 179) σ0 σ := by rw [eσ0]; exact Fr.rf
  obtain ⟨r0, r1, r2, r3, r4, r5⟩ := id hR
  obtain ⟨t0, t1, t2, t3, t4, t5, t6, t7, t8⟩ := id r0
  obtain ⟨o1, o2, o3, o4, o5, o6, o7, o8, o9, o10⟩ := id ok.1
  have hkd : 0 < 5 := by decide
  have hco : CoR (fun j => γ (2 + j)) S.1.1 := t0.ext (fun j hj => by show γ (2 + j) = γ (1 + (1 + j)); congr 1; omega)
  have hC := o2.2.1 c hc
  have l21 : ∀ (fl k : Nat) (o4 : Option Value) (σ : Sg) (μ : MF), k ≤ S.1.2.2.2.2.2.1 → S.1.2.2.2.2.2.1 - k < fl → (∀ j, j < 137 → μ j = γ j) → FdC (fun j => μ (138 + 7 * 0 + j)) (S.1.1.2.1 c) → (∀ j, j < k → (S.1.2.2.2.2.2.2 j).2 ∈ rdR 0 0 (S.1.2.2.2.2.2.2 j).1 (S.1.1.2.1 c)) → FK σ q μ → Fr q (q + 179) σ0 σ → G X Γ P 0 0 21 [some (.ref q), some (.int (nI c)), some (.ref (q + (138 + 7 * 0))), some (.int (nI k)), o4] [] σ sz := by
    intro fl
    induction fl with
      | zero => intro k o4 σ μ h1 h2; omega
      | succ fl ih =>
        intro k o4 σ μ hk hfu ho hfd hal hM hF
        have hn1 : μ 1 3 = nI S.1.2.2.2.2.2.1 := by rw [ho 1 (by decide)]; exact t7
        refine S_iload_n (q := 22) hX dX11_bearsFacts_21 rfl rfl ?_
        refine S_aload_n (q := 23) hX dX11_bearsFacts_22 rfl rfl ?_
        refine S_getf (fs := ?fs_1) (v := ?v_1) (q := 26) hX u_285 fo_X11_now dX11_bearsFacts_23 ?hs_1 ?hv_1 rfl ?_
        case hs_1 => with_reducible first | exact FK.c0 hM | exact FK.c1 hM | exact FK.c2 hM | exact FK.c7 hM | exact FK.c129 hM | exact FK.c3 hM | exact FK.c4 hM | exact FK.c5 hM | exact FK.c6 hM | exact FK.c39 hM | exact FK.c40 hM | exact FK.c41 hM | exact FK.c42 hM | exact FK.c43 hM | exact FK.c128 hM | exact FK.c136 hM | exact FK.c137 hM | exact FK.c173 hM | exact FK.c174 hM | exact FK.c175 hM | exact FK.c176 hM | exact FK.c177 hM | exact FK.c178 hM | exact RK.c0 (FK.rk hkd hM) | exact RK.c1 (FK.rk hkd hM)
        case hv_1 => rfl
        refine S_getf (fs := ?fs_2) (v := ?v_2) (q := 29) hX u_103 fo_X9_facts dX11_bearsFacts_26 ?hs_2 ?hv_2 rfl ?_
        case hs_2 => with_reducible first | exact FK.c0 hM | exact FK.c1 hM | exact FK.c2 hM | exact FK.c7 hM | exact FK.c129 hM | exact FK.c3 hM | exact FK.c4 hM | exact FK.c5 hM | exact FK.c6 hM | exact FK.c39 hM | exact FK.c40 hM | exact FK.c41 hM | exact FK.c42 hM | exact FK.c43 hM | exact FK.c128 hM | exact FK.c136 hM | exact FK.c137 hM | exact FK.c173 hM | exact FK.c174 hM | exact FK.c175 hM | exact FK.c176 hM | exact FK.c177 hM | exact FK.c178 hM | exact RK.c0 (FK.rk hkd hM) | exact RK.c1 (FK.rk hkd hM)
        case hv_2 => rfl
        refine S_icmp_ge (q := 32) 99 hX dX11_bearsFacts_29 rfl rfl (fun c29 => ?_) (fun c29 => ?_)
        · have hge : k = S.1.2.2.2.2.2.1 := by rw [hn1, nI_leI (by omega) (by omega)] at c29; omega
          refine S_iconst (q := 100) (v := 1) hX dX11_bearsFacts_99 ic_1 rfl ?_
          refine S_xret hX dX11_bearsFacts_100 (Nat.zero_le _) (Nat.zero_le _) (by decide) ?_
          refine hP _ _ _ ?_
          exact ⟨_, hM, hF, by rw [bP_t (show bears S c from fun j hj => hal j (by omega))], ho, rfl⟩
        · have hlt : k < S.1.2.2.2.2.2.1 := by rw [hn1, nI_leI (by omega) (by omega)] at c29; omega
          have h8 := t8 k hlt
          have hrow := o10 k hlt
          have hr : (S.1.2.2.2.2.2.2 k).1 < 2147483648 := by have := lnZ_pos (z := ((S.1.2.2.2.2.2.2 k).1 : Int)) hrow.1; omega
          have hl5 : ln (S.1.2.2.2.2.2.2 k).1 ≤ 5 := hrow.2.1
          have f41 : μ 41 (nI k).toNatClampNeg = nI (S.1.2.2.2.2.2.2 k).1 := by rw [nI_clamp (by omega), ho 41 (by decide)]; exact h8.1
          have f42 : μ 42 (nI k).toNatClampNeg = nI (S.1.2.2.2.2.2.2 k).2 := by rw [nI_clamp (by omega), ho 42 (by decide)]; exact h8.2
          refine S_aload_n (q := 33) hX dX11_bearsFacts_32 rfl rfl ?_
          refine S_getf (fs := ?fs_3) (v := ?v_3) (q := 36) hX u_285 fo_X11_now dX11_bearsFacts_33 ?hs_3 ?hv_3 rfl ?_
          case hs_3 => with_reducible first | exact FK.c0 hM | exact FK.c1 hM | exact FK.c2 hM | exact FK.c7 hM | exact FK.c129 hM | exact FK.c3 hM | exact FK.c4 hM | exact FK.c5 hM | exact FK.c6 hM | exact FK.c39 hM | exact FK.c40 hM | exact FK.c41 hM | exact FK.c42 hM | exact FK.c43 hM | exact FK.c128 hM | exact FK.c136 hM | exact FK.c137 hM | exact FK.c173 hM | exact FK.c174 hM | exact FK.c175 hM | exact FK.c176 hM | exact FK.c177 hM | exact FK.c178 hM | exact RK.c0 (FK.rk hkd hM) | exact RK.c1 (FK.rk hkd hM)
          case hv_3 => rfl
          refine S_getf (fs := ?fs_4) (v := ?v_4) (q := 39) hX u_99 fo_X9_factRows dX11_bearsFacts_36 ?hs_4 ?hv_4 rfl ?_
          case hs_4 => with_reducible first | exact FK.c0 hM | exact FK.c1 hM | exact FK.c2 hM | exact FK.c7 hM | exact FK.c129 hM | exact FK.c3 hM | exact FK.c4 hM | exact FK.c5 hM | exact FK.c6 hM | exact FK.c39 hM | exact FK.c40 hM | exact FK.c41 hM | exact FK.c42 hM | exact FK.c43 hM | exact FK.c128 hM | exact FK.c136 hM | exact FK.c137 hM | exact FK.c173 hM | exact FK.c174 hM | exact FK.c175 hM | exact FK.c176 hM | exact FK.c177 hM | exact FK.c178 hM | exact RK.c0 (FK.rk hkd hM) | exact RK.c1 (FK.rk hkd hM)
          case hv_4 => rfl
          refine S_iload_n (q := 40) hX dX11_bearsFacts_39 rfl rfl ?_
          refine S_iald (N := ?n_5) (f := ?f_5) (q := 41) hX dX11_bearsFacts_40 ?hs_5 ?hi_5 rfl ?_
          case hs_5 => with_reducible first | exact FK.c0 hM | exact FK.c1 hM | exact FK.c2 hM | exact FK.c7 hM | exact FK.c129 hM | exact FK.c3 hM | exact FK.c4 hM | exact FK.c5 hM | exact FK.c6 hM | exact FK.c39 hM | exact FK.c40 hM | exact FK.c41 hM | exact FK.c42 hM | exact FK.c43 hM | exact FK.c128 hM | exact FK.c136 hM | exact FK.c137 hM | exact FK.c173 hM | exact FK.c174 hM | exact FK.c175 hM | exact FK.c176 hM | exact FK.c177 hM | exact FK.c178 hM | exact RK.c0 (FK.rk hkd hM) | exact RK.c1 (FK.rk hkd hM)
          case hi_5 => exact vp_in_nI (by omega) (by decide)
          rw [f41]
          refine S_callS (q := 44) 0 0 hX (c_X7_beats _) rfl u_335 u_336 u_13 u_337 ⟨by decide, by decide, rfl⟩ ⟨Nat.le_of_ble_eq_true rfl, Nat.le_of_ble_eq_true rfl⟩ ⟨Nat.le_of_ble_eq_true rfl, Nat.le_of_ble_eq_true rfl⟩ (Nat.le_of_ble_eq_true rfl) dX11_bearsFacts_41 ?hp_6 rfl rfl rfl ?_
          case hp_6 => trivial
          rintro v σ1 sz1 ⟨rfl, rfl, rfl⟩
          rw [lnZ_nI hr]
          refine S_istore (q := 46) [_, _, _, _, _] hX dX11_bearsFacts_44 rfl (Nat.le_of_ble_eq_true rfl) rfl rfl ?_
          refine S_aload_n (q := 47) hX dX11_bearsFacts_46 rfl rfl ?_
          refine S_getf (fs := ?fs_7) (v := ?v_7) (q := 50) hX u_285 fo_X11_now dX11_bearsFacts_47 ?hs_7 ?hv_7 rfl ?_
          case hs_7 => with_reducible first | exact FK.c0 hM | exact FK.c1 hM | exact FK.c2 hM | exact FK.c7 hM | exact FK.c129 hM | exact FK.c3 hM | exact FK.c4 hM | exact FK.c5 hM | exact FK.c6 hM | exact FK.c39 hM | exact FK.c40 hM | exact FK.c41 hM | exact FK.c42 hM | exact FK.c43 hM | exact FK.c128 hM | exact FK.c136 hM | exact FK.c137 hM | exact FK.c173 hM | exact FK.c174 hM | exact FK.c175 hM | exact FK.c176 hM | exact FK.c177 hM | exact FK.c178 hM | exact RK.c0 (FK.rk hkd hM) | exact RK.c1 (FK.rk hkd hM)
          case hv_7 => rfl
          refine S_getf (fs := ?fs_8) (v := ?v_8) (q := 53) hX u_99 fo_X9_factRows dX11_bearsFacts_50 ?hs_8 ?hv_8 rfl ?_
          case hs_8 => with_reducible first | exact FK.c0 hM | exact FK.c1 hM | exact FK.c2 hM | exact FK.c7 hM | exact FK.c129 hM | exact FK.c3 hM | exact FK.c4 hM | exact FK.c5 hM | exact FK.c6 hM | exact FK.c39 hM | exact FK.c40 hM | exact FK.c41 hM | exact FK.c42 hM | exact FK.c43 hM | exact FK.c128 hM | exact FK.c136 hM | exact FK.c137 hM | exact FK.c173 hM | exact FK.c174 hM | exact FK.c175 hM | exact FK.c176 hM | exact FK.c177 hM | exact FK.c178 hM | exact RK.c0 (FK.rk hkd hM) | exact RK.c1 (FK.rk hkd hM)
          case hv_8 => rfl
          refine S_iload_n (q := 54) hX dX11_bearsFacts_53 rfl rfl ?_
          refine S_iald (N := ?n_9) (f := ?f_9) (q := 55) hX dX11_bearsFacts_54 ?hs_9 ?hi_9 rfl ?_
          case hs_9 => with_reducible first | exact FK.c0 hM | exact FK.c1 hM | exact FK.c2 hM | exact FK.c7 hM | exact FK.c129 hM | exact FK.c3 hM | exact FK.c4 hM | exact FK.c5 hM | exact FK.c6 hM | exact FK.c39 hM | exact FK.c40 hM | exact FK.c41 hM | exact FK.c42 hM | exact FK.c43 hM | exact FK.c128 hM | exact FK.c136 hM | exact FK.c137 hM | exact FK.c173 hM | exact FK.c174 hM | exact FK.c175 hM | exact FK.c176 hM | exact FK.c177 hM | exact FK.c178 hM | exact RK.c0 (FK.rk hkd hM) | exact RK.c1 (FK.rk hkd hM)
          case hi_9 => exact vp_in_nI (by omega) (by decide)
          rw [f41]
          refine S_iload (q := 57) hX dX11_bearsFacts_55 rfl rfl ?_
          refine S_aload_n (q := 58) hX dX11_bearsFacts_57 rfl rfl ?_
          refine S_getf (fs := ?fs_10) (v := ?v_10) (q := 61) hX u_294 fo_X11_spelt dX11_bearsFacts_58 ?hs_10 ?hv_10 rfl ?_
          case hs_10 => with_reducible first | exact FK.c0 hM | exact FK.c1 hM | exact FK.c2 hM | exact FK.c7 hM | exact FK.c129 hM | exact FK.c3 hM | exact FK.c4 hM | exact FK.c5 hM | exact FK.c6 hM | exact FK.c39 hM | exact FK.c40 hM | exact FK.c41 hM | exact FK.c42 hM | exact FK.c43 hM | exact FK.c128 hM | exact FK.c136 hM | exact FK.c137 hM | exact FK.c173 hM | exact FK.c174 hM | exact FK.c175 hM | exact FK.c176 hM | exact FK.c177 hM | exact FK.c178 hM | exact RK.c0 (FK.rk hkd hM) | exact RK.c1 (FK.rk hkd hM)
          case hv_10 => rfl
          refine S_iconst (q := 62) (v := 0) hX dX11_bearsFacts_61 ic_0 rfl ?_
          refine S_callS (q := 65) 0 0 hX (c_X7_spell _ _ _ (q + 177) 6 (S.1.2.2.2.2.2.2 k).1 (ln (S.1.2.2.2.2.2.2 k).1) 0 (μ 177) rfl rfl rfl) rfl u_493 u_494 u_13 u_495 ⟨by decide, by decide, rfl⟩ ⟨Nat.le_of_ble_eq_true rfl, Nat.le_of_ble_eq_true rfl⟩ ⟨Nat.le_of_ble_eq_true rfl, Nat.le_of_ble_eq_true rfl⟩ (Nat.le_of_ble_eq_true rfl) dX11_bearsFacts_62 ?hp_11 rfl rfl rfl ?_
          case hp_11 => exact ⟨FK.c177 hM, by omega, by decide, hr⟩
          rintro v σ1 sz1 ⟨g', rfl, rfl, ⟨hg1, hg2⟩, rfl⟩
          have hM := hM.st (j := 177) (g := g') (e := ia 6 g') (by decide) rfl
          have hF := hF.su (a := q + 177) (e := ia 6 g') (by omega)
          refine S_aload_n (q := 66) hX dX11_bearsFacts_65 rfl rfl ?_
          refine S_aload_n (q := 67) hX dX11_bearsFacts_66 rfl rfl ?_
          refine S_getf (fs := ?fs_12) (v := ?v_12) (q := 70) hX u_294 fo_X11_spelt dX11_bearsFacts_67 ?hs_12 ?hv_12 rfl ?_
          case hs_12 => with_reducible first | exact FK.c0 hM | exact FK.c1 hM | exact FK.c2 hM | exact FK.c7 hM | exact FK.c129 hM | exact FK.c3 hM | exact FK.c4 hM | exact FK.c5 hM | exact FK.c6 hM | exact FK.c39 hM | exact FK.c40 hM | exact FK.c41 hM | exact FK.c42 hM | exact FK.c43 hM | exact FK.c128 hM | exact FK.c136 hM | exact FK.c137 hM | exact FK.c173 hM | exact FK.c174 hM | exact FK.c175 hM | exact FK.c176 hM | exact FK.c177 hM | exact FK.c178 hM | exact RK.c0 (FK.rk hkd hM) | exact RK.c1 (FK.rk hkd hM)
          case hv_12 => rfl
          refine S_iload (q := 72) hX dX11_bearsFacts_70 rfl rfl ?_
          refine S_callK (q := 75) 0 0 (hkd) hX (c_X3_listen (q + (138 + 7 * (0))) (fun j => (m1 μ 177 g') (138 + 7 * (0) + j)) (0) (q + 177) 6 (ln (S.1.2.2.2.2.2.2 k).1) _ ((m1 μ 177 g') 177) (fun b => drw 0 (stN (S.1.2.2.2.2.2.2 k).1 (ln (S.1.2.2.2.2.2.2 k).1) b) b) (S.1.1.2.1 c) (rfl)) rfl ?hs_13 u_536 u_539 u_537 u_6 u_544 u_538 u_542 u_541 u_543 u_540 ⟨by decide, by decide, rfl⟩ ⟨Nat.le_of_ble_eq_true rfl, Nat.le_of_ble_eq_true rfl⟩ ⟨Nat.le_of_ble_eq_true rfl, Nat.le_of_ble_eq_true rfl⟩ (Nat.le_of_ble_eq_true rfl) dX11_bearsFacts_72 ?hp_13 rfl rfl rfl ?_
          case hs_13 => exact ⟨_, (FK.rk hkd hM).c0⟩
          case hp_13 =>
            refine ⟨FK.rk hkd hM, hkd, hfd.ext (fun j hj => m1_ne (by omega)), hC, by omega, by omega, by decide, FK.c177 hM, by right; omega, ?_⟩
            intro i hi
            rw [m1_eq]
            have h := hg1 i hi
            rw [Nat.zero_add] at h
            exact ⟨by rw [drw_0]; exact h, drw_lt (stN_lt _ _ _)⟩
          rintro v σ sz1 ⟨g2, hM2, hF2, rfl, hL2, rfl⟩
          have hM := FK.jrk hkd hM hF2 hM2
          have hF := hF.trans (hF2.mono (Nat.le_add_right _ _) (by omega))
          have ht := (LisP.sp (f := m1 μ 177 g') (d := 138 + 7 * 0) hL2).tm hC
          have ht6 : (rdR 0 0 (S.1.2.2.2.2.2.2 k).1 (S.1.1.2.1 c)).length ≤ ln (S.1.2.2.2.2.2.2 k).1 := ht.2.1
          have ho' : ∀ j, j < 137 → spl (m1 μ 177 g') (138 + 7 * 0) 7 g2 j = γ j := fun j hj => by rw [spl_out (by omega), m1_ne (by omega)]; exact ho j hj
          have f42 : spl (m1 μ 177 g') (138 + 7 * 0) 7 g2 42 (nI k).toNatClampNeg = nI (S.1.2.2.2.2.2.2 k).2 := by rw [nI_clamp (by omega), ho' 42 (by decide)]; exact h8.2
          refine S_aload_n (q := 76) hX dX11_bearsFacts_75 rfl rfl ?_
          refine S_aload_n (q := 77) hX dX11_bearsFacts_76 rfl rfl ?_
          refine S_getf (fs := ?fs_14) (v := ?v_14) (q := 80) hX u_285 fo_X11_now dX11_bearsFacts_77 ?hs_14 ?hv_14 rfl ?_
          case hs_14 => with_reducible first | exact FK.c0 hM | exact FK.c1 hM | exact FK.c2 hM | exact FK.c7 hM | exact FK.c129 hM | exact FK.c3 hM | exact FK.c4 hM | exact FK.c5 hM | exact FK.c6 hM | exact FK.c39 hM | exact FK.c40 hM | exact FK.c41 hM | exact FK.c42 hM | exact FK.c43 hM | exact FK.c128 hM | exact FK.c136 hM | exact FK.c137 hM | exact FK.c173 hM | exact FK.c174 hM | exact FK.c175 hM | exact FK.c176 hM | exact FK.c177 hM | exact FK.c178 hM | exact RK.c0 (FK.rk hkd hM) | exact RK.c1 (FK.rk hkd hM)
          case hv_14 => rfl
          refine S_getf (fs := ?fs_15) (v := ?v_15) (q := 83) hX u_101 fo_X9_factWords dX11_bearsFacts_80 ?hs_15 ?hv_15 rfl ?_
          case hs_15 => with_reducible first | exact FK.c0 hM | exact FK.c1 hM | exact FK.c2 hM | exact FK.c7 hM | exact FK.c129 hM | exact FK.c3 hM | exact FK.c4 hM | exact FK.c5 hM | exact FK.c6 hM | exact FK.c39 hM | exact FK.c40 hM | exact FK.c41 hM | exact FK.c42 hM | exact FK.c43 hM | exact FK.c128 hM | exact FK.c136 hM | exact FK.c137 hM | exact FK.c173 hM | exact FK.c174 hM | exact FK.c175 hM | exact FK.c176 hM | exact FK.c177 hM | exact FK.c178 hM | exact RK.c0 (FK.rk hkd hM) | exact RK.c1 (FK.rk hkd hM)
          case hv_15 => rfl
          refine S_iload_n (q := 84) hX dX11_bearsFacts_83 rfl rfl ?_
          refine S_iald (N := ?n_16) (f := ?f_16) (q := 85) hX dX11_bearsFacts_84 ?hs_16 ?hi_16 rfl ?_
          case hs_16 => with_reducible first | exact FK.c0 hM | exact FK.c1 hM | exact FK.c2 hM | exact FK.c7 hM | exact FK.c129 hM | exact FK.c3 hM | exact FK.c4 hM | exact FK.c5 hM | exact FK.c6 hM | exact FK.c39 hM | exact FK.c40 hM | exact FK.c41 hM | exact FK.c42 hM | exact FK.c43 hM | exact FK.c128 hM | exact FK.c136 hM | exact FK.c137 hM | exact FK.c173 hM | exact FK.c174 hM | exact FK.c175 hM | exact FK.c176 hM | exact FK.c177 hM | exact FK.c178 hM | exact RK.c0 (FK.rk hkd hM) | exact RK.c1 (FK.rk hkd hM)
          case hi_16 => exact vp_in_nI (by omega) (by decide)
          refine S_callK (q := 88) 0 0 (hkd) hX (c_X3_timesOf (q + (138 + 7 * 0)) (fun j => spl (m1 μ 177 g') (138 + 7 * 0) 7 g2 (138 + 7 * 0 + j)) 0 _ ((S.1.2.2.2.2.2.2 k).2) (rdR 0 0 (S.1.2.2.2.2.2.2 k).1 (S.1.1.2.1 c)) f42) rfl ?hs_17 u_703 u_706 u_704 u_6 u_711 u_705 u_709 u_708 u_710 u_707 ⟨by decide, by decide, rfl⟩ ⟨Nat.le_of_ble_eq_true rfl, Nat.le_of_ble_eq_true rfl⟩ ⟨Nat.le_of_ble_eq_true rfl, Nat.le_of_ble_eq_true rfl⟩ (Nat.le_of_ble_eq_true rfl) dX11_bearsFacts_85 ?hp_17 rfl rfl rfl ?_
          case hs_17 => exact ⟨_, (FK.rk hkd hM).c0⟩
          case hp_17 => exact ⟨FK.rk hkd hM, ht.1, by have := ht.2.1; omega, ht.2.2.1, by have := hrow.2.2; omega, ht.2.2.2⟩
          rintro v σ1 sz1 ⟨rfl, rfl, rfl⟩
          refine S_if_ne (q := 91) 93 hX dX11_bearsFacts_88 rfl rfl (fun c88 => ?_) (fun c88 => ?_)
          · have hin : (S.1.2.2.2.2.2.2 k).2 ∈ rdR 0 0 (S.1.2.2.2.2.2.2 k).1 (S.1.1.2.1 c) := by
              rcases Nat.eq_zero_or_pos ((rdR 0 0 (S.1.2.2.2.2.2.2 k).1 (S.1.1.2.1 c)).count (S.1.2.2.2.2.2.2 k).2) with z | z
              · exact absurd (by rw [z]; rfl) c88
              · exact List.count_pos_iff.mp z
            refine S_iinc (q := 96) [_, _, _, _, _] hX dX11_bearsFacts_93 rfl (ii_1 _) rfl (Nat.le_of_ble_eq_true rfl) rfl rfl ?_
            refine S_goto 21 hX dX11_bearsFacts_96 rfl ?_
            rw [nI_1]
            exact ih (k + 1) _ _ _ hlt (by omega) ho' (FdC.sp hL2.1) (fun j hj => by rcases Nat.lt_succ_iff_lt_or_eq.mp hj with z | z; exact hal j z; rw [z]; exact hin) hM hF
          · have hin : ¬ (S.1.2.2.2.2.2.2 k).2 ∈ rdR 0 0 (S.1.2.2.2.2.2.2 k).1 (S.1.1.2.1 c) := fun h => by
              have h1 := List.count_pos_iff.mpr h
              have h2 := List.count_le_length (a := (S.1.2.2.2.2.2.2 k).2) (l := rdR 0 0 (S.1.2.2.2.2.2.2 k).1 (S.1.1.2.1 c))
              have := nI_inj (b := 0) (by omega) (by decide) (c88.trans rfl)
              omega
            refine S_iconst (q := 92) (v := 0) hX dX11_bearsFacts_91 ic_0 rfl ?_
            refine S_xret hX dX11_bearsFacts_92 (Nat.zero_le _) (Nat.zero_le _) (by decide) ?_
            refine hP _ _ _ ?_
            exact ⟨_, hM, hF, by rw [bP_f (show ¬ bears S c from fun w => hin (w k hlt))], ho', rfl⟩
  refine S_aload_n (q := 1) hX dX11_bearsFacts_0 rfl rfl ?_
  refine S_getf (fs := ?fs_18) (v := ?v_18) (q := 4) hX u_290 fo_X11_readers dX11_bearsFacts_1 ?hs_18 ?hv_18 rfl ?_
  case hs_18 => with_reducible first | exact FK.c0 hM | exact FK.c1 hM | exact FK.c2 hM | exact FK.c7 hM | exact FK.c129 hM | exact FK.c3 hM | exact FK.c4 hM | exact FK.c5 hM | exact FK.c6 hM | exact FK.c39 hM | exact FK.c40 hM | exact FK.c41 hM | exact FK.c42 hM | exact FK.c43 hM | exact FK.c128 hM | exact FK.c136 hM | exact FK.c137 hM | exact FK.c173 hM | exact FK.c174 hM | exact FK.c175 hM | exact FK.c176 hM | exact FK.c177 hM | exact FK.c178 hM | exact RK.c0 (FK.rk hkd hM) | exact RK.c1 (FK.rk hkd hM)
  case hv_18 => rfl
  refine S_iconst (q := 5) (v := 0) hX dX11_bearsFacts_4 ic_0 rfl ?_
  refine S_aald (N := ?n_19) (f := ?f_19) (y := q + (138 + 7 * 0)) (q := 6) (t := 3) hX dX11_bearsFacts_5 (by decide) rfl ?hs_19 ?hi_19 ?hy_19 rfl ?_
  case hs_19 => with_reducible first | exact FK.c0 hM | exact FK.c1 hM | exact FK.c2 hM | exact FK.c7 hM | exact FK.c129 hM | exact FK.c3 hM | exact FK.c4 hM | exact FK.c5 hM | exact FK.c6 hM | exact FK.c39 hM | exact FK.c40 hM | exact FK.c41 hM | exact FK.c42 hM | exact FK.c43 hM | exact FK.c128 hM | exact FK.c136 hM | exact FK.c137 hM | exact FK.c173 hM | exact FK.c174 hM | exact FK.c175 hM | exact FK.c176 hM | exact FK.c177 hM | exact FK.c178 hM | exact RK.c0 (FK.rk hkd hM) | exact RK.c1 (FK.rk hkd hM)
  case hi_19 => exact vp_in_nI (show 0 < 5 by decide) (by decide)
  case hy_19 => show some (q + (138 + 7 * (nI 0).toNatClampNeg)) = some (q + (138 + 7 * 0)); rw [nI_clamp (by omega)]
  refine S_astore_n (q := 7) [_, _, _, _, _] hX dX11_bearsFacts_6 rfl (Nat.le_of_ble_eq_true rfl) rfl rfl ?_
  refine S_aload_n (q := 8) hX dX11_bearsFacts_7 rfl rfl ?_
  refine S_aload_n (q := 9) hX dX11_bearsFacts_8 rfl rfl ?_
  refine S_getf (fs := ?fs_20) (v := ?v_20) (q := 12) hX u_285 fo_X11_now dX11_bearsFacts_9 ?hs_20 ?hv_20 rfl ?_
  case hs_20 => with_reducible first | exact FK.c0 hM | exact FK.c1 hM | exact FK.c2 hM | exact FK.c7 hM | exact FK.c129 hM | exact FK.c3 hM | exact FK.c4 hM | exact FK.c5 hM | exact FK.c6 hM | exact FK.c39 hM | exact FK.c40 hM | exact FK.c41 hM | exact FK.c42 hM | exact FK.c43 hM | exact FK.c128 hM | exact FK.c136 hM | exact FK.c137 hM | exact FK.c173 hM | exact FK.c174 hM | exact FK.c175 hM | exact FK.c176 hM | exact FK.c177 hM | exact FK.c178 hM | exact RK.c0 (FK.rk hkd hM) | exact RK.c1 (FK.rk hkd hM)
  case hv_20 => rfl
  refine S_getf (fs := ?fs_21) (v := ?v_21) (q := 15) hX u_85 fo_X9_codes dX11_bearsFacts_12 ?hs_21 ?hv_21 rfl ?_
  case hs_21 => with_reducible first | exact FK.c0 hM | exact FK.c1 hM | exact FK.c2 hM | exact FK.c7 hM | exact FK.c129 hM | exact FK.c3 hM | exact FK.c4 hM | exact FK.c5 hM | exact FK.c6 hM | exact FK.c39 hM | exact FK.c40 hM | exact FK.c41 hM | exact FK.c42 hM | exact FK.c43 hM | exact FK.c128 hM | exact FK.c136 hM | exact FK.c137 hM | exact FK.c173 hM | exact FK.c174 hM | exact FK.c175 hM | exact FK.c176 hM | exact FK.c177 hM | exact FK.c178 hM | exact RK.c0 (FK.rk hkd hM) | exact RK.c1 (FK.rk hkd hM)
  case hv_21 => rfl
  refine S_iload_n (q := 16) hX dX11_bearsFacts_15 rfl rfl ?_
  refine S_callK (q := 19) 0 0 (hkd) hX (c_X3_learn (q + (138 + 7 * (0))) (fun j => γ (138 + 7 * (0) + j)) (0) (q + 2) (c) _ (fun j => γ (2 + j)) (S.1.1.2.1 (c)) rfl) rfl ?hs_22 u_525 u_528 u_526 u_6 u_533 u_527 u_531 u_530 u_532 u_529 ⟨by decide, by decide, rfl⟩ ⟨Nat.le_of_ble_eq_true rfl, Nat.le_of_ble_eq_true rfl⟩ ⟨Nat.le_of_ble_eq_true rfl, Nat.le_of_ble_eq_true rfl⟩ (Nat.le_of_ble_eq_true rfl) dX11_bearsFacts_16 ?hp_22 rfl rfl rfl ?_
  case hs_22 => exact ⟨_, (FK.rk hkd hM).c0⟩
  case hp_22 => exact ⟨FK.rk hkd hM, FK.co hM, by left; omega, by omega, hC, hco.2.1 _ hc⟩
  rintro v σ sz1 ⟨g1, hM1, hF1, rfl, hfd1, rfl⟩
  have hM := FK.jrk hkd hM hF1 hM1
  have hF := hF.trans (hF1.mono (Nat.le_add_right _ _) (by omega))
  refine S_iconst (q := 20) (v := 0) hX dX11_bearsFacts_19 ic_0 rfl ?_
  refine S_istore_n (q := 21) [_, _, _, _, _] hX dX11_bearsFacts_20 rfl (Nat.le_of_ble_eq_true rfl) rfl rfl ?_
  exact l21 (S.1.2.2.2.2.2.1 + 1) 0 _ _ (spl γ (138 + 7 * 0) 7 g1) (Nat.zero_le _) (by omega) (fun j hj => spl_out (by omega)) hfd1.sp (fun j hj => absurd hj (Nat.not_lt_zero _)) hM hF
theorem c_X11_mayBe (q : Nat) (γ : MF) (S : ST)  : CT_X11_mayBe [.ref q] (fun Γ σ sz => FK σ q γ ∧ FR γ S ∧ StOk S) (fun Γ σ sz v σ' sz' => ∃ γ', FK σ' q γ' ∧ Fr q (q + 179) σ σ' ∧ v = some (.int (sp_mayBe S).1) ∧ FR γ' (sp_mayBe S).2 ∧ sz' = sz) := by
  refine CT.mkP rfl (Nat.le_of_ble_eq_true rfl) [_, _, _] rfl ?_
  intro X Γ σ sz P hX hpre hsz hP
  obtain ⟨hM, hR, ok⟩ := hpre
  obtain ⟨σ0, eσ0⟩ : ∃ z, z = σ := ⟨σ, rfl⟩
  rw [← eσ0] at hP
  have hF : Fr q (q + 179) σ0 σ := by rw [eσ0]; exact Fr.rf
  obtain ⟨r0, r1, r2, r3, r4, r5⟩ := id hR
  obtain ⟨t0, t1, t2, t3, t4, t5, t6, t7, t8⟩ := id r0
  obtain ⟨o1, o2, o3, o4, o5, o6, o7, o8, o9, o10⟩ := id ok.1
  have l4 : ∀ (fl c : Nat) (σ : Sg) (μ : MF), c ≤ S.1.1.1 → S.1.1.1 - c < fl → (∀ j, j < 137 → μ j = γ j) → FK σ q μ → Fr q (q + 179) σ0 σ → G X Γ P 0 0 4 [some (.ref q), some (.int (mbI S c)), some (.int (nI c))] [] σ sz := by
    intro fl
    induction fl with
      | zero => intro c σ μ h1 h2; omega
      | succ fl ih =>
        intro c σ μ hc hfu ho hM hF
        have hn1 : μ 2 0 = nI S.1.1.1 := by rw [ho 2 (by decide)]; exact t0.1
        refine S_iload_n (q := 5) hX dX11_mayBe_4 rfl rfl ?_
        refine S_aload_n (q := 6) hX dX11_mayBe_5 rfl rfl ?_
        refine S_getf (fs := ?fs_1) (v := ?v_1) (q := 9) hX u_285 fo_X11_now dX11_mayBe_6 ?hs_1 ?hv_1 rfl ?_
        case hs_1 => with_reducible first | exact FK.c0 hM | exact FK.c1 hM | exact FK.c2 hM | exact FK.c7 hM | exact FK.c129 hM | exact FK.c3 hM | exact FK.c4 hM | exact FK.c5 hM | exact FK.c6 hM | exact FK.c39 hM | exact FK.c40 hM | exact FK.c41 hM | exact FK.c42 hM | exact FK.c43 hM | exact FK.c128 hM | exact FK.c136 hM | exact FK.c137 hM | exact FK.c173 hM | exact FK.c174 hM | exact FK.c175 hM | exact FK.c176 hM | exact FK.c177 hM | exact FK.c178 hM
        case hv_1 => rfl
        refine S_getf (fs := ?fs_2) (v := ?v_2) (q := 12) hX u_85 fo_X9_codes dX11_mayBe_9 ?hs_2 ?hv_2 rfl ?_
        case hs_2 => with_reducible first | exact FK.c0 hM | exact FK.c1 hM | exact FK.c2 hM | exact FK.c7 hM | exact FK.c129 hM | exact FK.c3 hM | exact FK.c4 hM | exact FK.c5 hM | exact FK.c6 hM | exact FK.c39 hM | exact FK.c40 hM | exact FK.c41 hM | exact FK.c42 hM | exact FK.c43 hM | exact FK.c128 hM | exact FK.c136 hM | exact FK.c137 hM | exact FK.c173 hM | exact FK.c174 hM | exact FK.c175 hM | exact FK.c176 hM | exact FK.c177 hM | exact FK.c178 hM
        case hv_2 => rfl
        refine S_getf (fs := ?fs_3) (v := ?v_3) (q := 15) hX u_41 fo_X2_codes dX11_mayBe_12 ?hs_3 ?hv_3 rfl ?_
        case hs_3 => with_reducible first | exact FK.c0 hM | exact FK.c1 hM | exact FK.c2 hM | exact FK.c7 hM | exact FK.c129 hM | exact FK.c3 hM | exact FK.c4 hM | exact FK.c5 hM | exact FK.c6 hM | exact FK.c39 hM | exact FK.c40 hM | exact FK.c41 hM | exact FK.c42 hM | exact FK.c43 hM | exact FK.c128 hM | exact FK.c136 hM | exact FK.c137 hM | exact FK.c173 hM | exact FK.c174 hM | exact FK.c175 hM | exact FK.c176 hM | exact FK.c177 hM | exact FK.c178 hM
        case hv_3 => rfl
        refine S_icmp_ge (q := 18) 38 hX dX11_mayBe_15 rfl rfl (fun c15 => ?_) (fun c15 => ?_)
        · have hge : c = S.1.1.1 := by rw [hn1, nI_leI (by omega) (by omega)] at c15; omega
          refine S_iload_n (q := 39) hX dX11_mayBe_38 rfl rfl ?_
          refine S_iret hX dX11_mayBe_39 (Nat.zero_le _) (Nat.zero_le _) ?_
          refine hP _ _ _ ?_
          have hsp : sp_mayBe S = (mbI S S.1.1.1, S) := rfl
          rw [hsp, hge]
          exact ⟨_, hM, hF, rfl, hR.scr ok ho, rfl⟩
        · have hlt : c < S.1.1.1 := by rw [hn1, nI_leI (by omega) (by omega)] at c15; omega
          refine S_aload_n (q := 19) hX dX11_mayBe_18 rfl rfl ?_
          refine S_iload_n (q := 20) hX dX11_mayBe_19 rfl rfl ?_
          refine S_callV (ci := 11) (C := "FanTalk") (T := TX11) (N := 11) (q := 23) 0 0 hX (c_X11_bearsFacts q μ S _ c rfl) rfl ?hs_4 rfl u_720 u_722 us_24 u_1 u_723 ⟨by decide, by decide, rfl⟩ ⟨Nat.le_of_ble_eq_true rfl, Nat.le_of_ble_eq_true rfl⟩ ⟨Nat.le_of_ble_eq_true rfl, Nat.le_of_ble_eq_true rfl⟩ (Nat.le_of_ble_eq_true rfl) dX11_mayBe_20 ?hp_4 rfl rfl rfl ?_
          case hs_4 => first | with_reducible assumption | exact ⟨_, FK.c0 hM⟩ | exact ⟨_, FK.c2 hM⟩ | exact ⟨_, FK.c7 hM⟩ | exact ⟨_, FK.c129 hM⟩ | exact ⟨_, FK.c173 hM⟩ | exact ⟨_, FK.c1 hM⟩
          case hp_4 => exact ⟨hM, hR.scr ok ho, ok, hlt⟩
          rintro v σ sz1 ⟨μ1, hM, hF1, rfl, ho1, rfl⟩
          have hF := hF.trans hF1
          have ho2 : ∀ j, j < 137 → μ1 j = γ j := fun j hj => (ho1 j hj).trans (ho j hj)
          refine S_if_eq (q := 26) 32 hX dX11_mayBe_23 rfl rfl (fun c23 => ?_) (fun c23 => ?_)
          · have hb : ¬ bears S c := fun h => by rw [bP_t h] at c23; exact absurd c23 (by decide)
            refine S_iinc (q := 35) [_, _, _] hX dX11_mayBe_32 rfl (ii_1 _) rfl (Nat.le_of_ble_eq_true rfl) rfl rfl ?_
            refine S_goto 4 hX dX11_mayBe_35 rfl ?_
            rw [nI_1]
            refine S_L (L' := [some (.ref q), some (.int (mbI S (c + 1))), some (.int (nI (c + 1)))]) (by rw [mbI_f hb, or_0]) ?_
            exact ih (c + 1) _ μ1 hlt (by omega) ho2 hM hF
          · have hb : bears S c := Classical.byContradiction fun h => c23 (bP_f h)
            refine S_iload_n (q := 27) hX dX11_mayBe_26 rfl rfl ?_
            refine S_iconst (q := 28) (v := 1) hX dX11_mayBe_27 ic_1 rfl ?_
            refine S_iload_n (q := 29) hX dX11_mayBe_28 rfl rfl ?_
            refine S_ishl (q := 30) hX dX11_mayBe_29 rfl ?_
            refine S_ior (q := 31) hX dX11_mayBe_30 rfl ?_
            refine S_istore_n (q := 32) [_, _, _] hX dX11_mayBe_31 rfl (Nat.le_of_ble_eq_true rfl) rfl rfl ?_
            refine S_iinc (q := 35) [_, _, _] hX dX11_mayBe_32 rfl (ii_1 _) rfl (Nat.le_of_ble_eq_true rfl) rfl rfl ?_
            refine S_goto 4 hX dX11_mayBe_35 rfl ?_
            rw [nI_1]
            refine S_L (L' := [some (.ref q), some (.int (mbI S (c + 1))), some (.int (nI (c + 1)))]) (by rw [mbI_t hb]) ?_
            exact ih (c + 1) _ μ1 hlt (by omega) ho2 hM hF
  refine S_iconst (q := 1) (v := 0) hX dX11_mayBe_0 ic_0 rfl ?_
  refine S_istore_n (q := 2) [_, _, _] hX dX11_mayBe_1 rfl (Nat.le_of_ble_eq_true rfl) rfl rfl ?_
  refine S_iconst (q := 3) (v := 0) hX dX11_mayBe_2 ic_0 rfl ?_
  refine S_istore_n (q := 4) [_, _, _] hX dX11_mayBe_3 rfl (Nat.le_of_ble_eq_true rfl) rfl rfl ?_
  exact l4 4 0 _ γ (Nat.zero_le _) (by omega) (fun j _ => rfl) hM hF
