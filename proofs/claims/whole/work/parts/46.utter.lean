theorem dgF_z (F : Nat → Int64) (h : Int64) : dgF F 0 h = h := rfl
/-- only the script has changed: its text is another -/
theorem FR.txt {γ γ' : MF} {S : ST} {t0 t : Nat × (Nat → Nat)} (h : FR γ (S.1, S.2.1, S.2.2.1, t0)) (ok : StOk S) (e : ∀ j, j < 137 → (j < 129 ∨ 136 ≤ j) → γ' j = γ j) (h0 : γ' 129 0 = nI t.1) (h1 : ∀ i, i < t.1 → γ' 130 i = nI (t.2 i)) (hu : U0 (fun j => γ' (129 + j))) : FR γ' (S.1, S.2.1, S.2.2.1, t) := by
  obtain ⟨r0, r1, r2, r3, r4, r5⟩ := h
  exact ⟨r0.ext ok.1.2.2.1 (fun j hj => e _ (by omega) (by omega)), fun i hi => ⟨(r1 i hi).1.ext (e _ (by omega) (by omega)), by rw [e 128 (by decide) (by decide)]; exact (r1 i hi).2.1, fun D hD => ((r1 i hi).2.2 D hD).ext (ok.2.1 i hi D hD).2.2.1 (fun j hj => e _ (by omega) (by omega))⟩, fun k hk => by rw [e 136 (by decide) (by decide)]; exact r2 k hk, h0, h1, hu⟩

theorem c_X11_utter (q : Nat) (γ : MF) (S : ST) (x : Int32) : CT_X11_utter [.ref q, .int x] (fun Γ σ sz => FK σ q γ ∧ FR γ S ∧ StOk S) (fun Γ σ sz v σ' sz' => ∃ γ', FK σ' q γ' ∧ Fr q (q + 179) σ σ' ∧ v = some (.int (sp_utter S x).1) ∧ FR γ' (sp_utter S x).2 ∧ sz' = sz) := by
  refine CT.mkP rfl (Nat.le_of_ble_eq_true rfl) [_, _, _, _] rfl ?_
  intro X Γ σ sz P hX hpre hsz hP
  obtain ⟨hM, hR, ok⟩ := hpre
  obtain ⟨σ0, eσ0⟩ : ∃ z, z = σ := ⟨σ, rfl⟩
  rw [← eσ0] at hP
  have hF : Fr q (q + 179) σ0 σ := by rw [eσ0]; exact Fr.rf
  obtain ⟨r0, r1, r2, r3, r4, r5⟩ := id hR
  obtain ⟨t0, t1, t2, t3, t4, t5, t6, t7, t8⟩ := id r0
  obtain ⟨o1, o2, o3, o4, o5, o6, o7, o8, o9, o10⟩ := id ok.1
  have l43 : ∀ (μ2 : MF), sp_utter S x = (nI (rdS S 0 (tN x)).length, stC S ((S.1.1.1, S.1.1.2.1, usL S.1.1.2.2 (rdS S 0 (tN x))), psh S.1.2.1 S.1.1, S.1.2.2)) → tN x < S.1.1.1 → FR μ2 (kS S) → μ2 (138 + 7 * 0 + 0) 1 = nI (rdS S 0 (tN x)).length → WL (μ2 (138 + 7 * 0 + 1)) (rdS S 0 (tN x)) → ∀ (fl k : Nat) (σ : Sg) (μ : MF), k ≤ (rdS S 0 (tN x)).length → (rdS S 0 (tN x)).length - k < fl → CoR (fun j => μ (2 + j)) (S.1.1.1, S.1.1.2.1, usL S.1.1.2.2 ((rdS S 0 (tN x)).take k)) → (∀ j, j < 2 ∨ 7 ≤ j → μ j = μ2 j) → FK σ q μ → Fr q (q + 179) σ0 σ → G X Γ P 0 0 43 [some (.ref q), some (.int x), some (.ref (q + (138 + 7 * 0))), some (.int (nI k))] [] σ sz := by
    intro μ2 hsp hcy hR2 hn hw fl
    have hkd : 0 < 5 := by decide
    have hl6 := rdS_len S 0 (tN x)
    induction fl with
      | zero => intro k σ μ h1 h2; omega
      | succ fl ih =>
        intro k σ μ hk hfu hB ho hM hF
        have hn1 : μ (138 + 7 * 0 + 0) 1 = nI (rdS S 0 (tN x)).length := by rw [ho _ (by omega)]; exact hn
        have hw1 : WL (μ (138 + 7 * 0 + 1)) (rdS S 0 (tN x)) := by rw [ho _ (by omega)]; exact hw
        refine S_iload_n (q := 44) hX dX11_utter_43 rfl rfl ?_
        refine S_aload_n (q := 45) hX dX11_utter_44 rfl rfl ?_
        refine S_getf (fs := ?fs_1) (v := ?v_1) (q := 48) hX u_181 (fo_F_heard (cik_F 0)) dX11_utter_45 ?hs_1 ?hv_1 rfl ?_
        case hs_1 => with_reducible first | exact FK.c0 hM | exact FK.c1 hM | exact FK.c2 hM | exact FK.c7 hM | exact FK.c129 hM | exact FK.c3 hM | exact FK.c4 hM | exact FK.c5 hM | exact FK.c6 hM | exact FK.c39 hM | exact FK.c40 hM | exact FK.c41 hM | exact FK.c42 hM | exact FK.c43 hM | exact FK.c128 hM | exact FK.c136 hM | exact FK.c137 hM | exact FK.c173 hM | exact FK.c174 hM | exact FK.c175 hM | exact FK.c176 hM | exact FK.c177 hM | exact FK.c178 hM | exact RK.c0 (FK.rk hkd hM) | exact RK.c1 (FK.rk hkd hM)
        case hv_1 => rfl
        refine S_icmp_ge (q := 51) 73 hX dX11_utter_48 rfl rfl (fun c48 => ?_) (fun c48 => ?_)
        · have hge : k = (rdS S 0 (tN x)).length := by rw [hn1, nI_leI (by omega) (by omega)] at c48; omega
          refine S_aload_n (q := 74) hX dX11_utter_73 rfl rfl ?_
          refine S_getf (fs := ?fs_2) (v := ?v_2) (q := 77) hX u_181 (fo_F_heard (cik_F 0)) dX11_utter_74 ?hs_2 ?hv_2 rfl ?_
          case hs_2 => with_reducible first | exact FK.c0 hM | exact FK.c1 hM | exact FK.c2 hM | exact FK.c7 hM | exact FK.c129 hM | exact FK.c3 hM | exact FK.c4 hM | exact FK.c5 hM | exact FK.c6 hM | exact FK.c39 hM | exact FK.c40 hM | exact FK.c41 hM | exact FK.c42 hM | exact FK.c43 hM | exact FK.c128 hM | exact FK.c136 hM | exact FK.c137 hM | exact FK.c173 hM | exact FK.c174 hM | exact FK.c175 hM | exact FK.c176 hM | exact FK.c177 hM | exact FK.c178 hM | exact RK.c0 (FK.rk hkd hM) | exact RK.c1 (FK.rk hkd hM)
          case hv_2 => rfl
          refine S_iret hX dX11_utter_77 (Nat.zero_le _) (Nat.zero_le _) ?_
          refine hP _ _ _ ?_
          rw [hsp]
          subst hge
          rw [List.take_length] at hB
          exact ⟨_, hM, hF, congrArg (fun z => some (Value.int z)) hn1, hR2.now (kS_ok ok) (fun j a b => ho _ (by omega)) (TkR.past (f := fun j => μ2 (1 + j)) (C := (kS S).1) hR2.1 (hB.ext (fun j hj => by show μ (1 + (1 + j)) = μ (2 + j); congr 1; omega)) (hR2.1.2.1.ext (psh_le o3) (fun j a b => ho _ (by omega))) (fun j a b => ho _ (by omega))), rfl⟩
        · have hlt : k < (rdS S 0 (tN x)).length := by rw [hn1, nI_leI (by omega) (by omega)] at c48; omega
          have f1 : μ (138 + 7 * 0 + 1) (nI k).toNatClampNeg = nI ((rdS S 0 (tN x)).getD k 0) := by rw [nI_clamp (by omega)]; exact hw1 k hlt
          refine S_aload_n (q := 52) hX dX11_utter_51 rfl rfl ?_
          refine S_getf (fs := ?fs_3) (v := ?v_3) (q := 55) hX u_285 fo_X11_now dX11_utter_52 ?hs_3 ?hv_3 rfl ?_
          case hs_3 => with_reducible first | exact FK.c0 hM | exact FK.c1 hM | exact FK.c2 hM | exact FK.c7 hM | exact FK.c129 hM | exact FK.c3 hM | exact FK.c4 hM | exact FK.c5 hM | exact FK.c6 hM | exact FK.c39 hM | exact FK.c40 hM | exact FK.c41 hM | exact FK.c42 hM | exact FK.c43 hM | exact FK.c128 hM | exact FK.c136 hM | exact FK.c137 hM | exact FK.c173 hM | exact FK.c174 hM | exact FK.c175 hM | exact FK.c176 hM | exact FK.c177 hM | exact FK.c178 hM | exact RK.c0 (FK.rk hkd hM) | exact RK.c1 (FK.rk hkd hM)
          case hv_3 => rfl
          refine S_getf (fs := ?fs_4) (v := ?v_4) (q := 58) hX u_85 fo_X9_codes dX11_utter_55 ?hs_4 ?hv_4 rfl ?_
          case hs_4 => with_reducible first | exact FK.c0 hM | exact FK.c1 hM | exact FK.c2 hM | exact FK.c7 hM | exact FK.c129 hM | exact FK.c3 hM | exact FK.c4 hM | exact FK.c5 hM | exact FK.c6 hM | exact FK.c39 hM | exact FK.c40 hM | exact FK.c41 hM | exact FK.c42 hM | exact FK.c43 hM | exact FK.c128 hM | exact FK.c136 hM | exact FK.c137 hM | exact FK.c173 hM | exact FK.c174 hM | exact FK.c175 hM | exact FK.c176 hM | exact FK.c177 hM | exact FK.c178 hM | exact RK.c0 (FK.rk hkd hM) | exact RK.c1 (FK.rk hkd hM)
          case hv_4 => rfl
          refine S_aload_n (q := 59) hX dX11_utter_58 rfl rfl ?_
          refine S_getf (fs := ?fs_5) (v := ?v_5) (q := 62) hX u_175 (fo_F_words (cik_F 0)) dX11_utter_59 ?hs_5 ?hv_5 rfl ?_
          case hs_5 => with_reducible first | exact FK.c0 hM | exact FK.c1 hM | exact FK.c2 hM | exact FK.c7 hM | exact FK.c129 hM | exact FK.c3 hM | exact FK.c4 hM | exact FK.c5 hM | exact FK.c6 hM | exact FK.c39 hM | exact FK.c40 hM | exact FK.c41 hM | exact FK.c42 hM | exact FK.c43 hM | exact FK.c128 hM | exact FK.c136 hM | exact FK.c137 hM | exact FK.c173 hM | exact FK.c174 hM | exact FK.c175 hM | exact FK.c176 hM | exact FK.c177 hM | exact FK.c178 hM | exact RK.c0 (FK.rk hkd hM) | exact RK.c1 (FK.rk hkd hM)
          case hv_5 => rfl
          refine S_iload_n (q := 63) hX dX11_utter_62 rfl rfl ?_
          refine S_iald (N := ?n_6) (f := ?f_6) (q := 64) hX dX11_utter_63 ?hs_6 ?hi_6 rfl ?_
          case hs_6 => with_reducible first | exact FK.c0 hM | exact FK.c1 hM | exact FK.c2 hM | exact FK.c7 hM | exact FK.c129 hM | exact FK.c3 hM | exact FK.c4 hM | exact FK.c5 hM | exact FK.c6 hM | exact FK.c39 hM | exact FK.c40 hM | exact FK.c41 hM | exact FK.c42 hM | exact FK.c43 hM | exact FK.c128 hM | exact FK.c136 hM | exact FK.c137 hM | exact FK.c173 hM | exact FK.c174 hM | exact FK.c175 hM | exact FK.c176 hM | exact FK.c177 hM | exact FK.c178 hM | exact RK.c0 (FK.rk hkd hM) | exact RK.c1 (FK.rk hkd hM)
          case hi_6 => exact vp_in_nI (by omega) (by decide)
          refine S_callV (ci := 2) (C := "FanTalk$Codes") (T := TX2) (N := 5) (q := 67) 0 0 hX (c_X2_use (q + 2) (fun j => μ (2 + j)) _ ((rdS S 0 (tN x)).getD k 0) (S.1.1.1, S.1.1.2.1, usL S.1.1.2.2 ((rdS S 0 (tN x)).take k)) f1) rfl ?hs_7 rfl u_607 u_608 u_609 u_3 u_610 ⟨by decide, by decide, rfl⟩ ⟨Nat.le_of_ble_eq_true rfl, Nat.le_of_ble_eq_true rfl⟩ ⟨Nat.le_of_ble_eq_true rfl, Nat.le_of_ble_eq_true rfl⟩ (Nat.le_of_ble_eq_true rfl) dX11_utter_64 ?hp_7 rfl rfl rfl ?_
          case hs_7 => exact ⟨_, FK.c2 hM⟩
          case hp_7 => exact ⟨FK.co hM, hB, getD_10 (rdS_10 ok hcy) k, usL_le (u := fun _ => 0) _ _ o2.2.2 _ (getD_10 (rdS_10 ok hcy) k)⟩
          rintro v σ sz1 ⟨g1, hM1, hF1, rfl, hB1, rfl⟩
          have hM := FK.jco hM hF1 hM1
          have hF := hF.trans (hF1.mono (Nat.le_add_right _ _) (by omega))
          refine S_iinc (q := 70) [_, _, _, _] hX dX11_utter_67 rfl (ii_1 _) rfl (Nat.le_of_ble_eq_true rfl) rfl rfl ?_
          refine S_goto 43 hX dX11_utter_70 rfl ?_
          rw [nI_1]
          refine ih (k + 1) _ (spl μ 2 5 g1) hlt (by omega) ?_ (fun j hj => by rw [spl_out (by omega)]; exact ho j hj) hM hF
          rw [usL_take _ hlt]
          exact hB1.ext (fun j hj => by show spl μ 2 5 g1 (2 + j) = g1 j; rw [spl_in ⟨by omega, by omega⟩, Nat.add_sub_cancel_left])
  refine S_aload_n (q := 1) hX dX11_utter_0 rfl rfl ?_
  refine S_iload_n (q := 2) hX dX11_utter_1 rfl rfl ?_
  refine S_callV (ci := 11) (C := "FanTalk") (T := TX11) (N := 11) (q := 5) 0 0 hX (c_X11_isCode q γ S _) rfl ?hs_8 rfl u_338 u_340 us_1 u_1 u_341 ⟨by decide, by decide, rfl⟩ ⟨Nat.le_of_ble_eq_true rfl, Nat.le_of_ble_eq_true rfl⟩ ⟨Nat.le_of_ble_eq_true rfl, Nat.le_of_ble_eq_true rfl⟩ (Nat.le_of_ble_eq_true rfl) dX11_utter_2 ?hp_8 rfl rfl rfl ?_
  case hs_8 => first | with_reducible assumption | exact ⟨_, FK.c0 hM⟩ | exact ⟨_, FK.c2 hM⟩ | exact ⟨_, FK.c7 hM⟩ | exact ⟨_, FK.c129 hM⟩ | exact ⟨_, FK.c173 hM⟩ | exact ⟨_, FK.c1 hM⟩
  case hp_8 => exact ⟨hM, hR, ok⟩
  rintro v σ1 sz1 ⟨rfl, rfl, rfl⟩
  refine S_if_ne_b (q := 8) 17 hX dX11_utter_5 rfl rfl (fun c5 => ?_) (fun c5 => ?_)
  · have cx := okc.ex c5
    refine S_aload_n (q := 18) hX dX11_utter_17 rfl rfl ?_
    refine S_getf (fs := ?fs_9) (v := ?v_9) (q := 21) hX u_285 fo_X11_now dX11_utter_18 ?hs_9 ?hv_9 rfl ?_
    case hs_9 => with_reducible first | exact FK.c0 hM | exact FK.c1 hM | exact FK.c2 hM | exact FK.c7 hM | exact FK.c129 hM | exact FK.c3 hM | exact FK.c4 hM | exact FK.c5 hM | exact FK.c6 hM | exact FK.c39 hM | exact FK.c40 hM | exact FK.c41 hM | exact FK.c42 hM | exact FK.c43 hM | exact FK.c128 hM | exact FK.c136 hM | exact FK.c137 hM | exact FK.c173 hM | exact FK.c174 hM | exact FK.c175 hM | exact FK.c176 hM | exact FK.c177 hM | exact FK.c178 hM | exact RK.c0 (FK.rk hkd hM) | exact RK.c1 (FK.rk hkd hM)
    case hv_9 => rfl
    refine S_getf (fs := ?fs_10) (v := ?v_10) (q := 24) hX u_87 fo_X9_past dX11_utter_21 ?hs_10 ?hv_10 rfl ?_
    case hs_10 => with_reducible first | exact FK.c0 hM | exact FK.c1 hM | exact FK.c2 hM | exact FK.c7 hM | exact FK.c129 hM | exact FK.c3 hM | exact FK.c4 hM | exact FK.c5 hM | exact FK.c6 hM | exact FK.c39 hM | exact FK.c40 hM | exact FK.c41 hM | exact FK.c42 hM | exact FK.c43 hM | exact FK.c128 hM | exact FK.c136 hM | exact FK.c137 hM | exact FK.c173 hM | exact FK.c174 hM | exact FK.c175 hM | exact FK.c176 hM | exact FK.c177 hM | exact FK.c178 hM | exact RK.c0 (FK.rk hkd hM) | exact RK.c1 (FK.rk hkd hM)
    case hv_10 => rfl
    refine S_aload_n (q := 25) hX dX11_utter_24 rfl rfl ?_
    refine S_getf (fs := ?fs_11) (v := ?v_11) (q := 28) hX u_285 fo_X11_now dX11_utter_25 ?hs_11 ?hv_11 rfl ?_
    case hs_11 => with_reducible first | exact FK.c0 hM | exact FK.c1 hM | exact FK.c2 hM | exact FK.c7 hM | exact FK.c129 hM | exact FK.c3 hM | exact FK.c4 hM | exact FK.c5 hM | exact FK.c6 hM | exact FK.c39 hM | exact FK.c40 hM | exact FK.c41 hM | exact FK.c42 hM | exact FK.c43 hM | exact FK.c128 hM | exact FK.c136 hM | exact FK.c137 hM | exact FK.c173 hM | exact FK.c174 hM | exact FK.c175 hM | exact FK.c176 hM | exact FK.c177 hM | exact FK.c178 hM | exact RK.c0 (FK.rk hkd hM) | exact RK.c1 (FK.rk hkd hM)
    case hv_11 => rfl
    refine S_getf (fs := ?fs_12) (v := ?v_12) (q := 31) hX u_85 fo_X9_codes dX11_utter_28 ?hs_12 ?hv_12 rfl ?_
    case hs_12 => with_reducible first | exact FK.c0 hM | exact FK.c1 hM | exact FK.c2 hM | exact FK.c7 hM | exact FK.c129 hM | exact FK.c3 hM | exact FK.c4 hM | exact FK.c5 hM | exact FK.c6 hM | exact FK.c39 hM | exact FK.c40 hM | exact FK.c41 hM | exact FK.c42 hM | exact FK.c43 hM | exact FK.c128 hM | exact FK.c136 hM | exact FK.c137 hM | exact FK.c173 hM | exact FK.c174 hM | exact FK.c175 hM | exact FK.c176 hM | exact FK.c177 hM | exact FK.c178 hM | exact RK.c0 (FK.rk hkd hM) | exact RK.c1 (FK.rk hkd hM)
    case hv_12 => rfl
    refine S_callV (ci := 6) (C := "FanTalk$Past") (T := TX6) (N := 2) (q := 34) 0 0 hX (c_X6_keep (q + 1) (fun j => γ (1 + j)) S.1.2.1 S.1.1) rfl ?hs_13 rfl u_598 u_599 u_600 u_4 u_601 ⟨by decide, by decide, rfl⟩ ⟨Nat.le_of_ble_eq_true rfl, Nat.le_of_ble_eq_true rfl⟩ ⟨Nat.le_of_ble_eq_true rfl, Nat.le_of_ble_eq_true rfl⟩ (Nat.le_of_ble_eq_true rfl) dX11_utter_31 ?hp_13 rfl rfl rfl ?_
    case hs_13 => exact ⟨_, FK.c7 hM⟩
    case hp_13 => exact ⟨FK.tk hM, t1, o3, t0, o2.s o1⟩
    rintro v σ sz1 ⟨g1, hM1, hF1, rfl, ⟨hP1, ho1⟩, rfl⟩
    have hM := FK.jtk hM hF1 hM1
    have hF := hF.trans (hF1.mono (Nat.le_add_right _ _) (by omega))
    have hRk : FR (spl γ 1 42 g1) (kS S) := by
      refine hR.now ok (fun j a b => by rw [spl_out (by omega)]) (TkR.ext (f := g1) ?_ (psh_le o3) (fun j hj => sp1 hj))
      exact r0.past (f' := g1) (t0.ext (fun j hj => ho1 _ (by omega) (by omega) (by omega))) hP1 (fun j a b => ho1 j (by omega) (by omega) (by omega))
    refine S_aload_n (q := 35) hX dX11_utter_34 rfl rfl ?_
    refine S_iconst (q := 36) (v := 0) hX dX11_utter_35 ic_0 rfl ?_
    refine S_iload_n (q := 37) hX dX11_utter_36 rfl rfl ?_
    refine S_callV (ci := 11) (C := "FanTalk") (T := TX11) (N := 11) (q := 40) 0 0 hX (c_X11_readSaying q (spl γ 1 42 g1) (kS S) _ _ (0) (tN x) rfl cx.1) rfl ?hs_14 rfl u_521 u_523 us_13 u_1 u_524 ⟨by decide, by decide, rfl⟩ ⟨Nat.le_of_ble_eq_true rfl, Nat.le_of_ble_eq_true rfl⟩ ⟨Nat.le_of_ble_eq_true rfl, Nat.le_of_ble_eq_true rfl⟩ (Nat.le_of_ble_eq_true rfl) dX11_utter_37 ?hp_14 rfl rfl rfl ?_
    case hs_14 => first | with_reducible assumption | exact ⟨_, FK.c0 hM⟩ | exact ⟨_, FK.c2 hM⟩ | exact ⟨_, FK.c7 hM⟩ | exact ⟨_, FK.c129 hM⟩ | exact ⟨_, FK.c173 hM⟩ | exact ⟨_, FK.c1 hM⟩
    case hp_14 => exact ⟨hM, hRk, (kS_ok ok), by decide, cx.2.1⟩
    rintro v σ sz1 ⟨μ2, hM, hF1, rfl, ⟨o2, hL2⟩, rfl⟩
    have hF := hF.trans hF1
    have hR2 := hRk.scr (γ' := μ2) (kS_ok ok) (fun j hj => o2 j (by omega) (by omega))
    refine S_astore_n (q := 41) [_, _, _, _] hX dX11_utter_40 rfl (Nat.le_of_ble_eq_true rfl) rfl rfl ?_
    refine S_iconst (q := 42) (v := 0) hX dX11_utter_41 ic_0 rfl ?_
    refine S_istore_n (q := 43) [_, _, _, _] hX dX11_utter_42 rfl (Nat.le_of_ble_eq_true rfl) rfl rfl ?_
    have hw2 := hL2.w
    exact l43 μ2 (by unfold sp_utter; rw [if_neg (fun w => w c5)]) cx.2.1 hR2 hw2.1 hw2.2 7 0 _ μ2 (Nat.zero_le _) (by have := rdS_len S 0 (tN x); omega) (hR2.1.1.ext (fun j hj => by show μ2 (2 + j) = μ2 (1 + (1 + j)); congr 1; omega)) (fun j _ => rfl) hM hF
  · refine S_aload_n (q := 9) hX dX11_utter_8 rfl rfl ?_
    refine S_bipush (q := 11) (v := (-2)) hX dX11_utter_9 bp_m2 rfl ?_
    refine S_bipush (q := 13) (v := (-2)) hX dX11_utter_11 bp_m2 rfl ?_
    refine S_callV (ci := 11) (C := "FanTalk") (T := TX11) (N := 11) (q := 16) 0 0 hX (c_X11_refused q γ _ _ 0 (by decide)) rfl ?hs_15 rfl u_323 u_325 us_0 u_1 u_326 ⟨by decide, by decide, rfl⟩ ⟨Nat.le_of_ble_eq_true rfl, Nat.le_of_ble_eq_true rfl⟩ ⟨Nat.le_of_ble_eq_true rfl, Nat.le_of_ble_eq_true rfl⟩ (Nat.le_of_ble_eq_true rfl) dX11_utter_13 ?hp_15 rfl rfl rfl ?_
    case hs_15 => first | with_reducible assumption | exact ⟨_, FK.c0 hM⟩ | exact ⟨_, FK.c2 hM⟩ | exact ⟨_, FK.c7 hM⟩ | exact ⟨_, FK.c129 hM⟩ | exact ⟨_, FK.c173 hM⟩ | exact ⟨_, FK.c1 hM⟩
    case hp_15 => exact ⟨hM, by decide⟩
    rintro v σ sz1 ⟨μ9, hM, hF1, rfl, e9, rfl⟩
    have hF := hF.trans hF1
    refine S_iret hX dX11_utter_16 (Nat.zero_le _) (Nat.zero_le _) ?_
    refine hP _ _ _ ?_
    have hsp : sp_utter S x = (-2, rfS S 0) := by unfold sp_utter; rw [if_pos c5]
    rw [hsp]
    exact ⟨_, hM, hF, rfl, hR.rf ok e9, rfl⟩
theorem c_X11_type (q : Nat) (γ : MF) (S : ST) (v : Int64) (x : Int32) : CT_X11_type [.ref q, .long v, .int x] (fun Γ σ sz => FK σ q γ ∧ FR γ S ∧ StOk S) (fun Γ σ sz vv σ' sz' => ∃ γ', FK σ' q γ' ∧ Fr q (q + 179) σ σ' ∧ vv = some (.int (sp_type S v x).1) ∧ FR γ' (sp_type S v x).2 ∧ sz' = sz) := by
  refine CT.mkP rfl (Nat.le_of_ble_eq_true rfl) [_, _, _, _, _] rfl ?_
  intro X Γ σ sz P hX hpre hsz hP
  obtain ⟨hM, hR, ok⟩ := hpre
  obtain ⟨σ0, eσ0⟩ : ∃ z, z = σ := ⟨σ, rfl⟩
  rw [← eσ0] at hP
  have hF : Fr q (q + 179) σ0 σ := by rw [eσ0]; exact Fr.rf
  obtain ⟨r0, r1, r2, r3, r4, r5⟩ := id hR
  obtain ⟨t0, t1, t2, t3, t4, t5, t6, t7, t8⟩ := id r0
  obtain ⟨o1, o2, o3, o4, o5, o6, o7, o8, o9, o10⟩ := id ok.1
  have l49 : sp_type S v x = (nI (S.2.2.2.1 + tN x), (S.1, S.2.1, S.2.2.1, tyT v (tN x) S.2.2.2)) → ∀ (fl k : Nat) (t : Nat × (Nat → Nat)) (σ : Sg) (μ : MF) (xi : Int32), xi = nI k - 1 → k ≤ 8 → k < fl → t.1 + k ≤ 250 → tyT v k t = tyT v (tN x) S.2.2.2 → FK σ q μ → Fr q (q + 179) σ0 σ → FR μ (S.1, S.2.1, S.2.2.1, t) → G X Γ P 0 0 49 [some (.ref q), some (.long v), none, some (.int x), some (.int xi)] [] σ sz := by
    intro hsp fl
    induction fl with
      | zero => intro k t σ μ xi h1 h2 h3; omega
      | succ fl ih =>
        rintro k t σ μ _ rfl hk hfu ht hT hM hF hR1
        have h01 : μ 129 0 = nI t.1 := hR1.2.2.2.1
        refine S_iload (q := 51) hX dX11_type_49 rfl rfl ?_
        refine S_if_lt (q := 54) 79 hX dX11_type_51 rfl rfl (fun c51 => ?_) (fun c51 => ?_)
        · have hk0 : k = 0 := by
            rcases Nat.eq_zero_or_pos k with z | z
            · exact z
            · exfalso
              rw [i1, pk_sub (by omega)] at c51
              exact nI_pos (by omega) c51
          refine S_aload_n (q := 80) hX dX11_type_79 rfl rfl ?_
          refine S_getf (fs := ?fs_1) (v := ?v_1) (q := 83) hX u_288 fo_X11_script dX11_type_80 ?hs_1 ?hv_1 rfl ?_
          case hs_1 => with_reducible first | exact FK.c0 hM | exact FK.c1 hM | exact FK.c2 hM | exact FK.c7 hM | exact FK.c129 hM | exact FK.c3 hM | exact FK.c4 hM | exact FK.c5 hM | exact FK.c6 hM | exact FK.c39 hM | exact FK.c40 hM | exact FK.c41 hM | exact FK.c42 hM | exact FK.c43 hM | exact FK.c128 hM | exact FK.c136 hM | exact FK.c137 hM | exact FK.c173 hM | exact FK.c174 hM | exact FK.c175 hM | exact FK.c176 hM | exact FK.c177 hM | exact FK.c178 hM
          case hv_1 => rfl
          refine S_getf (fs := ?fs_2) (v := ?v_2) (q := 86) hX u_136 fo_X8_length dX11_type_83 ?hs_2 ?hv_2 rfl ?_
          case hs_2 => with_reducible first | exact FK.c0 hM | exact FK.c1 hM | exact FK.c2 hM | exact FK.c7 hM | exact FK.c129 hM | exact FK.c3 hM | exact FK.c4 hM | exact FK.c5 hM | exact FK.c6 hM | exact FK.c39 hM | exact FK.c40 hM | exact FK.c41 hM | exact FK.c42 hM | exact FK.c43 hM | exact FK.c128 hM | exact FK.c136 hM | exact FK.c137 hM | exact FK.c173 hM | exact FK.c174 hM | exact FK.c175 hM | exact FK.c176 hM | exact FK.c177 hM | exact FK.c178 hM
          case hv_2 => rfl
          refine S_iret hX dX11_type_86 (Nat.zero_le _) (Nat.zero_le _) ?_
          refine hP _ _ _ ?_
          subst hk0
          rw [hsp]
          have hT : t = tyT v (tN x) S.2.2.2 := hT
          refine ⟨_, hM, hF, ?_, by rw [← hT]; exact hR1, rfl⟩
          rw [h01, hT, tyT_len]
        · have hk0 : k ≠ 0 := fun z => by subst z; exact c51 (by decide)
          obtain ⟨k, rfl⟩ : ∃ j, k = j + 1 := ⟨k - 1, by omega⟩
          have ek : nI (k + 1) - 1 = nI k := by rw [i1]; exact pk_sub (by omega)
          have ev : (v >>> ((8 * (nI (k + 1) - 1)).toInt64 &&& 63)).toInt32 &&& 255 = nI (byN v k) := by
            rw [ek, i8, pk_mul]
            exact byte_i v (by omega)
          refine S_aload_n (q := 55) hX dX11_type_54 rfl rfl ?_
          refine S_getf (fs := ?fs_3) (v := ?v_3) (q := 58) hX u_288 fo_X11_script dX11_type_55 ?hs_3 ?hv_3 rfl ?_
          case hs_3 => with_reducible first | exact FK.c0 hM | exact FK.c1 hM | exact FK.c2 hM | exact FK.c7 hM | exact FK.c129 hM | exact FK.c3 hM | exact FK.c4 hM | exact FK.c5 hM | exact FK.c6 hM | exact FK.c39 hM | exact FK.c40 hM | exact FK.c41 hM | exact FK.c42 hM | exact FK.c43 hM | exact FK.c128 hM | exact FK.c136 hM | exact FK.c137 hM | exact FK.c173 hM | exact FK.c174 hM | exact FK.c175 hM | exact FK.c176 hM | exact FK.c177 hM | exact FK.c178 hM
          case hv_3 => rfl
          refine S_lload_n (q := 59) hX dX11_type_58 rfl rfl ?_
          refine S_bipush (q := 61) (v := 8) hX dX11_type_59 bp_8 rfl ?_
          refine S_iload (q := 63) hX dX11_type_61 rfl rfl ?_
          refine S_imul (q := 64) hX dX11_type_63 rfl ?_
          refine S_lshr (q := 65) hX dX11_type_64 rfl ?_
          refine S_l2i (q := 66) hX dX11_type_65 rfl ?_
          refine S_sipush (q := 69) (v := 255) hX dX11_type_66 sp_255 rfl ?_
          refine S_iand (q := 70) hX dX11_type_69 rfl ?_
          refine S_callV (ci := 8) (C := "FanTalk$Script") (T := TX8) (N := 9) (q := 73) 0 0 hX (c_X8_put (q + 129) (fun j => μ (129 + j)) _ t.1) rfl ?hs_4 rfl u_369 u_370 u_371 u_5 u_372 ⟨by decide, by decide, rfl⟩ ⟨Nat.le_of_ble_eq_true rfl, Nat.le_of_ble_eq_true rfl⟩ ⟨Nat.le_of_ble_eq_true rfl, Nat.le_of_ble_eq_true rfl⟩ (Nat.le_of_ble_eq_true rfl) dX11_type_70 ?hp_4 rfl rfl rfl ?_
          case hs_4 => exact ⟨_, FK.c129 hM⟩
          case hp_4 => exact ⟨FK.sk hM, h01, by omega⟩
          rintro v9 σ sz1 ⟨g1, hM1, hF1, rfl, eg1, rfl⟩
          have hM := FK.jsk hM hF1 hM1
          have hF := hF.trans (hF1.mono (Nat.le_add_right _ _) (by omega))
          rw [ev] at eg1
          refine S_iinc (q := 76) [_, _, _, _, _] hX dX11_type_73 rfl (ii_m1 _) rfl (Nat.le_of_ble_eq_true rfl) rfl rfl ?_
          refine S_goto 49 hX dX11_type_76 rfl ?_
          rw [ek]
          have g : ∀ j, j < 7 → spl μ 129 7 g1 (129 + j) = g1 j := fun j hj => by rw [spl_in ⟨by omega, by omega⟩, Nat.add_sub_cancel_left]
          refine ih k (t.1 + 1, fu t.2 t.1 (byN v k)) σ (spl μ 129 7 g1) _ (by rw [Int32.sub_eq_add_neg]) (by omega) (by omega) (by show t.1 + 1 + k ≤ 250; omega) (by rw [← hT]; rfl) hM hF (hR1.txt ok (fun j a b => spl_out (by omega)) ?_ (fun i hi => ?_) (fun w hw => ?_))
          · rw [show (129 : Nat) = 129 + 0 from rfl, g 0 (by decide), eg1, m2_00, if_pos rfl]
          · have hi : i < t.1 + 1 := hi
            show spl μ 129 7 g1 (129 + 1) i = nI (fu t.2 t.1 (byN v k) i)
            rw [g 1 (by decide), eg1, m2_o (by decide), m2_at]
            by_cases hin : i = t.1
            · rw [if_pos ⟨rfl, hin⟩, hin, fu_eq]
            · rw [if_neg (fun z => hin z.2), fu_ne hin]
              exact hR1.2.2.2.2.1 i (show i < t.1 by omega)
          · show spl μ 129 7 g1 (129 + 6) w = nI 0
            rw [g 6 (by decide), eg1, m2_o (by decide), m2_o (by decide)]
            exact hR1.2.2.2.2.2 w hw
  refine S_iload_n (q := 1) hX dX11_type_0 rfl rfl ?_
  refine S_iconst (q := 2) (v := 1) hX dX11_type_1 ic_1 rfl ?_
  refine S_icmp_lt (q := 5) 11 hX dX11_type_2 rfl rfl (fun c2 => ?_) (fun c2 => ?_)
  · have k2 := c2
    rw [lt_i, show ((1 : Int32)).toInt = 1 by decide] at k2
    refine S_aload_n (q := 12) hX dX11_type_11 rfl rfl ?_
    refine S_bipush (q := 14) (v := (-2)) hX dX11_type_12 bp_m2 rfl ?_
    refine S_bipush (q := 16) (v := (-2)) hX dX11_type_14 bp_m2 rfl ?_
    refine S_callV (ci := 11) (C := "FanTalk") (T := TX11) (N := 11) (q := 19) 0 0 hX (c_X11_refused q γ _ _ 0 (by decide)) rfl ?hs_5 rfl u_323 u_325 us_0 u_1 u_326 ⟨by decide, by decide, rfl⟩ ⟨Nat.le_of_ble_eq_true rfl, Nat.le_of_ble_eq_true rfl⟩ ⟨Nat.le_of_ble_eq_true rfl, Nat.le_of_ble_eq_true rfl⟩ (Nat.le_of_ble_eq_true rfl) dX11_type_16 ?hp_5 rfl rfl rfl ?_
    case hs_5 => first | with_reducible assumption | exact ⟨_, FK.c0 hM⟩ | exact ⟨_, FK.c2 hM⟩ | exact ⟨_, FK.c7 hM⟩ | exact ⟨_, FK.c129 hM⟩ | exact ⟨_, FK.c173 hM⟩ | exact ⟨_, FK.c1 hM⟩
    case hp_5 => exact ⟨hM, by decide⟩
    rintro v σ sz1 ⟨μ9, hM, hF1, rfl, e9, rfl⟩
    have hF := hF.trans hF1
    refine S_iret hX dX11_type_19 (Nat.zero_le _) (Nat.zero_le _) ?_
    refine hP _ _ _ ?_
    have hsp : sp_type S v x = (-2, rfS S 0) := by unfold sp_type; rw [if_pos (fun w => by have := w.1; have := w.2; omega)]
    rw [hsp]
    exact ⟨_, hM, hF, rfl, hR.rf ok e9, rfl⟩
  · have k2 := c2
    rw [lt_i, show ((1 : Int32)).toInt = 1 by decide] at k2
    refine S_iload_n (q := 6) hX dX11_type_5 rfl rfl ?_
    refine S_bipush (q := 8) (v := 8) hX dX11_type_6 bp_8 rfl ?_
    refine S_icmp_le (q := 11) 20 hX dX11_type_8 rfl rfl (fun c8 => ?_) (fun c8 => ?_)
    · have k8 := c8
      rw [le_i, show ((8 : Int32)).toInt = 8 by decide] at k8
      refine S_aload_n (q := 21) hX dX11_type_20 rfl rfl ?_
      refine S_getf (fs := ?fs_6) (v := ?v_6) (q := 24) hX u_288 fo_X11_script dX11_type_21 ?hs_6 ?hv_6 rfl ?_
      case hs_6 => with_reducible first | exact FK.c0 hM | exact FK.c1 hM | exact FK.c2 hM | exact FK.c7 hM | exact FK.c129 hM | exact FK.c3 hM | exact FK.c4 hM | exact FK.c5 hM | exact FK.c6 hM | exact FK.c39 hM | exact FK.c40 hM | exact FK.c41 hM | exact FK.c42 hM | exact FK.c43 hM | exact FK.c128 hM | exact FK.c136 hM | exact FK.c137 hM | exact FK.c173 hM | exact FK.c174 hM | exact FK.c175 hM | exact FK.c176 hM | exact FK.c177 hM | exact FK.c178 hM
      case hv_6 => rfl
      refine S_getf (fs := ?fs_7) (v := ?v_7) (q := 27) hX u_136 fo_X8_length dX11_type_24 ?hs_7 ?hv_7 rfl ?_
      case hs_7 => with_reducible first | exact FK.c0 hM | exact FK.c1 hM | exact FK.c2 hM | exact FK.c7 hM | exact FK.c129 hM | exact FK.c3 hM | exact FK.c4 hM | exact FK.c5 hM | exact FK.c6 hM | exact FK.c39 hM | exact FK.c40 hM | exact FK.c41 hM | exact FK.c42 hM | exact FK.c43 hM | exact FK.c128 hM | exact FK.c136 hM | exact FK.c137 hM | exact FK.c173 hM | exact FK.c174 hM | exact FK.c175 hM | exact FK.c176 hM | exact FK.c177 hM | exact FK.c178 hM
      case hv_7 => rfl
      refine S_iload_n (q := 28) hX dX11_type_27 rfl rfl ?_
      refine S_iadd (q := 29) hX dX11_type_28 rfl ?_
      refine S_sipush (q := 32) (v := 250) hX dX11_type_29 sp_250 rfl ?_
      refine S_icmp_le (q := 35) 44 hX dX11_type_32 rfl rfl (fun c32 => ?_) (fun c32 => ?_)
      · have cx := tN_ex (x := x) (by omega)
        have ht250 := ok.2.2.1
        have k32 := c32
        rw [show γ 129 0 = nI S.2.2.2.1 from r3, cx.1, nI_add, show (250 : Int32) = nI 250 from rfl, nI_leI (by omega) (by omega)] at k32
        refine S_iload_n (q := 45) hX dX11_type_44 rfl rfl ?_
        refine S_iconst (q := 46) (v := 1) hX dX11_type_45 ic_1 rfl ?_
        refine S_isub (q := 47) hX dX11_type_46 rfl ?_
        refine S_istore (q := 49) [_, _, _, _, _] hX dX11_type_47 rfl (Nat.le_of_ble_eq_true rfl) rfl rfl ?_
        exact l49 (by unfold sp_type; rw [if_neg (fun z => z ⟨by omega, by omega⟩), if_neg (by omega)]) 9 (tN x) S.2.2.2 _ γ _ (by rw [← cx.1]) (by omega) (by omega) (by omega) rfl hM hF hR
      · have cx := tN_ex (x := x) (by omega)
        have ht250 := ok.2.2.1
        have k32 := c32
        rw [show γ 129 0 = nI S.2.2.2.1 from r3, cx.1, nI_add, show (250 : Int32) = nI 250 from rfl, nI_leI (by omega) (by omega)] at k32
        refine S_aload_n (q := 36) hX dX11_type_35 rfl rfl ?_
        refine S_bipush (q := 38) (v := (-4)) hX dX11_type_36 bp_m4 rfl ?_
        refine S_bipush (q := 40) (v := (-4)) hX dX11_type_38 bp_m4 rfl ?_
        refine S_callV (ci := 11) (C := "FanTalk") (T := TX11) (N := 11) (q := 43) 0 0 hX (c_X11_refused q γ _ _ 2 (by decide)) rfl ?hs_8 rfl u_323 u_325 us_0 u_1 u_326 ⟨by decide, by decide, rfl⟩ ⟨Nat.le_of_ble_eq_true rfl, Nat.le_of_ble_eq_true rfl⟩ ⟨Nat.le_of_ble_eq_true rfl, Nat.le_of_ble_eq_true rfl⟩ (Nat.le_of_ble_eq_true rfl) dX11_type_40 ?hp_8 rfl rfl rfl ?_
        case hs_8 => first | with_reducible assumption | exact ⟨_, FK.c0 hM⟩ | exact ⟨_, FK.c2 hM⟩ | exact ⟨_, FK.c7 hM⟩ | exact ⟨_, FK.c129 hM⟩ | exact ⟨_, FK.c173 hM⟩ | exact ⟨_, FK.c1 hM⟩
        case hp_8 => exact ⟨hM, by decide⟩
        rintro v σ sz1 ⟨μ9, hM, hF1, rfl, e9, rfl⟩
        have hF := hF.trans hF1
        refine S_iret hX dX11_type_43 (Nat.zero_le _) (Nat.zero_le _) ?_
        refine hP _ _ _ ?_
        have hsp : sp_type S v x = (-4, rfS S 2) := by unfold sp_type; rw [if_neg (fun z => z ⟨by omega, by omega⟩), if_pos (by omega)]
        rw [hsp]
        exact ⟨_, hM, hF, rfl, hR.rf ok e9, rfl⟩
    · have k8 := c8
      rw [le_i, show ((8 : Int32)).toInt = 8 by decide] at k8
      refine S_aload_n (q := 12) hX dX11_type_11 rfl rfl ?_
      refine S_bipush (q := 14) (v := (-2)) hX dX11_type_12 bp_m2 rfl ?_
      refine S_bipush (q := 16) (v := (-2)) hX dX11_type_14 bp_m2 rfl ?_
      refine S_callV (ci := 11) (C := "FanTalk") (T := TX11) (N := 11) (q := 19) 0 0 hX (c_X11_refused q γ _ _ 0 (by decide)) rfl ?hs_9 rfl u_323 u_325 us_0 u_1 u_326 ⟨by decide, by decide, rfl⟩ ⟨Nat.le_of_ble_eq_true rfl, Nat.le_of_ble_eq_true rfl⟩ ⟨Nat.le_of_ble_eq_true rfl, Nat.le_of_ble_eq_true rfl⟩ (Nat.le_of_ble_eq_true rfl) dX11_type_16 ?hp_9 rfl rfl rfl ?_
      case hs_9 => first | with_reducible assumption | exact ⟨_, FK.c0 hM⟩ | exact ⟨_, FK.c2 hM⟩ | exact ⟨_, FK.c7 hM⟩ | exact ⟨_, FK.c129 hM⟩ | exact ⟨_, FK.c173 hM⟩ | exact ⟨_, FK.c1 hM⟩
      case hp_9 => exact ⟨hM, by decide⟩
      rintro v σ sz1 ⟨μ9, hM, hF1, rfl, e9, rfl⟩
      have hF := hF.trans hF1
      refine S_iret hX dX11_type_19 (Nat.zero_le _) (Nat.zero_le _) ?_
      refine hP _ _ _ ?_
      have hsp : sp_type S v x = (-2, rfS S 0) := by unfold sp_type; rw [if_pos (fun w => by have := w.1; have := w.2; omega)]
      rw [hsp]
      exact ⟨_, hM, hF, rfl, hR.rf ok e9, rfl⟩
theorem c_X11_read (q : Nat) (γ : MF) (S : ST)  : CT_X11_read [.ref q] (fun Γ σ sz => FK σ q γ ∧ FR γ S ∧ StOk S) (fun Γ σ sz v σ' sz' => ∃ γ', FK σ' q γ' ∧ Fr q (q + 179) σ σ' ∧ v = some (.int (sp_read S).1) ∧ FR γ' (sp_read S).2 ∧ sz' = sz) := by
  refine CT.mkP rfl (Nat.le_of_ble_eq_true rfl) [_, _] rfl ?_
  intro X Γ σ sz P hX hpre hsz hP
  obtain ⟨hM, hR, ok⟩ := hpre
  obtain ⟨σ0, eσ0⟩ : ∃ z, z = σ := ⟨σ, rfl⟩
  rw [← eσ0] at hP
  have hF : Fr q (q + 179) σ0 σ := by rw [eσ0]; exact Fr.rf
  obtain ⟨r0, r1, r2, r3, r4, r5⟩ := id hR
  obtain ⟨t0, t1, t2, t3, t4, t5, t6, t7, t8⟩ := id r0
  obtain ⟨o1, o2, o3, o4, o5, o6, o7, o8, o9, o10⟩ := id ok.1
  have hTx : TxS (fun j => γ (129 + j)) S.2.2.2 := ⟨r3, ok.2.2.1, fun i hi => ⟨r4 i hi, ok.2.2.2 i hi⟩⟩
  have hps : PsOk S.2.2.2 (rdAll S).2 := rdP_ok hTx.by _ _ _ ⟨(tk_ok hTx.by (Nat.zero_le _)).1, fun p hp => (nomatch hp), Nat.zero_le _, fun c hc => absurd hc (Nat.not_lt_zero _), Nat.zero_le _, fun _ => Nat.zero_lt_succ _⟩
  have ht250 := ok.2.2.1
  refine S_aload_n (q := 1) hX dX11_read_0 rfl rfl ?_
  refine S_getf (fs := ?fs_1) (v := ?v_1) (q := 4) hX u_288 fo_X11_script dX11_read_1 ?hs_1 ?hv_1 rfl ?_
  case hs_1 => with_reducible first | exact FK.c0 hM | exact FK.c1 hM | exact FK.c2 hM | exact FK.c7 hM | exact FK.c129 hM | exact FK.c3 hM | exact FK.c4 hM | exact FK.c5 hM | exact FK.c6 hM | exact FK.c39 hM | exact FK.c40 hM | exact FK.c41 hM | exact FK.c42 hM | exact FK.c43 hM | exact FK.c128 hM | exact FK.c136 hM | exact FK.c137 hM | exact FK.c173 hM | exact FK.c174 hM | exact FK.c175 hM | exact FK.c176 hM | exact FK.c177 hM | exact FK.c178 hM
  case hv_1 => rfl
  refine S_callV (ci := 8) (C := "FanTalk$Script") (T := TX8) (N := 9) (q := 7) 0 0 hX (c_X8_fault (q + 129) (fun j => γ (129 + j)) S.2.2.2 S.1.1.2.1) rfl ?hs_2 rfl u_381 u_382 u_383 u_5 u_384 ⟨by decide, by decide, rfl⟩ ⟨Nat.le_of_ble_eq_true rfl, Nat.le_of_ble_eq_true rfl⟩ ⟨Nat.le_of_ble_eq_true rfl, Nat.le_of_ble_eq_true rfl⟩ (Nat.le_of_ble_eq_true rfl) dX11_read_4 ?hp_2 rfl rfl rfl ?_
  case hs_2 => exact ⟨_, FK.c129 hM⟩
  case hp_2 => exact ⟨FK.sk hM, hTx, r5⟩
  rintro v σ sz1 ⟨g1, hM1, hF1, ⟨hno, hso, hg1, hg0, hu1⟩, rfl⟩
  have hno : (rdAll S).2.2.1 = none → v = some (.int (-1)) ∧ g1 0 2 = nI (rdAll S).1 ∧ CdS g1 (rdAll S).2.2.2 ∧ PsOk S.2.2.2 (rdAll S).2 := hno
  have hso : ∀ p, (rdAll S).2.2.1 = some p → v = some (.int (nI p)) := hso
  have hv : v = some (.int (fI (rdAll S).2.2.1)) := by
    rcases hq : (rdAll S).2.2.1 with _ | p
    · exact (hno hq).1
    · exact hso p hq
  subst hv
  have hM := FK.jsk hM hF1 hM1
  have hF := hF.trans (hF1.mono (Nat.le_add_right _ _) (by omega))
  have gs : ∀ j, j < 7 → spl γ 129 7 g1 (129 + j) = g1 j := fun j hj => by rw [spl_in ⟨by omega, by omega⟩, Nat.add_sub_cancel_left]
  have hR1 : FR (spl γ 129 7 g1) S := FR.txt (S := S) (t := S.2.2.2) hR ok (fun j a b => spl_out (by omega)) (by rw [show (129 : Nat) = 129 + 0 from rfl, gs 0 (by decide), hg0]; exact r3) (fun i hi => by rw [show (130 : Nat) = 129 + 1 from rfl, gs 1 (by decide), hg1]; exact r4 i hi) (fun w hw => by show spl γ 129 7 g1 (129 + 6) w = nI 0; rw [gs 6 (by decide)]; exact hu1 w hw)
  refine S_istore_n (q := 8) [_, _] hX dX11_read_7 rfl (Nat.le_of_ble_eq_true rfl) rfl rfl ?_
  refine S_iload_n (q := 9) hX dX11_read_8 rfl rfl ?_
  refine S_iconst (q := 10) (v := (-1)) hX dX11_read_9 ic_m1 rfl ?_
  refine S_icmp_eq (q := 13) 18 hX dX11_read_10 rfl rfl (fun c10 => ?_) (fun c10 => ?_)
  · refine S_aload_n (q := 19) hX dX11_read_18 rfl rfl ?_
    refine S_getf (fs := ?fs_3) (v := ?v_3) (q := 22) hX u_285 fo_X11_now dX11_read_19 ?hs_3 ?hv_3 rfl ?_
    case hs_3 => with_reducible first | exact FK.c0 hM | exact FK.c1 hM | exact FK.c2 hM | exact FK.c7 hM | exact FK.c129 hM | exact FK.c3 hM | exact FK.c4 hM | exact FK.c5 hM | exact FK.c6 hM | exact FK.c39 hM | exact FK.c40 hM | exact FK.c41 hM | exact FK.c42 hM | exact FK.c43 hM | exact FK.c128 hM | exact FK.c136 hM | exact FK.c137 hM | exact FK.c173 hM | exact FK.c174 hM | exact FK.c175 hM | exact FK.c176 hM | exact FK.c177 hM | exact FK.c178 hM
    case hv_3 => rfl
    refine S_getf (fs := ?fs_4) (v := ?v_4) (q := 25) hX u_85 fo_X9_codes dX11_read_22 ?hs_4 ?hv_4 rfl ?_
    case hs_4 => with_reducible first | exact FK.c0 hM | exact FK.c1 hM | exact FK.c2 hM | exact FK.c7 hM | exact FK.c129 hM | exact FK.c3 hM | exact FK.c4 hM | exact FK.c5 hM | exact FK.c6 hM | exact FK.c39 hM | exact FK.c40 hM | exact FK.c41 hM | exact FK.c42 hM | exact FK.c43 hM | exact FK.c128 hM | exact FK.c136 hM | exact FK.c137 hM | exact FK.c173 hM | exact FK.c174 hM | exact FK.c175 hM | exact FK.c176 hM | exact FK.c177 hM | exact FK.c178 hM
    case hv_4 => rfl
    refine S_aload_n (q := 26) hX dX11_read_25 rfl rfl ?_
    refine S_getf (fs := ?fs_5) (v := ?v_5) (q := 29) hX u_288 fo_X11_script dX11_read_26 ?hs_5 ?hv_5 rfl ?_
    case hs_5 => with_reducible first | exact FK.c0 hM | exact FK.c1 hM | exact FK.c2 hM | exact FK.c7 hM | exact FK.c129 hM | exact FK.c3 hM | exact FK.c4 hM | exact FK.c5 hM | exact FK.c6 hM | exact FK.c39 hM | exact FK.c40 hM | exact FK.c41 hM | exact FK.c42 hM | exact FK.c43 hM | exact FK.c128 hM | exact FK.c136 hM | exact FK.c137 hM | exact FK.c173 hM | exact FK.c174 hM | exact FK.c175 hM | exact FK.c176 hM | exact FK.c177 hM | exact FK.c178 hM
    case hv_5 => rfl
    refine S_getf (fs := ?fs_6) (v := ?v_6) (q := 32) hX u_138 fo_X8_fresh dX11_read_29 ?hs_6 ?hv_6 rfl ?_
    case hs_6 => with_reducible first | exact FK.c0 hM | exact FK.c1 hM | exact FK.c2 hM | exact FK.c7 hM | exact FK.c129 hM | exact FK.c3 hM | exact FK.c4 hM | exact FK.c5 hM | exact FK.c6 hM | exact FK.c39 hM | exact FK.c40 hM | exact FK.c41 hM | exact FK.c42 hM | exact FK.c43 hM | exact FK.c128 hM | exact FK.c136 hM | exact FK.c137 hM | exact FK.c173 hM | exact FK.c174 hM | exact FK.c175 hM | exact FK.c176 hM | exact FK.c177 hM | exact FK.c178 hM
    case hv_6 => rfl
    refine S_callV (ci := 2) (C := "FanTalk$Codes") (T := TX2) (N := 5) (q := 35) 0 0 hX (c_X2_take (q + 2) (fun j => spl γ 129 7 g1 (2 + j)) (q + 131) (fun j => spl γ 129 7 g1 (129 + (2 + j)))) rfl ?hs_7 rfl u_481 u_482 u_483 u_3 u_484 ⟨by decide, by decide, rfl⟩ ⟨Nat.le_of_ble_eq_true rfl, Nat.le_of_ble_eq_true rfl⟩ ⟨Nat.le_of_ble_eq_true rfl, Nat.le_of_ble_eq_true rfl⟩ (Nat.le_of_ble_eq_true rfl) dX11_read_32 ?hp_7 rfl rfl rfl ?_
    case hs_7 => exact ⟨_, FK.c2 hM⟩
    case hp_7 => exact ⟨FK.co hM, (FK.sk hM).co, by left; omega⟩
    rintro v σ sz1 ⟨g2, hM2, hF2, rfl, hE2, rfl⟩
    have hM := FK.jco hM hF2 hM2
    have hF := hF.trans (hF2.mono (Nat.le_add_right _ _) (by omega))
    refine S_aload_n (q := 36) hX dX11_read_35 rfl rfl ?_
    refine S_getf (fs := ?fs_8) (v := ?v_8) (q := 39) hX u_285 fo_X11_now dX11_read_36 ?hs_8 ?hv_8 rfl ?_
    case hs_8 => with_reducible first | exact FK.c0 hM | exact FK.c1 hM | exact FK.c2 hM | exact FK.c7 hM | exact FK.c129 hM | exact FK.c3 hM | exact FK.c4 hM | exact FK.c5 hM | exact FK.c6 hM | exact FK.c39 hM | exact FK.c40 hM | exact FK.c41 hM | exact FK.c42 hM | exact FK.c43 hM | exact FK.c128 hM | exact FK.c136 hM | exact FK.c137 hM | exact FK.c173 hM | exact FK.c174 hM | exact FK.c175 hM | exact FK.c176 hM | exact FK.c177 hM | exact FK.c178 hM
    case hv_8 => rfl
    refine S_aload_n (q := 40) hX dX11_read_39 rfl rfl ?_
    refine S_getf (fs := ?fs_9) (v := ?v_9) (q := 43) hX u_288 fo_X11_script dX11_read_40 ?hs_9 ?hv_9 rfl ?_
    case hs_9 => with_reducible first | exact FK.c0 hM | exact FK.c1 hM | exact FK.c2 hM | exact FK.c7 hM | exact FK.c129 hM | exact FK.c3 hM | exact FK.c4 hM | exact FK.c5 hM | exact FK.c6 hM | exact FK.c39 hM | exact FK.c40 hM | exact FK.c41 hM | exact FK.c42 hM | exact FK.c43 hM | exact FK.c128 hM | exact FK.c136 hM | exact FK.c137 hM | exact FK.c173 hM | exact FK.c174 hM | exact FK.c175 hM | exact FK.c176 hM | exact FK.c177 hM | exact FK.c178 hM
    case hv_9 => rfl
    refine S_getf (fs := ?fs_10) (v := ?v_10) (q := 46) hX u_140 fo_X8_draughts dX11_read_43 ?hs_10 ?hv_10 rfl ?_
    case hs_10 => with_reducible first | exact FK.c0 hM | exact FK.c1 hM | exact FK.c2 hM | exact FK.c7 hM | exact FK.c129 hM | exact FK.c3 hM | exact FK.c4 hM | exact FK.c5 hM | exact FK.c6 hM | exact FK.c39 hM | exact FK.c40 hM | exact FK.c41 hM | exact FK.c42 hM | exact FK.c43 hM | exact FK.c128 hM | exact FK.c136 hM | exact FK.c137 hM | exact FK.c173 hM | exact FK.c174 hM | exact FK.c175 hM | exact FK.c176 hM | exact FK.c177 hM | exact FK.c178 hM
    case hv_10 => rfl
    refine S_nm (fun x46 hx46 => ?_)
    refine S_putf (fs := ?fs_11) (q := 49) hX u_89 fo_X9_draughts rfl rfl ?hl_11 dX11_read_46 ?hs_11 rfl ?_
    case hs_11 => with_reducible first | exact FK.c0 hM | exact FK.c1 hM | exact FK.c2 hM | exact FK.c7 hM | exact FK.c129 hM | exact FK.c3 hM | exact FK.c4 hM | exact FK.c5 hM | exact FK.c6 hM | exact FK.c39 hM | exact FK.c40 hM | exact FK.c41 hM | exact FK.c42 hM | exact FK.c43 hM | exact FK.c128 hM | exact FK.c136 hM | exact FK.c137 hM | exact FK.c173 hM | exact FK.c174 hM | exact FK.c175 hM | exact FK.c176 hM | exact FK.c177 hM | exact FK.c178 hM
    case hl_11 => exact Nat.le_of_ble_eq_true rfl
    refine S_stu (q0 := q) (j := 1) (i := 0) hM hF (by decide) rfl (fun σ μ46 e46 hM hF => ?_)
    subst hx46
    refine S_aload_n (q := 50) hX dX11_read_49 rfl rfl ?_
    refine S_getf (fs := ?fs_12) (v := ?v_12) (q := 53) hX u_285 fo_X11_now dX11_read_50 ?hs_12 ?hv_12 rfl ?_
    case hs_12 => with_reducible first | exact FK.c0 hM | exact FK.c1 hM | exact FK.c2 hM | exact FK.c7 hM | exact FK.c129 hM | exact FK.c3 hM | exact FK.c4 hM | exact FK.c5 hM | exact FK.c6 hM | exact FK.c39 hM | exact FK.c40 hM | exact FK.c41 hM | exact FK.c42 hM | exact FK.c43 hM | exact FK.c128 hM | exact FK.c136 hM | exact FK.c137 hM | exact FK.c173 hM | exact FK.c174 hM | exact FK.c175 hM | exact FK.c176 hM | exact FK.c177 hM | exact FK.c178 hM
    case hv_12 => rfl
    refine S_getf (fs := ?fs_13) (v := ?v_13) (q := 56) hX u_87 fo_X9_past dX11_read_53 ?hs_13 ?hv_13 rfl ?_
    case hs_13 => with_reducible first | exact FK.c0 hM | exact FK.c1 hM | exact FK.c2 hM | exact FK.c7 hM | exact FK.c129 hM | exact FK.c3 hM | exact FK.c4 hM | exact FK.c5 hM | exact FK.c6 hM | exact FK.c39 hM | exact FK.c40 hM | exact FK.c41 hM | exact FK.c42 hM | exact FK.c43 hM | exact FK.c128 hM | exact FK.c136 hM | exact FK.c137 hM | exact FK.c173 hM | exact FK.c174 hM | exact FK.c175 hM | exact FK.c176 hM | exact FK.c177 hM | exact FK.c178 hM
    case hv_13 => rfl
    refine S_iconst (q := 57) (v := 0) hX dX11_read_56 ic_0 rfl ?_
    refine S_nm (fun x57 hx57 => ?_)
    refine S_putf (fs := ?fs_14) (q := 60) hX u_78 fo_X6_kept rfl rfl ?hl_14 dX11_read_57 ?hs_14 rfl ?_
    case hs_14 => with_reducible first | exact FK.c0 hM | exact FK.c1 hM | exact FK.c2 hM | exact FK.c7 hM | exact FK.c129 hM | exact FK.c3 hM | exact FK.c4 hM | exact FK.c5 hM | exact FK.c6 hM | exact FK.c39 hM | exact FK.c40 hM | exact FK.c41 hM | exact FK.c42 hM | exact FK.c43 hM | exact FK.c128 hM | exact FK.c136 hM | exact FK.c137 hM | exact FK.c173 hM | exact FK.c174 hM | exact FK.c175 hM | exact FK.c176 hM | exact FK.c177 hM | exact FK.c178 hM
    case hl_14 => exact Nat.le_of_ble_eq_true rfl
    refine S_stu (q0 := q) (j := 7) (i := 0) hM hF (by decide) rfl (fun σ μ57 e57 hM hF => ?_)
    subst hx57
    refine S_aload_n (q := 61) hX dX11_read_60 rfl rfl ?_
    refine S_getf (fs := ?fs_15) (v := ?v_15) (q := 64) hX u_288 fo_X11_script dX11_read_61 ?hs_15 ?hv_15 rfl ?_
    case hs_15 => with_reducible first | exact FK.c0 hM | exact FK.c1 hM | exact FK.c2 hM | exact FK.c7 hM | exact FK.c129 hM | exact FK.c3 hM | exact FK.c4 hM | exact FK.c5 hM | exact FK.c6 hM | exact FK.c39 hM | exact FK.c40 hM | exact FK.c41 hM | exact FK.c42 hM | exact FK.c43 hM | exact FK.c128 hM | exact FK.c136 hM | exact FK.c137 hM | exact FK.c173 hM | exact FK.c174 hM | exact FK.c175 hM | exact FK.c176 hM | exact FK.c177 hM | exact FK.c178 hM
    case hv_15 => rfl
    refine S_getf (fs := ?fs_16) (v := ?v_16) (q := 67) hX u_142 fo_X8_items dX11_read_64 ?hs_16 ?hv_16 rfl ?_
    case hs_16 => with_reducible first | exact FK.c0 hM | exact FK.c1 hM | exact FK.c2 hM | exact FK.c7 hM | exact FK.c129 hM | exact FK.c3 hM | exact FK.c4 hM | exact FK.c5 hM | exact FK.c6 hM | exact FK.c39 hM | exact FK.c40 hM | exact FK.c41 hM | exact FK.c42 hM | exact FK.c43 hM | exact FK.c128 hM | exact FK.c136 hM | exact FK.c137 hM | exact FK.c173 hM | exact FK.c174 hM | exact FK.c175 hM | exact FK.c176 hM | exact FK.c177 hM | exact FK.c178 hM
    case hv_16 => rfl
    refine S_iret hX dX11_read_67 (Nat.zero_le _) (Nat.zero_le _) ?_
    refine hP _ _ _ ?_
    have hq : (rdAll S).2.2.1 = none := (fI_n (fun p hp => by have := hps.2.1 p hp; omega)).mp c10
    obtain ⟨-, hit, hcd, hok⟩ := hno hq
    have hsp : sp_read S = (nI (rdAll S).1, stC S (((rdAll S).2.2.2.1, (rdAll S).2.2.2.2.1, fun _ => 0), (0, S.1.2.1.2), (rdAll S).2.2.2.2.2, S.1.2.2.2)) := by unfold sp_read; rw [hq]
    rw [hsp]
    have hdr : spl (spl γ 129 7 g1) 2 5 g2 129 1 = nI (rdAll S).2.2.2.2.2 := by rw [spl_out (by omega), spl_in ⟨by omega, by omega⟩]; exact hcd.2
    have g : ∀ j, j ≠ 1 → j ≠ 7 → (j < 2 ∨ 7 ≤ j) → μ57 j = spl γ 129 7 g1 j := fun j a b c => by rw [e57, m2_o b, e46, m2_o a, spl_out (by omega)]
    have gT : ∀ j, j < 42 → j ≠ 0 → j ≠ 6 → (j < 1 ∨ 6 ≤ j) → μ57 (1 + j) = γ (1 + j) := fun j a b c d => by rw [g _ (by omega) (by omega) (by omega), spl_out (by omega)]
    have g0 : ∀ i, i ≠ 0 → μ57 1 i = γ 1 i := fun i hi => by rw [e57, m2_o (by decide), e46, m2_at, if_neg (fun z => hi z.2), spl_out (by omega), spl_out (by omega)]
    obtain ⟨p0, pm, p1, p2, p3⟩ := t1
    refine ⟨_, hM, hF, ?_, hR1.now ok (fun j a b => g j (by omega) (by omega) (by omega)) ⟨?_, ⟨?_, pm, p1, fun k hk => by show μ57 (1 + 7) k = _; rw [gT _ (by decide) (by decide) (by decide) (by decide)]; exact p2 k hk, fun k hk => absurd hk (Nat.not_lt_zero _)⟩, ?_, (g0 1 (by decide)).trans t3, fun k hk => by show μ57 (1 + 38) k = _; rw [gT _ (by decide) (by decide) (by decide) (by decide)]; exact t4 k hk, (g0 2 (by decide)).trans t5, fun k hk => by show μ57 (1 + 39) k = _; rw [gT _ (by decide) (by decide) (by decide) (by decide)]; exact t6 k hk, (g0 3 (by decide)).trans t7, fun k hk => by show μ57 (1 + 40) k = _ ∧ μ57 (1 + 41) k = _; rw [gT _ (by decide) (by decide) (by decide) (by decide), gT _ (by decide) (by decide) (by decide) (by decide)]; exact t8 k hk⟩, rfl⟩
    · rw [g 129 (by decide) (by decide) (by decide), spl_in ⟨by omega, by omega⟩]; exact congrArg (fun z => some (Value.int z)) hit
    · have hc2 : CoR g2 ((rdAll S).2.2.2.1, (rdAll S).2.2.2.2.1, fun _ => 0) := CoR.eq hcd.1 ⟨hok.2.2.1, fun c hc => (hok.2.2.2.1 c hc).1⟩ (by
        have e : (fun j => spl γ 129 7 g1 (129 + (2 + j))) = fun j => spl γ 129 7 g1 (129 + (2 + j)) := rfl
        obtain ⟨e0, e1, e2, e3, e4⟩ := hE2
        have f : ∀ j, j < 5 → spl γ 129 7 g1 (129 + (2 + j)) = g1 (2 + j) := fun j hj => by rw [spl_in ⟨by omega, by omega⟩, Nat.add_sub_cancel_left]
        exact ⟨by rw [e0]; exact congrFun (f 0 (by decide)) 0, fun i hi => by rw [e1 i hi]; exact congrFun (f 1 (by decide)) i, fun i hi => by rw [e2 i hi]; exact congrFun (f 2 (by decide)) i, fun i hi => by rw [e3 i hi]; exact congrFun (f 3 (by decide)) i, fun i hi => by rw [e4 i hi]; exact congrFun (f 4 (by decide)) i⟩)
      exact hc2.ext (fun j hj => by show μ57 (1 + (1 + j)) = g2 j; rw [e57, m2_o (by omega), e46, m2_o (by omega), spl_in ⟨by omega, by omega⟩, show 1 + (1 + j) - 2 = j by omega])
    · show μ57 7 0 = nI 0; rw [e57, m2_at, if_pos ⟨rfl, rfl⟩]; rfl
    · show μ57 1 0 = nI (rdAll S).2.2.2.2.2; rw [e57, m2_o (by decide), e46, m2_at, if_pos ⟨rfl, rfl⟩]; exact hdr
  · refine S_bipush (q := 15) (v := (-10)) hX dX11_read_13 bp_m10 rfl ?_
    refine S_iload_n (q := 16) hX dX11_read_15 rfl rfl ?_
    refine S_isub (q := 17) hX dX11_read_16 rfl ?_
    refine S_iret hX dX11_read_17 (Nat.zero_le _) (Nat.zero_le _) ?_
    refine hP _ _ _ ?_
    rcases hq : (rdAll S).2.2.1 with _ | p
    · rw [hq] at c10; exact absurd rfl c10
    have hsp : sp_read S = (-10 - nI p, S) := by unfold sp_read; rw [hq]
    rw [hsp]
    exact ⟨_, hM, hF, rfl, hR1, rfl⟩
theorem c_X11_digest (q : Nat) (γ : MF) (S : ST) : CT_X11_digest [.ref q] (fun Γ σ sz => FK σ q γ ∧ FR γ S ∧ StOk S) (fun Γ σ sz v σ' sz' => ∃ γ', FK σ' q γ' ∧ Fr q (q + 179) σ σ' ∧ v = some (.long (sp_digest S).1) ∧ FR γ' (sp_digest S).2 ∧ sz' = sz) := by
  refine CT.mkP rfl (Nat.le_of_ble_eq_true rfl) [_, _, _, _] rfl ?_
  intro X Γ σ sz P hX hpre hsz hP
  obtain ⟨hM, hR, ok⟩ := hpre
  obtain ⟨σ0, eσ0⟩ : ∃ z, z = σ := ⟨σ, rfl⟩
  rw [← eσ0] at hP
  have hF : Fr q (q + 179) σ0 σ := by rw [eσ0]; exact Fr.rf
  obtain ⟨r0, r1, r2, r3, r4, r5⟩ := id hR
  obtain ⟨t0, t1, t2, t3, t4, t5, t6, t7, t8⟩ := id r0
  obtain ⟨o1, o2, o3, o4, o5, o6, o7, o8, o9, o10⟩ := id ok.1
  have h6 := ln_6 S.1.2.2.2.1
  have hb : γ 1 1 = nI (ln S.1.2.2.2.1) := t3
  have hw : γ 1 2 = nI S.1.2.2.2.2.1.1 := t5
  have hf : γ 1 3 = nI S.1.2.2.2.2.2.1 := t7
  have l117 : ∀ (fl k : Nat) (x : Int64), k ≤ S.1.2.2.2.2.2.1 → S.1.2.2.2.2.2.1 - k < fl → x = dgF (dg6 S) (2 * k) (dgF (dg5 S) S.1.2.2.2.2.1.1 (dgF (dg4 S) (ln S.1.2.2.2.1) (dgF (dg3 S) 10 (dgC S.1.1.2.1 S.1.1.1 (dgF (dg1 S) 8 811))))) → G X Γ P 0 0 117 [some (.ref q), some (.long x), none, some (.int (nI k))] [] σ sz := by
    intro fl
    induction fl with
      | zero => intro k x h1 h2; omega
      | succ fl ih =>
        rintro k x hk hfu ex
        refine S_iload_n (q := 118) hX dX11_digest_117 rfl rfl ?_
        refine S_aload_n (q := 119) hX dX11_digest_118 rfl rfl ?_
        refine S_getf (fs := ?fs_1) (v := ?v_1) (q := 122) hX u_285 fo_X11_now dX11_digest_119 ?hs_1 ?hv_1 rfl ?_
        case hs_1 => with_reducible first | exact FK.c0 hM | exact FK.c1 hM | exact FK.c2 hM | exact FK.c7 hM | exact FK.c129 hM | exact FK.c3 hM | exact FK.c4 hM | exact FK.c5 hM | exact FK.c6 hM | exact FK.c39 hM | exact FK.c40 hM | exact FK.c41 hM | exact FK.c42 hM | exact FK.c43 hM | exact FK.c128 hM | exact FK.c136 hM | exact FK.c137 hM | exact FK.c173 hM | exact FK.c174 hM | exact FK.c175 hM | exact FK.c176 hM | exact FK.c177 hM | exact FK.c178 hM
        case hv_1 => rfl
        refine S_getf (fs := ?fs_2) (v := ?v_2) (q := 125) hX u_103 fo_X9_facts dX11_digest_122 ?hs_2 ?hv_2 rfl ?_
        case hs_2 => with_reducible first | exact FK.c0 hM | exact FK.c1 hM | exact FK.c2 hM | exact FK.c7 hM | exact FK.c129 hM | exact FK.c3 hM | exact FK.c4 hM | exact FK.c5 hM | exact FK.c6 hM | exact FK.c39 hM | exact FK.c40 hM | exact FK.c41 hM | exact FK.c42 hM | exact FK.c43 hM | exact FK.c128 hM | exact FK.c136 hM | exact FK.c137 hM | exact FK.c173 hM | exact FK.c174 hM | exact FK.c175 hM | exact FK.c176 hM | exact FK.c177 hM | exact FK.c178 hM
        case hv_2 => rfl
        refine S_icmp_ge (q := 128) 168 hX dX11_digest_125 rfl rfl (fun c125 => ?_) (fun c125 => ?_)
        · have hge : k = S.1.2.2.2.2.2.1 := by rw [hf, nI_leI (by omega) (by omega)] at c125; omega
          refine S_lload_n (q := 169) hX dX11_digest_168 rfl rfl ?_
          refine S_lret hX dX11_digest_169 (Nat.zero_le _) (Nat.zero_le _) ?_
          refine hP _ _ _ ?_
          have hsp : sp_digest S = (x, S) := by rw [ex, hge]; exact Prod.ext (sp_dg S) rfl
          rw [hsp]
          exact ⟨_, hM, hF, rfl, hR, rfl⟩
        · have hlt : k < S.1.2.2.2.2.2.1 := by rw [hf, nI_leI (by omega) (by omega)] at c125; omega
          refine S_ldc2 (q := 131) hX u_770 dX11_digest_128 rfl ?_
          refine S_lload_n (q := 132) hX dX11_digest_131 rfl rfl ?_
          refine S_lmul (q := 133) hX dX11_digest_132 rfl ?_
          refine S_aload_n (q := 134) hX dX11_digest_133 rfl rfl ?_
          refine S_getf (fs := ?fs_3) (v := ?v_3) (q := 137) hX u_285 fo_X11_now dX11_digest_134 ?hs_3 ?hv_3 rfl ?_
          case hs_3 => with_reducible first | exact FK.c0 hM | exact FK.c1 hM | exact FK.c2 hM | exact FK.c7 hM | exact FK.c129 hM | exact FK.c3 hM | exact FK.c4 hM | exact FK.c5 hM | exact FK.c6 hM | exact FK.c39 hM | exact FK.c40 hM | exact FK.c41 hM | exact FK.c42 hM | exact FK.c43 hM | exact FK.c128 hM | exact FK.c136 hM | exact FK.c137 hM | exact FK.c173 hM | exact FK.c174 hM | exact FK.c175 hM | exact FK.c176 hM | exact FK.c177 hM | exact FK.c178 hM
          case hv_3 => rfl
          refine S_getf (fs := ?fs_4) (v := ?v_4) (q := 140) hX u_99 fo_X9_factRows dX11_digest_137 ?hs_4 ?hv_4 rfl ?_
          case hs_4 => with_reducible first | exact FK.c0 hM | exact FK.c1 hM | exact FK.c2 hM | exact FK.c7 hM | exact FK.c129 hM | exact FK.c3 hM | exact FK.c4 hM | exact FK.c5 hM | exact FK.c6 hM | exact FK.c39 hM | exact FK.c40 hM | exact FK.c41 hM | exact FK.c42 hM | exact FK.c43 hM | exact FK.c128 hM | exact FK.c136 hM | exact FK.c137 hM | exact FK.c173 hM | exact FK.c174 hM | exact FK.c175 hM | exact FK.c176 hM | exact FK.c177 hM | exact FK.c178 hM
          case hv_4 => rfl
          refine S_iload_n (q := 141) hX dX11_digest_140 rfl rfl ?_
          refine S_iald (N := ?n_5) (f := ?f_5) (q := 142) hX dX11_digest_141 ?hs_5 ?hi_5 rfl ?_
          case hs_5 => with_reducible first | exact FK.c0 hM | exact FK.c1 hM | exact FK.c2 hM | exact FK.c7 hM | exact FK.c129 hM | exact FK.c3 hM | exact FK.c4 hM | exact FK.c5 hM | exact FK.c6 hM | exact FK.c39 hM | exact FK.c40 hM | exact FK.c41 hM | exact FK.c42 hM | exact FK.c43 hM | exact FK.c128 hM | exact FK.c136 hM | exact FK.c137 hM | exact FK.c173 hM | exact FK.c174 hM | exact FK.c175 hM | exact FK.c176 hM | exact FK.c177 hM | exact FK.c178 hM
          case hi_5 => exact vp_in_nI (by omega) (by decide)
          refine S_i2l (q := 143) hX dX11_digest_142 rfl ?_
          refine S_ladd (q := 144) hX dX11_digest_143 rfl ?_
          refine S_lstore_n (q := 145) [_, _, _, _] hX dX11_digest_144 rfl (Nat.le_of_ble_eq_true rfl) rfl rfl ?_
          refine S_ldc2 (q := 148) hX u_770 dX11_digest_145 rfl ?_
          refine S_lload_n (q := 149) hX dX11_digest_148 rfl rfl ?_
          refine S_lmul (q := 150) hX dX11_digest_149 rfl ?_
          refine S_aload_n (q := 151) hX dX11_digest_150 rfl rfl ?_
          refine S_getf (fs := ?fs_6) (v := ?v_6) (q := 154) hX u_285 fo_X11_now dX11_digest_151 ?hs_6 ?hv_6 rfl ?_
          case hs_6 => with_reducible first | exact FK.c0 hM | exact FK.c1 hM | exact FK.c2 hM | exact FK.c7 hM | exact FK.c129 hM | exact FK.c3 hM | exact FK.c4 hM | exact FK.c5 hM | exact FK.c6 hM | exact FK.c39 hM | exact FK.c40 hM | exact FK.c41 hM | exact FK.c42 hM | exact FK.c43 hM | exact FK.c128 hM | exact FK.c136 hM | exact FK.c137 hM | exact FK.c173 hM | exact FK.c174 hM | exact FK.c175 hM | exact FK.c176 hM | exact FK.c177 hM | exact FK.c178 hM
          case hv_6 => rfl
          refine S_getf (fs := ?fs_7) (v := ?v_7) (q := 157) hX u_101 fo_X9_factWords dX11_digest_154 ?hs_7 ?hv_7 rfl ?_
          case hs_7 => with_reducible first | exact FK.c0 hM | exact FK.c1 hM | exact FK.c2 hM | exact FK.c7 hM | exact FK.c129 hM | exact FK.c3 hM | exact FK.c4 hM | exact FK.c5 hM | exact FK.c6 hM | exact FK.c39 hM | exact FK.c40 hM | exact FK.c41 hM | exact FK.c42 hM | exact FK.c43 hM | exact FK.c128 hM | exact FK.c136 hM | exact FK.c137 hM | exact FK.c173 hM | exact FK.c174 hM | exact FK.c175 hM | exact FK.c176 hM | exact FK.c177 hM | exact FK.c178 hM
          case hv_7 => rfl
          refine S_iload_n (q := 158) hX dX11_digest_157 rfl rfl ?_
          refine S_iald (N := ?n_8) (f := ?f_8) (q := 159) hX dX11_digest_158 ?hs_8 ?hi_8 rfl ?_
          case hs_8 => with_reducible first | exact FK.c0 hM | exact FK.c1 hM | exact FK.c2 hM | exact FK.c7 hM | exact FK.c129 hM | exact FK.c3 hM | exact FK.c4 hM | exact FK.c5 hM | exact FK.c6 hM | exact FK.c39 hM | exact FK.c40 hM | exact FK.c41 hM | exact FK.c42 hM | exact FK.c43 hM | exact FK.c128 hM | exact FK.c136 hM | exact FK.c137 hM | exact FK.c173 hM | exact FK.c174 hM | exact FK.c175 hM | exact FK.c176 hM | exact FK.c177 hM | exact FK.c178 hM
          case hi_8 => exact vp_in_nI (by omega) (by decide)
          refine S_i2l (q := 160) hX dX11_digest_159 rfl ?_
          refine S_ladd (q := 161) hX dX11_digest_160 rfl ?_
          refine S_lstore_n (q := 162) [_, _, _, _] hX dX11_digest_161 rfl (Nat.le_of_ble_eq_true rfl) rfl rfl ?_
          refine S_iinc (q := 165) [_, _, _, _] hX dX11_digest_162 rfl (ii_1 _) rfl (Nat.le_of_ble_eq_true rfl) rfl rfl ?_
          refine S_goto 117 hX dX11_digest_165 rfl ?_
          rw [nI_1]
          refine ih (k + 1) _ hlt (by omega) ?_
          have h8 := t8 k hlt
          rw [nI_clamp (by omega), show γ 41 k = nI (S.1.2.2.2.2.2.2 k).1 from h8.1, show γ 42 k = nI (S.1.2.2.2.2.2.2 k).2 from h8.2, ex, show 2 * (k + 1) = 2 * k + 1 + 1 by omega]
          exact (congrArg (fun z => 31 * z + _) (dgF_s (dg6 S) (2 * k) _ (by show _ = (nI (if (2 * k) % 2 = 0 then _ else _)).toInt64; rw [if_pos (by omega), show 2 * k / 2 = k by omega]))).trans (dgF_s (dg6 S) (2 * k + 1) _ (by show _ = (nI (if (2 * k + 1) % 2 = 0 then _ else _)).toInt64; rw [if_neg (by omega), show (2 * k + 1) / 2 = k by omega]))
  have l81 : ∀ (fl k : Nat) (x : Int64), k ≤ S.1.2.2.2.2.1.1 → S.1.2.2.2.2.1.1 - k < fl → x = dgF (dg5 S) k (dgF (dg4 S) (ln S.1.2.2.2.1) (dgF (dg3 S) 10 (dgC S.1.1.2.1 S.1.1.1 (dgF (dg1 S) 8 811)))) → G X Γ P 0 0 81 [some (.ref q), some (.long x), none, some (.int (nI k))] [] σ sz := by
    intro fl
    induction fl with
      | zero => intro k x h1 h2; omega
      | succ fl ih =>
        rintro k x hk hfu ex
        refine S_iload_n (q := 82) hX dX11_digest_81 rfl rfl ?_
        refine S_aload_n (q := 83) hX dX11_digest_82 rfl rfl ?_
        refine S_getf (fs := ?fs_9) (v := ?v_9) (q := 86) hX u_285 fo_X11_now dX11_digest_83 ?hs_9 ?hv_9 rfl ?_
        case hs_9 => with_reducible first | exact FK.c0 hM | exact FK.c1 hM | exact FK.c2 hM | exact FK.c7 hM | exact FK.c129 hM | exact FK.c3 hM | exact FK.c4 hM | exact FK.c5 hM | exact FK.c6 hM | exact FK.c39 hM | exact FK.c40 hM | exact FK.c41 hM | exact FK.c42 hM | exact FK.c43 hM | exact FK.c128 hM | exact FK.c136 hM | exact FK.c137 hM | exact FK.c173 hM | exact FK.c174 hM | exact FK.c175 hM | exact FK.c176 hM | exact FK.c177 hM | exact FK.c178 hM
        case hv_9 => rfl
        refine S_getf (fs := ?fs_10) (v := ?v_10) (q := 89) hX u_97 fo_X9_wants dX11_digest_86 ?hs_10 ?hv_10 rfl ?_
        case hs_10 => with_reducible first | exact FK.c0 hM | exact FK.c1 hM | exact FK.c2 hM | exact FK.c7 hM | exact FK.c129 hM | exact FK.c3 hM | exact FK.c4 hM | exact FK.c5 hM | exact FK.c6 hM | exact FK.c39 hM | exact FK.c40 hM | exact FK.c41 hM | exact FK.c42 hM | exact FK.c43 hM | exact FK.c128 hM | exact FK.c136 hM | exact FK.c137 hM | exact FK.c173 hM | exact FK.c174 hM | exact FK.c175 hM | exact FK.c176 hM | exact FK.c177 hM | exact FK.c178 hM
        case hv_10 => rfl
        refine S_icmp_ge (q := 92) 115 hX dX11_digest_89 rfl rfl (fun c89 => ?_) (fun c89 => ?_)
        · have hge : k = S.1.2.2.2.2.1.1 := by rw [hw, nI_leI (by omega) (by omega)] at c89; omega
          refine S_iconst (q := 116) (v := 0) hX dX11_digest_115 ic_0 rfl ?_
          refine S_istore_n (q := 117) [_, _, _, _] hX dX11_digest_116 rfl (Nat.le_of_ble_eq_true rfl) rfl rfl ?_
          exact l117 (S.1.2.2.2.2.2.1 + 1) 0 _ (Nat.zero_le _) (by omega) (by rw [ex, hge, dgF_z])
        · have hlt : k < S.1.2.2.2.2.1.1 := by rw [hw, nI_leI (by omega) (by omega)] at c89; omega
          refine S_ldc2 (q := 95) hX u_770 dX11_digest_92 rfl ?_
          refine S_lload_n (q := 96) hX dX11_digest_95 rfl rfl ?_
          refine S_lmul (q := 97) hX dX11_digest_96 rfl ?_
          refine S_aload_n (q := 98) hX dX11_digest_97 rfl rfl ?_
          refine S_getf (fs := ?fs_11) (v := ?v_11) (q := 101) hX u_285 fo_X11_now dX11_digest_98 ?hs_11 ?hv_11 rfl ?_
          case hs_11 => with_reducible first | exact FK.c0 hM | exact FK.c1 hM | exact FK.c2 hM | exact FK.c7 hM | exact FK.c129 hM | exact FK.c3 hM | exact FK.c4 hM | exact FK.c5 hM | exact FK.c6 hM | exact FK.c39 hM | exact FK.c40 hM | exact FK.c41 hM | exact FK.c42 hM | exact FK.c43 hM | exact FK.c128 hM | exact FK.c136 hM | exact FK.c137 hM | exact FK.c173 hM | exact FK.c174 hM | exact FK.c175 hM | exact FK.c176 hM | exact FK.c177 hM | exact FK.c178 hM
          case hv_11 => rfl
          refine S_getf (fs := ?fs_12) (v := ?v_12) (q := 104) hX u_95 fo_X9_want dX11_digest_101 ?hs_12 ?hv_12 rfl ?_
          case hs_12 => with_reducible first | exact FK.c0 hM | exact FK.c1 hM | exact FK.c2 hM | exact FK.c7 hM | exact FK.c129 hM | exact FK.c3 hM | exact FK.c4 hM | exact FK.c5 hM | exact FK.c6 hM | exact FK.c39 hM | exact FK.c40 hM | exact FK.c41 hM | exact FK.c42 hM | exact FK.c43 hM | exact FK.c128 hM | exact FK.c136 hM | exact FK.c137 hM | exact FK.c173 hM | exact FK.c174 hM | exact FK.c175 hM | exact FK.c176 hM | exact FK.c177 hM | exact FK.c178 hM
          case hv_12 => rfl
          refine S_iload_n (q := 105) hX dX11_digest_104 rfl rfl ?_
          refine S_iald (N := ?n_13) (f := ?f_13) (q := 106) hX dX11_digest_105 ?hs_13 ?hi_13 rfl ?_
          case hs_13 => with_reducible first | exact FK.c0 hM | exact FK.c1 hM | exact FK.c2 hM | exact FK.c7 hM | exact FK.c129 hM | exact FK.c3 hM | exact FK.c4 hM | exact FK.c5 hM | exact FK.c6 hM | exact FK.c39 hM | exact FK.c40 hM | exact FK.c41 hM | exact FK.c42 hM | exact FK.c43 hM | exact FK.c128 hM | exact FK.c136 hM | exact FK.c137 hM | exact FK.c173 hM | exact FK.c174 hM | exact FK.c175 hM | exact FK.c176 hM | exact FK.c177 hM | exact FK.c178 hM
          case hi_13 => exact vp_in_nI (by omega) (by decide)
          refine S_i2l (q := 107) hX dX11_digest_106 rfl ?_
          refine S_ladd (q := 108) hX dX11_digest_107 rfl ?_
          refine S_lstore_n (q := 109) [_, _, _, _] hX dX11_digest_108 rfl (Nat.le_of_ble_eq_true rfl) rfl rfl ?_
          refine S_iinc (q := 112) [_, _, _, _] hX dX11_digest_109 rfl (ii_1 _) rfl (Nat.le_of_ble_eq_true rfl) rfl rfl ?_
          refine S_goto 81 hX dX11_digest_112 rfl ?_
          rw [nI_1]
          refine ih (k + 1) _ hlt (by omega) ?_
          rw [nI_clamp (by omega), show γ 40 k = nI (S.1.2.2.2.2.1.2 k) from t6 k hlt, ex]; exact dgF_s (dg5 S) k _ rfl
  have l45 : ∀ (fl k : Nat) (x : Int64), k ≤ ln S.1.2.2.2.1 → ln S.1.2.2.2.1 - k < fl → x = dgF (dg4 S) k (dgF (dg3 S) 10 (dgC S.1.1.2.1 S.1.1.1 (dgF (dg1 S) 8 811))) → G X Γ P 0 0 45 [some (.ref q), some (.long x), none, some (.int (nI k))] [] σ sz := by
    intro fl
    induction fl with
      | zero => intro k x h1 h2; omega
      | succ fl ih =>
        rintro k x hk hfu ex
        refine S_iload_n (q := 46) hX dX11_digest_45 rfl rfl ?_
        refine S_aload_n (q := 47) hX dX11_digest_46 rfl rfl ?_
        refine S_getf (fs := ?fs_14) (v := ?v_14) (q := 50) hX u_285 fo_X11_now dX11_digest_47 ?hs_14 ?hv_14 rfl ?_
        case hs_14 => with_reducible first | exact FK.c0 hM | exact FK.c1 hM | exact FK.c2 hM | exact FK.c7 hM | exact FK.c129 hM | exact FK.c3 hM | exact FK.c4 hM | exact FK.c5 hM | exact FK.c6 hM | exact FK.c39 hM | exact FK.c40 hM | exact FK.c41 hM | exact FK.c42 hM | exact FK.c43 hM | exact FK.c128 hM | exact FK.c136 hM | exact FK.c137 hM | exact FK.c173 hM | exact FK.c174 hM | exact FK.c175 hM | exact FK.c176 hM | exact FK.c177 hM | exact FK.c178 hM
        case hv_14 => rfl
        refine S_getf (fs := ?fs_15) (v := ?v_15) (q := 53) hX u_93 fo_X9_beats dX11_digest_50 ?hs_15 ?hv_15 rfl ?_
        case hs_15 => with_reducible first | exact FK.c0 hM | exact FK.c1 hM | exact FK.c2 hM | exact FK.c7 hM | exact FK.c129 hM | exact FK.c3 hM | exact FK.c4 hM | exact FK.c5 hM | exact FK.c6 hM | exact FK.c39 hM | exact FK.c40 hM | exact FK.c41 hM | exact FK.c42 hM | exact FK.c43 hM | exact FK.c128 hM | exact FK.c136 hM | exact FK.c137 hM | exact FK.c173 hM | exact FK.c174 hM | exact FK.c175 hM | exact FK.c176 hM | exact FK.c177 hM | exact FK.c178 hM
        case hv_15 => rfl
        refine S_icmp_ge (q := 56) 79 hX dX11_digest_53 rfl rfl (fun c53 => ?_) (fun c53 => ?_)
        · have hge : k = ln S.1.2.2.2.1 := by rw [hb, nI_leI (by omega) (by omega)] at c53; omega
          refine S_iconst (q := 80) (v := 0) hX dX11_digest_79 ic_0 rfl ?_
          refine S_istore_n (q := 81) [_, _, _, _] hX dX11_digest_80 rfl (Nat.le_of_ble_eq_true rfl) rfl rfl ?_
          exact l81 (S.1.2.2.2.2.1.1 + 1) 0 _ (Nat.zero_le _) (by omega) (by rw [ex, hge, dgF_z])
        · have hlt : k < ln S.1.2.2.2.1 := by rw [hb, nI_leI (by omega) (by omega)] at c53; omega
          refine S_ldc2 (q := 59) hX u_770 dX11_digest_56 rfl ?_
          refine S_lload_n (q := 60) hX dX11_digest_59 rfl rfl ?_
          refine S_lmul (q := 61) hX dX11_digest_60 rfl ?_
          refine S_aload_n (q := 62) hX dX11_digest_61 rfl rfl ?_
          refine S_getf (fs := ?fs_16) (v := ?v_16) (q := 65) hX u_285 fo_X11_now dX11_digest_62 ?hs_16 ?hv_16 rfl ?_
          case hs_16 => with_reducible first | exact FK.c0 hM | exact FK.c1 hM | exact FK.c2 hM | exact FK.c7 hM | exact FK.c129 hM | exact FK.c3 hM | exact FK.c4 hM | exact FK.c5 hM | exact FK.c6 hM | exact FK.c39 hM | exact FK.c40 hM | exact FK.c41 hM | exact FK.c42 hM | exact FK.c43 hM | exact FK.c128 hM | exact FK.c136 hM | exact FK.c137 hM | exact FK.c173 hM | exact FK.c174 hM | exact FK.c175 hM | exact FK.c176 hM | exact FK.c177 hM | exact FK.c178 hM
          case hv_16 => rfl
          refine S_getf (fs := ?fs_17) (v := ?v_17) (q := 68) hX u_91 fo_X9_saying dX11_digest_65 ?hs_17 ?hv_17 rfl ?_
          case hs_17 => with_reducible first | exact FK.c0 hM | exact FK.c1 hM | exact FK.c2 hM | exact FK.c7 hM | exact FK.c129 hM | exact FK.c3 hM | exact FK.c4 hM | exact FK.c5 hM | exact FK.c6 hM | exact FK.c39 hM | exact FK.c40 hM | exact FK.c41 hM | exact FK.c42 hM | exact FK.c43 hM | exact FK.c128 hM | exact FK.c136 hM | exact FK.c137 hM | exact FK.c173 hM | exact FK.c174 hM | exact FK.c175 hM | exact FK.c176 hM | exact FK.c177 hM | exact FK.c178 hM
          case hv_17 => rfl
          refine S_iload_n (q := 69) hX dX11_digest_68 rfl rfl ?_
          refine S_iald (N := ?n_18) (f := ?f_18) (q := 70) hX dX11_digest_69 ?hs_18 ?hi_18 rfl ?_
          case hs_18 => with_reducible first | exact FK.c0 hM | exact FK.c1 hM | exact FK.c2 hM | exact FK.c7 hM | exact FK.c129 hM | exact FK.c3 hM | exact FK.c4 hM | exact FK.c5 hM | exact FK.c6 hM | exact FK.c39 hM | exact FK.c40 hM | exact FK.c41 hM | exact FK.c42 hM | exact FK.c43 hM | exact FK.c128 hM | exact FK.c136 hM | exact FK.c137 hM | exact FK.c173 hM | exact FK.c174 hM | exact FK.c175 hM | exact FK.c176 hM | exact FK.c177 hM | exact FK.c178 hM
          case hi_18 => exact vp_in_nI (by omega) (by decide)
          refine S_i2l (q := 71) hX dX11_digest_70 rfl ?_
          refine S_ladd (q := 72) hX dX11_digest_71 rfl ?_
          refine S_lstore_n (q := 73) [_, _, _, _] hX dX11_digest_72 rfl (Nat.le_of_ble_eq_true rfl) rfl rfl ?_
          refine S_iinc (q := 76) [_, _, _, _] hX dX11_digest_73 rfl (ii_1 _) rfl (Nat.le_of_ble_eq_true rfl) rfl rfl ?_
          refine S_goto 45 hX dX11_digest_76 rfl ?_
          rw [nI_1]
          refine ih (k + 1) _ hlt (by omega) ?_
          rw [nI_clamp (by omega), show γ 39 k = nI (stN S.1.2.2.2.1 (ln S.1.2.2.2.1) k) from t4 k hlt, ex]; exact dgF_s (dg4 S) k _ rfl
  have l6 : ∀ (fl k : Nat) (x : Int64), k ≤ 8 → 8 - k < fl → x = dgF (dg1 S) k 811 → G X Γ P 0 0 6 [some (.ref q), some (.long x), none, some (.int (nI k))] [] σ sz := by
    intro fl
    induction fl with
      | zero => intro k x h1 h2; omega
      | succ fl ih =>
        rintro k x hk hfu ex
        refine S_iload_n (q := 7) hX dX11_digest_6 rfl rfl ?_
        refine S_bipush (q := 9) (v := 8) hX dX11_digest_7 bp_8 rfl ?_
        refine S_icmp_ge (q := 12) 31 hX dX11_digest_9 rfl rfl (fun c9 => ?_) (fun c9 => ?_)
        · have hge : k = 8 := by rw [i8, nI_leI (by omega) (by omega)] at c9; omega
          refine S_aload_n (q := 32) hX dX11_digest_31 rfl rfl ?_
          refine S_getf (fs := ?fs_19) (v := ?v_19) (q := 35) hX u_285 fo_X11_now dX11_digest_32 ?hs_19 ?hv_19 rfl ?_
          case hs_19 => with_reducible first | exact FK.c0 hM | exact FK.c1 hM | exact FK.c2 hM | exact FK.c7 hM | exact FK.c129 hM | exact FK.c3 hM | exact FK.c4 hM | exact FK.c5 hM | exact FK.c6 hM | exact FK.c39 hM | exact FK.c40 hM | exact FK.c41 hM | exact FK.c42 hM | exact FK.c43 hM | exact FK.c128 hM | exact FK.c136 hM | exact FK.c137 hM | exact FK.c173 hM | exact FK.c174 hM | exact FK.c175 hM | exact FK.c176 hM | exact FK.c177 hM | exact FK.c178 hM
          case hv_19 => rfl
          refine S_getf (fs := ?fs_20) (v := ?v_20) (q := 38) hX u_85 fo_X9_codes dX11_digest_35 ?hs_20 ?hv_20 rfl ?_
          case hs_20 => with_reducible first | exact FK.c0 hM | exact FK.c1 hM | exact FK.c2 hM | exact FK.c7 hM | exact FK.c129 hM | exact FK.c3 hM | exact FK.c4 hM | exact FK.c5 hM | exact FK.c6 hM | exact FK.c39 hM | exact FK.c40 hM | exact FK.c41 hM | exact FK.c42 hM | exact FK.c43 hM | exact FK.c128 hM | exact FK.c136 hM | exact FK.c137 hM | exact FK.c173 hM | exact FK.c174 hM | exact FK.c175 hM | exact FK.c176 hM | exact FK.c177 hM | exact FK.c178 hM
          case hv_20 => rfl
          refine S_lload_n (q := 39) hX dX11_digest_38 rfl rfl ?_
          refine S_callV (ci := 2) (C := "FanTalk$Codes") (T := TX2) (N := 5) (q := 42) 0 0 hX (c_X2_digestOn (q + 2) (fun j => γ (2 + j)) _ S.1.1) rfl ?hs_21 rfl u_771 u_772 u_773 u_3 u_774 ⟨by decide, by decide, rfl⟩ ⟨Nat.le_of_ble_eq_true rfl, Nat.le_of_ble_eq_true rfl⟩ ⟨Nat.le_of_ble_eq_true rfl, Nat.le_of_ble_eq_true rfl⟩ (Nat.le_of_ble_eq_true rfl) dX11_digest_39 ?hp_21 rfl rfl rfl ?_
          case hs_21 => exact ⟨_, FK.c2 hM⟩
          case hp_21 => exact ⟨FK.co hM, t0.ext (fun j hj => by show γ (2 + j) = γ (1 + (1 + j)); congr 1; omega), o2.s o1⟩
          rintro v σ1 sz1 ⟨rfl, rfl, rfl⟩
          refine S_lstore_n (q := 43) [_, _, _, _] hX dX11_digest_42 rfl (Nat.le_of_ble_eq_true rfl) rfl rfl ?_
          refine S_iconst (q := 44) (v := 0) hX dX11_digest_43 ic_0 rfl ?_
          refine S_istore_n (q := 45) [_, _, _, _] hX dX11_digest_44 rfl (Nat.le_of_ble_eq_true rfl) rfl rfl ?_
          exact l45 (ln S.1.2.2.2.1 + 1) 0 _ (Nat.zero_le _) (by omega) (by rw [ex, hge, dgF_z])
        · have hlt : k < 8 := by rw [i8, nI_leI (by omega) (by omega)] at c9; omega
          refine S_ldc2 (q := 15) hX u_770 dX11_digest_12 rfl ?_
          refine S_lload_n (q := 16) hX dX11_digest_15 rfl rfl ?_
          refine S_lmul (q := 17) hX dX11_digest_16 rfl ?_
          refine S_aload_n (q := 18) hX dX11_digest_17 rfl rfl ?_
          refine S_iload_n (q := 19) hX dX11_digest_18 rfl rfl ?_
          refine S_callV (ci := 11) (C := "FanTalk") (T := TX11) (N := 11) (q := 22) 0 0 hX (c_X11_howMany q γ S _) rfl ?hs_22 rfl u_760 u_762 us_25 u_1 u_763 ⟨by decide, by decide, rfl⟩ ⟨Nat.le_of_ble_eq_true rfl, Nat.le_of_ble_eq_true rfl⟩ ⟨Nat.le_of_ble_eq_true rfl, Nat.le_of_ble_eq_true rfl⟩ (Nat.le_of_ble_eq_true rfl) dX11_digest_19 ?hp_22 rfl rfl rfl ?_
          case hs_22 => first | with_reducible assumption | exact ⟨_, FK.c0 hM⟩ | exact ⟨_, FK.c2 hM⟩ | exact ⟨_, FK.c7 hM⟩ | exact ⟨_, FK.c129 hM⟩ | exact ⟨_, FK.c173 hM⟩ | exact ⟨_, FK.c1 hM⟩
          case hp_22 => exact ⟨hM, hR, ok⟩
          rintro v σ1 sz1 ⟨rfl, rfl, rfl⟩
          refine S_i2l (q := 23) hX dX11_digest_22 rfl ?_
          refine S_ladd (q := 24) hX dX11_digest_23 rfl ?_
          refine S_lstore_n (q := 25) [_, _, _, _] hX dX11_digest_24 rfl (Nat.le_of_ble_eq_true rfl) rfl rfl ?_
          refine S_iinc (q := 28) [_, _, _, _] hX dX11_digest_25 rfl (ii_1 _) rfl (Nat.le_of_ble_eq_true rfl) rfl rfl ?_
          refine S_goto 6 hX dX11_digest_28 rfl ?_
          rw [nI_1]
          refine ih (k + 1) _ hlt (by omega) ?_
          rw [if_pos (show inb (nI k) 0 7 from ⟨by rw [nI_toInt (by omega)]; omega, by rw [nI_toInt (by omega)]; omega⟩), tN_nI (by omega), ex]; exact dgF_s (dg1 S) k _ rfl
  refine S_ldc2 (q := 3) hX u_769 dX11_digest_0 rfl ?_
  refine S_lstore_n (q := 4) [_, _, _, _] hX dX11_digest_3 rfl (Nat.le_of_ble_eq_true rfl) rfl rfl ?_
  refine S_iconst (q := 5) (v := 0) hX dX11_digest_4 ic_0 rfl ?_
  refine S_istore_n (q := 6) [_, _, _, _] hX dX11_digest_5 rfl (Nat.le_of_ble_eq_true rfl) rfl rfl ?_
  exact l6 9 0 _ (Nat.zero_le _) (by omega) (dgF_z _ _).symm
