theorem c_X6_bringBack (q : Nat) (f : MF) (p : Nat × (Nat → BkT)) : CT_X6_bringBack [.ref (q + 6), .ref (q + 1)] (fun Γ σ sz => TK σ q f ∧ PaR f p ∧ 0 < p.1 ∧ p.1 ≤ 6 ∧ (∀ k, k < p.1 → BkS (p.2 k))) (fun Γ σ sz v σ' sz' => ∃ f', TK σ' q f' ∧ Fr q (q + 42) σ σ' ∧ v = none ∧ (PaR f' (p.1 - 1, p.2) ∧ CoR (fun j => f' (1 + j)) (p.2 (p.1 - 1)) ∧ (∀ j, j ≠ 6 → (j = 0 ∨ 38 ≤ j) → f' j = f j)) ∧ sz' = sz) := by
  refine CT.mkP rfl (Nat.le_of_ble_eq_true rfl) [_, _] rfl ?_
  intro X Γ σ sz P hX hpre hsz hP
  obtain ⟨hM, hp, hp0, hp6, hs⟩ := hpre
  obtain ⟨σ0, eσ0⟩ : ∃ z, z = σ := ⟨σ, rfl⟩
  rw [← eσ0] at hP
  have hF : Fr q (q + 42) σ0 σ := by rw [eσ0]; exact Fr.rf
  obtain ⟨hk, pm, hok, hpm, hco⟩ := hp
  have e1 : nI p.1 - 1 = nI (p.1 - 1) := pk_sub (b := 1) hp0
  have hpk := hok.1 (p.1 - 1) (by omega)
  refine S_aload_n (q := 1) hX dX6_bringBack_0 rfl rfl ?_
  refine S_getf (fs := ?fs_1) (v := ?v_1) (q := 4) hX u_77 fo_X6_kept dX6_bringBack_1 ?hs_1 ?hv_1 rfl ?_
  case hs_1 => with_reducible first | exact TK.c6 hM | exact TK.c7 hM | exact TK.c0 hM | exact TK.c38 hM | exact TK.c39 hM | exact TK.c40 hM | exact TK.c41 hM
  case hv_1 => rfl
  refine S_if_le (q := 7) 30 hX dX6_bringBack_4 rfl rfl (fun c4 => absurd c4 (by rw [hk, i0, nI_leI (by omega) (by omega)]; omega)) (fun c4 => ?_)
  refine S_aload_n (q := 8) hX dX6_bringBack_7 rfl rfl ?_
  refine S_dup (q := 9) hX dX6_bringBack_8 rfl rfl ?_
  refine S_getf (fs := ?fs_2) (v := ?v_2) (q := 12) hX u_77 fo_X6_kept dX6_bringBack_9 ?hs_2 ?hv_2 rfl ?_
  case hs_2 => with_reducible first | exact TK.c6 hM | exact TK.c7 hM | exact TK.c0 hM | exact TK.c38 hM | exact TK.c39 hM | exact TK.c40 hM | exact TK.c41 hM
  case hv_2 => rfl
  refine S_iconst (q := 13) (v := 1) hX dX6_bringBack_12 ic_1 rfl ?_
  refine S_isub (q := 14) hX dX6_bringBack_13 rfl ?_
  refine S_nm (fun x14 hx14 => ?_)
  refine S_putf (fs := ?fs_3) (q := 17) hX u_77 fo_X6_kept rfl rfl ?hl_3 dX6_bringBack_14 ?hs_3 rfl ?_
  case hs_3 => with_reducible first | exact TK.c6 hM | exact TK.c7 hM | exact TK.c0 hM | exact TK.c38 hM | exact TK.c39 hM | exact TK.c40 hM | exact TK.c41 hM
  case hl_3 => exact Nat.le_of_ble_eq_true rfl
  refine S_stu (q0 := q) (j := 6) (i := 0) hM hF (by decide) rfl (fun σ μ14 e14 hM hF => ?_)
  subst hx14
  have hk14 : μ14 6 0 = nI (p.1 - 1) := by rw [e14, m2_at, if_pos ⟨rfl, rfl⟩, hk, e1]
  refine S_aload_n (q := 18) hX dX6_bringBack_17 rfl rfl ?_
  refine S_aload_n (q := 19) hX dX6_bringBack_18 rfl rfl ?_
  refine S_getf (fs := ?fs_4) (v := ?v_4) (q := 22) hX u_76 fo_X6_before dX6_bringBack_19 ?hs_4 ?hv_4 rfl ?_
  case hs_4 => with_reducible first | exact TK.c6 hM | exact TK.c7 hM | exact TK.c0 hM | exact TK.c38 hM | exact TK.c39 hM | exact TK.c40 hM | exact TK.c41 hM
  case hv_4 => rfl
  refine S_aload_n (q := 23) hX dX6_bringBack_22 rfl rfl ?_
  refine S_getf (fs := ?fs_5) (v := ?v_5) (q := 26) hX u_77 fo_X6_kept dX6_bringBack_23 ?hs_5 ?hv_5 rfl ?_
  case hs_5 => with_reducible first | exact TK.c6 hM | exact TK.c7 hM | exact TK.c0 hM | exact TK.c38 hM | exact TK.c39 hM | exact TK.c40 hM | exact TK.c41 hM
  case hv_5 => rfl
  refine S_aald (N := ?n_6) (f := ?f_6) (y := q + (8 + 5 * pm (p.1 - 1))) (q := 27) (t := 4) hX dX6_bringBack_26 (by decide) rfl ?hs_6 ?hi_6 ?hy_6 rfl ?_
  case hs_6 => with_reducible first | exact TK.c6 hM | exact TK.c7 hM | exact TK.c0 hM | exact TK.c38 hM | exact TK.c39 hM | exact TK.c40 hM | exact TK.c41 hM
  case hi_6 => rw [hk14]; exact vp_in_nI (by omega) (by decide)
  case hy_6 => show some (q + (8 + 5 * tN (μ14 7 (μ14 6 0).toNatClampNeg))) = some _; rw [hk14, nI_clamp (by omega), e14, m2_o (by decide), hpm _ (by omega), tN_nI (by omega)]
  refine S_callV (ci := 2) (C := "FanTalk$Codes") (T := TX2) (N := 5) (q := 30) 0 0 hX (c_X2_take (q + 1) (fun j => μ14 (1 + j)) (q + (8 + 5 * pm (p.1 - 1))) (fun j => μ14 (8 + 5 * pm (p.1 - 1) + j))) rfl ?hs_7 rfl u_606 u_482 u_483 u_3 u_484 ⟨by decide, by decide, rfl⟩ ⟨Nat.le_of_ble_eq_true rfl, Nat.le_of_ble_eq_true rfl⟩ ⟨Nat.le_of_ble_eq_true rfl, Nat.le_of_ble_eq_true rfl⟩ (Nat.le_of_ble_eq_true rfl) dX6_bringBack_27 ?hp_7 rfl rfl rfl ?_
  case hs_7 => exact ⟨_, (TK.co hM (Or.inl rfl)).c0⟩
  case hp_7 => exact ⟨TK.co hM (Or.inl rfl), TK.co hM (cOf.at hok (by omega)), by left; omega⟩
  rintro v σ sz1 ⟨g1, hM1, hF1, rfl, he, rfl⟩
  have hM := TK.jn hM (Or.inl rfl) hF1 hM1
  have hF := hF.trans (hF1.mono (Nat.le_add_right _ _) (by omega))
  refine S_vret hX dX6_bringBack_30 (Nat.zero_le _) (Nat.zero_le _) ?_
  refine hP _ _ _ ?_
  have hcB := hco (p.1 - 1) (by omega)
  have hcB2 : CoR (fun j => μ14 (8 + 5 * pm (p.1 - 1) + j)) (p.2 (p.1 - 1)) := hcB.ext (fun j hj => by show μ14 _ = f _; rw [e14, m2_o (by omega)])
  refine ⟨_, hM, hF, rfl, ⟨⟨?_, pm, hok, fun k hk2 => ?_, fun k hk2 => ?_⟩, ?_, fun j h6' h8 => ?_⟩, rfl⟩
  · rw [spl_out (by omega)]; exact hk14
  · rw [spl_out (by omega), e14, m2_o (by decide)]; exact hpm k hk2
  · have hk2 : k < p.1 - 1 := hk2
    have hpk2 := hok.1 k (by omega)
    exact ((hco k (by omega)).ext (fun j hj => by show μ14 _ = f _; rw [e14, m2_o (by omega)])).sOut (d := 1) (by left; omega)
  · exact (hcB2.eq (hs _ (by omega)) he).sIn
  · rw [spl_out (by omega), e14, m2_o h6']
theorem c_X6_take (q : Nat) (f : MF) (q2 : Nat) (g : MF) (p : Nat × (Nat → BkT)) : CT_X6_take [.ref (q + 6), .ref (q2 + 6)] (fun Γ σ sz => TK σ q f ∧ TK σ q2 g ∧ (q + 42 ≤ q2 ∨ q2 + 42 ≤ q) ∧ PmR f ∧ PaR g p ∧ p.1 ≤ 6 ∧ (∀ k, k < p.1 → BkS (p.2 k))) (fun Γ σ sz v σ' sz' => ∃ f', TK σ' q f' ∧ Fr q (q + 42) σ σ' ∧ v = none ∧ (PaR f' p ∧ (∀ j, j < 6 ∨ 38 ≤ j → f' j = f j)) ∧ sz' = sz) := by
  refine CT.mkP rfl (Nat.le_of_ble_eq_true rfl) [_, _, _] rfl ?_
  intro X Γ σ sz P hX hpre hsz hP
  obtain ⟨hM, hG, hdis, hpf, hp, hp6, hs⟩ := hpre
  obtain ⟨σ0, eσ0⟩ : ∃ z, z = σ := ⟨σ, rfl⟩
  rw [← eσ0] at hP
  have hF : Fr q (q + 42) σ0 σ := by rw [eσ0]; exact Fr.rf
  have hG0 : TK σ0 q2 g := by rw [eσ0]; exact hG
  have hdis2 : q2 + 42 ≤ q ∨ q + 42 ≤ q2 := by omega
  obtain ⟨pm, hok, hpm⟩ := hpf
  obtain ⟨hk, pn, hokn, hpn, hco⟩ := hp
  have loop : ∀ (fl : Nat) (k : Nat) (σ : Sg) (μ : MF), k ≤ p.1 → p.1 - k < fl → μ 6 0 = nI p.1 → (∀ j, j < 6 ∨ j = 7 ∨ 38 ≤ j → μ j = f j) → (∀ i, i < k → CoR (fun j => μ (8 + 5 * pm i + j)) (p.2 i)) → TK σ q μ → Fr q (q + 42) σ0 σ → G X Γ P 0 0 10 [some (.ref (q + 6)), some (.ref (q2 + 6)), some (.int (nI k))] [] σ sz := by
    intro fl
    induction fl with
    | zero =>
      rintro k σ μ hkp hfu hk0 ho hc hM hF
      exact absurd hfu (Nat.not_lt_zero _)
    | succ fl ih =>
      rintro k σ μ hkp hfu hk0 ho hc hM hF
      refine S_iload_n (q := 11) hX dX6_take_10 rfl rfl ?_
      refine S_aload_n (q := 12) hX dX6_take_11 rfl rfl ?_
      refine S_getf (fs := ?fs_1) (v := ?v_1) (q := 15) hX u_77 fo_X6_kept dX6_take_12 ?hs_1 ?hv_1 rfl ?_
      case hs_1 => with_reducible first | exact TK.c6 hM | exact TK.c7 hM | exact TK.c0 hM | exact TK.c38 hM | exact TK.c39 hM | exact TK.c40 hM | exact TK.c41 hM | exact TK.c6 (hG0.fr hF hdis2) | exact TK.c7 (hG0.fr hF hdis2) | exact TK.c0 (hG0.fr hF hdis2) | exact TK.c38 (hG0.fr hF hdis2) | exact TK.c39 (hG0.fr hF hdis2) | exact TK.c40 (hG0.fr hF hdis2) | exact TK.c41 (hG0.fr hF hdis2)
      case hv_1 => rfl
      refine S_icmp_ge (q := 18) 39 hX dX6_take_15 rfl rfl (fun c15 => ?_) (fun c15 => ?_)
      · have hge : k = p.1 := by rw [hk0, nI_leI (by omega) (by omega)] at c15; omega
        refine S_vret hX dX6_take_39 (Nat.zero_le _) (Nat.zero_le _) ?_
        refine hP _ _ _ ?_
        subst hge
        exact ⟨_, hM, hF, rfl, ⟨⟨hk0, pm, hok, fun j hj => by rw [ho 7 (by omega)]; exact hpm j hj, hc⟩, fun j hj => ho j (by omega)⟩, rfl⟩
      · have hlt : k < p.1 := by rw [hk0, nI_leI (by omega) (by omega)] at c15; omega
        have hpk := hok.1 k (by omega)
        have hpnk := hokn.1 k (by omega)
        refine S_aload_n (q := 19) hX dX6_take_18 rfl rfl ?_
        refine S_getf (fs := ?fs_2) (v := ?v_2) (q := 22) hX u_76 fo_X6_before dX6_take_19 ?hs_2 ?hv_2 rfl ?_
        case hs_2 => with_reducible first | exact TK.c6 hM | exact TK.c7 hM | exact TK.c0 hM | exact TK.c38 hM | exact TK.c39 hM | exact TK.c40 hM | exact TK.c41 hM | exact TK.c6 (hG0.fr hF hdis2) | exact TK.c7 (hG0.fr hF hdis2) | exact TK.c0 (hG0.fr hF hdis2) | exact TK.c38 (hG0.fr hF hdis2) | exact TK.c39 (hG0.fr hF hdis2) | exact TK.c40 (hG0.fr hF hdis2) | exact TK.c41 (hG0.fr hF hdis2)
        case hv_2 => rfl
        refine S_iload_n (q := 23) hX dX6_take_22 rfl rfl ?_
        refine S_aald (N := ?n_3) (f := ?f_3) (y := q + (8 + 5 * pm k)) (q := 24) (t := 4) hX dX6_take_23 (by decide) rfl ?hs_3 ?hi_3 ?hy_3 rfl ?_
        case hs_3 => with_reducible first | exact TK.c6 hM | exact TK.c7 hM | exact TK.c0 hM | exact TK.c38 hM | exact TK.c39 hM | exact TK.c40 hM | exact TK.c41 hM | exact TK.c6 (hG0.fr hF hdis2) | exact TK.c7 (hG0.fr hF hdis2) | exact TK.c0 (hG0.fr hF hdis2) | exact TK.c38 (hG0.fr hF hdis2) | exact TK.c39 (hG0.fr hF hdis2) | exact TK.c40 (hG0.fr hF hdis2) | exact TK.c41 (hG0.fr hF hdis2)
        case hi_3 => exact vp_in_nI (by omega) (by decide)
        case hy_3 => show some (q + (8 + 5 * tN (μ 7 (nI k).toNatClampNeg))) = some _; rw [nI_clamp (by omega), ho 7 (by omega), hpm _ (by omega), tN_nI (by omega)]
        refine S_aload_n (q := 25) hX dX6_take_24 rfl rfl ?_
        refine S_getf (fs := ?fs_4) (v := ?v_4) (q := 28) hX u_76 fo_X6_before dX6_take_25 ?hs_4 ?hv_4 rfl ?_
        case hs_4 => with_reducible first | exact TK.c6 hM | exact TK.c7 hM | exact TK.c0 hM | exact TK.c38 hM | exact TK.c39 hM | exact TK.c40 hM | exact TK.c41 hM | exact TK.c6 (hG0.fr hF hdis2) | exact TK.c7 (hG0.fr hF hdis2) | exact TK.c0 (hG0.fr hF hdis2) | exact TK.c38 (hG0.fr hF hdis2) | exact TK.c39 (hG0.fr hF hdis2) | exact TK.c40 (hG0.fr hF hdis2) | exact TK.c41 (hG0.fr hF hdis2)
        case hv_4 => rfl
        refine S_iload_n (q := 29) hX dX6_take_28 rfl rfl ?_
        refine S_aald (N := ?n_5) (f := ?f_5) (y := q2 + (8 + 5 * pn k)) (q := 30) (t := 4) hX dX6_take_29 (by decide) rfl ?hs_5 ?hi_5 ?hy_5 rfl ?_
        case hs_5 => with_reducible first | exact TK.c6 hM | exact TK.c7 hM | exact TK.c0 hM | exact TK.c38 hM | exact TK.c39 hM | exact TK.c40 hM | exact TK.c41 hM | exact TK.c6 (hG0.fr hF hdis2) | exact TK.c7 (hG0.fr hF hdis2) | exact TK.c0 (hG0.fr hF hdis2) | exact TK.c38 (hG0.fr hF hdis2) | exact TK.c39 (hG0.fr hF hdis2) | exact TK.c40 (hG0.fr hF hdis2) | exact TK.c41 (hG0.fr hF hdis2)
        case hi_5 => exact vp_in_nI (by omega) (by decide)
        case hy_5 => show some (q2 + (8 + 5 * tN (g 7 (nI k).toNatClampNeg))) = some _; rw [nI_clamp (by omega), hpn _ (by omega), tN_nI (by omega)]
        refine S_callV (ci := 2) (C := "FanTalk$Codes") (T := TX2) (N := 5) (q := 33) 0 0 hX (c_X2_take (q + (8 + 5 * pm k)) (fun j => μ (8 + 5 * pm k + j)) (q2 + (8 + 5 * pn k)) (fun j => g (8 + 5 * pn k + j))) rfl ?hs_6 rfl u_606 u_482 u_483 u_3 u_484 ⟨by decide, by decide, rfl⟩ ⟨Nat.le_of_ble_eq_true rfl, Nat.le_of_ble_eq_true rfl⟩ ⟨Nat.le_of_ble_eq_true rfl, Nat.le_of_ble_eq_true rfl⟩ (Nat.le_of_ble_eq_true rfl) dX6_take_30 ?hp_6 rfl rfl rfl ?_
        case hs_6 => exact ⟨_, (TK.co hM (cOf.at hok (by omega))).c0⟩
        case hp_6 => exact ⟨TK.co hM (cOf.at hok (by omega)), TK.co (hG0.fr hF hdis2) (cOf.at hokn (by omega)), by omega⟩
        rintro v σ sz1 ⟨g1, hM1, hF1, rfl, he, rfl⟩
        have hM := TK.jn hM (cOf.at hok (by omega)) hF1 hM1
        have hF := hF.trans (hF1.mono (Nat.le_add_right _ _) (by omega))
        refine S_iinc (q := 36) [_, _, _] hX dX6_take_33 rfl (ii_1 _) rfl (Nat.le_of_ble_eq_true rfl) rfl rfl ?_
        refine S_goto 10 hX dX6_take_36 rfl ?_
        rw [nI_1]
        refine ih (k + 1) _ _ hlt (by omega) (by rw [spl_out (by omega)]; exact hk0) (fun j hj => by rw [spl_out (by omega)]; exact ho j hj) (fun i hi => ?_) hM hF
        by_cases hik : i = k
        · rw [hik]
          exact ((hco k (by omega)).eq (hs k (by omega)) he).sIn
        · exact (hc i (by omega)).sOut (g := g1) (hok.ne (by omega) (by omega) (fun z => hik z.symm))
  refine S_aload_n (q := 1) hX dX6_take_0 rfl rfl ?_
  refine S_aload_n (q := 2) hX dX6_take_1 rfl rfl ?_
  refine S_getf (fs := ?fs_7) (v := ?v_7) (q := 5) hX u_77 fo_X6_kept dX6_take_2 ?hs_7 ?hv_7 rfl ?_
  case hs_7 => with_reducible first | exact TK.c6 hM | exact TK.c7 hM | exact TK.c0 hM | exact TK.c38 hM | exact TK.c39 hM | exact TK.c40 hM | exact TK.c41 hM | exact TK.c6 (hG0.fr hF hdis2) | exact TK.c7 (hG0.fr hF hdis2) | exact TK.c0 (hG0.fr hF hdis2) | exact TK.c38 (hG0.fr hF hdis2) | exact TK.c39 (hG0.fr hF hdis2) | exact TK.c40 (hG0.fr hF hdis2) | exact TK.c41 (hG0.fr hF hdis2)
  case hv_7 => rfl
  refine S_nm (fun x5 hx5 => ?_)
  refine S_putf (fs := ?fs_8) (q := 8) hX u_77 fo_X6_kept rfl rfl ?hl_8 dX6_take_5 ?hs_8 rfl ?_
  case hs_8 => with_reducible first | exact TK.c6 hM | exact TK.c7 hM | exact TK.c0 hM | exact TK.c38 hM | exact TK.c39 hM | exact TK.c40 hM | exact TK.c41 hM | exact TK.c6 (hG0.fr hF hdis2) | exact TK.c7 (hG0.fr hF hdis2) | exact TK.c0 (hG0.fr hF hdis2) | exact TK.c38 (hG0.fr hF hdis2) | exact TK.c39 (hG0.fr hF hdis2) | exact TK.c40 (hG0.fr hF hdis2) | exact TK.c41 (hG0.fr hF hdis2)
  case hl_8 => exact Nat.le_of_ble_eq_true rfl
  refine S_stu (q0 := q) (j := 6) (i := 0) hM hF (by decide) rfl (fun σ μ5 e5 hM hF => ?_)
  subst hx5
  refine S_iconst (q := 9) (v := 0) hX dX6_take_8 ic_0 rfl ?_
  refine S_istore_n (q := 10) [_, _, _] hX dX6_take_9 rfl (Nat.le_of_ble_eq_true rfl) rfl rfl ?_
  exact loop (p.1 + 1) 0 σ μ5 (Nat.zero_le _) (by omega) (by rw [e5, m2_at, if_pos ⟨rfl, rfl⟩]; exact hk) (fun j hj => by rw [e5, m2_o (by omega)]) (fun i hi => absurd hi (Nat.not_lt_zero _)) hM hF
theorem c_X9_take (q : Nat) (f : MF) (q2 : Nat) (g : MF) (C : CtT) : CT_X9_take [.ref q, .ref q2] (fun Γ σ sz => TK σ q f ∧ TK σ q2 g ∧ (q + 42 ≤ q2 ∨ q2 + 42 ≤ q) ∧ PmR f ∧ TkR g C ∧ CtOk C) (fun Γ σ sz v σ' sz' => ∃ f', TK σ' q f' ∧ Fr q (q + 42) σ σ' ∧ v = none ∧ (TkR f' C) ∧ sz' = sz) := by
  refine CT.mkP rfl (Nat.le_of_ble_eq_true rfl) [_, _] rfl ?_
  intro X Γ σ sz P hX hpre hsz hP
  obtain ⟨hM, hG, hdis, hpf, hg, ok⟩ := hpre
  obtain ⟨σ0, eσ0⟩ : ∃ z, z = σ := ⟨σ, rfl⟩
  rw [← eσ0] at hP
  have hF : Fr q (q + 42) σ0 σ := by rw [eσ0]; exact Fr.rf
  have hG0 : TK σ0 q2 g := by rw [eσ0]; exact hG
  have hdis2 : q2 + 42 ≤ q ∨ q + 42 ≤ q2 := by omega
  obtain ⟨r0, r1, r2, r3, r4, r5, r6, r7, r8⟩ := hg
  obtain ⟨o1, o2, o3, o4, o5, o6, o7, o8, o9, o10⟩ := ok
  obtain ⟨pm, hok, hpm⟩ := hpf
  refine S_aload_n (q := 1) hX dX9_take_0 rfl rfl ?_
  refine S_getf (fs := ?fs_1) (v := ?v_1) (q := 4) hX u_84 fo_X9_codes dX9_take_1 ?hs_1 ?hv_1 rfl ?_
  case hs_1 => with_reducible first | exact TK.c6 hM | exact TK.c7 hM | exact TK.c0 hM | exact TK.c38 hM | exact TK.c39 hM | exact TK.c40 hM | exact TK.c41 hM | exact TK.c6 (hG0.fr hF hdis2) | exact TK.c7 (hG0.fr hF hdis2) | exact TK.c0 (hG0.fr hF hdis2) | exact TK.c38 (hG0.fr hF hdis2) | exact TK.c39 (hG0.fr hF hdis2) | exact TK.c40 (hG0.fr hF hdis2) | exact TK.c41 (hG0.fr hF hdis2)
  case hv_1 => rfl
  refine S_aload_n (q := 5) hX dX9_take_4 rfl rfl ?_
  refine S_getf (fs := ?fs_2) (v := ?v_2) (q := 8) hX u_84 fo_X9_codes dX9_take_5 ?hs_2 ?hv_2 rfl ?_
  case hs_2 => with_reducible first | exact TK.c6 hM | exact TK.c7 hM | exact TK.c0 hM | exact TK.c38 hM | exact TK.c39 hM | exact TK.c40 hM | exact TK.c41 hM | exact TK.c6 (hG0.fr hF hdis2) | exact TK.c7 (hG0.fr hF hdis2) | exact TK.c0 (hG0.fr hF hdis2) | exact TK.c38 (hG0.fr hF hdis2) | exact TK.c39 (hG0.fr hF hdis2) | exact TK.c40 (hG0.fr hF hdis2) | exact TK.c41 (hG0.fr hF hdis2)
  case hv_2 => rfl
  refine S_callV (ci := 2) (C := "FanTalk$Codes") (T := TX2) (N := 5) (q := 11) 0 0 hX (c_X2_take (q + 1) (fun j => f (1 + j)) (q2 + 1) (fun j => g (1 + j))) rfl ?hs_3 rfl u_742 u_482 u_483 u_3 u_484 ⟨by decide, by decide, rfl⟩ ⟨Nat.le_of_ble_eq_true rfl, Nat.le_of_ble_eq_true rfl⟩ ⟨Nat.le_of_ble_eq_true rfl, Nat.le_of_ble_eq_true rfl⟩ (Nat.le_of_ble_eq_true rfl) dX9_take_8 ?hp_3 rfl rfl rfl ?_
  case hs_3 => exact ⟨_, (TK.co hM (Or.inl rfl)).c0⟩
  case hp_3 => exact ⟨TK.co hM (Or.inl rfl), TK.co (hG0.fr hF hdis2) (Or.inl rfl), by omega⟩
  rintro v σ sz1 ⟨g1, hM1, hF1, rfl, he, rfl⟩
  have hM := TK.jn hM (Or.inl rfl) hF1 hM1
  have hF := hF.trans (hF1.mono (Nat.le_add_right _ _) (by omega))
  refine S_aload_n (q := 12) hX dX9_take_11 rfl rfl ?_
  refine S_getf (fs := ?fs_4) (v := ?v_4) (q := 15) hX u_86 fo_X9_past dX9_take_12 ?hs_4 ?hv_4 rfl ?_
  case hs_4 => with_reducible first | exact TK.c6 hM | exact TK.c7 hM | exact TK.c0 hM | exact TK.c38 hM | exact TK.c39 hM | exact TK.c40 hM | exact TK.c41 hM | exact TK.c6 (hG0.fr hF hdis2) | exact TK.c7 (hG0.fr hF hdis2) | exact TK.c0 (hG0.fr hF hdis2) | exact TK.c38 (hG0.fr hF hdis2) | exact TK.c39 (hG0.fr hF hdis2) | exact TK.c40 (hG0.fr hF hdis2) | exact TK.c41 (hG0.fr hF hdis2)
  case hv_4 => rfl
  refine S_aload_n (q := 16) hX dX9_take_15 rfl rfl ?_
  refine S_getf (fs := ?fs_5) (v := ?v_5) (q := 19) hX u_86 fo_X9_past dX9_take_16 ?hs_5 ?hv_5 rfl ?_
  case hs_5 => with_reducible first | exact TK.c6 hM | exact TK.c7 hM | exact TK.c0 hM | exact TK.c38 hM | exact TK.c39 hM | exact TK.c40 hM | exact TK.c41 hM | exact TK.c6 (hG0.fr hF hdis2) | exact TK.c7 (hG0.fr hF hdis2) | exact TK.c0 (hG0.fr hF hdis2) | exact TK.c38 (hG0.fr hF hdis2) | exact TK.c39 (hG0.fr hF hdis2) | exact TK.c40 (hG0.fr hF hdis2) | exact TK.c41 (hG0.fr hF hdis2)
  case hv_5 => rfl
  refine S_callV (ci := 6) (C := "FanTalk$Past") (T := TX6) (N := 2) (q := 22) 0 0 hX (c_X6_take q (spl f 1 5 g1) q2 g C.2.1) rfl ?hs_6 rfl u_743 u_744 u_745 u_4 u_746 ⟨by decide, by decide, rfl⟩ ⟨Nat.le_of_ble_eq_true rfl, Nat.le_of_ble_eq_true rfl⟩ ⟨Nat.le_of_ble_eq_true rfl, Nat.le_of_ble_eq_true rfl⟩ (Nat.le_of_ble_eq_true rfl) dX9_take_19 ?hp_6 rfl rfl rfl ?_
  case hs_6 => first | with_reducible assumption | exact ⟨_, TK.c0 hM⟩ | exact ⟨_, TK.c6 hM⟩
  case hp_6 => exact ⟨hM, hG0.fr hF hdis2, hdis, ⟨pm, hok, fun k hk => by rw [spl_out (by omega)]; exact hpm k hk⟩, r1, o3, fun k hk => (o4 k hk).s o1⟩
  rintro v σ sz1 ⟨μ1, hM, hF1, rfl, ⟨hpa, ho1⟩, rfl⟩
  have hF := hF.trans hF1
  refine S_aload_n (q := 23) hX dX9_take_22 rfl rfl ?_
  refine S_aload_n (q := 24) hX dX9_take_23 rfl rfl ?_
  refine S_getf (fs := ?fs_7) (v := ?v_7) (q := 27) hX u_88 fo_X9_draughts dX9_take_24 ?hs_7 ?hv_7 rfl ?_
  case hs_7 => with_reducible first | exact TK.c6 hM | exact TK.c7 hM | exact TK.c0 hM | exact TK.c38 hM | exact TK.c39 hM | exact TK.c40 hM | exact TK.c41 hM | exact TK.c6 (hG0.fr hF hdis2) | exact TK.c7 (hG0.fr hF hdis2) | exact TK.c0 (hG0.fr hF hdis2) | exact TK.c38 (hG0.fr hF hdis2) | exact TK.c39 (hG0.fr hF hdis2) | exact TK.c40 (hG0.fr hF hdis2) | exact TK.c41 (hG0.fr hF hdis2)
  case hv_7 => rfl
  refine S_nm (fun x27 hx27 => ?_)
  refine S_putf (fs := ?fs_8) (q := 30) hX u_88 fo_X9_draughts rfl rfl ?hl_8 dX9_take_27 ?hs_8 rfl ?_
  case hs_8 => with_reducible first | exact TK.c6 hM | exact TK.c7 hM | exact TK.c0 hM | exact TK.c38 hM | exact TK.c39 hM | exact TK.c40 hM | exact TK.c41 hM | exact TK.c6 (hG0.fr hF hdis2) | exact TK.c7 (hG0.fr hF hdis2) | exact TK.c0 (hG0.fr hF hdis2) | exact TK.c38 (hG0.fr hF hdis2) | exact TK.c39 (hG0.fr hF hdis2) | exact TK.c40 (hG0.fr hF hdis2) | exact TK.c41 (hG0.fr hF hdis2)
  case hl_8 => exact Nat.le_of_ble_eq_true rfl
  refine S_stu (q0 := q) (j := 0) (i := 0) hM hF (by decide) rfl (fun σ μ27 e27 hM hF => ?_)
  subst hx27
  refine S_aload_n (q := 31) hX dX9_take_30 rfl rfl ?_
  refine S_getf (fs := ?fs_9) (v := ?v_9) (q := 34) hX u_90 fo_X9_saying dX9_take_31 ?hs_9 ?hv_9 rfl ?_
  case hs_9 => with_reducible first | exact TK.c6 hM | exact TK.c7 hM | exact TK.c0 hM | exact TK.c38 hM | exact TK.c39 hM | exact TK.c40 hM | exact TK.c41 hM | exact TK.c6 (hG0.fr hF hdis2) | exact TK.c7 (hG0.fr hF hdis2) | exact TK.c0 (hG0.fr hF hdis2) | exact TK.c38 (hG0.fr hF hdis2) | exact TK.c39 (hG0.fr hF hdis2) | exact TK.c40 (hG0.fr hF hdis2) | exact TK.c41 (hG0.fr hF hdis2)
  case hv_9 => rfl
  refine S_iconst (q := 35) (v := 0) hX dX9_take_34 ic_0 rfl ?_
  refine S_aload_n (q := 36) hX dX9_take_35 rfl rfl ?_
  refine S_getf (fs := ?fs_10) (v := ?v_10) (q := 39) hX u_90 fo_X9_saying dX9_take_36 ?hs_10 ?hv_10 rfl ?_
  case hs_10 => with_reducible first | exact TK.c6 hM | exact TK.c7 hM | exact TK.c0 hM | exact TK.c38 hM | exact TK.c39 hM | exact TK.c40 hM | exact TK.c41 hM | exact TK.c6 (hG0.fr hF hdis2) | exact TK.c7 (hG0.fr hF hdis2) | exact TK.c0 (hG0.fr hF hdis2) | exact TK.c38 (hG0.fr hF hdis2) | exact TK.c39 (hG0.fr hF hdis2) | exact TK.c40 (hG0.fr hF hdis2) | exact TK.c41 (hG0.fr hF hdis2)
  case hv_10 => rfl
  refine S_iconst (q := 40) (v := 0) hX dX9_take_39 ic_0 rfl ?_
  refine S_aload_n (q := 41) hX dX9_take_40 rfl rfl ?_
  refine S_getf (fs := ?fs_11) (v := ?v_11) (q := 44) hX u_90 fo_X9_saying dX9_take_41 ?hs_11 ?hv_11 rfl ?_
  case hs_11 => with_reducible first | exact TK.c6 hM | exact TK.c7 hM | exact TK.c0 hM | exact TK.c38 hM | exact TK.c39 hM | exact TK.c40 hM | exact TK.c41 hM | exact TK.c6 (hG0.fr hF hdis2) | exact TK.c7 (hG0.fr hF hdis2) | exact TK.c0 (hG0.fr hF hdis2) | exact TK.c38 (hG0.fr hF hdis2) | exact TK.c39 (hG0.fr hF hdis2) | exact TK.c40 (hG0.fr hF hdis2) | exact TK.c41 (hG0.fr hF hdis2)
  case hv_11 => rfl
  refine S_alen (t := ?t_12) (x := ?x_12) (q := 45) hX dX9_take_44 ?ht_12 ?hs_12 rfl ?_
  case hs_12 => with_reducible first | exact TK.c6 hM | exact TK.c7 hM | exact TK.c0 hM | exact TK.c38 hM | exact TK.c39 hM | exact TK.c40 hM | exact TK.c41 hM | exact TK.c6 (hG0.fr hF hdis2) | exact TK.c7 (hG0.fr hF hdis2) | exact TK.c0 (hG0.fr hF hdis2) | exact TK.c38 (hG0.fr hF hdis2) | exact TK.c39 (hG0.fr hF hdis2) | exact TK.c40 (hG0.fr hF hdis2) | exact TK.c41 (hG0.fr hF hdis2)
  case ht_12 => decide
  refine S_copy (n0 := ?n0_13) (n1 := ?n1_13) (f := ?f_13) (g := ?g_13) (q := 48) hX u_747 u_487 u_486 u_18 ?hs_13 ?h1_13 ?h2_13 ?h3_13 ?h4_13 ?h5_13 ?h6_13 (by decide) (Nat.le_of_ble_eq_true rfl) dX9_take_45 rfl ?_
  case hs_13 => with_reducible first | exact TK.c6 hM | exact TK.c7 hM | exact TK.c0 hM | exact TK.c38 hM | exact TK.c39 hM | exact TK.c40 hM | exact TK.c41 hM | exact TK.c6 (hG0.fr hF hdis2) | exact TK.c7 (hG0.fr hF hdis2) | exact TK.c0 (hG0.fr hF hdis2) | exact TK.c38 (hG0.fr hF hdis2) | exact TK.c39 (hG0.fr hF hdis2) | exact TK.c40 (hG0.fr hF hdis2) | exact TK.c41 (hG0.fr hF hdis2)
  case h1_13 => with_reducible first | exact TK.c6 hM | exact TK.c7 hM | exact TK.c0 hM | exact TK.c38 hM | exact TK.c39 hM | exact TK.c40 hM | exact TK.c41 hM | exact TK.c6 (hG0.fr hF hdis2) | exact TK.c7 (hG0.fr hF hdis2) | exact TK.c0 (hG0.fr hF hdis2) | exact TK.c38 (hG0.fr hF hdis2) | exact TK.c39 (hG0.fr hF hdis2) | exact TK.c40 (hG0.fr hF hdis2) | exact TK.c41 (hG0.fr hF hdis2)
  case h2_13 => first | decide | exact Nat.le_of_ble_eq_true rfl | exact nI_pos (Nat.le_of_ble_eq_true rfl)
  case h3_13 => first | decide | exact Nat.le_of_ble_eq_true rfl | exact nI_pos (Nat.le_of_ble_eq_true rfl)
  case h4_13 => first | decide | exact Nat.le_of_ble_eq_true rfl | exact nI_pos (Nat.le_of_ble_eq_true rfl)
  case h5_13 => first | decide | exact Nat.le_of_ble_eq_true rfl | exact nI_pos (Nat.le_of_ble_eq_true rfl)
  case h6_13 => first | decide | exact Nat.le_of_ble_eq_true rfl | exact nI_pos (Nat.le_of_ble_eq_true rfl)
  refine S_stn (q0 := q) (j := 38) hM hF (by decide) rfl (fun σ μ45 e45 hM hF => ?_)
  refine S_aload_n (q := 49) hX dX9_take_48 rfl rfl ?_
  refine S_aload_n (q := 50) hX dX9_take_49 rfl rfl ?_
  refine S_getf (fs := ?fs_14) (v := ?v_14) (q := 53) hX u_92 fo_X9_beats dX9_take_50 ?hs_14 ?hv_14 rfl ?_
  case hs_14 => with_reducible first | exact TK.c6 hM | exact TK.c7 hM | exact TK.c0 hM | exact TK.c38 hM | exact TK.c39 hM | exact TK.c40 hM | exact TK.c41 hM | exact TK.c6 (hG0.fr hF hdis2) | exact TK.c7 (hG0.fr hF hdis2) | exact TK.c0 (hG0.fr hF hdis2) | exact TK.c38 (hG0.fr hF hdis2) | exact TK.c39 (hG0.fr hF hdis2) | exact TK.c40 (hG0.fr hF hdis2) | exact TK.c41 (hG0.fr hF hdis2)
  case hv_14 => rfl
  refine S_nm (fun x53 hx53 => ?_)
  refine S_putf (fs := ?fs_15) (q := 56) hX u_92 fo_X9_beats rfl rfl ?hl_15 dX9_take_53 ?hs_15 rfl ?_
  case hs_15 => with_reducible first | exact TK.c6 hM | exact TK.c7 hM | exact TK.c0 hM | exact TK.c38 hM | exact TK.c39 hM | exact TK.c40 hM | exact TK.c41 hM | exact TK.c6 (hG0.fr hF hdis2) | exact TK.c7 (hG0.fr hF hdis2) | exact TK.c0 (hG0.fr hF hdis2) | exact TK.c38 (hG0.fr hF hdis2) | exact TK.c39 (hG0.fr hF hdis2) | exact TK.c40 (hG0.fr hF hdis2) | exact TK.c41 (hG0.fr hF hdis2)
  case hl_15 => exact Nat.le_of_ble_eq_true rfl
  refine S_stu (q0 := q) (j := 0) (i := 1) hM hF (by decide) rfl (fun σ μ53 e53 hM hF => ?_)
  subst hx53
  refine S_aload_n (q := 57) hX dX9_take_56 rfl rfl ?_
  refine S_getf (fs := ?fs_16) (v := ?v_16) (q := 60) hX u_94 fo_X9_want dX9_take_57 ?hs_16 ?hv_16 rfl ?_
  case hs_16 => with_reducible first | exact TK.c6 hM | exact TK.c7 hM | exact TK.c0 hM | exact TK.c38 hM | exact TK.c39 hM | exact TK.c40 hM | exact TK.c41 hM | exact TK.c6 (hG0.fr hF hdis2) | exact TK.c7 (hG0.fr hF hdis2) | exact TK.c0 (hG0.fr hF hdis2) | exact TK.c38 (hG0.fr hF hdis2) | exact TK.c39 (hG0.fr hF hdis2) | exact TK.c40 (hG0.fr hF hdis2) | exact TK.c41 (hG0.fr hF hdis2)
  case hv_16 => rfl
  refine S_iconst (q := 61) (v := 0) hX dX9_take_60 ic_0 rfl ?_
  refine S_aload_n (q := 62) hX dX9_take_61 rfl rfl ?_
  refine S_getf (fs := ?fs_17) (v := ?v_17) (q := 65) hX u_94 fo_X9_want dX9_take_62 ?hs_17 ?hv_17 rfl ?_
  case hs_17 => with_reducible first | exact TK.c6 hM | exact TK.c7 hM | exact TK.c0 hM | exact TK.c38 hM | exact TK.c39 hM | exact TK.c40 hM | exact TK.c41 hM | exact TK.c6 (hG0.fr hF hdis2) | exact TK.c7 (hG0.fr hF hdis2) | exact TK.c0 (hG0.fr hF hdis2) | exact TK.c38 (hG0.fr hF hdis2) | exact TK.c39 (hG0.fr hF hdis2) | exact TK.c40 (hG0.fr hF hdis2) | exact TK.c41 (hG0.fr hF hdis2)
  case hv_17 => rfl
  refine S_iconst (q := 66) (v := 0) hX dX9_take_65 ic_0 rfl ?_
  refine S_aload_n (q := 67) hX dX9_take_66 rfl rfl ?_
  refine S_getf (fs := ?fs_18) (v := ?v_18) (q := 70) hX u_94 fo_X9_want dX9_take_67 ?hs_18 ?hv_18 rfl ?_
  case hs_18 => with_reducible first | exact TK.c6 hM | exact TK.c7 hM | exact TK.c0 hM | exact TK.c38 hM | exact TK.c39 hM | exact TK.c40 hM | exact TK.c41 hM | exact TK.c6 (hG0.fr hF hdis2) | exact TK.c7 (hG0.fr hF hdis2) | exact TK.c0 (hG0.fr hF hdis2) | exact TK.c38 (hG0.fr hF hdis2) | exact TK.c39 (hG0.fr hF hdis2) | exact TK.c40 (hG0.fr hF hdis2) | exact TK.c41 (hG0.fr hF hdis2)
  case hv_18 => rfl
  refine S_alen (t := ?t_19) (x := ?x_19) (q := 71) hX dX9_take_70 ?ht_19 ?hs_19 rfl ?_
  case hs_19 => with_reducible first | exact TK.c6 hM | exact TK.c7 hM | exact TK.c0 hM | exact TK.c38 hM | exact TK.c39 hM | exact TK.c40 hM | exact TK.c41 hM | exact TK.c6 (hG0.fr hF hdis2) | exact TK.c7 (hG0.fr hF hdis2) | exact TK.c0 (hG0.fr hF hdis2) | exact TK.c38 (hG0.fr hF hdis2) | exact TK.c39 (hG0.fr hF hdis2) | exact TK.c40 (hG0.fr hF hdis2) | exact TK.c41 (hG0.fr hF hdis2)
  case ht_19 => decide
  refine S_copy (n0 := ?n0_20) (n1 := ?n1_20) (f := ?f_20) (g := ?g_20) (q := 74) hX u_747 u_487 u_486 u_18 ?hs_20 ?h1_20 ?h2_20 ?h3_20 ?h4_20 ?h5_20 ?h6_20 (by decide) (Nat.le_of_ble_eq_true rfl) dX9_take_71 rfl ?_
  case hs_20 => with_reducible first | exact TK.c6 hM | exact TK.c7 hM | exact TK.c0 hM | exact TK.c38 hM | exact TK.c39 hM | exact TK.c40 hM | exact TK.c41 hM | exact TK.c6 (hG0.fr hF hdis2) | exact TK.c7 (hG0.fr hF hdis2) | exact TK.c0 (hG0.fr hF hdis2) | exact TK.c38 (hG0.fr hF hdis2) | exact TK.c39 (hG0.fr hF hdis2) | exact TK.c40 (hG0.fr hF hdis2) | exact TK.c41 (hG0.fr hF hdis2)
  case h1_20 => with_reducible first | exact TK.c6 hM | exact TK.c7 hM | exact TK.c0 hM | exact TK.c38 hM | exact TK.c39 hM | exact TK.c40 hM | exact TK.c41 hM | exact TK.c6 (hG0.fr hF hdis2) | exact TK.c7 (hG0.fr hF hdis2) | exact TK.c0 (hG0.fr hF hdis2) | exact TK.c38 (hG0.fr hF hdis2) | exact TK.c39 (hG0.fr hF hdis2) | exact TK.c40 (hG0.fr hF hdis2) | exact TK.c41 (hG0.fr hF hdis2)
  case h2_20 => first | decide | exact Nat.le_of_ble_eq_true rfl | exact nI_pos (Nat.le_of_ble_eq_true rfl)
  case h3_20 => first | decide | exact Nat.le_of_ble_eq_true rfl | exact nI_pos (Nat.le_of_ble_eq_true rfl)
  case h4_20 => first | decide | exact Nat.le_of_ble_eq_true rfl | exact nI_pos (Nat.le_of_ble_eq_true rfl)
  case h5_20 => first | decide | exact Nat.le_of_ble_eq_true rfl | exact nI_pos (Nat.le_of_ble_eq_true rfl)
  case h6_20 => first | decide | exact Nat.le_of_ble_eq_true rfl | exact nI_pos (Nat.le_of_ble_eq_true rfl)
  refine S_stn (q0 := q) (j := 39) hM hF (by decide) rfl (fun σ μ71 e71 hM hF => ?_)
  refine S_aload_n (q := 75) hX dX9_take_74 rfl rfl ?_
  refine S_aload_n (q := 76) hX dX9_take_75 rfl rfl ?_
  refine S_getf (fs := ?fs_21) (v := ?v_21) (q := 79) hX u_96 fo_X9_wants dX9_take_76 ?hs_21 ?hv_21 rfl ?_
  case hs_21 => with_reducible first | exact TK.c6 hM | exact TK.c7 hM | exact TK.c0 hM | exact TK.c38 hM | exact TK.c39 hM | exact TK.c40 hM | exact TK.c41 hM | exact TK.c6 (hG0.fr hF hdis2) | exact TK.c7 (hG0.fr hF hdis2) | exact TK.c0 (hG0.fr hF hdis2) | exact TK.c38 (hG0.fr hF hdis2) | exact TK.c39 (hG0.fr hF hdis2) | exact TK.c40 (hG0.fr hF hdis2) | exact TK.c41 (hG0.fr hF hdis2)
  case hv_21 => rfl
  refine S_nm (fun x79 hx79 => ?_)
  refine S_putf (fs := ?fs_22) (q := 82) hX u_96 fo_X9_wants rfl rfl ?hl_22 dX9_take_79 ?hs_22 rfl ?_
  case hs_22 => with_reducible first | exact TK.c6 hM | exact TK.c7 hM | exact TK.c0 hM | exact TK.c38 hM | exact TK.c39 hM | exact TK.c40 hM | exact TK.c41 hM | exact TK.c6 (hG0.fr hF hdis2) | exact TK.c7 (hG0.fr hF hdis2) | exact TK.c0 (hG0.fr hF hdis2) | exact TK.c38 (hG0.fr hF hdis2) | exact TK.c39 (hG0.fr hF hdis2) | exact TK.c40 (hG0.fr hF hdis2) | exact TK.c41 (hG0.fr hF hdis2)
  case hl_22 => exact Nat.le_of_ble_eq_true rfl
  refine S_stu (q0 := q) (j := 0) (i := 2) hM hF (by decide) rfl (fun σ μ79 e79 hM hF => ?_)
  subst hx79
  refine S_aload_n (q := 83) hX dX9_take_82 rfl rfl ?_
  refine S_getf (fs := ?fs_23) (v := ?v_23) (q := 86) hX u_98 fo_X9_factRows dX9_take_83 ?hs_23 ?hv_23 rfl ?_
  case hs_23 => with_reducible first | exact TK.c6 hM | exact TK.c7 hM | exact TK.c0 hM | exact TK.c38 hM | exact TK.c39 hM | exact TK.c40 hM | exact TK.c41 hM | exact TK.c6 (hG0.fr hF hdis2) | exact TK.c7 (hG0.fr hF hdis2) | exact TK.c0 (hG0.fr hF hdis2) | exact TK.c38 (hG0.fr hF hdis2) | exact TK.c39 (hG0.fr hF hdis2) | exact TK.c40 (hG0.fr hF hdis2) | exact TK.c41 (hG0.fr hF hdis2)
  case hv_23 => rfl
  refine S_iconst (q := 87) (v := 0) hX dX9_take_86 ic_0 rfl ?_
  refine S_aload_n (q := 88) hX dX9_take_87 rfl rfl ?_
  refine S_getf (fs := ?fs_24) (v := ?v_24) (q := 91) hX u_98 fo_X9_factRows dX9_take_88 ?hs_24 ?hv_24 rfl ?_
  case hs_24 => with_reducible first | exact TK.c6 hM | exact TK.c7 hM | exact TK.c0 hM | exact TK.c38 hM | exact TK.c39 hM | exact TK.c40 hM | exact TK.c41 hM | exact TK.c6 (hG0.fr hF hdis2) | exact TK.c7 (hG0.fr hF hdis2) | exact TK.c0 (hG0.fr hF hdis2) | exact TK.c38 (hG0.fr hF hdis2) | exact TK.c39 (hG0.fr hF hdis2) | exact TK.c40 (hG0.fr hF hdis2) | exact TK.c41 (hG0.fr hF hdis2)
  case hv_24 => rfl
  refine S_iconst (q := 92) (v := 0) hX dX9_take_91 ic_0 rfl ?_
  refine S_aload_n (q := 93) hX dX9_take_92 rfl rfl ?_
  refine S_getf (fs := ?fs_25) (v := ?v_25) (q := 96) hX u_98 fo_X9_factRows dX9_take_93 ?hs_25 ?hv_25 rfl ?_
  case hs_25 => with_reducible first | exact TK.c6 hM | exact TK.c7 hM | exact TK.c0 hM | exact TK.c38 hM | exact TK.c39 hM | exact TK.c40 hM | exact TK.c41 hM | exact TK.c6 (hG0.fr hF hdis2) | exact TK.c7 (hG0.fr hF hdis2) | exact TK.c0 (hG0.fr hF hdis2) | exact TK.c38 (hG0.fr hF hdis2) | exact TK.c39 (hG0.fr hF hdis2) | exact TK.c40 (hG0.fr hF hdis2) | exact TK.c41 (hG0.fr hF hdis2)
  case hv_25 => rfl
  refine S_alen (t := ?t_26) (x := ?x_26) (q := 97) hX dX9_take_96 ?ht_26 ?hs_26 rfl ?_
  case hs_26 => with_reducible first | exact TK.c6 hM | exact TK.c7 hM | exact TK.c0 hM | exact TK.c38 hM | exact TK.c39 hM | exact TK.c40 hM | exact TK.c41 hM | exact TK.c6 (hG0.fr hF hdis2) | exact TK.c7 (hG0.fr hF hdis2) | exact TK.c0 (hG0.fr hF hdis2) | exact TK.c38 (hG0.fr hF hdis2) | exact TK.c39 (hG0.fr hF hdis2) | exact TK.c40 (hG0.fr hF hdis2) | exact TK.c41 (hG0.fr hF hdis2)
  case ht_26 => decide
  refine S_copy (n0 := ?n0_27) (n1 := ?n1_27) (f := ?f_27) (g := ?g_27) (q := 100) hX u_747 u_487 u_486 u_18 ?hs_27 ?h1_27 ?h2_27 ?h3_27 ?h4_27 ?h5_27 ?h6_27 (by decide) (Nat.le_of_ble_eq_true rfl) dX9_take_97 rfl ?_
  case hs_27 => with_reducible first | exact TK.c6 hM | exact TK.c7 hM | exact TK.c0 hM | exact TK.c38 hM | exact TK.c39 hM | exact TK.c40 hM | exact TK.c41 hM | exact TK.c6 (hG0.fr hF hdis2) | exact TK.c7 (hG0.fr hF hdis2) | exact TK.c0 (hG0.fr hF hdis2) | exact TK.c38 (hG0.fr hF hdis2) | exact TK.c39 (hG0.fr hF hdis2) | exact TK.c40 (hG0.fr hF hdis2) | exact TK.c41 (hG0.fr hF hdis2)
  case h1_27 => with_reducible first | exact TK.c6 hM | exact TK.c7 hM | exact TK.c0 hM | exact TK.c38 hM | exact TK.c39 hM | exact TK.c40 hM | exact TK.c41 hM | exact TK.c6 (hG0.fr hF hdis2) | exact TK.c7 (hG0.fr hF hdis2) | exact TK.c0 (hG0.fr hF hdis2) | exact TK.c38 (hG0.fr hF hdis2) | exact TK.c39 (hG0.fr hF hdis2) | exact TK.c40 (hG0.fr hF hdis2) | exact TK.c41 (hG0.fr hF hdis2)
  case h2_27 => first | decide | exact Nat.le_of_ble_eq_true rfl | exact nI_pos (Nat.le_of_ble_eq_true rfl)
  case h3_27 => first | decide | exact Nat.le_of_ble_eq_true rfl | exact nI_pos (Nat.le_of_ble_eq_true rfl)
  case h4_27 => first | decide | exact Nat.le_of_ble_eq_true rfl | exact nI_pos (Nat.le_of_ble_eq_true rfl)
  case h5_27 => first | decide | exact Nat.le_of_ble_eq_true rfl | exact nI_pos (Nat.le_of_ble_eq_true rfl)
  case h6_27 => first | decide | exact Nat.le_of_ble_eq_true rfl | exact nI_pos (Nat.le_of_ble_eq_true rfl)
  refine S_stn (q0 := q) (j := 40) hM hF (by decide) rfl (fun σ μ97 e97 hM hF => ?_)
  refine S_aload_n (q := 101) hX dX9_take_100 rfl rfl ?_
  refine S_getf (fs := ?fs_28) (v := ?v_28) (q := 104) hX u_100 fo_X9_factWords dX9_take_101 ?hs_28 ?hv_28 rfl ?_
  case hs_28 => with_reducible first | exact TK.c6 hM | exact TK.c7 hM | exact TK.c0 hM | exact TK.c38 hM | exact TK.c39 hM | exact TK.c40 hM | exact TK.c41 hM | exact TK.c6 (hG0.fr hF hdis2) | exact TK.c7 (hG0.fr hF hdis2) | exact TK.c0 (hG0.fr hF hdis2) | exact TK.c38 (hG0.fr hF hdis2) | exact TK.c39 (hG0.fr hF hdis2) | exact TK.c40 (hG0.fr hF hdis2) | exact TK.c41 (hG0.fr hF hdis2)
  case hv_28 => rfl
  refine S_iconst (q := 105) (v := 0) hX dX9_take_104 ic_0 rfl ?_
  refine S_aload_n (q := 106) hX dX9_take_105 rfl rfl ?_
  refine S_getf (fs := ?fs_29) (v := ?v_29) (q := 109) hX u_100 fo_X9_factWords dX9_take_106 ?hs_29 ?hv_29 rfl ?_
  case hs_29 => with_reducible first | exact TK.c6 hM | exact TK.c7 hM | exact TK.c0 hM | exact TK.c38 hM | exact TK.c39 hM | exact TK.c40 hM | exact TK.c41 hM | exact TK.c6 (hG0.fr hF hdis2) | exact TK.c7 (hG0.fr hF hdis2) | exact TK.c0 (hG0.fr hF hdis2) | exact TK.c38 (hG0.fr hF hdis2) | exact TK.c39 (hG0.fr hF hdis2) | exact TK.c40 (hG0.fr hF hdis2) | exact TK.c41 (hG0.fr hF hdis2)
  case hv_29 => rfl
  refine S_iconst (q := 110) (v := 0) hX dX9_take_109 ic_0 rfl ?_
  refine S_aload_n (q := 111) hX dX9_take_110 rfl rfl ?_
  refine S_getf (fs := ?fs_30) (v := ?v_30) (q := 114) hX u_100 fo_X9_factWords dX9_take_111 ?hs_30 ?hv_30 rfl ?_
  case hs_30 => with_reducible first | exact TK.c6 hM | exact TK.c7 hM | exact TK.c0 hM | exact TK.c38 hM | exact TK.c39 hM | exact TK.c40 hM | exact TK.c41 hM | exact TK.c6 (hG0.fr hF hdis2) | exact TK.c7 (hG0.fr hF hdis2) | exact TK.c0 (hG0.fr hF hdis2) | exact TK.c38 (hG0.fr hF hdis2) | exact TK.c39 (hG0.fr hF hdis2) | exact TK.c40 (hG0.fr hF hdis2) | exact TK.c41 (hG0.fr hF hdis2)
  case hv_30 => rfl
  refine S_alen (t := ?t_31) (x := ?x_31) (q := 115) hX dX9_take_114 ?ht_31 ?hs_31 rfl ?_
  case hs_31 => with_reducible first | exact TK.c6 hM | exact TK.c7 hM | exact TK.c0 hM | exact TK.c38 hM | exact TK.c39 hM | exact TK.c40 hM | exact TK.c41 hM | exact TK.c6 (hG0.fr hF hdis2) | exact TK.c7 (hG0.fr hF hdis2) | exact TK.c0 (hG0.fr hF hdis2) | exact TK.c38 (hG0.fr hF hdis2) | exact TK.c39 (hG0.fr hF hdis2) | exact TK.c40 (hG0.fr hF hdis2) | exact TK.c41 (hG0.fr hF hdis2)
  case ht_31 => decide
  refine S_copy (n0 := ?n0_32) (n1 := ?n1_32) (f := ?f_32) (g := ?g_32) (q := 118) hX u_747 u_487 u_486 u_18 ?hs_32 ?h1_32 ?h2_32 ?h3_32 ?h4_32 ?h5_32 ?h6_32 (by decide) (Nat.le_of_ble_eq_true rfl) dX9_take_115 rfl ?_
  case hs_32 => with_reducible first | exact TK.c6 hM | exact TK.c7 hM | exact TK.c0 hM | exact TK.c38 hM | exact TK.c39 hM | exact TK.c40 hM | exact TK.c41 hM | exact TK.c6 (hG0.fr hF hdis2) | exact TK.c7 (hG0.fr hF hdis2) | exact TK.c0 (hG0.fr hF hdis2) | exact TK.c38 (hG0.fr hF hdis2) | exact TK.c39 (hG0.fr hF hdis2) | exact TK.c40 (hG0.fr hF hdis2) | exact TK.c41 (hG0.fr hF hdis2)
  case h1_32 => with_reducible first | exact TK.c6 hM | exact TK.c7 hM | exact TK.c0 hM | exact TK.c38 hM | exact TK.c39 hM | exact TK.c40 hM | exact TK.c41 hM | exact TK.c6 (hG0.fr hF hdis2) | exact TK.c7 (hG0.fr hF hdis2) | exact TK.c0 (hG0.fr hF hdis2) | exact TK.c38 (hG0.fr hF hdis2) | exact TK.c39 (hG0.fr hF hdis2) | exact TK.c40 (hG0.fr hF hdis2) | exact TK.c41 (hG0.fr hF hdis2)
  case h2_32 => first | decide | exact Nat.le_of_ble_eq_true rfl | exact nI_pos (Nat.le_of_ble_eq_true rfl)
  case h3_32 => first | decide | exact Nat.le_of_ble_eq_true rfl | exact nI_pos (Nat.le_of_ble_eq_true rfl)
  case h4_32 => first | decide | exact Nat.le_of_ble_eq_true rfl | exact nI_pos (Nat.le_of_ble_eq_true rfl)
  case h5_32 => first | decide | exact Nat.le_of_ble_eq_true rfl | exact nI_pos (Nat.le_of_ble_eq_true rfl)
  case h6_32 => first | decide | exact Nat.le_of_ble_eq_true rfl | exact nI_pos (Nat.le_of_ble_eq_true rfl)
  refine S_stn (q0 := q) (j := 41) hM hF (by decide) rfl (fun σ μ115 e115 hM hF => ?_)
  refine S_aload_n (q := 119) hX dX9_take_118 rfl rfl ?_
  refine S_aload_n (q := 120) hX dX9_take_119 rfl rfl ?_
  refine S_getf (fs := ?fs_33) (v := ?v_33) (q := 123) hX u_102 fo_X9_facts dX9_take_120 ?hs_33 ?hv_33 rfl ?_
  case hs_33 => with_reducible first | exact TK.c6 hM | exact TK.c7 hM | exact TK.c0 hM | exact TK.c38 hM | exact TK.c39 hM | exact TK.c40 hM | exact TK.c41 hM | exact TK.c6 (hG0.fr hF hdis2) | exact TK.c7 (hG0.fr hF hdis2) | exact TK.c0 (hG0.fr hF hdis2) | exact TK.c38 (hG0.fr hF hdis2) | exact TK.c39 (hG0.fr hF hdis2) | exact TK.c40 (hG0.fr hF hdis2) | exact TK.c41 (hG0.fr hF hdis2)
  case hv_33 => rfl
  refine S_nm (fun x123 hx123 => ?_)
  refine S_putf (fs := ?fs_34) (q := 126) hX u_102 fo_X9_facts rfl rfl ?hl_34 dX9_take_123 ?hs_34 rfl ?_
  case hs_34 => with_reducible first | exact TK.c6 hM | exact TK.c7 hM | exact TK.c0 hM | exact TK.c38 hM | exact TK.c39 hM | exact TK.c40 hM | exact TK.c41 hM | exact TK.c6 (hG0.fr hF hdis2) | exact TK.c7 (hG0.fr hF hdis2) | exact TK.c0 (hG0.fr hF hdis2) | exact TK.c38 (hG0.fr hF hdis2) | exact TK.c39 (hG0.fr hF hdis2) | exact TK.c40 (hG0.fr hF hdis2) | exact TK.c41 (hG0.fr hF hdis2)
  case hl_34 => exact Nat.le_of_ble_eq_true rfl
  refine S_stu (q0 := q) (j := 0) (i := 3) hM hF (by decide) rfl (fun σ μ123 e123 hM hF => ?_)
  subst hx123
  refine S_vret hX dX9_take_126 (Nat.zero_le _) (Nat.zero_le _) ?_
  refine hP _ _ _ ?_
  have a38 : ∀ j, j ≠ 0 → j < 38 → μ123 j = μ1 j := fun j h0 h1 => by rw [e123, m2_o h0, e115, m1_ne (by omega), e97, m1_ne (by omega), e79, m2_o h0, e71, m1_ne (by omega), e53, m2_o h0, e45, m1_ne (by omega), e27, m2_o h0]
  have cp : ∀ (x : Nat → Int32) (y : Nat → Int32) (n k : Nat), k < n → va_cpy x y 0 0 n k = x k := fun x y n k hk => (pk_cpy_in (Nat.zero_le _) (by omega)).trans (congrArg x (by omega))
  refine ⟨_, hM, hF, rfl, ⟨?_, ?_, ?_, ?_, fun k hk => ?_, ?_, fun k hk => ?_, ?_, fun k hk => ⟨?_, ?_⟩⟩, rfl⟩
  · exact ((r0.eq (o2.s o1) he).sIn (f := f) (d := 1)).ext (fun j hj => by show μ123 (1 + j) = spl f 1 5 g1 (1 + j); rw [a38 _ (by omega) (by omega), ho1 _ (by omega)])
  · obtain ⟨s0, pn, s1, s2, s3⟩ := hpa
    refine ⟨by rw [a38 6 (by decide) (by decide)]; exact s0, pn, s1, fun k hk => by rw [a38 7 (by decide) (by decide)]; exact s2 k hk, fun k hk => (s3 k hk).ext (fun j hj => ?_)⟩
    have := s1.1 k (by omega)
    show μ123 _ = μ1 _
    exact a38 _ (by omega) (by omega)
  · rw [e123, m2_00, if_neg (by decide), e115, m1_ne (by decide), e97, m1_ne (by decide), e79, m2_00, if_neg (by decide), e71, m1_ne (by decide), e53, m2_00, if_neg (by decide), e45, m1_ne (by decide), e27, m2_00, if_pos rfl]; exact r2
  · rw [e123, m2_00, if_neg (by decide), e115, m1_ne (by decide), e97, m1_ne (by decide), e79, m2_00, if_neg (by decide), e71, m1_ne (by decide), e53, m2_00, if_pos rfl]; exact r3
  · have h6 := ln_6 C.2.2.2.1
    rw [e123, m2_o (by decide), e115, m1_ne (by decide), e97, m1_ne (by decide), e79, m2_o (by decide), e71, m1_ne (by decide), e53, m2_o (by decide), e45, m1_eq]
    exact (cp _ _ 6 k (by omega)).trans (r4 k hk)
  · rw [e123, m2_00, if_neg (by decide), e115, m1_ne (by decide), e97, m1_ne (by decide), e79, m2_00, if_pos rfl]; exact r5
  · rw [e123, m2_o (by decide), e115, m1_ne (by decide), e97, m1_ne (by decide), e79, m2_o (by decide), e71, m1_eq]
    exact (cp _ _ 4 k (by omega)).trans (r6 k hk)
  · rw [e123, m2_00, if_pos rfl]; exact r7
  · rw [e123, m2_o (by decide), e115, m1_ne (by decide), e97, m1_eq]
    exact (cp _ _ 8 k (by omega)).trans (r8 k hk).1
  · rw [e123, m2_o (by decide), e115, m1_eq]
    exact (cp _ _ 8 k (by omega)).trans (r8 k hk).2
