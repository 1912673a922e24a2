/-- the memory of a new class -/
abbrev zF : MF := fun j k => if j = 8 ∨ j = 51 ∨ j = 93 then nI k else 0
theorem zF_0 {j : Nat} (h : ¬ (j = 8 ∨ j = 51 ∨ j = 93)) : zF j = fun _ => 0 := funext fun _ => if_neg h
theorem zF_T {d b : Nat} (h : d = 1 ∨ d = 44 ∨ d = 86) (hb : b < 42) : zF (d + b) = zT b := by
  funext k
  show (if d + b = 8 ∨ d + b = 51 ∨ d + b = 93 then nI k else 0) = (if b = 7 then nI k else 0)
  by_cases h7 : b = 7
  · rw [if_pos (by omega), if_pos h7]
  · rw [if_neg (by omega), if_neg h7]

abbrev CT_X11_init : List Value → (Gm → Sg → Nat → Prop) → (Gm → Sg → Nat → PO) → Prop := CT yX11_init cX11_init 1 (none) { frames := 4, cells := 178, slots := 3086, locals := 80 }
theorem c_X11_init (q : Nat) : CT_X11_init [.ref q] (fun Γ σ sz => σ q = some (.inr (11, [.null, .null, .null, .null, .null, .null, .null, .null, .null, .null, .null])) ∧ sz = q + 1) (fun Γ σ sz v σ' sz' => (CL σ' q 179 (shF q) zF) ∧ Fr q (q + 179) σ σ' ∧ v = none ∧ sz' = q + 179) := by
  refine CT.mkP rfl (Nat.le_of_ble_eq_true rfl) [_] rfl ?_
  intro X Γ σ sz P hX hpre hsz hP
  obtain ⟨h0, rfl⟩ := hpre
  obtain ⟨σ0, eσ0⟩ : ∃ z, z = σ := ⟨σ, rfl⟩
  rw [← eσ0] at hP
  have hF : Fr q (q + 179) σ0 σ := by rw [eσ0]; exact Fr.rf
  refine S_aload_n (q := 1) hX dX11_init_0 rfl rfl ?_
  refine S_objInit (q := 4) hX u_25 u_26 u_27 (by decide) (Nat.le_of_ble_eq_true rfl) dX11_init_1 rfl ?_
  refine S_aload_n (q := 5) hX dX11_init_4 rfl rfl ?_
  refine S_new (ci := 9) [.null, .null, .int 0, .null, .int 0, .null, .int 0, .null, .null, .int 0] (q := 8) hX rfl uw_X9 tyX9_ok u_28 u_29 u_2 (fun j hj => by rcases (show j = 0 ∨ j = 1 ∨ j = 2 ∨ j = 3 ∨ j = 4 ∨ j = 5 ∨ j = 6 ∨ j = 7 ∨ j = 8 ∨ j = 9 by omega) with rfl | rfl | rfl | rfl | rfl | rfl | rfl | rfl | rfl | rfl <;> rfl) (Nat.le_of_ble_eq_true rfl) (Nat.le_of_ble_eq_true rfl) dX11_init_5 (ow_le hsz (by omega)) rfl 1 10 rfl rfl ?_
  refine S_cell (fun σ hN hFn => ?_)
  have h0 := (hFn _ (by omega)).trans h0
  have hF := hF.trans (hFn.mono (by omega) (by omega))
  refine S_dup (q := 9) hX dX11_init_8 rfl rfl ?_
  refine S_callIN (host := "FanTalk") (q := 12) 42 506 hX (c_X9_init _) rfl (by decide) u_31 u_2 u_32 rfl ⟨by decide, by decide, rfl⟩ ⟨Nat.le_of_ble_eq_true rfl, Nat.le_of_ble_eq_true rfl⟩ ⟨Nat.le_of_ble_eq_true rfl, Nat.le_of_ble_eq_true rfl⟩ (Nat.le_of_ble_eq_true rfl) dX11_init_9 ?hp_1 rfl rfl rfl ?_
  case hp_1 => exact ⟨hN, rfl⟩
  rintro v σ sz1 ⟨hC1, hFn, rfl, rfl⟩
  have h0 := (hFn _ (by omega)).trans h0
  have hF := hF.trans (hFn.mono (by omega) (by omega))
  refine S_putF (fs := ?fs_2) (q := 15) hX rfl rfl u_285 fo_X11_now rfl rfl ?hl_2 dX11_init_12 ?hs_2 rfl ?_
  case hs_2 => first | exact hR | exact h0
  case hl_2 => exact Nat.le_of_ble_eq_true rfl
  refine S_cell (fun σ h0 hFn => ?_)
  have hC1 := hC1.fr hFn (by omega)
  have hF := hF.trans (hFn.mono (by omega) (by omega))
  refine S_aload_n (q := 16) hX dX11_init_15 rfl rfl ?_
  refine S_iconst (q := 17) (v := 2) hX dX11_init_16 ic_2 rfl ?_
  refine S_anew (t := 5) (N := 2) (q := 20) hX rfl (by decide) u_28 (by decide) (by decide) rfl (by decide) (Nat.le_of_ble_eq_true rfl) (Nat.le_of_ble_eq_true rfl) dX11_init_17 (ow_le hsz (by omega)) rfl 43 508 rfl rfl ?_
  refine S_cell (fun σ hR hFn => ?_)
  have h0 := (hFn _ (by omega)).trans h0
  have hC1 := hC1.fr hFn (by omega)
  have hF := hF.trans (hFn.mono (by omega) (by omega))
  refine S_dup (q := 21) hX dX11_init_20 rfl rfl ?_
  refine S_iconst (q := 22) (v := 0) hX dX11_init_21 ic_0 rfl ?_
  refine S_new (ci := 9) [.null, .null, .int 0, .null, .int 0, .null, .int 0, .null, .null, .int 0] (q := 25) hX rfl uw_X9 tyX9_ok u_28 u_29 u_2 (fun j hj => by rcases (show j = 0 ∨ j = 1 ∨ j = 2 ∨ j = 3 ∨ j = 4 ∨ j = 5 ∨ j = 6 ∨ j = 7 ∨ j = 8 ∨ j = 9 by omega) with rfl | rfl | rfl | rfl | rfl | rfl | rfl | rfl | rfl | rfl <;> rfl) (Nat.le_of_ble_eq_true rfl) (Nat.le_of_ble_eq_true rfl) dX11_init_22 (ow_le hsz (by omega)) rfl 44 518 rfl rfl ?_
  refine S_cell (fun σ hN hFn => ?_)
  have h0 := (hFn _ (by omega)).trans h0
  have hC1 := hC1.fr hFn (by omega)
  have hR := (hFn _ (by omega)).trans hR
  have hF := hF.trans (hFn.mono (by omega) (by omega))
  refine S_dup (q := 26) hX dX11_init_25 rfl rfl ?_
  refine S_callIN (host := "FanTalk") (q := 29) 85 1014 hX (c_X9_init _) rfl (by decide) u_31 u_2 u_32 rfl ⟨by decide, by decide, rfl⟩ ⟨Nat.le_of_ble_eq_true rfl, Nat.le_of_ble_eq_true rfl⟩ ⟨Nat.le_of_ble_eq_true rfl, Nat.le_of_ble_eq_true rfl⟩ (Nat.le_of_ble_eq_true rfl) dX11_init_26 ?hp_3 rfl rfl rfl ?_
  case hp_3 => exact ⟨hN, rfl⟩
  rintro v σ sz1 ⟨hC2, hFn, rfl, rfl⟩
  have h0 := (hFn _ (by omega)).trans h0
  have hC1 := hC1.fr hFn (by omega)
  have hR := (hFn _ (by omega)).trans hR
  have hF := hF.trans (hFn.mono (by omega) (by omega))
  refine S_aast (N := ?n_4) (f := ?f_4) (ci := ?ci_4) (vs := ?vs_4) (r := ?r_4) (q := 30) (t := 5) hX dX11_init_29 (by decide) rfl ?hs_4 ?hv_4 ?hc_4 ?hk_4 ?hi_4 rfl ?_
  case hs_4 => first | exact hR | exact h0
  case hv_4 => exact hC2 0 (by decide)
  case hc_4 => rfl
  case hk_4 => exact Or.inl rfl
  case hi_4 => exact vp_in_nI (show 0 < 2 by decide) (by decide)
  refine S_cell (fun σ hR hFn => ?_)
  have h0 := (hFn _ (by omega)).trans h0
  have hC1 := hC1.fr hFn (by omega)
  have hC2 := hC2.fr hFn (by omega)
  have hF := hF.trans (hFn.mono (by omega) (by omega))
  refine S_dup (q := 31) hX dX11_init_30 rfl rfl ?_
  refine S_iconst (q := 32) (v := 1) hX dX11_init_31 ic_1 rfl ?_
  refine S_new (ci := 9) [.null, .null, .int 0, .null, .int 0, .null, .int 0, .null, .null, .int 0] (q := 35) hX rfl uw_X9 tyX9_ok u_28 u_29 u_2 (fun j hj => by rcases (show j = 0 ∨ j = 1 ∨ j = 2 ∨ j = 3 ∨ j = 4 ∨ j = 5 ∨ j = 6 ∨ j = 7 ∨ j = 8 ∨ j = 9 by omega) with rfl | rfl | rfl | rfl | rfl | rfl | rfl | rfl | rfl | rfl <;> rfl) (Nat.le_of_ble_eq_true rfl) (Nat.le_of_ble_eq_true rfl) dX11_init_32 (ow_le hsz (by omega)) rfl 86 1024 rfl rfl ?_
  refine S_cell (fun σ hN hFn => ?_)
  have h0 := (hFn _ (by omega)).trans h0
  have hC1 := hC1.fr hFn (by omega)
  have hR := (hFn _ (by omega)).trans hR
  have hC2 := hC2.fr hFn (by omega)
  have hF := hF.trans (hFn.mono (by omega) (by omega))
  refine S_dup (q := 36) hX dX11_init_35 rfl rfl ?_
  refine S_callIN (host := "FanTalk") (q := 39) 127 1520 hX (c_X9_init _) rfl (by decide) u_31 u_2 u_32 rfl ⟨by decide, by decide, rfl⟩ ⟨Nat.le_of_ble_eq_true rfl, Nat.le_of_ble_eq_true rfl⟩ ⟨Nat.le_of_ble_eq_true rfl, Nat.le_of_ble_eq_true rfl⟩ (Nat.le_of_ble_eq_true rfl) dX11_init_36 ?hp_5 rfl rfl rfl ?_
  case hp_5 => exact ⟨hN, rfl⟩
  rintro v σ sz1 ⟨hC3, hFn, rfl, rfl⟩
  have h0 := (hFn _ (by omega)).trans h0
  have hC1 := hC1.fr hFn (by omega)
  have hR := (hFn _ (by omega)).trans hR
  have hC2 := hC2.fr hFn (by omega)
  have hF := hF.trans (hFn.mono (by omega) (by omega))
  refine S_aast (N := ?n_6) (f := ?f_6) (ci := ?ci_6) (vs := ?vs_6) (r := ?r_6) (q := 40) (t := 5) hX dX11_init_39 (by decide) rfl ?hs_6 ?hv_6 ?hc_6 ?hk_6 ?hi_6 rfl ?_
  case hs_6 => first | exact hR | exact h0
  case hv_6 => exact hC3 0 (by decide)
  case hc_6 => rfl
  case hk_6 => exact Or.inl rfl
  case hi_6 => exact vp_in_nI (show 1 < 2 by decide) (by decide)
  refine S_cell (fun σ hR hFn => ?_)
  have h0 := (hFn _ (by omega)).trans h0
  have hC1 := hC1.fr hFn (by omega)
  have hC2 := hC2.fr hFn (by omega)
  have hC3 := hC3.fr hFn (by omega)
  have hF := hF.trans (hFn.mono (by omega) (by omega))
  refine S_arr (f' := fun k => some (q + (44 + 42 * k))) hR (fun i hi => by rcases (show i = 0 ∨ i = 1 by omega) with rfl | rfl <;> first | rfl | (show some _ = some _; congr 1)) (fun σ hI hFn => ?_)
  have h0 := (hFn _ (by omega)).trans h0
  have hC1 := hC1.fr hFn (by omega)
  have hC2 := hC2.fr hFn (by omega)
  have hC3 := hC3.fr hFn (by omega)
  have hF := hF.trans (hFn.mono (by omega) (by omega))
  refine S_putF (fs := ?fs_7) (q := 43) hX rfl rfl u_286 fo_X11_images rfl rfl ?hl_7 dX11_init_40 ?hs_7 rfl ?_
  case hs_7 => first | exact hR | exact h0
  case hl_7 => exact Nat.le_of_ble_eq_true rfl
  refine S_cell (fun σ h0 hFn => ?_)
  have hC1 := hC1.fr hFn (by omega)
  have hI := (hFn _ (by omega)).trans hI
  have hC2 := hC2.fr hFn (by omega)
  have hC3 := hC3.fr hFn (by omega)
  have hF := hF.trans (hFn.mono (by omega) (by omega))
  refine S_aload_n (q := 44) hX dX11_init_43 rfl rfl ?_
  refine S_iconst (q := 45) (v := 2) hX dX11_init_44 ic_2 rfl ?_
  refine S_newa (at0 := .boolean) (t := 1) (N := 2) (q := 47) hX rfl (by decide) u_166 (by decide) rfl (by decide) (Nat.le_of_ble_eq_true rfl) (Nat.le_of_ble_eq_true rfl) dX11_init_45 (ow_le hsz (by omega)) rfl 128 1522 rfl rfl ?_
  refine S_cell (fun σ hA4 hFn => ?_)
  have h0 := (hFn _ (by omega)).trans h0
  have hC1 := hC1.fr hFn (by omega)
  have hI := (hFn _ (by omega)).trans hI
  have hC2 := hC2.fr hFn (by omega)
  have hC3 := hC3.fr hFn (by omega)
  have hF := hF.trans (hFn.mono (by omega) (by omega))
  refine S_putF (fs := ?fs_8) (q := 50) hX rfl rfl u_287 fo_X11_kept rfl rfl ?hl_8 dX11_init_47 ?hs_8 rfl ?_
  case hs_8 => first | exact hR | exact h0
  case hl_8 => exact Nat.le_of_ble_eq_true rfl
  refine S_cell (fun σ h0 hFn => ?_)
  have hC1 := hC1.fr hFn (by omega)
  have hI := (hFn _ (by omega)).trans hI
  have hC2 := hC2.fr hFn (by omega)
  have hC3 := hC3.fr hFn (by omega)
  have hA4 := (hFn _ (by omega)).trans hA4
  have hF := hF.trans (hFn.mono (by omega) (by omega))
  refine S_aload_n (q := 51) hX dX11_init_50 rfl rfl ?_
  refine S_new (ci := 8) [.null, .int 0, .null, .int 0, .int 0, .int 0, .int 0, .int 0, .int 0] (q := 54) hX rfl uw_X8 tyX8_ok u_126 u_127 u_5 (fun j hj => by rcases (show j = 0 ∨ j = 1 ∨ j = 2 ∨ j = 3 ∨ j = 4 ∨ j = 5 ∨ j = 6 ∨ j = 7 ∨ j = 8 by omega) with rfl | rfl | rfl | rfl | rfl | rfl | rfl | rfl | rfl <;> rfl) (Nat.le_of_ble_eq_true rfl) (Nat.le_of_ble_eq_true rfl) dX11_init_51 (ow_le hsz (by omega)) rfl 129 1531 rfl rfl ?_
  refine S_cell (fun σ hN hFn => ?_)
  have h0 := (hFn _ (by omega)).trans h0
  have hC1 := hC1.fr hFn (by omega)
  have hI := (hFn _ (by omega)).trans hI
  have hC2 := hC2.fr hFn (by omega)
  have hC3 := hC3.fr hFn (by omega)
  have hA4 := (hFn _ (by omega)).trans hA4
  have hF := hF.trans (hFn.mono (by omega) (by omega))
  refine S_dup (q := 55) hX dX11_init_54 rfl rfl ?_
  refine S_callIN (host := "FanTalk") (q := 58) 135 1847 hX (c_X8_init _) rfl (by decide) u_129 u_5 u_130 rfl ⟨by decide, by decide, rfl⟩ ⟨Nat.le_of_ble_eq_true rfl, Nat.le_of_ble_eq_true rfl⟩ ⟨Nat.le_of_ble_eq_true rfl, Nat.le_of_ble_eq_true rfl⟩ (Nat.le_of_ble_eq_true rfl) dX11_init_55 ?hp_9 rfl rfl rfl ?_
  case hp_9 => exact ⟨hN, rfl⟩
  rintro v σ sz1 ⟨hC5, hFn, rfl, rfl⟩
  have h0 := (hFn _ (by omega)).trans h0
  have hC1 := hC1.fr hFn (by omega)
  have hI := (hFn _ (by omega)).trans hI
  have hC2 := hC2.fr hFn (by omega)
  have hC3 := hC3.fr hFn (by omega)
  have hA4 := (hFn _ (by omega)).trans hA4
  have hF := hF.trans (hFn.mono (by omega) (by omega))
  refine S_putF (fs := ?fs_10) (q := 61) hX rfl rfl u_288 fo_X11_script rfl rfl ?hl_10 dX11_init_58 ?hs_10 rfl ?_
  case hs_10 => first | exact hR | exact h0
  case hl_10 => exact Nat.le_of_ble_eq_true rfl
  refine S_cell (fun σ h0 hFn => ?_)
  have hC1 := hC1.fr hFn (by omega)
  have hI := (hFn _ (by omega)).trans hI
  have hC2 := hC2.fr hFn (by omega)
  have hC3 := hC3.fr hFn (by omega)
  have hA4 := (hFn _ (by omega)).trans hA4
  have hC5 := hC5.fr hFn (by omega)
  have hF := hF.trans (hFn.mono (by omega) (by omega))
  refine S_aload_n (q := 62) hX dX11_init_61 rfl rfl ?_
  refine S_iconst (q := 63) (v := 3) hX dX11_init_62 ic_3 rfl ?_
  refine S_newa (at0 := .int) (t := 0) (N := 3) (q := 65) hX rfl (by decide) u_66 (by decide) rfl (by decide) (Nat.le_of_ble_eq_true rfl) (Nat.le_of_ble_eq_true rfl) dX11_init_63 (ow_le hsz (by omega)) rfl 136 1850 rfl rfl ?_
  refine S_cell (fun σ hA6 hFn => ?_)
  have h0 := (hFn _ (by omega)).trans h0
  have hC1 := hC1.fr hFn (by omega)
  have hI := (hFn _ (by omega)).trans hI
  have hC2 := hC2.fr hFn (by omega)
  have hC3 := hC3.fr hFn (by omega)
  have hA4 := (hFn _ (by omega)).trans hA4
  have hC5 := hC5.fr hFn (by omega)
  have hF := hF.trans (hFn.mono (by omega) (by omega))
  refine S_putF (fs := ?fs_11) (q := 68) hX rfl rfl u_289 fo_X11_refusals rfl rfl ?hl_11 dX11_init_65 ?hs_11 rfl ?_
  case hs_11 => first | exact hR | exact h0
  case hl_11 => exact Nat.le_of_ble_eq_true rfl
  refine S_cell (fun σ h0 hFn => ?_)
  have hC1 := hC1.fr hFn (by omega)
  have hI := (hFn _ (by omega)).trans hI
  have hC2 := hC2.fr hFn (by omega)
  have hC3 := hC3.fr hFn (by omega)
  have hA4 := (hFn _ (by omega)).trans hA4
  have hC5 := hC5.fr hFn (by omega)
  have hA6 := (hFn _ (by omega)).trans hA6
  have hF := hF.trans (hFn.mono (by omega) (by omega))
  refine S_aload_n (q := 69) hX dX11_init_68 rfl rfl ?_
  refine S_iconst (q := 70) (v := 5) hX dX11_init_69 ic_5 rfl ?_
  refine S_anew (t := 3) (N := 5) (q := 73) hX rfl (by decide) u_167 (by decide) (by decide) rfl (by decide) (Nat.le_of_ble_eq_true rfl) (Nat.le_of_ble_eq_true rfl) dX11_init_70 (ow_le hsz (by omega)) rfl 137 1855 rfl rfl ?_
  refine S_cell (fun σ hR hFn => ?_)
  have h0 := (hFn _ (by omega)).trans h0
  have hC1 := hC1.fr hFn (by omega)
  have hI := (hFn _ (by omega)).trans hI
  have hC2 := hC2.fr hFn (by omega)
  have hC3 := hC3.fr hFn (by omega)
  have hA4 := (hFn _ (by omega)).trans hA4
  have hC5 := hC5.fr hFn (by omega)
  have hA6 := (hFn _ (by omega)).trans hA6
  have hF := hF.trans (hFn.mono (by omega) (by omega))
  refine S_dup (q := 74) hX dX11_init_73 rfl rfl ?_
  refine S_iconst (q := 75) (v := 0) hX dX11_init_74 ic_0 rfl ?_
  refine S_new (ci := 3) [.null, .null, .int 0, .int 0, .null, .null, .null, .null, .int 0] (q := 78) hX rfl uw_X3 tyX3_ok u_167 u_169 u_6 (fun j hj => by rcases (show j = 0 ∨ j = 1 ∨ j = 2 ∨ j = 3 ∨ j = 4 ∨ j = 5 ∨ j = 6 ∨ j = 7 ∨ j = 8 by omega) with rfl | rfl | rfl | rfl | rfl | rfl | rfl | rfl | rfl <;> rfl) (Nat.le_of_ble_eq_true rfl) (Nat.le_of_ble_eq_true rfl) dX11_init_75 (ow_le hsz (by omega)) rfl 138 1864 rfl rfl ?_
  refine S_cell (fun σ hN hFn => ?_)
  have h0 := (hFn _ (by omega)).trans h0
  have hC1 := hC1.fr hFn (by omega)
  have hI := (hFn _ (by omega)).trans hI
  have hC2 := hC2.fr hFn (by omega)
  have hC3 := hC3.fr hFn (by omega)
  have hA4 := (hFn _ (by omega)).trans hA4
  have hC5 := hC5.fr hFn (by omega)
  have hA6 := (hFn _ (by omega)).trans hA6
  have hR := (hFn _ (by omega)).trans hR
  have hF := hF.trans (hFn.mono (by omega) (by omega))
  refine S_dup (q := 79) hX dX11_init_78 rfl rfl ?_
  refine S_callIN (host := "FanTalk") (q := 82) 144 2084 hX (c_X3_init _ 0) rfl (by decide) u_171 u_6 u_172 rfl ⟨by decide, by decide, rfl⟩ ⟨Nat.le_of_ble_eq_true rfl, Nat.le_of_ble_eq_true rfl⟩ ⟨Nat.le_of_ble_eq_true rfl, Nat.le_of_ble_eq_true rfl⟩ (Nat.le_of_ble_eq_true rfl) dX11_init_79 ?hp_12 rfl rfl rfl ?_
  case hp_12 => exact ⟨hN, rfl⟩
  rintro v σ sz1 ⟨hC7, hFn, rfl, rfl⟩
  have h0 := (hFn _ (by omega)).trans h0
  have hC1 := hC1.fr hFn (by omega)
  have hI := (hFn _ (by omega)).trans hI
  have hC2 := hC2.fr hFn (by omega)
  have hC3 := hC3.fr hFn (by omega)
  have hA4 := (hFn _ (by omega)).trans hA4
  have hC5 := hC5.fr hFn (by omega)
  have hA6 := (hFn _ (by omega)).trans hA6
  have hR := (hFn _ (by omega)).trans hR
  have hF := hF.trans (hFn.mono (by omega) (by omega))
  refine S_aast (N := ?n_13) (f := ?f_13) (ci := ?ci_13) (vs := ?vs_13) (r := ?r_13) (q := 83) (t := 3) hX dX11_init_82 (by decide) rfl ?hs_13 ?hv_13 ?hc_13 ?hk_13 ?hi_13 rfl ?_
  case hs_13 => first | exact hR | exact h0
  case hv_13 => exact hC7 0 (by decide)
  case hc_13 => rfl
  case hk_13 => exact Or.inl rfl
  case hi_13 => exact vp_in_nI (show 0 < 5 by decide) (by decide)
  refine S_cell (fun σ hR hFn => ?_)
  have h0 := (hFn _ (by omega)).trans h0
  have hC1 := hC1.fr hFn (by omega)
  have hI := (hFn _ (by omega)).trans hI
  have hC2 := hC2.fr hFn (by omega)
  have hC3 := hC3.fr hFn (by omega)
  have hA4 := (hFn _ (by omega)).trans hA4
  have hC5 := hC5.fr hFn (by omega)
  have hA6 := (hFn _ (by omega)).trans hA6
  have hC7 := hC7.fr hFn (by omega)
  have hF := hF.trans (hFn.mono (by omega) (by omega))
  refine S_dup (q := 84) hX dX11_init_83 rfl rfl ?_
  refine S_iconst (q := 85) (v := 1) hX dX11_init_84 ic_1 rfl ?_
  refine S_new (ci := 4) [.null, .null, .int 0, .int 0, .null, .null, .null, .null, .int 0] (q := 88) hX rfl uw_X4 tyX4_ok u_206 u_207 u_7 (fun j hj => by rcases (show j = 0 ∨ j = 1 ∨ j = 2 ∨ j = 3 ∨ j = 4 ∨ j = 5 ∨ j = 6 ∨ j = 7 ∨ j = 8 by omega) with rfl | rfl | rfl | rfl | rfl | rfl | rfl | rfl | rfl <;> rfl) (Nat.le_of_ble_eq_true rfl) (Nat.le_of_ble_eq_true rfl) dX11_init_85 (ow_le hsz (by omega)) rfl 145 2093 rfl rfl ?_
  refine S_cell (fun σ hN hFn => ?_)
  have h0 := (hFn _ (by omega)).trans h0
  have hC1 := hC1.fr hFn (by omega)
  have hI := (hFn _ (by omega)).trans hI
  have hC2 := hC2.fr hFn (by omega)
  have hC3 := hC3.fr hFn (by omega)
  have hA4 := (hFn _ (by omega)).trans hA4
  have hC5 := hC5.fr hFn (by omega)
  have hA6 := (hFn _ (by omega)).trans hA6
  have hR := (hFn _ (by omega)).trans hR
  have hC7 := hC7.fr hFn (by omega)
  have hF := hF.trans (hFn.mono (by omega) (by omega))
  refine S_dup (q := 89) hX dX11_init_88 rfl rfl ?_
  refine S_callIN (host := "FanTalk") (q := 92) 151 2313 hX (c_X4_init _ 1) rfl (by decide) u_209 u_7 u_210 rfl ⟨by decide, by decide, rfl⟩ ⟨Nat.le_of_ble_eq_true rfl, Nat.le_of_ble_eq_true rfl⟩ ⟨Nat.le_of_ble_eq_true rfl, Nat.le_of_ble_eq_true rfl⟩ (Nat.le_of_ble_eq_true rfl) dX11_init_89 ?hp_14 rfl rfl rfl ?_
  case hp_14 => exact ⟨hN, rfl⟩
  rintro v σ sz1 ⟨hC8, hFn, rfl, rfl⟩
  have h0 := (hFn _ (by omega)).trans h0
  have hC1 := hC1.fr hFn (by omega)
  have hI := (hFn _ (by omega)).trans hI
  have hC2 := hC2.fr hFn (by omega)
  have hC3 := hC3.fr hFn (by omega)
  have hA4 := (hFn _ (by omega)).trans hA4
  have hC5 := hC5.fr hFn (by omega)
  have hA6 := (hFn _ (by omega)).trans hA6
  have hR := (hFn _ (by omega)).trans hR
  have hC7 := hC7.fr hFn (by omega)
  have hF := hF.trans (hFn.mono (by omega) (by omega))
  refine S_aast (N := ?n_15) (f := ?f_15) (ci := ?ci_15) (vs := ?vs_15) (r := ?r_15) (q := 93) (t := 3) hX dX11_init_92 (by decide) rfl ?hs_15 ?hv_15 ?hc_15 ?hk_15 ?hi_15 rfl ?_
  case hs_15 => first | exact hR | exact h0
  case hv_15 => exact hC8 0 (by decide)
  case hc_15 => rfl
  case hk_15 => exact Or.inr (by decide)
  case hi_15 => exact vp_in_nI (show 1 < 5 by decide) (by decide)
  refine S_cell (fun σ hR hFn => ?_)
  have h0 := (hFn _ (by omega)).trans h0
  have hC1 := hC1.fr hFn (by omega)
  have hI := (hFn _ (by omega)).trans hI
  have hC2 := hC2.fr hFn (by omega)
  have hC3 := hC3.fr hFn (by omega)
  have hA4 := (hFn _ (by omega)).trans hA4
  have hC5 := hC5.fr hFn (by omega)
  have hA6 := (hFn _ (by omega)).trans hA6
  have hC7 := hC7.fr hFn (by omega)
  have hC8 := hC8.fr hFn (by omega)
  have hF := hF.trans (hFn.mono (by omega) (by omega))
  refine S_dup (q := 94) hX dX11_init_93 rfl rfl ?_
  refine S_iconst (q := 95) (v := 2) hX dX11_init_94 ic_2 rfl ?_
  refine S_new (ci := 1) [.null, .null, .int 0, .int 0, .null, .null, .null, .null, .int 0] (q := 98) hX rfl uw_X1 tyX1_ok u_222 u_223 u_8 (fun j hj => by rcases (show j = 0 ∨ j = 1 ∨ j = 2 ∨ j = 3 ∨ j = 4 ∨ j = 5 ∨ j = 6 ∨ j = 7 ∨ j = 8 by omega) with rfl | rfl | rfl | rfl | rfl | rfl | rfl | rfl | rfl <;> rfl) (Nat.le_of_ble_eq_true rfl) (Nat.le_of_ble_eq_true rfl) dX11_init_95 (ow_le hsz (by omega)) rfl 152 2322 rfl rfl ?_
  refine S_cell (fun σ hN hFn => ?_)
  have h0 := (hFn _ (by omega)).trans h0
  have hC1 := hC1.fr hFn (by omega)
  have hI := (hFn _ (by omega)).trans hI
  have hC2 := hC2.fr hFn (by omega)
  have hC3 := hC3.fr hFn (by omega)
  have hA4 := (hFn _ (by omega)).trans hA4
  have hC5 := hC5.fr hFn (by omega)
  have hA6 := (hFn _ (by omega)).trans hA6
  have hR := (hFn _ (by omega)).trans hR
  have hC7 := hC7.fr hFn (by omega)
  have hC8 := hC8.fr hFn (by omega)
  have hF := hF.trans (hFn.mono (by omega) (by omega))
  refine S_dup (q := 99) hX dX11_init_98 rfl rfl ?_
  refine S_callIN (host := "FanTalk") (q := 102) 158 2542 hX (c_X1_init _ 2) rfl (by decide) u_225 u_8 u_226 rfl ⟨by decide, by decide, rfl⟩ ⟨Nat.le_of_ble_eq_true rfl, Nat.le_of_ble_eq_true rfl⟩ ⟨Nat.le_of_ble_eq_true rfl, Nat.le_of_ble_eq_true rfl⟩ (Nat.le_of_ble_eq_true rfl) dX11_init_99 ?hp_16 rfl rfl rfl ?_
  case hp_16 => exact ⟨hN, rfl⟩
  rintro v σ sz1 ⟨hC9, hFn, rfl, rfl⟩
  have h0 := (hFn _ (by omega)).trans h0
  have hC1 := hC1.fr hFn (by omega)
  have hI := (hFn _ (by omega)).trans hI
  have hC2 := hC2.fr hFn (by omega)
  have hC3 := hC3.fr hFn (by omega)
  have hA4 := (hFn _ (by omega)).trans hA4
  have hC5 := hC5.fr hFn (by omega)
  have hA6 := (hFn _ (by omega)).trans hA6
  have hR := (hFn _ (by omega)).trans hR
  have hC7 := hC7.fr hFn (by omega)
  have hC8 := hC8.fr hFn (by omega)
  have hF := hF.trans (hFn.mono (by omega) (by omega))
  refine S_aast (N := ?n_17) (f := ?f_17) (ci := ?ci_17) (vs := ?vs_17) (r := ?r_17) (q := 103) (t := 3) hX dX11_init_102 (by decide) rfl ?hs_17 ?hv_17 ?hc_17 ?hk_17 ?hi_17 rfl ?_
  case hs_17 => first | exact hR | exact h0
  case hv_17 => exact hC9 0 (by decide)
  case hc_17 => rfl
  case hk_17 => exact Or.inr (by decide)
  case hi_17 => exact vp_in_nI (show 2 < 5 by decide) (by decide)
  refine S_cell (fun σ hR hFn => ?_)
  have h0 := (hFn _ (by omega)).trans h0
  have hC1 := hC1.fr hFn (by omega)
  have hI := (hFn _ (by omega)).trans hI
  have hC2 := hC2.fr hFn (by omega)
  have hC3 := hC3.fr hFn (by omega)
  have hA4 := (hFn _ (by omega)).trans hA4
  have hC5 := hC5.fr hFn (by omega)
  have hA6 := (hFn _ (by omega)).trans hA6
  have hC7 := hC7.fr hFn (by omega)
  have hC8 := hC8.fr hFn (by omega)
  have hC9 := hC9.fr hFn (by omega)
  have hF := hF.trans (hFn.mono (by omega) (by omega))
  refine S_dup (q := 104) hX dX11_init_103 rfl rfl ?_
  refine S_iconst (q := 105) (v := 3) hX dX11_init_104 ic_3 rfl ?_
  refine S_new (ci := 5) [.null, .null, .int 0, .int 0, .null, .null, .null, .null, .int 0] (q := 108) hX rfl uw_X5 tyX5_ok u_238 u_239 u_9 (fun j hj => by rcases (show j = 0 ∨ j = 1 ∨ j = 2 ∨ j = 3 ∨ j = 4 ∨ j = 5 ∨ j = 6 ∨ j = 7 ∨ j = 8 by omega) with rfl | rfl | rfl | rfl | rfl | rfl | rfl | rfl | rfl <;> rfl) (Nat.le_of_ble_eq_true rfl) (Nat.le_of_ble_eq_true rfl) dX11_init_105 (ow_le hsz (by omega)) rfl 159 2551 rfl rfl ?_
  refine S_cell (fun σ hN hFn => ?_)
  have h0 := (hFn _ (by omega)).trans h0
  have hC1 := hC1.fr hFn (by omega)
  have hI := (hFn _ (by omega)).trans hI
  have hC2 := hC2.fr hFn (by omega)
  have hC3 := hC3.fr hFn (by omega)
  have hA4 := (hFn _ (by omega)).trans hA4
  have hC5 := hC5.fr hFn (by omega)
  have hA6 := (hFn _ (by omega)).trans hA6
  have hR := (hFn _ (by omega)).trans hR
  have hC7 := hC7.fr hFn (by omega)
  have hC8 := hC8.fr hFn (by omega)
  have hC9 := hC9.fr hFn (by omega)
  have hF := hF.trans (hFn.mono (by omega) (by omega))
  refine S_dup (q := 109) hX dX11_init_108 rfl rfl ?_
  refine S_callIN (host := "FanTalk") (q := 112) 165 2771 hX (c_X5_init _ 3) rfl (by decide) u_241 u_9 u_242 rfl ⟨by decide, by decide, rfl⟩ ⟨Nat.le_of_ble_eq_true rfl, Nat.le_of_ble_eq_true rfl⟩ ⟨Nat.le_of_ble_eq_true rfl, Nat.le_of_ble_eq_true rfl⟩ (Nat.le_of_ble_eq_true rfl) dX11_init_109 ?hp_18 rfl rfl rfl ?_
  case hp_18 => exact ⟨hN, rfl⟩
  rintro v σ sz1 ⟨hC10, hFn, rfl, rfl⟩
  have h0 := (hFn _ (by omega)).trans h0
  have hC1 := hC1.fr hFn (by omega)
  have hI := (hFn _ (by omega)).trans hI
  have hC2 := hC2.fr hFn (by omega)
  have hC3 := hC3.fr hFn (by omega)
  have hA4 := (hFn _ (by omega)).trans hA4
  have hC5 := hC5.fr hFn (by omega)
  have hA6 := (hFn _ (by omega)).trans hA6
  have hR := (hFn _ (by omega)).trans hR
  have hC7 := hC7.fr hFn (by omega)
  have hC8 := hC8.fr hFn (by omega)
  have hC9 := hC9.fr hFn (by omega)
  have hF := hF.trans (hFn.mono (by omega) (by omega))
  refine S_aast (N := ?n_19) (f := ?f_19) (ci := ?ci_19) (vs := ?vs_19) (r := ?r_19) (q := 113) (t := 3) hX dX11_init_112 (by decide) rfl ?hs_19 ?hv_19 ?hc_19 ?hk_19 ?hi_19 rfl ?_
  case hs_19 => first | exact hR | exact h0
  case hv_19 => exact hC10 0 (by decide)
  case hc_19 => rfl
  case hk_19 => exact Or.inr (by decide)
  case hi_19 => exact vp_in_nI (show 3 < 5 by decide) (by decide)
  refine S_cell (fun σ hR hFn => ?_)
  have h0 := (hFn _ (by omega)).trans h0
  have hC1 := hC1.fr hFn (by omega)
  have hI := (hFn _ (by omega)).trans hI
  have hC2 := hC2.fr hFn (by omega)
  have hC3 := hC3.fr hFn (by omega)
  have hA4 := (hFn _ (by omega)).trans hA4
  have hC5 := hC5.fr hFn (by omega)
  have hA6 := (hFn _ (by omega)).trans hA6
  have hC7 := hC7.fr hFn (by omega)
  have hC8 := hC8.fr hFn (by omega)
  have hC9 := hC9.fr hFn (by omega)
  have hC10 := hC10.fr hFn (by omega)
  have hF := hF.trans (hFn.mono (by omega) (by omega))
  refine S_dup (q := 114) hX dX11_init_113 rfl rfl ?_
  refine S_iconst (q := 115) (v := 4) hX dX11_init_114 ic_4 rfl ?_
  refine S_new (ci := 0) [.null, .null, .int 0, .int 0, .null, .null, .null, .null, .int 0] (q := 118) hX rfl uw_X0 tyX0_ok u_254 u_255 u_10 (fun j hj => by rcases (show j = 0 ∨ j = 1 ∨ j = 2 ∨ j = 3 ∨ j = 4 ∨ j = 5 ∨ j = 6 ∨ j = 7 ∨ j = 8 by omega) with rfl | rfl | rfl | rfl | rfl | rfl | rfl | rfl | rfl <;> rfl) (Nat.le_of_ble_eq_true rfl) (Nat.le_of_ble_eq_true rfl) dX11_init_115 (ow_le hsz (by omega)) rfl 166 2780 rfl rfl ?_
  refine S_cell (fun σ hN hFn => ?_)
  have h0 := (hFn _ (by omega)).trans h0
  have hC1 := hC1.fr hFn (by omega)
  have hI := (hFn _ (by omega)).trans hI
  have hC2 := hC2.fr hFn (by omega)
  have hC3 := hC3.fr hFn (by omega)
  have hA4 := (hFn _ (by omega)).trans hA4
  have hC5 := hC5.fr hFn (by omega)
  have hA6 := (hFn _ (by omega)).trans hA6
  have hR := (hFn _ (by omega)).trans hR
  have hC7 := hC7.fr hFn (by omega)
  have hC8 := hC8.fr hFn (by omega)
  have hC9 := hC9.fr hFn (by omega)
  have hC10 := hC10.fr hFn (by omega)
  have hF := hF.trans (hFn.mono (by omega) (by omega))
  refine S_dup (q := 119) hX dX11_init_118 rfl rfl ?_
  refine S_callIN (host := "FanTalk") (q := 122) 172 3000 hX (c_X0_init _ 4) rfl (by decide) u_257 u_10 u_258 rfl ⟨by decide, by decide, rfl⟩ ⟨Nat.le_of_ble_eq_true rfl, Nat.le_of_ble_eq_true rfl⟩ ⟨Nat.le_of_ble_eq_true rfl, Nat.le_of_ble_eq_true rfl⟩ (Nat.le_of_ble_eq_true rfl) dX11_init_119 ?hp_20 rfl rfl rfl ?_
  case hp_20 => exact ⟨hN, rfl⟩
  rintro v σ sz1 ⟨hC11, hFn, rfl, rfl⟩
  have h0 := (hFn _ (by omega)).trans h0
  have hC1 := hC1.fr hFn (by omega)
  have hI := (hFn _ (by omega)).trans hI
  have hC2 := hC2.fr hFn (by omega)
  have hC3 := hC3.fr hFn (by omega)
  have hA4 := (hFn _ (by omega)).trans hA4
  have hC5 := hC5.fr hFn (by omega)
  have hA6 := (hFn _ (by omega)).trans hA6
  have hR := (hFn _ (by omega)).trans hR
  have hC7 := hC7.fr hFn (by omega)
  have hC8 := hC8.fr hFn (by omega)
  have hC9 := hC9.fr hFn (by omega)
  have hC10 := hC10.fr hFn (by omega)
  have hF := hF.trans (hFn.mono (by omega) (by omega))
  refine S_aast (N := ?n_21) (f := ?f_21) (ci := ?ci_21) (vs := ?vs_21) (r := ?r_21) (q := 123) (t := 3) hX dX11_init_122 (by decide) rfl ?hs_21 ?hv_21 ?hc_21 ?hk_21 ?hi_21 rfl ?_
  case hs_21 => first | exact hR | exact h0
  case hv_21 => exact hC11 0 (by decide)
  case hc_21 => rfl
  case hk_21 => exact Or.inr (by decide)
  case hi_21 => exact vp_in_nI (show 4 < 5 by decide) (by decide)
  refine S_cell (fun σ hR hFn => ?_)
  have h0 := (hFn _ (by omega)).trans h0
  have hC1 := hC1.fr hFn (by omega)
  have hI := (hFn _ (by omega)).trans hI
  have hC2 := hC2.fr hFn (by omega)
  have hC3 := hC3.fr hFn (by omega)
  have hA4 := (hFn _ (by omega)).trans hA4
  have hC5 := hC5.fr hFn (by omega)
  have hA6 := (hFn _ (by omega)).trans hA6
  have hC7 := hC7.fr hFn (by omega)
  have hC8 := hC8.fr hFn (by omega)
  have hC9 := hC9.fr hFn (by omega)
  have hC10 := hC10.fr hFn (by omega)
  have hC11 := hC11.fr hFn (by omega)
  have hF := hF.trans (hFn.mono (by omega) (by omega))
  refine S_arr (f' := fun k => some (q + (138 + 7 * k))) hR (fun i hi => by rcases (show i = 0 ∨ i = 1 ∨ i = 2 ∨ i = 3 ∨ i = 4 by omega) with rfl | rfl | rfl | rfl | rfl <;> first | rfl | (show some _ = some _; congr 1)) (fun σ hQ hFn => ?_)
  have h0 := (hFn _ (by omega)).trans h0
  have hC1 := hC1.fr hFn (by omega)
  have hI := (hFn _ (by omega)).trans hI
  have hC2 := hC2.fr hFn (by omega)
  have hC3 := hC3.fr hFn (by omega)
  have hA4 := (hFn _ (by omega)).trans hA4
  have hC5 := hC5.fr hFn (by omega)
  have hA6 := (hFn _ (by omega)).trans hA6
  have hC7 := hC7.fr hFn (by omega)
  have hC8 := hC8.fr hFn (by omega)
  have hC9 := hC9.fr hFn (by omega)
  have hC10 := hC10.fr hFn (by omega)
  have hC11 := hC11.fr hFn (by omega)
  have hF := hF.trans (hFn.mono (by omega) (by omega))
  refine S_putF (fs := ?fs_22) (q := 126) hX rfl rfl u_290 fo_X11_readers rfl rfl ?hl_22 dX11_init_123 ?hs_22 rfl ?_
  case hs_22 => first | exact hR | exact h0
  case hl_22 => exact Nat.le_of_ble_eq_true rfl
  refine S_cell (fun σ h0 hFn => ?_)
  have hC1 := hC1.fr hFn (by omega)
  have hI := (hFn _ (by omega)).trans hI
  have hC2 := hC2.fr hFn (by omega)
  have hC3 := hC3.fr hFn (by omega)
  have hA4 := (hFn _ (by omega)).trans hA4
  have hC5 := hC5.fr hFn (by omega)
  have hA6 := (hFn _ (by omega)).trans hA6
  have hQ := (hFn _ (by omega)).trans hQ
  have hC7 := hC7.fr hFn (by omega)
  have hC8 := hC8.fr hFn (by omega)
  have hC9 := hC9.fr hFn (by omega)
  have hC10 := hC10.fr hFn (by omega)
  have hC11 := hC11.fr hFn (by omega)
  have hF := hF.trans (hFn.mono (by omega) (by omega))
  refine S_aload_n (q := 127) hX dX11_init_126 rfl rfl ?_
  refine S_new (ci := 10) [.null, .int 0] (q := 130) hX rfl uw_X10 tyX10_ok u_270 u_271 u_11 (fun j hj => by rcases (show j = 0 ∨ j = 1 by omega) with rfl | rfl <;> rfl) (Nat.le_of_ble_eq_true rfl) (Nat.le_of_ble_eq_true rfl) dX11_init_127 (ow_le hsz (by omega)) rfl 173 3002 rfl rfl ?_
  refine S_cell (fun σ hN hFn => ?_)
  have h0 := (hFn _ (by omega)).trans h0
  have hC1 := hC1.fr hFn (by omega)
  have hI := (hFn _ (by omega)).trans hI
  have hC2 := hC2.fr hFn (by omega)
  have hC3 := hC3.fr hFn (by omega)
  have hA4 := (hFn _ (by omega)).trans hA4
  have hC5 := hC5.fr hFn (by omega)
  have hA6 := (hFn _ (by omega)).trans hA6
  have hQ := (hFn _ (by omega)).trans hQ
  have hC7 := hC7.fr hFn (by omega)
  have hC8 := hC8.fr hFn (by omega)
  have hC9 := hC9.fr hFn (by omega)
  have hC10 := hC10.fr hFn (by omega)
  have hC11 := hC11.fr hFn (by omega)
  have hF := hF.trans (hFn.mono (by omega) (by omega))
  refine S_dup (q := 131) hX dX11_init_130 rfl rfl ?_
  refine S_callIN (host := "FanTalk") (q := 134) 174 3008 hX (c_X10_init _) rfl (by decide) u_273 u_11 u_274 rfl ⟨by decide, by decide, rfl⟩ ⟨Nat.le_of_ble_eq_true rfl, Nat.le_of_ble_eq_true rfl⟩ ⟨Nat.le_of_ble_eq_true rfl, Nat.le_of_ble_eq_true rfl⟩ (Nat.le_of_ble_eq_true rfl) dX11_init_131 ?hp_23 rfl rfl rfl ?_
  case hp_23 => exact ⟨hN, rfl⟩
  rintro v σ sz1 ⟨hC12, hFn, rfl, rfl⟩
  have h0 := (hFn _ (by omega)).trans h0
  have hC1 := hC1.fr hFn (by omega)
  have hI := (hFn _ (by omega)).trans hI
  have hC2 := hC2.fr hFn (by omega)
  have hC3 := hC3.fr hFn (by omega)
  have hA4 := (hFn _ (by omega)).trans hA4
  have hC5 := hC5.fr hFn (by omega)
  have hA6 := (hFn _ (by omega)).trans hA6
  have hQ := (hFn _ (by omega)).trans hQ
  have hC7 := hC7.fr hFn (by omega)
  have hC8 := hC8.fr hFn (by omega)
  have hC9 := hC9.fr hFn (by omega)
  have hC10 := hC10.fr hFn (by omega)
  have hC11 := hC11.fr hFn (by omega)
  have hF := hF.trans (hFn.mono (by omega) (by omega))
  refine S_putF (fs := ?fs_24) (q := 137) hX rfl rfl u_291 fo_X11_walk rfl rfl ?hl_24 dX11_init_134 ?hs_24 rfl ?_
  case hs_24 => first | exact hR | exact h0
  case hl_24 => exact Nat.le_of_ble_eq_true rfl
  refine S_cell (fun σ h0 hFn => ?_)
  have hC1 := hC1.fr hFn (by omega)
  have hI := (hFn _ (by omega)).trans hI
  have hC2 := hC2.fr hFn (by omega)
  have hC3 := hC3.fr hFn (by omega)
  have hA4 := (hFn _ (by omega)).trans hA4
  have hC5 := hC5.fr hFn (by omega)
  have hA6 := (hFn _ (by omega)).trans hA6
  have hQ := (hFn _ (by omega)).trans hQ
  have hC7 := hC7.fr hFn (by omega)
  have hC8 := hC8.fr hFn (by omega)
  have hC9 := hC9.fr hFn (by omega)
  have hC10 := hC10.fr hFn (by omega)
  have hC11 := hC11.fr hFn (by omega)
  have hC12 := hC12.fr hFn (by omega)
  have hF := hF.trans (hFn.mono (by omega) (by omega))
  refine S_aload_n (q := 138) hX dX11_init_137 rfl rfl ?_
  refine S_bipush (q := 140) (v := 6) hX dX11_init_138 bp_6 rfl ?_
  refine S_newa (at0 := .int) (t := 0) (N := 6) (q := 142) hX rfl (by decide) u_66 (by decide) rfl (by decide) (Nat.le_of_ble_eq_true rfl) (Nat.le_of_ble_eq_true rfl) dX11_init_140 (ow_le hsz (by omega)) rfl 175 3014 rfl rfl ?_
  refine S_cell (fun σ hA13 hFn => ?_)
  have h0 := (hFn _ (by omega)).trans h0
  have hC1 := hC1.fr hFn (by omega)
  have hI := (hFn _ (by omega)).trans hI
  have hC2 := hC2.fr hFn (by omega)
  have hC3 := hC3.fr hFn (by omega)
  have hA4 := (hFn _ (by omega)).trans hA4
  have hC5 := hC5.fr hFn (by omega)
  have hA6 := (hFn _ (by omega)).trans hA6
  have hQ := (hFn _ (by omega)).trans hQ
  have hC7 := hC7.fr hFn (by omega)
  have hC8 := hC8.fr hFn (by omega)
  have hC9 := hC9.fr hFn (by omega)
  have hC10 := hC10.fr hFn (by omega)
  have hC11 := hC11.fr hFn (by omega)
  have hC12 := hC12.fr hFn (by omega)
  have hF := hF.trans (hFn.mono (by omega) (by omega))
  refine S_putF (fs := ?fs_25) (q := 145) hX rfl rfl u_292 fo_X11_drawn rfl rfl ?hl_25 dX11_init_142 ?hs_25 rfl ?_
  case hs_25 => first | exact hR | exact h0
  case hl_25 => exact Nat.le_of_ble_eq_true rfl
  refine S_cell (fun σ h0 hFn => ?_)
  have hC1 := hC1.fr hFn (by omega)
  have hI := (hFn _ (by omega)).trans hI
  have hC2 := hC2.fr hFn (by omega)
  have hC3 := hC3.fr hFn (by omega)
  have hA4 := (hFn _ (by omega)).trans hA4
  have hC5 := hC5.fr hFn (by omega)
  have hA6 := (hFn _ (by omega)).trans hA6
  have hQ := (hFn _ (by omega)).trans hQ
  have hC7 := hC7.fr hFn (by omega)
  have hC8 := hC8.fr hFn (by omega)
  have hC9 := hC9.fr hFn (by omega)
  have hC10 := hC10.fr hFn (by omega)
  have hC11 := hC11.fr hFn (by omega)
  have hC12 := hC12.fr hFn (by omega)
  have hA13 := (hFn _ (by omega)).trans hA13
  have hF := hF.trans (hFn.mono (by omega) (by omega))
  refine S_aload_n (q := 146) hX dX11_init_145 rfl rfl ?_
  refine S_bipush (q := 148) (v := 6) hX dX11_init_146 bp_6 rfl ?_
  refine S_newa (at0 := .int) (t := 0) (N := 6) (q := 150) hX rfl (by decide) u_66 (by decide) rfl (by decide) (Nat.le_of_ble_eq_true rfl) (Nat.le_of_ble_eq_true rfl) dX11_init_148 (ow_le hsz (by omega)) rfl 176 3020 rfl rfl ?_
  refine S_cell (fun σ hA14 hFn => ?_)
  have h0 := (hFn _ (by omega)).trans h0
  have hC1 := hC1.fr hFn (by omega)
  have hI := (hFn _ (by omega)).trans hI
  have hC2 := hC2.fr hFn (by omega)
  have hC3 := hC3.fr hFn (by omega)
  have hA4 := (hFn _ (by omega)).trans hA4
  have hC5 := hC5.fr hFn (by omega)
  have hA6 := (hFn _ (by omega)).trans hA6
  have hQ := (hFn _ (by omega)).trans hQ
  have hC7 := hC7.fr hFn (by omega)
  have hC8 := hC8.fr hFn (by omega)
  have hC9 := hC9.fr hFn (by omega)
  have hC10 := hC10.fr hFn (by omega)
  have hC11 := hC11.fr hFn (by omega)
  have hC12 := hC12.fr hFn (by omega)
  have hA13 := (hFn _ (by omega)).trans hA13
  have hF := hF.trans (hFn.mono (by omega) (by omega))
  refine S_putF (fs := ?fs_26) (q := 153) hX rfl rfl u_293 fo_X11_first rfl rfl ?hl_26 dX11_init_150 ?hs_26 rfl ?_
  case hs_26 => first | exact hR | exact h0
  case hl_26 => exact Nat.le_of_ble_eq_true rfl
  refine S_cell (fun σ h0 hFn => ?_)
  have hC1 := hC1.fr hFn (by omega)
  have hI := (hFn _ (by omega)).trans hI
  have hC2 := hC2.fr hFn (by omega)
  have hC3 := hC3.fr hFn (by omega)
  have hA4 := (hFn _ (by omega)).trans hA4
  have hC5 := hC5.fr hFn (by omega)
  have hA6 := (hFn _ (by omega)).trans hA6
  have hQ := (hFn _ (by omega)).trans hQ
  have hC7 := hC7.fr hFn (by omega)
  have hC8 := hC8.fr hFn (by omega)
  have hC9 := hC9.fr hFn (by omega)
  have hC10 := hC10.fr hFn (by omega)
  have hC11 := hC11.fr hFn (by omega)
  have hC12 := hC12.fr hFn (by omega)
  have hA13 := (hFn _ (by omega)).trans hA13
  have hA14 := (hFn _ (by omega)).trans hA14
  have hF := hF.trans (hFn.mono (by omega) (by omega))
  refine S_aload_n (q := 154) hX dX11_init_153 rfl rfl ?_
  refine S_bipush (q := 156) (v := 6) hX dX11_init_154 bp_6 rfl ?_
  refine S_newa (at0 := .int) (t := 0) (N := 6) (q := 158) hX rfl (by decide) u_66 (by decide) rfl (by decide) (Nat.le_of_ble_eq_true rfl) (Nat.le_of_ble_eq_true rfl) dX11_init_156 (ow_le hsz (by omega)) rfl 177 3026 rfl rfl ?_
  refine S_cell (fun σ hA15 hFn => ?_)
  have h0 := (hFn _ (by omega)).trans h0
  have hC1 := hC1.fr hFn (by omega)
  have hI := (hFn _ (by omega)).trans hI
  have hC2 := hC2.fr hFn (by omega)
  have hC3 := hC3.fr hFn (by omega)
  have hA4 := (hFn _ (by omega)).trans hA4
  have hC5 := hC5.fr hFn (by omega)
  have hA6 := (hFn _ (by omega)).trans hA6
  have hQ := (hFn _ (by omega)).trans hQ
  have hC7 := hC7.fr hFn (by omega)
  have hC8 := hC8.fr hFn (by omega)
  have hC9 := hC9.fr hFn (by omega)
  have hC10 := hC10.fr hFn (by omega)
  have hC11 := hC11.fr hFn (by omega)
  have hC12 := hC12.fr hFn (by omega)
  have hA13 := (hFn _ (by omega)).trans hA13
  have hA14 := (hFn _ (by omega)).trans hA14
  have hF := hF.trans (hFn.mono (by omega) (by omega))
  refine S_putF (fs := ?fs_27) (q := 161) hX rfl rfl u_294 fo_X11_spelt rfl rfl ?hl_27 dX11_init_158 ?hs_27 rfl ?_
  case hs_27 => first | exact hR | exact h0
  case hl_27 => exact Nat.le_of_ble_eq_true rfl
  refine S_cell (fun σ h0 hFn => ?_)
  have hC1 := hC1.fr hFn (by omega)
  have hI := (hFn _ (by omega)).trans hI
  have hC2 := hC2.fr hFn (by omega)
  have hC3 := hC3.fr hFn (by omega)
  have hA4 := (hFn _ (by omega)).trans hA4
  have hC5 := hC5.fr hFn (by omega)
  have hA6 := (hFn _ (by omega)).trans hA6
  have hQ := (hFn _ (by omega)).trans hQ
  have hC7 := hC7.fr hFn (by omega)
  have hC8 := hC8.fr hFn (by omega)
  have hC9 := hC9.fr hFn (by omega)
  have hC10 := hC10.fr hFn (by omega)
  have hC11 := hC11.fr hFn (by omega)
  have hC12 := hC12.fr hFn (by omega)
  have hA13 := (hFn _ (by omega)).trans hA13
  have hA14 := (hFn _ (by omega)).trans hA14
  have hA15 := (hFn _ (by omega)).trans hA15
  have hF := hF.trans (hFn.mono (by omega) (by omega))
  refine S_aload_n (q := 162) hX dX11_init_161 rfl rfl ?_
  refine S_bipush (q := 164) (v := 60) hX dX11_init_162 bp_60 rfl ?_
  refine S_newa (at0 := .int) (t := 0) (N := 60) (q := 166) hX rfl (by decide) u_66 (by decide) rfl (by decide) (Nat.le_of_ble_eq_true rfl) (Nat.le_of_ble_eq_true rfl) dX11_init_164 (ow_le hsz (by omega)) rfl 178 3086 rfl rfl ?_
  refine S_cell (fun σ hA16 hFn => ?_)
  have h0 := (hFn _ (by omega)).trans h0
  have hC1 := hC1.fr hFn (by omega)
  have hI := (hFn _ (by omega)).trans hI
  have hC2 := hC2.fr hFn (by omega)
  have hC3 := hC3.fr hFn (by omega)
  have hA4 := (hFn _ (by omega)).trans hA4
  have hC5 := hC5.fr hFn (by omega)
  have hA6 := (hFn _ (by omega)).trans hA6
  have hQ := (hFn _ (by omega)).trans hQ
  have hC7 := hC7.fr hFn (by omega)
  have hC8 := hC8.fr hFn (by omega)
  have hC9 := hC9.fr hFn (by omega)
  have hC10 := hC10.fr hFn (by omega)
  have hC11 := hC11.fr hFn (by omega)
  have hC12 := hC12.fr hFn (by omega)
  have hA13 := (hFn _ (by omega)).trans hA13
  have hA14 := (hFn _ (by omega)).trans hA14
  have hA15 := (hFn _ (by omega)).trans hA15
  have hF := hF.trans (hFn.mono (by omega) (by omega))
  refine S_putF (fs := ?fs_28) (q := 169) hX rfl rfl u_295 fo_X11_air rfl rfl ?hl_28 dX11_init_166 ?hs_28 rfl ?_
  case hs_28 => first | exact hR | exact h0
  case hl_28 => exact Nat.le_of_ble_eq_true rfl
  refine S_cell (fun σ h0 hFn => ?_)
  have hC1 := hC1.fr hFn (by omega)
  have hI := (hFn _ (by omega)).trans hI
  have hC2 := hC2.fr hFn (by omega)
  have hC3 := hC3.fr hFn (by omega)
  have hA4 := (hFn _ (by omega)).trans hA4
  have hC5 := hC5.fr hFn (by omega)
  have hA6 := (hFn _ (by omega)).trans hA6
  have hQ := (hFn _ (by omega)).trans hQ
  have hC7 := hC7.fr hFn (by omega)
  have hC8 := hC8.fr hFn (by omega)
  have hC9 := hC9.fr hFn (by omega)
  have hC10 := hC10.fr hFn (by omega)
  have hC11 := hC11.fr hFn (by omega)
  have hC12 := hC12.fr hFn (by omega)
  have hA13 := (hFn _ (by omega)).trans hA13
  have hA14 := (hFn _ (by omega)).trans hA14
  have hA15 := (hFn _ (by omega)).trans hA15
  have hA16 := (hFn _ (by omega)).trans hA16
  have hF := hF.trans (hFn.mono (by omega) (by omega))
  refine S_vret hX dX11_init_169 (Nat.le_of_ble_eq_true rfl) (Nat.le_of_ble_eq_true rfl) ?_
  refine hP _ _ _ ?_
  refine ⟨fun j hj => ?_, hF, rfl, rfl⟩
  rcases (show j = 0 ∨ (1 ≤ j ∧ j < 43) ∨ j = 43 ∨ (44 ≤ j ∧ j < 86) ∨ (86 ≤ j ∧ j < 128) ∨ j = 128 ∨ (129 ≤ j ∧ j < 136) ∨ j = 136 ∨ j = 137 ∨ (138 ≤ j ∧ j < 145) ∨ (145 ≤ j ∧ j < 152) ∨ (152 ≤ j ∧ j < 159) ∨ (159 ≤ j ∧ j < 166) ∨ (166 ≤ j ∧ j < 173) ∨ (173 ≤ j ∧ j < 175) ∨ j = 175 ∨ j = 176 ∨ j = 177 ∨ j = 178 by omega) with rfl | h | rfl | h | h | rfl | h | rfl | rfl | h | h | h | h | h | h | rfl | rfl | rfl | rfl
  · exact h0
  · obtain ⟨b, hb, rfl⟩ : ∃ b, b < 42 ∧ j = 1 + b := ⟨j - 1, by omega, by omega⟩
    rw [FK.sT b hb, zF_T (Or.inl rfl) hb, ← Nat.add_assoc]
    exact hC1 b hb
  · exact hI
  · obtain ⟨b, hb, rfl⟩ : ∃ b, b < 42 ∧ j = 44 + 42 * 0 + b := ⟨j - 44, by omega, by omega⟩
    rw [FK.sI (by decide) b hb, show zF (44 + 42 * 0 + b) = zT b from zF_T (Or.inr (Or.inl rfl)) hb, show q + (44 + 42 * 0 + b) = q + 44 + b by omega]
    exact hC2 b hb
  · obtain ⟨b, hb, rfl⟩ : ∃ b, b < 42 ∧ j = 44 + 42 * 1 + b := ⟨j - 86, by omega, by omega⟩
    rw [FK.sI (by decide) b hb, show zF (44 + 42 * 1 + b) = zT b from zF_T (Or.inr (Or.inr rfl)) hb, show q + (44 + 42 * 1 + b) = q + 86 + b by omega]
    exact hC3 b hb
  · exact hA4
  · obtain ⟨b, hb, rfl⟩ : ∃ b, b < 7 ∧ j = 129 + b := ⟨j - 129, by omega, by omega⟩
    rw [FK.sS b hb, zF_0 (by omega), ← Nat.add_assoc]
    exact hC5 b hb
  · exact hA6
  · exact hQ
  · obtain ⟨b, hb, rfl⟩ : ∃ b, b < 7 ∧ j = 138 + 7 * 0 + b := ⟨j - 138, by omega, by omega⟩
    rw [FK.sR (by decide) b hb, zF_0 (by omega), show q + (138 + 7 * 0 + b) = q + 138 + b by omega]
    exact hC7 b hb
  · obtain ⟨b, hb, rfl⟩ : ∃ b, b < 7 ∧ j = 138 + 7 * 1 + b := ⟨j - 145, by omega, by omega⟩
    rw [FK.sR (by decide) b hb, zF_0 (by omega), show q + (138 + 7 * 1 + b) = q + 145 + b by omega]
    exact hC8 b hb
  · obtain ⟨b, hb, rfl⟩ : ∃ b, b < 7 ∧ j = 138 + 7 * 2 + b := ⟨j - 152, by omega, by omega⟩
    rw [FK.sR (by decide) b hb, zF_0 (by omega), show q + (138 + 7 * 2 + b) = q + 152 + b by omega]
    exact hC9 b hb
  · obtain ⟨b, hb, rfl⟩ : ∃ b, b < 7 ∧ j = 138 + 7 * 3 + b := ⟨j - 159, by omega, by omega⟩
    rw [FK.sR (by decide) b hb, zF_0 (by omega), show q + (138 + 7 * 3 + b) = q + 159 + b by omega]
    exact hC10 b hb
  · obtain ⟨b, hb, rfl⟩ : ∃ b, b < 7 ∧ j = 138 + 7 * 4 + b := ⟨j - 166, by omega, by omega⟩
    rw [FK.sR (by decide) b hb, zF_0 (by omega), show q + (138 + 7 * 4 + b) = q + 166 + b by omega]
    exact hC11 b hb
  · obtain ⟨b, hb, rfl⟩ : ∃ b, b < 2 ∧ j = 173 + b := ⟨j - 173, by omega, by omega⟩
    rw [FK.sW b hb, zF_0 (by omega), ← Nat.add_assoc]
    exact hC12 b hb
  · exact hA13
  · exact hA14
  · exact hA15
  · exact hA16
