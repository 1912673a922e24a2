theorem law_go {nm0 : String} {X : CX} {Γ : Gm} {P : PO} {b N q : Nat} {xs : Nat → Int32} {σ : Sg} (hX : Ok X Γ ("FanTalkLaw", nm0, cL_law, 4, some .boolean, room_1)) (hs : Scr X Γ b N xs) (hL : N ≤ 384) (hsz : ow Γ q) (hP : ∀ v σ' sz', v = some (.int 1) → P v σ' sz') : G X Γ P 0 0 0 [some (.ref b), none, none, none] [] σ q := by
  refine S_new (ci := 11) [.null, .null, .null, .null, .null, .null, .null, .null, .null, .null, .null] (q := 3) hX rfl uw_X11 tyX11_ok u_20 u_21 u_1 (fun j hj => by rcases (show j = 0 ∨ j = 1 ∨ j = 2 ∨ j = 3 ∨ j = 4 ∨ j = 5 ∨ j = 6 ∨ j = 7 ∨ j = 8 ∨ j = 9 ∨ j = 10 by omega) with rfl | rfl | rfl | rfl | rfl | rfl | rfl | rfl | rfl | rfl | rfl <;> rfl) (Nat.le_of_ble_eq_true rfl) (Nat.le_of_ble_eq_true rfl) dL_law_0 (ow_le hsz (by omega)) rfl 1 11 rfl rfl ?_
  refine S_cell (fun σ hN hFn => ?_)
  refine S_dup (q := 4) hX dL_law_3 rfl rfl ?_
  refine S_callI (q := 7) 179 3097 hX (c_X11_init _) rfl u_22 u_23 u_1 u_24 rfl ⟨by decide, by decide, rfl⟩ ⟨Nat.le_of_ble_eq_true rfl, Nat.le_of_ble_eq_true rfl⟩ ⟨Nat.le_of_ble_eq_true rfl, Nat.le_of_ble_eq_true rfl⟩ (Nat.le_of_ble_eq_true rfl) dL_law_4 ?hp_1 rfl rfl rfl ?_
  case hp_1 => exact ⟨hN, rfl⟩
  rintro v σ sz1 ⟨hM, hF1, rfl, rfl⟩
  refine S_astore_n (q := 8) [_, _, _, _] hX dL_law_7 rfl (Nat.le_of_ble_eq_true rfl) rfl rfl ?_
  refine S_new (ci := 12) [.null, .int 0, .null, .null, .null, .int 0, .int 0, .int 0, .int 0, .int 0, .int 0, .null, .int 0, .null, .null, .int 0, .null] (q := 11) hX rfl uw_X12 tyX12_ok u_776 u_777 u_12 (fun j hj => by rcases (show j = 0 ∨ j = 1 ∨ j = 2 ∨ j = 3 ∨ j = 4 ∨ j = 5 ∨ j = 6 ∨ j = 7 ∨ j = 8 ∨ j = 9 ∨ j = 10 ∨ j = 11 ∨ j = 12 ∨ j = 13 ∨ j = 14 ∨ j = 15 ∨ j = 16 by omega) with rfl | rfl | rfl | rfl | rfl | rfl | rfl | rfl | rfl | rfl | rfl | rfl | rfl | rfl | rfl | rfl | rfl <;> rfl) (Nat.le_of_ble_eq_true rfl) (Nat.le_of_ble_eq_true rfl) dL_law_8 (ow_le hsz (by omega)) rfl 180 3114 rfl rfl ?_
  refine S_cell (fun σ hN2 hFn => ?_)
  have hM := hM.fr hFn (by omega)
  refine S_dup (q := 12) hX dL_law_11 rfl rfl ?_
  refine S_callI (q := 15) 188 5367 hX (c_X12_init _) rfl u_778 u_779 u_12 u_780 rfl ⟨by decide, by decide, rfl⟩ ⟨Nat.le_of_ble_eq_true rfl, Nat.le_of_ble_eq_true rfl⟩ ⟨Nat.le_of_ble_eq_true rfl, Nat.le_of_ble_eq_true rfl⟩ (Nat.le_of_ble_eq_true rfl) dL_law_12 ?hp_2 rfl rfl rfl ?_
  case hp_2 => exact ⟨hN2, rfl⟩
  rintro v σ sz1 ⟨hMm, hF2, rfl, rfl⟩
  have hM := hM.fr hF2 (by omega)
  refine S_astore_n (q := 16) [_, _, _, _] hX dL_law_15 rfl (Nat.le_of_ble_eq_true rfl) rfl rfl ?_
  refine S_iconst (q := 17) (v := 0) hX dL_law_16 ic_0 rfl ?_
  refine S_istore_n (q := 18) [_, _, _, _] hX dL_law_17 rfl (Nat.le_of_ble_eq_true rfl) rfl rfl ?_
  exact law_loop hX hs hL hP (N + 1) 0 _ _ zF _ S0 (Nat.zero_le _) (by omega) hM hMm S0_FR S0_MR S0_ok
