theorem ow_le {Γ : Gm} {a b : Nat} (h : ow Γ a) (hb : a ≤ b) : ow Γ b := Nat.le_trans h hb
section CEL
variable {X : CX} {Γ : Gm} {P : PO} {k n pc : Nat} {L : List (Option Value)} {st : List Value} {σ : Sg} {sz : Nat}
theorem S_cell {a : Nat} {e : AE} (kk : ∀ σ', σ' a = some e → Fr a (a + 1) σ σ' → G X Γ P k n pc L st σ' sz) : G X Γ P k n pc L st (su σ a e) sz := kk _ (su_eq _ _ _) (Fr.rf.su ⟨Nat.le_refl _, Nat.lt_succ_self _⟩)
end CEL

abbrev CT_X2_init : List Value → (Gm → Sg → Nat → Prop) → (Gm → Sg → Nat → PO) → Prop := CT yX2_init cX2_init 1 (none) { frames := 1, cells := 4, slots := 61, locals := 20 }
theorem c_X2_init (q : Nat) : CT_X2_init [.ref q] (fun Γ σ sz => σ q = some (.inr (2, [.int 0, .null, .null, .null, .null])) ∧ sz = q + 1) (fun Γ σ sz v σ' sz' => CL σ' q 5 (shC q) (fun _ _ => 0) ∧ Fr q (q + 5) σ σ' ∧ v = none ∧ sz' = q + 5) := by
  refine CT.mkP rfl (Nat.le_of_ble_eq_true rfl) [_] rfl ?_
  intro X Γ σ sz P hX hpre hsz hP
  obtain ⟨h0, rfl⟩ := hpre
  obtain ⟨σ0, eσ0⟩ : ∃ z, z = σ := ⟨σ, rfl⟩
  rw [← eσ0] at hP
  have hF : Fr q (q + 5) σ0 σ := by rw [eσ0]; exact Fr.rf
  refine S_aload_n (q := 1) hX dX2_init_0 rfl rfl ?_
  refine S_objInit (q := 4) hX u_39 u_26 u_27 (by decide) (Nat.le_of_ble_eq_true rfl) dX2_init_1 rfl ?_
  refine S_aload_n (q := 5) hX dX2_init_4 rfl rfl ?_
  refine S_iconst (q := 6) (v := 3) hX dX2_init_5 ic_3 rfl ?_
  refine S_newa (at0 := .int) (t := 0) (N := 3) (q := 8) hX rfl (by decide) u_66 (by decide) rfl (by decide) (Nat.le_of_ble_eq_true rfl) (Nat.le_of_ble_eq_true rfl) dX2_init_6 (ow_le hsz (by omega)) rfl 1 3 rfl rfl ?_
  refine S_cell (fun σ hA1 hFn => ?_)
  have h0 := (hFn _ (by omega)).trans h0
  have hF := hF.trans (hFn.mono (by omega) (by omega))
  refine S_putF (fs := ?fs_1) (q := 11) hX rfl rfl u_43 fo_X2_entries rfl rfl ?hl_1 dX2_init_8 ?hs_1 rfl ?_
  case hs_1 => exact h0
  case hl_1 => exact Nat.le_of_ble_eq_true rfl
  refine S_cell (fun σ h0 hFn => ?_)
  have hA1 := (hFn _ (by omega)).trans hA1
  have hF := hF.trans (hFn.mono (by omega) (by omega))
  refine S_aload_n (q := 12) hX dX2_init_11 rfl rfl ?_
  refine S_bipush (q := 14) (v := 24) hX dX2_init_12 bp_24 rfl ?_
  refine S_newa (at0 := .int) (t := 0) (N := 24) (q := 16) hX rfl (by decide) u_66 (by decide) rfl (by decide) (Nat.le_of_ble_eq_true rfl) (Nat.le_of_ble_eq_true rfl) dX2_init_14 (ow_le hsz (by omega)) rfl 2 27 rfl rfl ?_
  refine S_cell (fun σ hA2 hFn => ?_)
  have h0 := (hFn _ (by omega)).trans h0
  have hA1 := (hFn _ (by omega)).trans hA1
  have hF := hF.trans (hFn.mono (by omega) (by omega))
  refine S_putF (fs := ?fs_2) (q := 19) hX rfl rfl u_47 fo_X2_rows rfl rfl ?hl_2 dX2_init_16 ?hs_2 rfl ?_
  case hs_2 => exact h0
  case hl_2 => exact Nat.le_of_ble_eq_true rfl
  refine S_cell (fun σ h0 hFn => ?_)
  have hA1 := (hFn _ (by omega)).trans hA1
  have hA2 := (hFn _ (by omega)).trans hA2
  have hF := hF.trans (hFn.mono (by omega) (by omega))
  refine S_aload_n (q := 20) hX dX2_init_19 rfl rfl ?_
  refine S_bipush (q := 22) (v := 24) hX dX2_init_20 bp_24 rfl ?_
  refine S_newa (at0 := .int) (t := 0) (N := 24) (q := 24) hX rfl (by decide) u_66 (by decide) rfl (by decide) (Nat.le_of_ble_eq_true rfl) (Nat.le_of_ble_eq_true rfl) dX2_init_22 (ow_le hsz (by omega)) rfl 3 51 rfl rfl ?_
  refine S_cell (fun σ hA3 hFn => ?_)
  have h0 := (hFn _ (by omega)).trans h0
  have hA1 := (hFn _ (by omega)).trans hA1
  have hA2 := (hFn _ (by omega)).trans hA2
  have hF := hF.trans (hFn.mono (by omega) (by omega))
  refine S_putF (fs := ?fs_3) (q := 27) hX rfl rfl u_50 fo_X2_words rfl rfl ?hl_3 dX2_init_24 ?hs_3 rfl ?_
  case hs_3 => exact h0
  case hl_3 => exact Nat.le_of_ble_eq_true rfl
  refine S_cell (fun σ h0 hFn => ?_)
  have hA1 := (hFn _ (by omega)).trans hA1
  have hA2 := (hFn _ (by omega)).trans hA2
  have hA3 := (hFn _ (by omega)).trans hA3
  have hF := hF.trans (hFn.mono (by omega) (by omega))
  refine S_aload_n (q := 28) hX dX2_init_27 rfl rfl ?_
  refine S_bipush (q := 30) (v := 10) hX dX2_init_28 bp_10 rfl ?_
  refine S_newa (at0 := .int) (t := 0) (N := 10) (q := 32) hX rfl (by decide) u_66 (by decide) rfl (by decide) (Nat.le_of_ble_eq_true rfl) (Nat.le_of_ble_eq_true rfl) dX2_init_30 (ow_le hsz (by omega)) rfl 4 61 rfl rfl ?_
  refine S_cell (fun σ hA4 hFn => ?_)
  have h0 := (hFn _ (by omega)).trans h0
  have hA1 := (hFn _ (by omega)).trans hA1
  have hA2 := (hFn _ (by omega)).trans hA2
  have hA3 := (hFn _ (by omega)).trans hA3
  have hF := hF.trans (hFn.mono (by omega) (by omega))
  refine S_putF (fs := ?fs_4) (q := 35) hX rfl rfl u_53 fo_X2_uses rfl rfl ?hl_4 dX2_init_32 ?hs_4 rfl ?_
  case hs_4 => exact h0
  case hl_4 => exact Nat.le_of_ble_eq_true rfl
  refine S_cell (fun σ h0 hFn => ?_)
  have hA1 := (hFn _ (by omega)).trans hA1
  have hA2 := (hFn _ (by omega)).trans hA2
  have hA3 := (hFn _ (by omega)).trans hA3
  have hA4 := (hFn _ (by omega)).trans hA4
  have hF := hF.trans (hFn.mono (by omega) (by omega))
  refine S_vret hX dX2_init_35 (Nat.le_of_ble_eq_true rfl) (Nat.le_of_ble_eq_true rfl) ?_
  refine hP _ _ _ ?_
  refine ⟨fun j hj => ?_, hF, rfl, rfl⟩
  rcases (show j = 0 ∨ j = 1 ∨ j = 2 ∨ j = 3 ∨ j = 4 by omega) with rfl | rfl | rfl | rfl | rfl
  · exact h0
  · exact hA1
  · exact hA2
  · exact hA3
  · exact hA4
abbrev CT_X10_init : List Value → (Gm → Sg → Nat → Prop) → (Gm → Sg → Nat → PO) → Prop := CT yX10_init cX10_init 1 (none) { frames := 1, cells := 1, slots := 6, locals := 20 }
theorem c_X10_init (q : Nat) : CT_X10_init [.ref q] (fun Γ σ sz => σ q = some (.inr (10, [.null, .int 0])) ∧ sz = q + 1) (fun Γ σ sz v σ' sz' => CL σ' q 2 (shW q) (fun _ _ => 0) ∧ Fr q (q + 2) σ σ' ∧ v = none ∧ sz' = q + 2) := by
  refine CT.mkP rfl (Nat.le_of_ble_eq_true rfl) [_] rfl ?_
  intro X Γ σ sz P hX hpre hsz hP
  obtain ⟨h0, rfl⟩ := hpre
  obtain ⟨σ0, eσ0⟩ : ∃ z, z = σ := ⟨σ, rfl⟩
  rw [← eσ0] at hP
  have hF : Fr q (q + 2) σ0 σ := by rw [eσ0]; exact Fr.rf
  refine S_aload_n (q := 1) hX dX10_init_0 rfl rfl ?_
  refine S_objInit (q := 4) hX u_275 u_26 u_27 (by decide) (Nat.le_of_ble_eq_true rfl) dX10_init_1 rfl ?_
  refine S_aload_n (q := 5) hX dX10_init_4 rfl rfl ?_
  refine S_bipush (q := 7) (v := 6) hX dX10_init_5 bp_6 rfl ?_
  refine S_newa (at0 := .int) (t := 0) (N := 6) (q := 9) hX rfl (by decide) u_66 (by decide) rfl (by decide) (Nat.le_of_ble_eq_true rfl) (Nat.le_of_ble_eq_true rfl) dX10_init_7 (ow_le hsz (by omega)) rfl 1 6 rfl rfl ?_
  refine S_cell (fun σ hA1 hFn => ?_)
  have h0 := (hFn _ (by omega)).trans h0
  have hF := hF.trans (hFn.mono (by omega) (by omega))
  refine S_putF (fs := ?fs_1) (q := 12) hX rfl rfl u_276 fo_X10_states rfl rfl ?hl_1 dX10_init_9 ?hs_1 rfl ?_
  case hs_1 => exact h0
  case hl_1 => exact Nat.le_of_ble_eq_true rfl
  refine S_cell (fun σ h0 hFn => ?_)
  have hA1 := (hFn _ (by omega)).trans hA1
  have hF := hF.trans (hFn.mono (by omega) (by omega))
  refine S_vret hX dX10_init_12 (Nat.le_of_ble_eq_true rfl) (Nat.le_of_ble_eq_true rfl) ?_
  refine hP _ _ _ ?_
  refine ⟨fun j hj => ?_, hF, rfl, rfl⟩
  rcases (show j = 0 ∨ j = 1 by omega) with rfl | rfl
  · exact h0
  · exact hA1
abbrev CT_X3_init : List Value → (Gm → Sg → Nat → Prop) → (Gm → Sg → Nat → PO) → Prop := CT yX3_init cX3_init 1 (none) { frames := 1, cells := 6, slots := 220, locals := 20 }
theorem c_X3_init (q : Nat) (kd : Nat) : CT_X3_init [.ref q] (fun Γ σ sz => σ q = some (.inr (cik kd, [.null, .null, .int 0, .int 0, .null, .null, .null, .null, .int 0])) ∧ sz = q + 1) (fun Γ σ sz v σ' sz' => CL σ' q 7 (shR (cik kd) q) (fun _ _ => 0) ∧ Fr q (q + 7) σ σ' ∧ v = none ∧ sz' = q + 7) := by
  refine CT.mkP rfl (Nat.le_of_ble_eq_true rfl) [_] rfl ?_
  intro X Γ σ sz P hX hpre hsz hP
  obtain ⟨h0, rfl⟩ := hpre
  obtain ⟨σ0, eσ0⟩ : ∃ z, z = σ := ⟨σ, rfl⟩
  rw [← eσ0] at hP
  have hF : Fr q (q + 7) σ0 σ := by rw [eσ0]; exact Fr.rf
  refine S_aload_n (q := 1) hX dX3_init_0 rfl rfl ?_
  refine S_objInit (q := 4) hX u_173 u_26 u_27 (by decide) (Nat.le_of_ble_eq_true rfl) dX3_init_1 rfl ?_
  refine S_aload_n (q := 5) hX dX3_init_4 rfl rfl ?_
  refine S_bipush (q := 7) (v := 60) hX dX3_init_5 bp_60 rfl ?_
  refine S_newa (at0 := .int) (t := 0) (N := 60) (q := 9) hX rfl (by decide) u_66 (by decide) rfl (by decide) (Nat.le_of_ble_eq_true rfl) (Nat.le_of_ble_eq_true rfl) dX3_init_7 (ow_le hsz (by omega)) rfl 1 60 rfl rfl ?_
  refine S_cell (fun σ hA1 hFn => ?_)
  have h0 := (hFn _ (by omega)).trans h0
  have hF := hF.trans (hFn.mono (by omega) (by omega))
  refine S_putF (fs := ?fs_1) (q := 12) hX rfl rfl u_174 (fo_F_words (cik_F kd)) rfl rfl ?hl_1 dX3_init_9 ?hs_1 rfl ?_
  case hs_1 => exact h0
  case hl_1 => exact Nat.le_of_ble_eq_true rfl
  refine S_cell (fun σ h0 hFn => ?_)
  have hA1 := (hFn _ (by omega)).trans hA1
  have hF := hF.trans (hFn.mono (by omega) (by omega))
  refine S_aload_n (q := 13) hX dX3_init_12 rfl rfl ?_
  refine S_bipush (q := 15) (v := 60) hX dX3_init_13 bp_60 rfl ?_
  refine S_newa (at0 := .int) (t := 0) (N := 60) (q := 17) hX rfl (by decide) u_66 (by decide) rfl (by decide) (Nat.le_of_ble_eq_true rfl) (Nat.le_of_ble_eq_true rfl) dX3_init_15 (ow_le hsz (by omega)) rfl 2 120 rfl rfl ?_
  refine S_cell (fun σ hA2 hFn => ?_)
  have h0 := (hFn _ (by omega)).trans h0
  have hA1 := (hFn _ (by omega)).trans hA1
  have hF := hF.trans (hFn.mono (by omega) (by omega))
  refine S_putF (fs := ?fs_2) (q := 20) hX rfl rfl u_176 (fo_F_lookedFor (cik_F kd)) rfl rfl ?hl_2 dX3_init_17 ?hs_2 rfl ?_
  case hs_2 => exact h0
  case hl_2 => exact Nat.le_of_ble_eq_true rfl
  refine S_cell (fun σ h0 hFn => ?_)
  have hA1 := (hFn _ (by omega)).trans hA1
  have hA2 := (hFn _ (by omega)).trans hA2
  have hF := hF.trans (hFn.mono (by omega) (by omega))
  refine S_aload_n (q := 21) hX dX3_init_20 rfl rfl ?_
  refine S_bipush (q := 23) (v := 60) hX dX3_init_21 bp_60 rfl ?_
  refine S_newa (at0 := .int) (t := 0) (N := 60) (q := 25) hX rfl (by decide) u_66 (by decide) rfl (by decide) (Nat.le_of_ble_eq_true rfl) (Nat.le_of_ble_eq_true rfl) dX3_init_23 (ow_le hsz (by omega)) rfl 3 180 rfl rfl ?_
  refine S_cell (fun σ hA3 hFn => ?_)
  have h0 := (hFn _ (by omega)).trans h0
  have hA1 := (hFn _ (by omega)).trans hA1
  have hA2 := (hFn _ (by omega)).trans hA2
  have hF := hF.trans (hFn.mono (by omega) (by omega))
  refine S_putF (fs := ?fs_3) (q := 28) hX rfl rfl u_182 (fo_F_seen (cik_F kd)) rfl rfl ?hl_3 dX3_init_25 ?hs_3 rfl ?_
  case hs_3 => exact h0
  case hl_3 => exact Nat.le_of_ble_eq_true rfl
  refine S_cell (fun σ h0 hFn => ?_)
  have hA1 := (hFn _ (by omega)).trans hA1
  have hA2 := (hFn _ (by omega)).trans hA2
  have hA3 := (hFn _ (by omega)).trans hA3
  have hF := hF.trans (hFn.mono (by omega) (by omega))
  refine S_aload_n (q := 29) hX dX3_init_28 rfl rfl ?_
  refine S_bipush (q := 31) (v := 8) hX dX3_init_29 bp_8 rfl ?_
  refine S_newa (at0 := .int) (t := 0) (N := 8) (q := 33) hX rfl (by decide) u_66 (by decide) rfl (by decide) (Nat.le_of_ble_eq_true rfl) (Nat.le_of_ble_eq_true rfl) dX3_init_31 (ow_le hsz (by omega)) rfl 4 188 rfl rfl ?_
  refine S_cell (fun σ hA4 hFn => ?_)
  have h0 := (hFn _ (by omega)).trans h0
  have hA1 := (hFn _ (by omega)).trans hA1
  have hA2 := (hFn _ (by omega)).trans hA2
  have hA3 := (hFn _ (by omega)).trans hA3
  have hF := hF.trans (hFn.mono (by omega) (by omega))
  refine S_putF (fs := ?fs_4) (q := 36) hX rfl rfl u_183 (fo_F_meanings (cik_F kd)) rfl rfl ?hl_4 dX3_init_33 ?hs_4 rfl ?_
  case hs_4 => exact h0
  case hl_4 => exact Nat.le_of_ble_eq_true rfl
  refine S_cell (fun σ h0 hFn => ?_)
  have hA1 := (hFn _ (by omega)).trans hA1
  have hA2 := (hFn _ (by omega)).trans hA2
  have hA3 := (hFn _ (by omega)).trans hA3
  have hA4 := (hFn _ (by omega)).trans hA4
  have hF := hF.trans (hFn.mono (by omega) (by omega))
  refine S_aload_n (q := 37) hX dX3_init_36 rfl rfl ?_
  refine S_bipush (q := 39) (v := 8) hX dX3_init_37 bp_8 rfl ?_
  refine S_newa (at0 := .int) (t := 0) (N := 8) (q := 41) hX rfl (by decide) u_66 (by decide) rfl (by decide) (Nat.le_of_ble_eq_true rfl) (Nat.le_of_ble_eq_true rfl) dX3_init_39 (ow_le hsz (by omega)) rfl 5 196 rfl rfl ?_
  refine S_cell (fun σ hA5 hFn => ?_)
  have h0 := (hFn _ (by omega)).trans h0
  have hA1 := (hFn _ (by omega)).trans hA1
  have hA2 := (hFn _ (by omega)).trans hA2
  have hA3 := (hFn _ (by omega)).trans hA3
  have hA4 := (hFn _ (by omega)).trans hA4
  have hF := hF.trans (hFn.mono (by omega) (by omega))
  refine S_putF (fs := ?fs_5) (q := 44) hX rfl rfl u_184 (fo_F_lengths (cik_F kd)) rfl rfl ?hl_5 dX3_init_41 ?hs_5 rfl ?_
  case hs_5 => exact h0
  case hl_5 => exact Nat.le_of_ble_eq_true rfl
  refine S_cell (fun σ h0 hFn => ?_)
  have hA1 := (hFn _ (by omega)).trans hA1
  have hA2 := (hFn _ (by omega)).trans hA2
  have hA3 := (hFn _ (by omega)).trans hA3
  have hA4 := (hFn _ (by omega)).trans hA4
  have hA5 := (hFn _ (by omega)).trans hA5
  have hF := hF.trans (hFn.mono (by omega) (by omega))
  refine S_aload_n (q := 45) hX dX3_init_44 rfl rfl ?_
  refine S_bipush (q := 47) (v := 24) hX dX3_init_45 bp_24 rfl ?_
  refine S_newa (at0 := .int) (t := 0) (N := 24) (q := 49) hX rfl (by decide) u_66 (by decide) rfl (by decide) (Nat.le_of_ble_eq_true rfl) (Nat.le_of_ble_eq_true rfl) dX3_init_47 (ow_le hsz (by omega)) rfl 6 220 rfl rfl ?_
  refine S_cell (fun σ hA6 hFn => ?_)
  have h0 := (hFn _ (by omega)).trans h0
  have hA1 := (hFn _ (by omega)).trans hA1
  have hA2 := (hFn _ (by omega)).trans hA2
  have hA3 := (hFn _ (by omega)).trans hA3
  have hA4 := (hFn _ (by omega)).trans hA4
  have hA5 := (hFn _ (by omega)).trans hA5
  have hF := hF.trans (hFn.mono (by omega) (by omega))
  refine S_putF (fs := ?fs_6) (q := 52) hX rfl rfl u_185 (fo_F_states (cik_F kd)) rfl rfl ?hl_6 dX3_init_49 ?hs_6 rfl ?_
  case hs_6 => exact h0
  case hl_6 => exact Nat.le_of_ble_eq_true rfl
  refine S_cell (fun σ h0 hFn => ?_)
  have hA1 := (hFn _ (by omega)).trans hA1
  have hA2 := (hFn _ (by omega)).trans hA2
  have hA3 := (hFn _ (by omega)).trans hA3
  have hA4 := (hFn _ (by omega)).trans hA4
  have hA5 := (hFn _ (by omega)).trans hA5
  have hA6 := (hFn _ (by omega)).trans hA6
  have hF := hF.trans (hFn.mono (by omega) (by omega))
  refine S_vret hX dX3_init_52 (Nat.le_of_ble_eq_true rfl) (Nat.le_of_ble_eq_true rfl) ?_
  refine hP _ _ _ ?_
  refine ⟨fun j hj => ?_, hF, rfl, rfl⟩
  rcases (show j = 0 ∨ j = 1 ∨ j = 2 ∨ j = 3 ∨ j = 4 ∨ j = 5 ∨ j = 6 by omega) with rfl | rfl | rfl | rfl | rfl | rfl | rfl
  · exact h0
  · exact hA1
  · exact hA2
  · exact hA3
  · exact hA4
  · exact hA5
  · exact hA6
