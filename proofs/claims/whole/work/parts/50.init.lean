theorem ow_le {Γ : Gm} {a b : Nat} (h : ow Γ a) (hb : a ≤ b) : ow Γ b := Nat.le_trans h hb
theorem arrV_cg {c : ClassId} {N : Nat} {f g : Nat → Value} (h : ∀ j, j < N → f j = g j) : arrV c N f = arrV c N g := by
  unfold arrV
  rw [show (fun j : Fin N => f j.val) = fun j : Fin N => g j.val from funext fun j => h j.val j.isLt]
section CEL
variable {X : CX} {Γ : Gm} {P : PO} {k n pc : Nat} {L : List (Option Value)} {st : List Value} {σ : Sg} {sz : Nat}
theorem S_cell {a : Nat} {e : AE} (kk : ∀ σ', σ' a = some e → Fr a (a + 1) σ σ' → G X Γ P k n pc L st σ' sz) : G X Γ P k n pc L st (su σ a e) sz := kk _ (su_eq _ _ _) (Fr.rf.su ⟨Nat.le_refl _, Nat.lt_succ_self _⟩)
theorem S_arr {a t N : Nat} {f f' : Nat → Option Nat} (hσ : σ a = some (.inl (t, N, .inr (.inr (.inr (.inr f)))))) (he : ∀ i, i < N → f i = f' i) (kk : ∀ σ', σ' a = some (.inl (t, N, .inr (.inr (.inr (.inr f'))))) → Fr a (a + 1) σ σ' → G X Γ P k n pc L st σ' sz) : G X Γ P k n pc L st σ sz := by
  obtain ⟨p, l, e, R, s, m, args, below, meth, c⟩ := X
  intro H locs ls hP hS hl
  refine kk (su σ a _) (su_eq _ _ _) (Fr.rf.su ⟨Nat.le_refl _, Nat.lt_succ_self _⟩) H locs ls ⟨hP.1, fun b e hb => ?_⟩ hS hl
  by_cases hba : b = a
  · subst hba
    rw [su_eq] at hb
    cases hb
    have h := hP.2 b _ hσ
    refine ⟨h.1, ?_⟩
    have h2 : H[b]? = some (vp_cell (Γ.2.1 t) (N, .inr (.inr (.inr (.inr f))))) := h.2
    show H[b]? = some (vp_cell (Γ.2.1 t) (N, .inr (.inr (.inr (.inr f')))))
    rw [h2]
    show some (arrV _ N (fun j => va_rf (f j))) = some (arrV _ N (fun j => va_rf (f' j)))
    rw [arrV_cg (fun j hj => by rw [he j hj])]
  · rw [su_ne hba] at hb
    exact hP.2 b e hb
end CEL

abbrev CT_X2_init : List Value → (Gm → Sg → Nat → Prop) → (Gm → Sg → Nat → PO) → Prop := CT yX2_init cX2_init 1 (none) { frames := 1, cells := 4, slots := 61, locals := 20 }
theorem c_X2_init (q : Nat) : CT_X2_init [.ref q] (fun Γ σ sz => σ q = some (.inr (2, [.int 0, .null, .null, .null, .null])) ∧ sz = q + 1) (fun Γ σ sz v σ' sz' => (CL σ' q 5 (shC q) (fun _ _ => 0)) ∧ Fr q (q + 5) σ σ' ∧ v = none ∧ sz' = q + 5) := by
  refine CT.mkP rfl (Nat.le_of_ble_eq_true rfl) [_] rfl ?_
  intro X Γ σ sz P hX hpre hsz hP
  obtain ⟨h0, rfl⟩ := hpre
  obtain ⟨σ0, eσ0⟩ : ∃ z, z = σ := ⟨σ, rfl⟩
  rw [← eσ0] at hP
  have hF : Fr q (q + 5) σ0 σ := by rw [eσ0]; exact Fr.rf
  refine S_aload_n (q := 1) hX dX2_init_0 rfl rfl ?_
  refine S_objInit (q := 4) hX u_39 u_26 u_27 (by decide) (Nat.le_of_ble_eq_true rfl) dX2_init_1 rfl ?_
  refine S_aload_n (q := 5) hX dX2_init_4 rfl rfl ?_
  refine S_iconst (q := 6) (v := 3) hX dX2_init_5 ic_3 rfl ?_
  refine S_newa (at0 := .int) (t := 0) (N := 3) (q := 8) hX rfl (by decide) u_66 (by decide) rfl (by decide) (Nat.le_of_ble_eq_true rfl) (Nat.le_of_ble_eq_true rfl) dX2_init_6 (ow_le hsz (by omega)) rfl 1 3 rfl rfl ?_
  refine S_cell (fun σ hA1 hFn => ?_)
  have h0 := (hFn _ (by omega)).trans h0
  have hF := hF.trans (hFn.mono (by omega) (by omega))
  refine S_putF (fs := ?fs_1) (q := 11) hX rfl rfl u_43 fo_X2_entries rfl rfl ?hl_1 dX2_init_8 ?hs_1 rfl ?_
  case hs_1 => first | exact hR | exact h0
  case hl_1 => exact Nat.le_of_ble_eq_true rfl
  refine S_cell (fun σ h0 hFn => ?_)
  have hA1 := (hFn _ (by omega)).trans hA1
  have hF := hF.trans (hFn.mono (by omega) (by omega))
  refine S_aload_n (q := 12) hX dX2_init_11 rfl rfl ?_
  refine S_bipush (q := 14) (v := 24) hX dX2_init_12 bp_24 rfl ?_
  refine S_newa (at0 := .int) (t := 0) (N := 24) (q := 16) hX rfl (by decide) u_66 (by decide) rfl (by decide) (Nat.le_of_ble_eq_true rfl) (Nat.le_of_ble_eq_true rfl) dX2_init_14 (ow_le hsz (by omega)) rfl 2 27 rfl rfl ?_
  refine S_cell (fun σ hA2 hFn => ?_)
  have h0 := (hFn _ (by omega)).trans h0
  have hA1 := (hFn _ (by omega)).trans hA1
  have hF := hF.trans (hFn.mono (by omega) (by omega))
  refine S_putF (fs := ?fs_2) (q := 19) hX rfl rfl u_47 fo_X2_rows rfl rfl ?hl_2 dX2_init_16 ?hs_2 rfl ?_
  case hs_2 => first | exact hR | exact h0
  case hl_2 => exact Nat.le_of_ble_eq_true rfl
  refine S_cell (fun σ h0 hFn => ?_)
  have hA1 := (hFn _ (by omega)).trans hA1
  have hA2 := (hFn _ (by omega)).trans hA2
  have hF := hF.trans (hFn.mono (by omega) (by omega))
  refine S_aload_n (q := 20) hX dX2_init_19 rfl rfl ?_
  refine S_bipush (q := 22) (v := 24) hX dX2_init_20 bp_24 rfl ?_
  refine S_newa (at0 := .int) (t := 0) (N := 24) (q := 24) hX rfl (by decide) u_66 (by decide) rfl (by decide) (Nat.le_of_ble_eq_true rfl) (Nat.le_of_ble_eq_true rfl) dX2_init_22 (ow_le hsz (by omega)) rfl 3 51 rfl rfl ?_
  refine S_cell (fun σ hA3 hFn => ?_)
  have h0 := (hFn _ (by omega)).trans h0
  have hA1 := (hFn _ (by omega)).trans hA1
  have hA2 := (hFn _ (by omega)).trans hA2
  have hF := hF.trans (hFn.mono (by omega) (by omega))
  refine S_putF (fs := ?fs_3) (q := 27) hX rfl rfl u_50 fo_X2_words rfl rfl ?hl_3 dX2_init_24 ?hs_3 rfl ?_
  case hs_3 => first | exact hR | exact h0
  case hl_3 => exact Nat.le_of_ble_eq_true rfl
  refine S_cell (fun σ h0 hFn => ?_)
  have hA1 := (hFn _ (by omega)).trans hA1
  have hA2 := (hFn _ (by omega)).trans hA2
  have hA3 := (hFn _ (by omega)).trans hA3
  have hF := hF.trans (hFn.mono (by omega) (by omega))
  refine S_aload_n (q := 28) hX dX2_init_27 rfl rfl ?_
  refine S_bipush (q := 30) (v := 10) hX dX2_init_28 bp_10 rfl ?_
  refine S_newa (at0 := .int) (t := 0) (N := 10) (q := 32) hX rfl (by decide) u_66 (by decide) rfl (by decide) (Nat.le_of_ble_eq_true rfl) (Nat.le_of_ble_eq_true rfl) dX2_init_30 (ow_le hsz (by omega)) rfl 4 61 rfl rfl ?_
  refine S_cell (fun σ hA4 hFn => ?_)
  have h0 := (hFn _ (by omega)).trans h0
  have hA1 := (hFn _ (by omega)).trans hA1
  have hA2 := (hFn _ (by omega)).trans hA2
  have hA3 := (hFn _ (by omega)).trans hA3
  have hF := hF.trans (hFn.mono (by omega) (by omega))
  refine S_putF (fs := ?fs_4) (q := 35) hX rfl rfl u_53 fo_X2_uses rfl rfl ?hl_4 dX2_init_32 ?hs_4 rfl ?_
  case hs_4 => first | exact hR | exact h0
  case hl_4 => exact Nat.le_of_ble_eq_true rfl
  refine S_cell (fun σ h0 hFn => ?_)
  have hA1 := (hFn _ (by omega)).trans hA1
  have hA2 := (hFn _ (by omega)).trans hA2
  have hA3 := (hFn _ (by omega)).trans hA3
  have hA4 := (hFn _ (by omega)).trans hA4
  have hF := hF.trans (hFn.mono (by omega) (by omega))
  refine S_vret hX dX2_init_35 (Nat.le_of_ble_eq_true rfl) (Nat.le_of_ble_eq_true rfl) ?_
  refine hP _ _ _ ?_
  refine ⟨fun j hj => ?_, hF, rfl, rfl⟩
  rcases (show j = 0 ∨ j = 1 ∨ j = 2 ∨ j = 3 ∨ j = 4 by omega) with rfl | rfl | rfl | rfl | rfl
  · exact h0
  · exact hA1
  · exact hA2
  · exact hA3
  · exact hA4
abbrev CT_X10_init : List Value → (Gm → Sg → Nat → Prop) → (Gm → Sg → Nat → PO) → Prop := CT yX10_init cX10_init 1 (none) { frames := 1, cells := 1, slots := 6, locals := 20 }
theorem c_X10_init (q : Nat) : CT_X10_init [.ref q] (fun Γ σ sz => σ q = some (.inr (10, [.null, .int 0])) ∧ sz = q + 1) (fun Γ σ sz v σ' sz' => (CL σ' q 2 (shW q) (fun _ _ => 0)) ∧ Fr q (q + 2) σ σ' ∧ v = none ∧ sz' = q + 2) := by
  refine CT.mkP rfl (Nat.le_of_ble_eq_true rfl) [_] rfl ?_
  intro X Γ σ sz P hX hpre hsz hP
  obtain ⟨h0, rfl⟩ := hpre
  obtain ⟨σ0, eσ0⟩ : ∃ z, z = σ := ⟨σ, rfl⟩
  rw [← eσ0] at hP
  have hF : Fr q (q + 2) σ0 σ := by rw [eσ0]; exact Fr.rf
  refine S_aload_n (q := 1) hX dX10_init_0 rfl rfl ?_
  refine S_objInit (q := 4) hX u_275 u_26 u_27 (by decide) (Nat.le_of_ble_eq_true rfl) dX10_init_1 rfl ?_
  refine S_aload_n (q := 5) hX dX10_init_4 rfl rfl ?_
  refine S_bipush (q := 7) (v := 6) hX dX10_init_5 bp_6 rfl ?_
  refine S_newa (at0 := .int) (t := 0) (N := 6) (q := 9) hX rfl (by decide) u_66 (by decide) rfl (by decide) (Nat.le_of_ble_eq_true rfl) (Nat.le_of_ble_eq_true rfl) dX10_init_7 (ow_le hsz (by omega)) rfl 1 6 rfl rfl ?_
  refine S_cell (fun σ hA1 hFn => ?_)
  have h0 := (hFn _ (by omega)).trans h0
  have hF := hF.trans (hFn.mono (by omega) (by omega))
  refine S_putF (fs := ?fs_1) (q := 12) hX rfl rfl u_276 fo_X10_states rfl rfl ?hl_1 dX10_init_9 ?hs_1 rfl ?_
  case hs_1 => first | exact hR | exact h0
  case hl_1 => exact Nat.le_of_ble_eq_true rfl
  refine S_cell (fun σ h0 hFn => ?_)
  have hA1 := (hFn _ (by omega)).trans hA1
  have hF := hF.trans (hFn.mono (by omega) (by omega))
  refine S_vret hX dX10_init_12 (Nat.le_of_ble_eq_true rfl) (Nat.le_of_ble_eq_true rfl) ?_
  refine hP _ _ _ ?_
  refine ⟨fun j hj => ?_, hF, rfl, rfl⟩
  rcases (show j = 0 ∨ j = 1 by omega) with rfl | rfl
  · exact h0
  · exact hA1
abbrev CT_X3_init : List Value → (Gm → Sg → Nat → Prop) → (Gm → Sg → Nat → PO) → Prop := CT yX3_init cX3_init 1 (none) { frames := 1, cells := 6, slots := 220, locals := 20 }
theorem c_X3_init (q : Nat) (kd : Nat) : CT_X3_init [.ref q] (fun Γ σ sz => σ q = some (.inr (cik kd, [.null, .null, .int 0, .int 0, .null, .null, .null, .null, .int 0])) ∧ sz = q + 1) (fun Γ σ sz v σ' sz' => (CL σ' q 7 (shR (cik kd) q) (fun _ _ => 0)) ∧ Fr q (q + 7) σ σ' ∧ v = none ∧ sz' = q + 7) := by
  refine CT.mkP rfl (Nat.le_of_ble_eq_true rfl) [_] rfl ?_
  intro X Γ σ sz P hX hpre hsz hP
  obtain ⟨h0, rfl⟩ := hpre
  obtain ⟨σ0, eσ0⟩ : ∃ z, z = σ := ⟨σ, rfl⟩
  rw [← eσ0] at hP
  have hF : Fr q (q + 7) σ0 σ := by rw [eσ0]; exact Fr.rf
  refine S_aload_n (q := 1) hX dX3_init_0 rfl rfl ?_
  refine S_objInit (q := 4) hX u_173 u_26 u_27 (by decide) (Nat.le_of_ble_eq_true rfl) dX3_init_1 rfl ?_
  refine S_aload_n (q := 5) hX dX3_init_4 rfl rfl ?_
  refine S_bipush (q := 7) (v := 60) hX dX3_init_5 bp_60 rfl ?_
  refine S_newa (at0 := .int) (t := 0) (N := 60) (q := 9) hX rfl (by decide) u_66 (by decide) rfl (by decide) (Nat.le_of_ble_eq_true rfl) (Nat.le_of_ble_eq_true rfl) dX3_init_7 (ow_le hsz (by omega)) rfl 1 60 rfl rfl ?_
  refine S_cell (fun σ hA1 hFn => ?_)
  have h0 := (hFn _ (by omega)).trans h0
  have hF := hF.trans (hFn.mono (by omega) (by omega))
  refine S_putF (fs := ?fs_1) (q := 12) hX rfl rfl u_174 (fo_F_words (cik_F kd)) rfl rfl ?hl_1 dX3_init_9 ?hs_1 rfl ?_
  case hs_1 => first | exact hR | exact h0
  case hl_1 => exact Nat.le_of_ble_eq_true rfl
  refine S_cell (fun σ h0 hFn => ?_)
  have hA1 := (hFn _ (by omega)).trans hA1
  have hF := hF.trans (hFn.mono (by omega) (by omega))
  refine S_aload_n (q := 13) hX dX3_init_12 rfl rfl ?_
  refine S_bipush (q := 15) (v := 60) hX dX3_init_13 bp_60 rfl ?_
  refine S_newa (at0 := .int) (t := 0) (N := 60) (q := 17) hX rfl (by decide) u_66 (by decide) rfl (by decide) (Nat.le_of_ble_eq_true rfl) (Nat.le_of_ble_eq_true rfl) dX3_init_15 (ow_le hsz (by omega)) rfl 2 120 rfl rfl ?_
  refine S_cell (fun σ hA2 hFn => ?_)
  have h0 := (hFn _ (by omega)).trans h0
  have hA1 := (hFn _ (by omega)).trans hA1
  have hF := hF.trans (hFn.mono (by omega) (by omega))
  refine S_putF (fs := ?fs_2) (q := 20) hX rfl rfl u_176 (fo_F_lookedFor (cik_F kd)) rfl rfl ?hl_2 dX3_init_17 ?hs_2 rfl ?_
  case hs_2 => first | exact hR | exact h0
  case hl_2 => exact Nat.le_of_ble_eq_true rfl
  refine S_cell (fun σ h0 hFn => ?_)
  have hA1 := (hFn _ (by omega)).trans hA1
  have hA2 := (hFn _ (by omega)).trans hA2
  have hF := hF.trans (hFn.mono (by omega) (by omega))
  refine S_aload_n (q := 21) hX dX3_init_20 rfl rfl ?_
  refine S_bipush (q := 23) (v := 60) hX dX3_init_21 bp_60 rfl ?_
  refine S_newa (at0 := .int) (t := 0) (N := 60) (q := 25) hX rfl (by decide) u_66 (by decide) rfl (by decide) (Nat.le_of_ble_eq_true rfl) (Nat.le_of_ble_eq_true rfl) dX3_init_23 (ow_le hsz (by omega)) rfl 3 180 rfl rfl ?_
  refine S_cell (fun σ hA3 hFn => ?_)
  have h0 := (hFn _ (by omega)).trans h0
  have hA1 := (hFn _ (by omega)).trans hA1
  have hA2 := (hFn _ (by omega)).trans hA2
  have hF := hF.trans (hFn.mono (by omega) (by omega))
  refine S_putF (fs := ?fs_3) (q := 28) hX rfl rfl u_182 (fo_F_seen (cik_F kd)) rfl rfl ?hl_3 dX3_init_25 ?hs_3 rfl ?_
  case hs_3 => first | exact hR | exact h0
  case hl_3 => exact Nat.le_of_ble_eq_true rfl
  refine S_cell (fun σ h0 hFn => ?_)
  have hA1 := (hFn _ (by omega)).trans hA1
  have hA2 := (hFn _ (by omega)).trans hA2
  have hA3 := (hFn _ (by omega)).trans hA3
  have hF := hF.trans (hFn.mono (by omega) (by omega))
  refine S_aload_n (q := 29) hX dX3_init_28 rfl rfl ?_
  refine S_bipush (q := 31) (v := 8) hX dX3_init_29 bp_8 rfl ?_
  refine S_newa (at0 := .int) (t := 0) (N := 8) (q := 33) hX rfl (by decide) u_66 (by decide) rfl (by decide) (Nat.le_of_ble_eq_true rfl) (Nat.le_of_ble_eq_true rfl) dX3_init_31 (ow_le hsz (by omega)) rfl 4 188 rfl rfl ?_
  refine S_cell (fun σ hA4 hFn => ?_)
  have h0 := (hFn _ (by omega)).trans h0
  have hA1 := (hFn _ (by omega)).trans hA1
  have hA2 := (hFn _ (by omega)).trans hA2
  have hA3 := (hFn _ (by omega)).trans hA3
  have hF := hF.trans (hFn.mono (by omega) (by omega))
  refine S_putF (fs := ?fs_4) (q := 36) hX rfl rfl u_183 (fo_F_meanings (cik_F kd)) rfl rfl ?hl_4 dX3_init_33 ?hs_4 rfl ?_
  case hs_4 => first | exact hR | exact h0
  case hl_4 => exact Nat.le_of_ble_eq_true rfl
  refine S_cell (fun σ h0 hFn => ?_)
  have hA1 := (hFn _ (by omega)).trans hA1
  have hA2 := (hFn _ (by omega)).trans hA2
  have hA3 := (hFn _ (by omega)).trans hA3
  have hA4 := (hFn _ (by omega)).trans hA4
  have hF := hF.trans (hFn.mono (by omega) (by omega))
  refine S_aload_n (q := 37) hX dX3_init_36 rfl rfl ?_
  refine S_bipush (q := 39) (v := 8) hX dX3_init_37 bp_8 rfl ?_
  refine S_newa (at0 := .int) (t := 0) (N := 8) (q := 41) hX rfl (by decide) u_66 (by decide) rfl (by decide) (Nat.le_of_ble_eq_true rfl) (Nat.le_of_ble_eq_true rfl) dX3_init_39 (ow_le hsz (by omega)) rfl 5 196 rfl rfl ?_
  refine S_cell (fun σ hA5 hFn => ?_)
  have h0 := (hFn _ (by omega)).trans h0
  have hA1 := (hFn _ (by omega)).trans hA1
  have hA2 := (hFn _ (by omega)).trans hA2
  have hA3 := (hFn _ (by omega)).trans hA3
  have hA4 := (hFn _ (by omega)).trans hA4
  have hF := hF.trans (hFn.mono (by omega) (by omega))
  refine S_putF (fs := ?fs_5) (q := 44) hX rfl rfl u_184 (fo_F_lengths (cik_F kd)) rfl rfl ?hl_5 dX3_init_41 ?hs_5 rfl ?_
  case hs_5 => first | exact hR | exact h0
  case hl_5 => exact Nat.le_of_ble_eq_true rfl
  refine S_cell (fun σ h0 hFn => ?_)
  have hA1 := (hFn _ (by omega)).trans hA1
  have hA2 := (hFn _ (by omega)).trans hA2
  have hA3 := (hFn _ (by omega)).trans hA3
  have hA4 := (hFn _ (by omega)).trans hA4
  have hA5 := (hFn _ (by omega)).trans hA5
  have hF := hF.trans (hFn.mono (by omega) (by omega))
  refine S_aload_n (q := 45) hX dX3_init_44 rfl rfl ?_
  refine S_bipush (q := 47) (v := 24) hX dX3_init_45 bp_24 rfl ?_
  refine S_newa (at0 := .int) (t := 0) (N := 24) (q := 49) hX rfl (by decide) u_66 (by decide) rfl (by decide) (Nat.le_of_ble_eq_true rfl) (Nat.le_of_ble_eq_true rfl) dX3_init_47 (ow_le hsz (by omega)) rfl 6 220 rfl rfl ?_
  refine S_cell (fun σ hA6 hFn => ?_)
  have h0 := (hFn _ (by omega)).trans h0
  have hA1 := (hFn _ (by omega)).trans hA1
  have hA2 := (hFn _ (by omega)).trans hA2
  have hA3 := (hFn _ (by omega)).trans hA3
  have hA4 := (hFn _ (by omega)).trans hA4
  have hA5 := (hFn _ (by omega)).trans hA5
  have hF := hF.trans (hFn.mono (by omega) (by omega))
  refine S_putF (fs := ?fs_6) (q := 52) hX rfl rfl u_185 (fo_F_states (cik_F kd)) rfl rfl ?hl_6 dX3_init_49 ?hs_6 rfl ?_
  case hs_6 => first | exact hR | exact h0
  case hl_6 => exact Nat.le_of_ble_eq_true rfl
  refine S_cell (fun σ h0 hFn => ?_)
  have hA1 := (hFn _ (by omega)).trans hA1
  have hA2 := (hFn _ (by omega)).trans hA2
  have hA3 := (hFn _ (by omega)).trans hA3
  have hA4 := (hFn _ (by omega)).trans hA4
  have hA5 := (hFn _ (by omega)).trans hA5
  have hA6 := (hFn _ (by omega)).trans hA6
  have hF := hF.trans (hFn.mono (by omega) (by omega))
  refine S_vret hX dX3_init_52 (Nat.le_of_ble_eq_true rfl) (Nat.le_of_ble_eq_true rfl) ?_
  refine hP _ _ _ ?_
  refine ⟨fun j hj => ?_, hF, rfl, rfl⟩
  rcases (show j = 0 ∨ j = 1 ∨ j = 2 ∨ j = 3 ∨ j = 4 ∨ j = 5 ∨ j = 6 by omega) with rfl | rfl | rfl | rfl | rfl | rfl | rfl
  · exact h0
  · exact hA1
  · exact hA2
  · exact hA3
  · exact hA4
  · exact hA5
  · exact hA6
abbrev CT_X1_init : List Value → (Gm → Sg → Nat → Prop) → (Gm → Sg → Nat → PO) → Prop := CT yX1_init cX1_init 1 (none) { frames := 2, cells := 6, slots := 220, locals := 40 }
theorem c_X1_init (q : Nat) (kd : Nat) : CT_X1_init [.ref q] (fun Γ σ sz => σ q = some (.inr (cik kd, [.null, .null, .int 0, .int 0, .null, .null, .null, .null, .int 0])) ∧ sz = q + 1) (fun Γ σ sz v σ' sz' => (CL σ' q 7 (shR (cik kd) q) (fun _ _ => 0)) ∧ Fr q (q + 7) σ σ' ∧ v = none ∧ sz' = q + 7) := by
  refine CT.mkP rfl (Nat.le_of_ble_eq_true rfl) [_] rfl ?_
  intro X Γ σ sz P hX hpre hsz hP
  obtain ⟨h0, rfl⟩ := hpre
  obtain ⟨σ0, eσ0⟩ : ∃ z, z = σ := ⟨σ, rfl⟩
  rw [← eσ0] at hP
  have hF : Fr q (q + 7) σ0 σ := by rw [eσ0]; exact Fr.rf
  refine S_aload_n (q := 1) hX dX1_init_0 rfl rfl ?_
  refine S_callIN (host := "FanTalk") (q := 4) 6 220 hX (c_X3_init q kd) rfl (by decide) u_171 u_6 u_172 rfl ⟨by decide, by decide, rfl⟩ ⟨Nat.le_of_ble_eq_true rfl, Nat.le_of_ble_eq_true rfl⟩ ⟨Nat.le_of_ble_eq_true rfl, Nat.le_of_ble_eq_true rfl⟩ (Nat.le_of_ble_eq_true rfl) dX1_init_1 ?hp_1 rfl rfl rfl ?_
  case hp_1 => exact ⟨h0, rfl⟩
  rintro v σ sz1 ⟨hC1, hFn, rfl, rfl⟩
  have hF := hF.trans (hFn.mono (by omega) (by omega))
  refine S_vret hX dX1_init_4 (Nat.le_of_ble_eq_true rfl) (Nat.le_of_ble_eq_true rfl) ?_
  refine hP _ _ _ ?_
  exact ⟨hC1, hF, rfl, rfl⟩
abbrev CT_X0_init : List Value → (Gm → Sg → Nat → Prop) → (Gm → Sg → Nat → PO) → Prop := CT yX0_init cX0_init 1 (none) { frames := 3, cells := 6, slots := 220, locals := 60 }
theorem c_X0_init (q : Nat) (kd : Nat) : CT_X0_init [.ref q] (fun Γ σ sz => σ q = some (.inr (cik kd, [.null, .null, .int 0, .int 0, .null, .null, .null, .null, .int 0])) ∧ sz = q + 1) (fun Γ σ sz v σ' sz' => (CL σ' q 7 (shR (cik kd) q) (fun _ _ => 0)) ∧ Fr q (q + 7) σ σ' ∧ v = none ∧ sz' = q + 7) := by
  refine CT.mkP rfl (Nat.le_of_ble_eq_true rfl) [_] rfl ?_
  intro X Γ σ sz P hX hpre hsz hP
  obtain ⟨h0, rfl⟩ := hpre
  obtain ⟨σ0, eσ0⟩ : ∃ z, z = σ := ⟨σ, rfl⟩
  rw [← eσ0] at hP
  have hF : Fr q (q + 7) σ0 σ := by rw [eσ0]; exact Fr.rf
  refine S_aload_n (q := 1) hX dX0_init_0 rfl rfl ?_
  refine S_callIN (host := "FanTalk") (q := 4) 6 220 hX (c_X1_init q kd) rfl (by decide) u_225 u_8 u_226 rfl ⟨by decide, by decide, rfl⟩ ⟨Nat.le_of_ble_eq_true rfl, Nat.le_of_ble_eq_true rfl⟩ ⟨Nat.le_of_ble_eq_true rfl, Nat.le_of_ble_eq_true rfl⟩ (Nat.le_of_ble_eq_true rfl) dX0_init_1 ?hp_1 rfl rfl rfl ?_
  case hp_1 => exact ⟨h0, rfl⟩
  rintro v σ sz1 ⟨hC1, hFn, rfl, rfl⟩
  have hF := hF.trans (hFn.mono (by omega) (by omega))
  refine S_vret hX dX0_init_4 (Nat.le_of_ble_eq_true rfl) (Nat.le_of_ble_eq_true rfl) ?_
  refine hP _ _ _ ?_
  exact ⟨hC1, hF, rfl, rfl⟩
abbrev CT_X4_init : List Value → (Gm → Sg → Nat → Prop) → (Gm → Sg → Nat → PO) → Prop := CT yX4_init cX4_init 1 (none) { frames := 2, cells := 6, slots := 220, locals := 40 }
theorem c_X4_init (q : Nat) (kd : Nat) : CT_X4_init [.ref q] (fun Γ σ sz => σ q = some (.inr (cik kd, [.null, .null, .int 0, .int 0, .null, .null, .null, .null, .int 0])) ∧ sz = q + 1) (fun Γ σ sz v σ' sz' => (CL σ' q 7 (shR (cik kd) q) (fun _ _ => 0)) ∧ Fr q (q + 7) σ σ' ∧ v = none ∧ sz' = q + 7) := by
  refine CT.mkP rfl (Nat.le_of_ble_eq_true rfl) [_] rfl ?_
  intro X Γ σ sz P hX hpre hsz hP
  obtain ⟨h0, rfl⟩ := hpre
  obtain ⟨σ0, eσ0⟩ : ∃ z, z = σ := ⟨σ, rfl⟩
  rw [← eσ0] at hP
  have hF : Fr q (q + 7) σ0 σ := by rw [eσ0]; exact Fr.rf
  refine S_aload_n (q := 1) hX dX4_init_0 rfl rfl ?_
  refine S_callIN (host := "FanTalk") (q := 4) 6 220 hX (c_X3_init q kd) rfl (by decide) u_171 u_6 u_172 rfl ⟨by decide, by decide, rfl⟩ ⟨Nat.le_of_ble_eq_true rfl, Nat.le_of_ble_eq_true rfl⟩ ⟨Nat.le_of_ble_eq_true rfl, Nat.le_of_ble_eq_true rfl⟩ (Nat.le_of_ble_eq_true rfl) dX4_init_1 ?hp_1 rfl rfl rfl ?_
  case hp_1 => exact ⟨h0, rfl⟩
  rintro v σ sz1 ⟨hC1, hFn, rfl, rfl⟩
  have hF := hF.trans (hFn.mono (by omega) (by omega))
  refine S_vret hX dX4_init_4 (Nat.le_of_ble_eq_true rfl) (Nat.le_of_ble_eq_true rfl) ?_
  refine hP _ _ _ ?_
  exact ⟨hC1, hF, rfl, rfl⟩
abbrev CT_X5_init : List Value → (Gm → Sg → Nat → Prop) → (Gm → Sg → Nat → PO) → Prop := CT yX5_init cX5_init 1 (none) { frames := 3, cells := 6, slots := 220, locals := 60 }
theorem c_X5_init (q : Nat) (kd : Nat) : CT_X5_init [.ref q] (fun Γ σ sz => σ q = some (.inr (cik kd, [.null, .null, .int 0, .int 0, .null, .null, .null, .null, .int 0])) ∧ sz = q + 1) (fun Γ σ sz v σ' sz' => (CL σ' q 7 (shR (cik kd) q) (fun _ _ => 0)) ∧ Fr q (q + 7) σ σ' ∧ v = none ∧ sz' = q + 7) := by
  refine CT.mkP rfl (Nat.le_of_ble_eq_true rfl) [_] rfl ?_
  intro X Γ σ sz P hX hpre hsz hP
  obtain ⟨h0, rfl⟩ := hpre
  obtain ⟨σ0, eσ0⟩ : ∃ z, z = σ := ⟨σ, rfl⟩
  rw [← eσ0] at hP
  have hF : Fr q (q + 7) σ0 σ := by rw [eσ0]; exact Fr.rf
  refine S_aload_n (q := 1) hX dX5_init_0 rfl rfl ?_
  refine S_callIN (host := "FanTalk") (q := 4) 6 220 hX (c_X4_init q kd) rfl (by decide) u_209 u_7 u_210 rfl ⟨by decide, by decide, rfl⟩ ⟨Nat.le_of_ble_eq_true rfl, Nat.le_of_ble_eq_true rfl⟩ ⟨Nat.le_of_ble_eq_true rfl, Nat.le_of_ble_eq_true rfl⟩ (Nat.le_of_ble_eq_true rfl) dX5_init_1 ?hp_1 rfl rfl rfl ?_
  case hp_1 => exact ⟨h0, rfl⟩
  rintro v σ sz1 ⟨hC1, hFn, rfl, rfl⟩
  have hF := hF.trans (hFn.mono (by omega) (by omega))
  refine S_vret hX dX5_init_4 (Nat.le_of_ble_eq_true rfl) (Nat.le_of_ble_eq_true rfl) ?_
  refine hP _ _ _ ?_
  exact ⟨hC1, hF, rfl, rfl⟩
abbrev CT_X6_init : List Value → (Gm → Sg → Nat → Prop) → (Gm → Sg → Nat → PO) → Prop := CT yX6_init cX6_init 1 (none) { frames := 2, cells := 31, slots := 402, locals := 40 }
theorem c_X6_init (q : Nat) : CT_X6_init [.ref q] (fun Γ σ sz => σ q = some (.inr (6, [.null, .int 0])) ∧ sz = q + 1) (fun Γ σ sz v σ' sz' => (σ' q = some (.inr (6, [.ref (q + 1), .int 0])) ∧ σ' (q + 1) = some (.inl (4, 6, .inr (.inr (.inr (.inr fun k => some (q + (2 + 5 * tN (nI k)))))))) ∧ ∀ k, k < 6 → CL σ' (q + (2 + 5 * k)) 5 (shC (q + (2 + 5 * k))) (fun _ _ => 0)) ∧ Fr q (q + 32) σ σ' ∧ v = none ∧ sz' = q + 32) := by
  refine CT.mkP rfl (Nat.le_of_ble_eq_true rfl) [_] rfl ?_
  intro X Γ σ sz P hX hpre hsz hP
  obtain ⟨h0, rfl⟩ := hpre
  obtain ⟨σ0, eσ0⟩ : ∃ z, z = σ := ⟨σ, rfl⟩
  rw [← eσ0] at hP
  have hF : Fr q (q + 32) σ0 σ := by rw [eσ0]; exact Fr.rf
  refine S_aload_n (q := 1) hX dX6_init_0 rfl rfl ?_
  refine S_objInit (q := 4) hX u_72 u_26 u_27 (by decide) (Nat.le_of_ble_eq_true rfl) dX6_init_1 rfl ?_
  refine S_aload_n (q := 5) hX dX6_init_4 rfl rfl ?_
  refine S_bipush (q := 7) (v := 6) hX dX6_init_5 bp_6 rfl ?_
  refine S_anew (t := 4) (N := 6) (q := 10) hX rfl (by decide) u_73 (by decide) (by decide) rfl (by decide) (Nat.le_of_ble_eq_true rfl) (Nat.le_of_ble_eq_true rfl) dX6_init_7 (ow_le hsz (by omega)) rfl 1 6 rfl rfl ?_
  refine S_cell (fun σ hR hFn => ?_)
  have h0 := (hFn _ (by omega)).trans h0
  have hF := hF.trans (hFn.mono (by omega) (by omega))
  refine S_dup (q := 11) hX dX6_init_10 rfl rfl ?_
  refine S_iconst (q := 12) (v := 0) hX dX6_init_11 ic_0 rfl ?_
  refine S_new (ci := 2) [.int 0, .null, .null, .null, .null] (q := 15) hX rfl uw_X2 tyX2_ok u_73 u_35 u_3 (fun j hj => by rcases (show j = 0 ∨ j = 1 ∨ j = 2 ∨ j = 3 ∨ j = 4 by omega) with rfl | rfl | rfl | rfl | rfl <;> rfl) (Nat.le_of_ble_eq_true rfl) (Nat.le_of_ble_eq_true rfl) dX6_init_12 (ow_le hsz (by omega)) rfl 2 11 rfl rfl ?_
  refine S_cell (fun σ hN hFn => ?_)
  have h0 := (hFn _ (by omega)).trans h0
  have hR := (hFn _ (by omega)).trans hR
  have hF := hF.trans (hFn.mono (by omega) (by omega))
  refine S_dup (q := 16) hX dX6_init_15 rfl rfl ?_
  refine S_callIN (host := "FanTalk") (q := 19) 6 72 hX (c_X2_init _) rfl (by decide) u_37 u_3 u_38 rfl ⟨by decide, by decide, rfl⟩ ⟨Nat.le_of_ble_eq_true rfl, Nat.le_of_ble_eq_true rfl⟩ ⟨Nat.le_of_ble_eq_true rfl, Nat.le_of_ble_eq_true rfl⟩ (Nat.le_of_ble_eq_true rfl) dX6_init_16 ?hp_1 rfl rfl rfl ?_
  case hp_1 => exact ⟨hN, rfl⟩
  rintro v σ sz1 ⟨hC1, hFn, rfl, rfl⟩
  have h0 := (hFn _ (by omega)).trans h0
  have hR := (hFn _ (by omega)).trans hR
  have hF := hF.trans (hFn.mono (by omega) (by omega))
  refine S_aast (N := ?n_2) (f := ?f_2) (ci := ?ci_2) (vs := ?vs_2) (r := ?r_2) (q := 20) (t := 4) hX dX6_init_19 (by decide) rfl ?hs_2 ?hv_2 ?hc_2 ?hk_2 ?hi_2 rfl ?_
  case hs_2 => first | exact hR | exact h0
  case hv_2 => exact hC1 0 (by decide)
  case hc_2 => rfl
  case hk_2 => exact Or.inl rfl
  case hi_2 => exact vp_in_nI (show 0 < 6 by decide) (by decide)
  refine S_cell (fun σ hR hFn => ?_)
  have h0 := (hFn _ (by omega)).trans h0
  have hC1 := hC1.fr hFn (by omega)
  have hF := hF.trans (hFn.mono (by omega) (by omega))
  refine S_dup (q := 21) hX dX6_init_20 rfl rfl ?_
  refine S_iconst (q := 22) (v := 1) hX dX6_init_21 ic_1 rfl ?_
  refine S_new (ci := 2) [.int 0, .null, .null, .null, .null] (q := 25) hX rfl uw_X2 tyX2_ok u_73 u_35 u_3 (fun j hj => by rcases (show j = 0 ∨ j = 1 ∨ j = 2 ∨ j = 3 ∨ j = 4 by omega) with rfl | rfl | rfl | rfl | rfl <;> rfl) (Nat.le_of_ble_eq_true rfl) (Nat.le_of_ble_eq_true rfl) dX6_init_22 (ow_le hsz (by omega)) rfl 7 77 rfl rfl ?_
  refine S_cell (fun σ hN hFn => ?_)
  have h0 := (hFn _ (by omega)).trans h0
  have hR := (hFn _ (by omega)).trans hR
  have hC1 := hC1.fr hFn (by omega)
  have hF := hF.trans (hFn.mono (by omega) (by omega))
  refine S_dup (q := 26) hX dX6_init_25 rfl rfl ?_
  refine S_callIN (host := "FanTalk") (q := 29) 11 138 hX (c_X2_init _) rfl (by decide) u_37 u_3 u_38 rfl ⟨by decide, by decide, rfl⟩ ⟨Nat.le_of_ble_eq_true rfl, Nat.le_of_ble_eq_true rfl⟩ ⟨Nat.le_of_ble_eq_true rfl, Nat.le_of_ble_eq_true rfl⟩ (Nat.le_of_ble_eq_true rfl) dX6_init_26 ?hp_3 rfl rfl rfl ?_
  case hp_3 => exact ⟨hN, rfl⟩
  rintro v σ sz1 ⟨hC2, hFn, rfl, rfl⟩
  have h0 := (hFn _ (by omega)).trans h0
  have hR := (hFn _ (by omega)).trans hR
  have hC1 := hC1.fr hFn (by omega)
  have hF := hF.trans (hFn.mono (by omega) (by omega))
  refine S_aast (N := ?n_4) (f := ?f_4) (ci := ?ci_4) (vs := ?vs_4) (r := ?r_4) (q := 30) (t := 4) hX dX6_init_29 (by decide) rfl ?hs_4 ?hv_4 ?hc_4 ?hk_4 ?hi_4 rfl ?_
  case hs_4 => first | exact hR | exact h0
  case hv_4 => exact hC2 0 (by decide)
  case hc_4 => rfl
  case hk_4 => exact Or.inl rfl
  case hi_4 => exact vp_in_nI (show 1 < 6 by decide) (by decide)
  refine S_cell (fun σ hR hFn => ?_)
  have h0 := (hFn _ (by omega)).trans h0
  have hC1 := hC1.fr hFn (by omega)
  have hC2 := hC2.fr hFn (by omega)
  have hF := hF.trans (hFn.mono (by omega) (by omega))
  refine S_dup (q := 31) hX dX6_init_30 rfl rfl ?_
  refine S_iconst (q := 32) (v := 2) hX dX6_init_31 ic_2 rfl ?_
  refine S_new (ci := 2) [.int 0, .null, .null, .null, .null] (q := 35) hX rfl uw_X2 tyX2_ok u_73 u_35 u_3 (fun j hj => by rcases (show j = 0 ∨ j = 1 ∨ j = 2 ∨ j = 3 ∨ j = 4 by omega) with rfl | rfl | rfl | rfl | rfl <;> rfl) (Nat.le_of_ble_eq_true rfl) (Nat.le_of_ble_eq_true rfl) dX6_init_32 (ow_le hsz (by omega)) rfl 12 143 rfl rfl ?_
  refine S_cell (fun σ hN hFn => ?_)
  have h0 := (hFn _ (by omega)).trans h0
  have hR := (hFn _ (by omega)).trans hR
  have hC1 := hC1.fr hFn (by omega)
  have hC2 := hC2.fr hFn (by omega)
  have hF := hF.trans (hFn.mono (by omega) (by omega))
  refine S_dup (q := 36) hX dX6_init_35 rfl rfl ?_
  refine S_callIN (host := "FanTalk") (q := 39) 16 204 hX (c_X2_init _) rfl (by decide) u_37 u_3 u_38 rfl ⟨by decide, by decide, rfl⟩ ⟨Nat.le_of_ble_eq_true rfl, Nat.le_of_ble_eq_true rfl⟩ ⟨Nat.le_of_ble_eq_true rfl, Nat.le_of_ble_eq_true rfl⟩ (Nat.le_of_ble_eq_true rfl) dX6_init_36 ?hp_5 rfl rfl rfl ?_
  case hp_5 => exact ⟨hN, rfl⟩
  rintro v σ sz1 ⟨hC3, hFn, rfl, rfl⟩
  have h0 := (hFn _ (by omega)).trans h0
  have hR := (hFn _ (by omega)).trans hR
  have hC1 := hC1.fr hFn (by omega)
  have hC2 := hC2.fr hFn (by omega)
  have hF := hF.trans (hFn.mono (by omega) (by omega))
  refine S_aast (N := ?n_6) (f := ?f_6) (ci := ?ci_6) (vs := ?vs_6) (r := ?r_6) (q := 40) (t := 4) hX dX6_init_39 (by decide) rfl ?hs_6 ?hv_6 ?hc_6 ?hk_6 ?hi_6 rfl ?_
  case hs_6 => first | exact hR | exact h0
  case hv_6 => exact hC3 0 (by decide)
  case hc_6 => rfl
  case hk_6 => exact Or.inl rfl
  case hi_6 => exact vp_in_nI (show 2 < 6 by decide) (by decide)
  refine S_cell (fun σ hR hFn => ?_)
  have h0 := (hFn _ (by omega)).trans h0
  have hC1 := hC1.fr hFn (by omega)
  have hC2 := hC2.fr hFn (by omega)
  have hC3 := hC3.fr hFn (by omega)
  have hF := hF.trans (hFn.mono (by omega) (by omega))
  refine S_dup (q := 41) hX dX6_init_40 rfl rfl ?_
  refine S_iconst (q := 42) (v := 3) hX dX6_init_41 ic_3 rfl ?_
  refine S_new (ci := 2) [.int 0, .null, .null, .null, .null] (q := 45) hX rfl uw_X2 tyX2_ok u_73 u_35 u_3 (fun j hj => by rcases (show j = 0 ∨ j = 1 ∨ j = 2 ∨ j = 3 ∨ j = 4 by omega) with rfl | rfl | rfl | rfl | rfl <;> rfl) (Nat.le_of_ble_eq_true rfl) (Nat.le_of_ble_eq_true rfl) dX6_init_42 (ow_le hsz (by omega)) rfl 17 209 rfl rfl ?_
  refine S_cell (fun σ hN hFn => ?_)
  have h0 := (hFn _ (by omega)).trans h0
  have hR := (hFn _ (by omega)).trans hR
  have hC1 := hC1.fr hFn (by omega)
  have hC2 := hC2.fr hFn (by omega)
  have hC3 := hC3.fr hFn (by omega)
  have hF := hF.trans (hFn.mono (by omega) (by omega))
  refine S_dup (q := 46) hX dX6_init_45 rfl rfl ?_
  refine S_callIN (host := "FanTalk") (q := 49) 21 270 hX (c_X2_init _) rfl (by decide) u_37 u_3 u_38 rfl ⟨by decide, by decide, rfl⟩ ⟨Nat.le_of_ble_eq_true rfl, Nat.le_of_ble_eq_true rfl⟩ ⟨Nat.le_of_ble_eq_true rfl, Nat.le_of_ble_eq_true rfl⟩ (Nat.le_of_ble_eq_true rfl) dX6_init_46 ?hp_7 rfl rfl rfl ?_
  case hp_7 => exact ⟨hN, rfl⟩
  rintro v σ sz1 ⟨hC4, hFn, rfl, rfl⟩
  have h0 := (hFn _ (by omega)).trans h0
  have hR := (hFn _ (by omega)).trans hR
  have hC1 := hC1.fr hFn (by omega)
  have hC2 := hC2.fr hFn (by omega)
  have hC3 := hC3.fr hFn (by omega)
  have hF := hF.trans (hFn.mono (by omega) (by omega))
  refine S_aast (N := ?n_8) (f := ?f_8) (ci := ?ci_8) (vs := ?vs_8) (r := ?r_8) (q := 50) (t := 4) hX dX6_init_49 (by decide) rfl ?hs_8 ?hv_8 ?hc_8 ?hk_8 ?hi_8 rfl ?_
  case hs_8 => first | exact hR | exact h0
  case hv_8 => exact hC4 0 (by decide)
  case hc_8 => rfl
  case hk_8 => exact Or.inl rfl
  case hi_8 => exact vp_in_nI (show 3 < 6 by decide) (by decide)
  refine S_cell (fun σ hR hFn => ?_)
  have h0 := (hFn _ (by omega)).trans h0
  have hC1 := hC1.fr hFn (by omega)
  have hC2 := hC2.fr hFn (by omega)
  have hC3 := hC3.fr hFn (by omega)
  have hC4 := hC4.fr hFn (by omega)
  have hF := hF.trans (hFn.mono (by omega) (by omega))
  refine S_dup (q := 51) hX dX6_init_50 rfl rfl ?_
  refine S_iconst (q := 52) (v := 4) hX dX6_init_51 ic_4 rfl ?_
  refine S_new (ci := 2) [.int 0, .null, .null, .null, .null] (q := 55) hX rfl uw_X2 tyX2_ok u_73 u_35 u_3 (fun j hj => by rcases (show j = 0 ∨ j = 1 ∨ j = 2 ∨ j = 3 ∨ j = 4 by omega) with rfl | rfl | rfl | rfl | rfl <;> rfl) (Nat.le_of_ble_eq_true rfl) (Nat.le_of_ble_eq_true rfl) dX6_init_52 (ow_le hsz (by omega)) rfl 22 275 rfl rfl ?_
  refine S_cell (fun σ hN hFn => ?_)
  have h0 := (hFn _ (by omega)).trans h0
  have hR := (hFn _ (by omega)).trans hR
  have hC1 := hC1.fr hFn (by omega)
  have hC2 := hC2.fr hFn (by omega)
  have hC3 := hC3.fr hFn (by omega)
  have hC4 := hC4.fr hFn (by omega)
  have hF := hF.trans (hFn.mono (by omega) (by omega))
  refine S_dup (q := 56) hX dX6_init_55 rfl rfl ?_
  refine S_callIN (host := "FanTalk") (q := 59) 26 336 hX (c_X2_init _) rfl (by decide) u_37 u_3 u_38 rfl ⟨by decide, by decide, rfl⟩ ⟨Nat.le_of_ble_eq_true rfl, Nat.le_of_ble_eq_true rfl⟩ ⟨Nat.le_of_ble_eq_true rfl, Nat.le_of_ble_eq_true rfl⟩ (Nat.le_of_ble_eq_true rfl) dX6_init_56 ?hp_9 rfl rfl rfl ?_
  case hp_9 => exact ⟨hN, rfl⟩
  rintro v σ sz1 ⟨hC5, hFn, rfl, rfl⟩
  have h0 := (hFn _ (by omega)).trans h0
  have hR := (hFn _ (by omega)).trans hR
  have hC1 := hC1.fr hFn (by omega)
  have hC2 := hC2.fr hFn (by omega)
  have hC3 := hC3.fr hFn (by omega)
  have hC4 := hC4.fr hFn (by omega)
  have hF := hF.trans (hFn.mono (by omega) (by omega))
  refine S_aast (N := ?n_10) (f := ?f_10) (ci := ?ci_10) (vs := ?vs_10) (r := ?r_10) (q := 60) (t := 4) hX dX6_init_59 (by decide) rfl ?hs_10 ?hv_10 ?hc_10 ?hk_10 ?hi_10 rfl ?_
  case hs_10 => first | exact hR | exact h0
  case hv_10 => exact hC5 0 (by decide)
  case hc_10 => rfl
  case hk_10 => exact Or.inl rfl
  case hi_10 => exact vp_in_nI (show 4 < 6 by decide) (by decide)
  refine S_cell (fun σ hR hFn => ?_)
  have h0 := (hFn _ (by omega)).trans h0
  have hC1 := hC1.fr hFn (by omega)
  have hC2 := hC2.fr hFn (by omega)
  have hC3 := hC3.fr hFn (by omega)
  have hC4 := hC4.fr hFn (by omega)
  have hC5 := hC5.fr hFn (by omega)
  have hF := hF.trans (hFn.mono (by omega) (by omega))
  refine S_dup (q := 61) hX dX6_init_60 rfl rfl ?_
  refine S_iconst (q := 62) (v := 5) hX dX6_init_61 ic_5 rfl ?_
  refine S_new (ci := 2) [.int 0, .null, .null, .null, .null] (q := 65) hX rfl uw_X2 tyX2_ok u_73 u_35 u_3 (fun j hj => by rcases (show j = 0 ∨ j = 1 ∨ j = 2 ∨ j = 3 ∨ j = 4 by omega) with rfl | rfl | rfl | rfl | rfl <;> rfl) (Nat.le_of_ble_eq_true rfl) (Nat.le_of_ble_eq_true rfl) dX6_init_62 (ow_le hsz (by omega)) rfl 27 341 rfl rfl ?_
  refine S_cell (fun σ hN hFn => ?_)
  have h0 := (hFn _ (by omega)).trans h0
  have hR := (hFn _ (by omega)).trans hR
  have hC1 := hC1.fr hFn (by omega)
  have hC2 := hC2.fr hFn (by omega)
  have hC3 := hC3.fr hFn (by omega)
  have hC4 := hC4.fr hFn (by omega)
  have hC5 := hC5.fr hFn (by omega)
  have hF := hF.trans (hFn.mono (by omega) (by omega))
  refine S_dup (q := 66) hX dX6_init_65 rfl rfl ?_
  refine S_callIN (host := "FanTalk") (q := 69) 31 402 hX (c_X2_init _) rfl (by decide) u_37 u_3 u_38 rfl ⟨by decide, by decide, rfl⟩ ⟨Nat.le_of_ble_eq_true rfl, Nat.le_of_ble_eq_true rfl⟩ ⟨Nat.le_of_ble_eq_true rfl, Nat.le_of_ble_eq_true rfl⟩ (Nat.le_of_ble_eq_true rfl) dX6_init_66 ?hp_11 rfl rfl rfl ?_
  case hp_11 => exact ⟨hN, rfl⟩
  rintro v σ sz1 ⟨hC6, hFn, rfl, rfl⟩
  have h0 := (hFn _ (by omega)).trans h0
  have hR := (hFn _ (by omega)).trans hR
  have hC1 := hC1.fr hFn (by omega)
  have hC2 := hC2.fr hFn (by omega)
  have hC3 := hC3.fr hFn (by omega)
  have hC4 := hC4.fr hFn (by omega)
  have hC5 := hC5.fr hFn (by omega)
  have hF := hF.trans (hFn.mono (by omega) (by omega))
  refine S_aast (N := ?n_12) (f := ?f_12) (ci := ?ci_12) (vs := ?vs_12) (r := ?r_12) (q := 70) (t := 4) hX dX6_init_69 (by decide) rfl ?hs_12 ?hv_12 ?hc_12 ?hk_12 ?hi_12 rfl ?_
  case hs_12 => first | exact hR | exact h0
  case hv_12 => exact hC6 0 (by decide)
  case hc_12 => rfl
  case hk_12 => exact Or.inl rfl
  case hi_12 => exact vp_in_nI (show 5 < 6 by decide) (by decide)
  refine S_cell (fun σ hR hFn => ?_)
  have h0 := (hFn _ (by omega)).trans h0
  have hC1 := hC1.fr hFn (by omega)
  have hC2 := hC2.fr hFn (by omega)
  have hC3 := hC3.fr hFn (by omega)
  have hC4 := hC4.fr hFn (by omega)
  have hC5 := hC5.fr hFn (by omega)
  have hC6 := hC6.fr hFn (by omega)
  have hF := hF.trans (hFn.mono (by omega) (by omega))
  refine S_arr (f' := fun k => some (q + (2 + 5 * tN (nI k)))) hR (fun i hi => by rcases (show i = 0 ∨ i = 1 ∨ i = 2 ∨ i = 3 ∨ i = 4 ∨ i = 5 by omega) with rfl | rfl | rfl | rfl | rfl | rfl <;> first | rfl | (show some _ = some _; congr 1)) (fun σ hA hFn => ?_)
  have h0 := (hFn _ (by omega)).trans h0
  have hC1 := hC1.fr hFn (by omega)
  have hC2 := hC2.fr hFn (by omega)
  have hC3 := hC3.fr hFn (by omega)
  have hC4 := hC4.fr hFn (by omega)
  have hC5 := hC5.fr hFn (by omega)
  have hC6 := hC6.fr hFn (by omega)
  have hF := hF.trans (hFn.mono (by omega) (by omega))
  refine S_putF (fs := ?fs_13) (q := 73) hX rfl rfl u_76 fo_X6_before rfl rfl ?hl_13 dX6_init_70 ?hs_13 rfl ?_
  case hs_13 => first | exact hR | exact h0
  case hl_13 => exact Nat.le_of_ble_eq_true rfl
  refine S_cell (fun σ h0 hFn => ?_)
  have hA := (hFn _ (by omega)).trans hA
  have hC1 := hC1.fr hFn (by omega)
  have hC2 := hC2.fr hFn (by omega)
  have hC3 := hC3.fr hFn (by omega)
  have hC4 := hC4.fr hFn (by omega)
  have hC5 := hC5.fr hFn (by omega)
  have hC6 := hC6.fr hFn (by omega)
  have hF := hF.trans (hFn.mono (by omega) (by omega))
  refine S_vret hX dX6_init_73 (Nat.le_of_ble_eq_true rfl) (Nat.le_of_ble_eq_true rfl) ?_
  refine hP _ _ _ ?_
  refine ⟨⟨h0, hA, fun k hk => ?_⟩, hF, rfl, rfl⟩
  rcases (show k = 0 ∨ k = 1 ∨ k = 2 ∨ k = 3 ∨ k = 4 ∨ k = 5 by omega) with rfl | rfl | rfl | rfl | rfl | rfl
  · exact hC1
  · exact hC2
  · exact hC3
  · exact hC4
  · exact hC5
  · exact hC6
abbrev CT_X8_init : List Value → (Gm → Sg → Nat → Prop) → (Gm → Sg → Nat → PO) → Prop := CT yX8_init cX8_init 1 (none) { frames := 2, cells := 6, slots := 316, locals := 40 }
theorem c_X8_init (q : Nat) : CT_X8_init [.ref q] (fun Γ σ sz => σ q = some (.inr (8, [.null, .int 0, .null, .int 0, .int 0, .int 0, .int 0, .int 0, .int 0])) ∧ sz = q + 1) (fun Γ σ sz v σ' sz' => (CL σ' q 7 (shS q) (fun _ _ => 0)) ∧ Fr q (q + 7) σ σ' ∧ v = none ∧ sz' = q + 7) := by
  refine CT.mkP rfl (Nat.le_of_ble_eq_true rfl) [_] rfl ?_
  intro X Γ σ sz P hX hpre hsz hP
  obtain ⟨h0, rfl⟩ := hpre
  obtain ⟨σ0, eσ0⟩ : ∃ z, z = σ := ⟨σ, rfl⟩
  rw [← eσ0] at hP
  have hF : Fr q (q + 7) σ0 σ := by rw [eσ0]; exact Fr.rf
  refine S_aload_n (q := 1) hX dX8_init_0 rfl rfl ?_
  refine S_objInit (q := 4) hX u_131 u_26 u_27 (by decide) (Nat.le_of_ble_eq_true rfl) dX8_init_1 rfl ?_
  refine S_aload_n (q := 5) hX dX8_init_4 rfl rfl ?_
  refine S_sipush (q := 8) (v := 250) hX dX8_init_5 sp_250 rfl ?_
  refine S_newa (at0 := .int) (t := 0) (N := 250) (q := 10) hX rfl (by decide) u_66 (by decide) rfl (by decide) (Nat.le_of_ble_eq_true rfl) (Nat.le_of_ble_eq_true rfl) dX8_init_8 (ow_le hsz (by omega)) rfl 1 250 rfl rfl ?_
  refine S_cell (fun σ hA1 hFn => ?_)
  have h0 := (hFn _ (by omega)).trans h0
  have hF := hF.trans (hFn.mono (by omega) (by omega))
  refine S_putF (fs := ?fs_1) (q := 13) hX rfl rfl u_134 fo_X8_text rfl rfl ?hl_1 dX8_init_10 ?hs_1 rfl ?_
  case hs_1 => first | exact hR | exact h0
  case hl_1 => exact Nat.le_of_ble_eq_true rfl
  refine S_cell (fun σ h0 hFn => ?_)
  have hA1 := (hFn _ (by omega)).trans hA1
  have hF := hF.trans (hFn.mono (by omega) (by omega))
  refine S_aload_n (q := 14) hX dX8_init_13 rfl rfl ?_
  refine S_new (ci := 2) [.int 0, .null, .null, .null, .null] (q := 17) hX rfl uw_X2 tyX2_ok u_132 u_35 u_3 (fun j hj => by rcases (show j = 0 ∨ j = 1 ∨ j = 2 ∨ j = 3 ∨ j = 4 by omega) with rfl | rfl | rfl | rfl | rfl <;> rfl) (Nat.le_of_ble_eq_true rfl) (Nat.le_of_ble_eq_true rfl) dX8_init_14 (ow_le hsz (by omega)) rfl 2 255 rfl rfl ?_
  refine S_cell (fun σ hN hFn => ?_)
  have h0 := (hFn _ (by omega)).trans h0
  have hA1 := (hFn _ (by omega)).trans hA1
  have hF := hF.trans (hFn.mono (by omega) (by omega))
  refine S_dup (q := 18) hX dX8_init_17 rfl rfl ?_
  refine S_callIN (host := "FanTalk") (q := 21) 6 316 hX (c_X2_init _) rfl (by decide) u_37 u_3 u_38 rfl ⟨by decide, by decide, rfl⟩ ⟨Nat.le_of_ble_eq_true rfl, Nat.le_of_ble_eq_true rfl⟩ ⟨Nat.le_of_ble_eq_true rfl, Nat.le_of_ble_eq_true rfl⟩ (Nat.le_of_ble_eq_true rfl) dX8_init_18 ?hp_2 rfl rfl rfl ?_
  case hp_2 => exact ⟨hN, rfl⟩
  rintro v σ sz1 ⟨hC2, hFn, rfl, rfl⟩
  have h0 := (hFn _ (by omega)).trans h0
  have hA1 := (hFn _ (by omega)).trans hA1
  have hF := hF.trans (hFn.mono (by omega) (by omega))
  refine S_putF (fs := ?fs_3) (q := 24) hX rfl rfl u_137 fo_X8_fresh rfl rfl ?hl_3 dX8_init_21 ?hs_3 rfl ?_
  case hs_3 => first | exact hR | exact h0
  case hl_3 => exact Nat.le_of_ble_eq_true rfl
  refine S_cell (fun σ h0 hFn => ?_)
  have hA1 := (hFn _ (by omega)).trans hA1
  have hC2 := hC2.fr hFn (by omega)
  have hF := hF.trans (hFn.mono (by omega) (by omega))
  refine S_vret hX dX8_init_24 (Nat.le_of_ble_eq_true rfl) (Nat.le_of_ble_eq_true rfl) ?_
  refine hP _ _ _ ?_
  refine ⟨fun j hj => ?_, hF, rfl, rfl⟩
  rcases (show j = 0 ∨ j = 1 ∨ j = 2 ∨ j = 3 ∨ j = 4 ∨ j = 5 ∨ j = 6 by omega) with rfl | rfl | rfl | rfl | rfl | rfl | rfl
  · exact h0
  · exact hA1
  · exact hC2 0 (by decide)
  · exact hC2 1 (by decide)
  · exact hC2 2 (by decide)
  · exact hC2 3 (by decide)
  · exact hC2 4 (by decide)
abbrev zT : MF := fun j k => if j = 7 then nI k else 0
theorem zT_0 {j : Nat} (h : j ≠ 7) : zT j = fun _ => 0 := funext fun _ => if_neg h
abbrev CT_X9_init : List Value → (Gm → Sg → Nat → Prop) → (Gm → Sg → Nat → PO) → Prop := CT yX9_init cX9_init 1 (none) { frames := 3, cells := 41, slots := 496, locals := 60 }
theorem c_X9_init (q : Nat) : CT_X9_init [.ref q] (fun Γ σ sz => σ q = some (.inr (9, [.null, .null, .int 0, .null, .int 0, .null, .int 0, .null, .null, .int 0])) ∧ sz = q + 1) (fun Γ σ sz v σ' sz' => (CL σ' q 42 (shT q) zT) ∧ Fr q (q + 42) σ σ' ∧ v = none ∧ sz' = q + 42) := by
  refine CT.mkP rfl (Nat.le_of_ble_eq_true rfl) [_] rfl ?_
  intro X Γ σ sz P hX hpre hsz hP
  obtain ⟨h0, rfl⟩ := hpre
  obtain ⟨σ0, eσ0⟩ : ∃ z, z = σ := ⟨σ, rfl⟩
  rw [← eσ0] at hP
  have hF : Fr q (q + 42) σ0 σ := by rw [eσ0]; exact Fr.rf
  refine S_aload_n (q := 1) hX dX9_init_0 rfl rfl ?_
  refine S_objInit (q := 4) hX u_33 u_26 u_27 (by decide) (Nat.le_of_ble_eq_true rfl) dX9_init_1 rfl ?_
  refine S_aload_n (q := 5) hX dX9_init_4 rfl rfl ?_
  refine S_new (ci := 2) [.int 0, .null, .null, .null, .null] (q := 8) hX rfl uw_X2 tyX2_ok u_34 u_35 u_3 (fun j hj => by rcases (show j = 0 ∨ j = 1 ∨ j = 2 ∨ j = 3 ∨ j = 4 by omega) with rfl | rfl | rfl | rfl | rfl <;> rfl) (Nat.le_of_ble_eq_true rfl) (Nat.le_of_ble_eq_true rfl) dX9_init_5 (ow_le hsz (by omega)) rfl 1 5 rfl rfl ?_
  refine S_cell (fun σ hN hFn => ?_)
  have h0 := (hFn _ (by omega)).trans h0
  have hF := hF.trans (hFn.mono (by omega) (by omega))
  refine S_dup (q := 9) hX dX9_init_8 rfl rfl ?_
  refine S_callIN (host := "FanTalk") (q := 12) 5 66 hX (c_X2_init _) rfl (by decide) u_37 u_3 u_38 rfl ⟨by decide, by decide, rfl⟩ ⟨Nat.le_of_ble_eq_true rfl, Nat.le_of_ble_eq_true rfl⟩ ⟨Nat.le_of_ble_eq_true rfl, Nat.le_of_ble_eq_true rfl⟩ (Nat.le_of_ble_eq_true rfl) dX9_init_9 ?hp_1 rfl rfl rfl ?_
  case hp_1 => exact ⟨hN, rfl⟩
  rintro v σ sz1 ⟨hC1, hFn, rfl, rfl⟩
  have h0 := (hFn _ (by omega)).trans h0
  have hF := hF.trans (hFn.mono (by omega) (by omega))
  refine S_putF (fs := ?fs_2) (q := 15) hX rfl rfl u_84 fo_X9_codes rfl rfl ?hl_2 dX9_init_12 ?hs_2 rfl ?_
  case hs_2 => first | exact hR | exact h0
  case hl_2 => exact Nat.le_of_ble_eq_true rfl
  refine S_cell (fun σ h0 hFn => ?_)
  have hC1 := hC1.fr hFn (by omega)
  have hF := hF.trans (hFn.mono (by omega) (by omega))
  refine S_aload_n (q := 16) hX dX9_init_15 rfl rfl ?_
  refine S_new (ci := 6) [.null, .int 0] (q := 19) hX rfl uw_X6 tyX6_ok u_67 u_68 u_4 (fun j hj => by rcases (show j = 0 ∨ j = 1 by omega) with rfl | rfl <;> rfl) (Nat.le_of_ble_eq_true rfl) (Nat.le_of_ble_eq_true rfl) dX9_init_16 (ow_le hsz (by omega)) rfl 6 68 rfl rfl ?_
  refine S_cell (fun σ hN hFn => ?_)
  have h0 := (hFn _ (by omega)).trans h0
  have hC1 := hC1.fr hFn (by omega)
  have hF := hF.trans (hFn.mono (by omega) (by omega))
  refine S_dup (q := 20) hX dX9_init_19 rfl rfl ?_
  refine S_callIN (host := "FanTalk") (q := 23) 37 470 hX (c_X6_init _) rfl (by decide) u_70 u_4 u_71 rfl ⟨by decide, by decide, rfl⟩ ⟨Nat.le_of_ble_eq_true rfl, Nat.le_of_ble_eq_true rfl⟩ ⟨Nat.le_of_ble_eq_true rfl, Nat.le_of_ble_eq_true rfl⟩ (Nat.le_of_ble_eq_true rfl) dX9_init_20 ?hp_3 rfl rfl rfl ?_
  case hp_3 => exact ⟨hN, rfl⟩
  rintro v σ sz1 ⟨⟨hP0, hP1, hPc⟩, hFn, rfl, rfl⟩
  have h0 := (hFn _ (by omega)).trans h0
  have hC1 := hC1.fr hFn (by omega)
  have hF := hF.trans (hFn.mono (by omega) (by omega))
  refine S_putF (fs := ?fs_4) (q := 26) hX rfl rfl u_86 fo_X9_past rfl rfl ?hl_4 dX9_init_23 ?hs_4 rfl ?_
  case hs_4 => first | exact hR | exact h0
  case hl_4 => exact Nat.le_of_ble_eq_true rfl
  refine S_cell (fun σ h0 hFn => ?_)
  have hC1 := hC1.fr hFn (by omega)
  have hP0 := (hFn _ (by omega)).trans hP0
  have hP1 := (hFn _ (by omega)).trans hP1
  have hPc := fun k (hk : k < 6) => (hPc k hk).fr hFn (by omega)
  have hF := hF.trans (hFn.mono (by omega) (by omega))
  refine S_aload_n (q := 27) hX dX9_init_26 rfl rfl ?_
  refine S_bipush (q := 29) (v := 6) hX dX9_init_27 bp_6 rfl ?_
  refine S_newa (at0 := .int) (t := 0) (N := 6) (q := 31) hX rfl (by decide) u_66 (by decide) rfl (by decide) (Nat.le_of_ble_eq_true rfl) (Nat.le_of_ble_eq_true rfl) dX9_init_29 (ow_le hsz (by omega)) rfl 38 476 rfl rfl ?_
  refine S_cell (fun σ hA3 hFn => ?_)
  have h0 := (hFn _ (by omega)).trans h0
  have hC1 := hC1.fr hFn (by omega)
  have hP0 := (hFn _ (by omega)).trans hP0
  have hP1 := (hFn _ (by omega)).trans hP1
  have hPc := fun k (hk : k < 6) => (hPc k hk).fr hFn (by omega)
  have hF := hF.trans (hFn.mono (by omega) (by omega))
  refine S_putF (fs := ?fs_5) (q := 34) hX rfl rfl u_90 fo_X9_saying rfl rfl ?hl_5 dX9_init_31 ?hs_5 rfl ?_
  case hs_5 => first | exact hR | exact h0
  case hl_5 => exact Nat.le_of_ble_eq_true rfl
  refine S_cell (fun σ h0 hFn => ?_)
  have hC1 := hC1.fr hFn (by omega)
  have hP0 := (hFn _ (by omega)).trans hP0
  have hP1 := (hFn _ (by omega)).trans hP1
  have hPc := fun k (hk : k < 6) => (hPc k hk).fr hFn (by omega)
  have hA3 := (hFn _ (by omega)).trans hA3
  have hF := hF.trans (hFn.mono (by omega) (by omega))
  refine S_aload_n (q := 35) hX dX9_init_34 rfl rfl ?_
  refine S_iconst (q := 36) (v := 4) hX dX9_init_35 ic_4 rfl ?_
  refine S_newa (at0 := .int) (t := 0) (N := 4) (q := 38) hX rfl (by decide) u_66 (by decide) rfl (by decide) (Nat.le_of_ble_eq_true rfl) (Nat.le_of_ble_eq_true rfl) dX9_init_36 (ow_le hsz (by omega)) rfl 39 480 rfl rfl ?_
  refine S_cell (fun σ hA4 hFn => ?_)
  have h0 := (hFn _ (by omega)).trans h0
  have hC1 := hC1.fr hFn (by omega)
  have hP0 := (hFn _ (by omega)).trans hP0
  have hP1 := (hFn _ (by omega)).trans hP1
  have hPc := fun k (hk : k < 6) => (hPc k hk).fr hFn (by omega)
  have hA3 := (hFn _ (by omega)).trans hA3
  have hF := hF.trans (hFn.mono (by omega) (by omega))
  refine S_putF (fs := ?fs_6) (q := 41) hX rfl rfl u_94 fo_X9_want rfl rfl ?hl_6 dX9_init_38 ?hs_6 rfl ?_
  case hs_6 => first | exact hR | exact h0
  case hl_6 => exact Nat.le_of_ble_eq_true rfl
  refine S_cell (fun σ h0 hFn => ?_)
  have hC1 := hC1.fr hFn (by omega)
  have hP0 := (hFn _ (by omega)).trans hP0
  have hP1 := (hFn _ (by omega)).trans hP1
  have hPc := fun k (hk : k < 6) => (hPc k hk).fr hFn (by omega)
  have hA3 := (hFn _ (by omega)).trans hA3
  have hA4 := (hFn _ (by omega)).trans hA4
  have hF := hF.trans (hFn.mono (by omega) (by omega))
  refine S_aload_n (q := 42) hX dX9_init_41 rfl rfl ?_
  refine S_bipush (q := 44) (v := 8) hX dX9_init_42 bp_8 rfl ?_
  refine S_newa (at0 := .int) (t := 0) (N := 8) (q := 46) hX rfl (by decide) u_66 (by decide) rfl (by decide) (Nat.le_of_ble_eq_true rfl) (Nat.le_of_ble_eq_true rfl) dX9_init_44 (ow_le hsz (by omega)) rfl 40 488 rfl rfl ?_
  refine S_cell (fun σ hA5 hFn => ?_)
  have h0 := (hFn _ (by omega)).trans h0
  have hC1 := hC1.fr hFn (by omega)
  have hP0 := (hFn _ (by omega)).trans hP0
  have hP1 := (hFn _ (by omega)).trans hP1
  have hPc := fun k (hk : k < 6) => (hPc k hk).fr hFn (by omega)
  have hA3 := (hFn _ (by omega)).trans hA3
  have hA4 := (hFn _ (by omega)).trans hA4
  have hF := hF.trans (hFn.mono (by omega) (by omega))
  refine S_putF (fs := ?fs_7) (q := 49) hX rfl rfl u_98 fo_X9_factRows rfl rfl ?hl_7 dX9_init_46 ?hs_7 rfl ?_
  case hs_7 => first | exact hR | exact h0
  case hl_7 => exact Nat.le_of_ble_eq_true rfl
  refine S_cell (fun σ h0 hFn => ?_)
  have hC1 := hC1.fr hFn (by omega)
  have hP0 := (hFn _ (by omega)).trans hP0
  have hP1 := (hFn _ (by omega)).trans hP1
  have hPc := fun k (hk : k < 6) => (hPc k hk).fr hFn (by omega)
  have hA3 := (hFn _ (by omega)).trans hA3
  have hA4 := (hFn _ (by omega)).trans hA4
  have hA5 := (hFn _ (by omega)).trans hA5
  have hF := hF.trans (hFn.mono (by omega) (by omega))
  refine S_aload_n (q := 50) hX dX9_init_49 rfl rfl ?_
  refine S_bipush (q := 52) (v := 8) hX dX9_init_50 bp_8 rfl ?_
  refine S_newa (at0 := .int) (t := 0) (N := 8) (q := 54) hX rfl (by decide) u_66 (by decide) rfl (by decide) (Nat.le_of_ble_eq_true rfl) (Nat.le_of_ble_eq_true rfl) dX9_init_52 (ow_le hsz (by omega)) rfl 41 496 rfl rfl ?_
  refine S_cell (fun σ hA6 hFn => ?_)
  have h0 := (hFn _ (by omega)).trans h0
  have hC1 := hC1.fr hFn (by omega)
  have hP0 := (hFn _ (by omega)).trans hP0
  have hP1 := (hFn _ (by omega)).trans hP1
  have hPc := fun k (hk : k < 6) => (hPc k hk).fr hFn (by omega)
  have hA3 := (hFn _ (by omega)).trans hA3
  have hA4 := (hFn _ (by omega)).trans hA4
  have hA5 := (hFn _ (by omega)).trans hA5
  have hF := hF.trans (hFn.mono (by omega) (by omega))
  refine S_putF (fs := ?fs_8) (q := 57) hX rfl rfl u_100 fo_X9_factWords rfl rfl ?hl_8 dX9_init_54 ?hs_8 rfl ?_
  case hs_8 => first | exact hR | exact h0
  case hl_8 => exact Nat.le_of_ble_eq_true rfl
  refine S_cell (fun σ h0 hFn => ?_)
  have hC1 := hC1.fr hFn (by omega)
  have hP0 := (hFn _ (by omega)).trans hP0
  have hP1 := (hFn _ (by omega)).trans hP1
  have hPc := fun k (hk : k < 6) => (hPc k hk).fr hFn (by omega)
  have hA3 := (hFn _ (by omega)).trans hA3
  have hA4 := (hFn _ (by omega)).trans hA4
  have hA5 := (hFn _ (by omega)).trans hA5
  have hA6 := (hFn _ (by omega)).trans hA6
  have hF := hF.trans (hFn.mono (by omega) (by omega))
  refine S_vret hX dX9_init_57 (Nat.le_of_ble_eq_true rfl) (Nat.le_of_ble_eq_true rfl) ?_
  refine hP _ _ _ ?_
  refine ⟨fun j hj => ?_, hF, rfl, rfl⟩
  rcases (show j = 0 ∨ (1 ≤ j ∧ j < 6) ∨ j = 6 ∨ j = 7 ∨ (8 ≤ j ∧ j < 38) ∨ j = 38 ∨ j = 39 ∨ j = 40 ∨ j = 41 by omega) with rfl | h | rfl | rfl | h | rfl | rfl | rfl | rfl
  · exact h0
  · obtain ⟨b, hb, rfl⟩ : ∃ b, b < 5 ∧ j = 1 + b := ⟨j - 1, by omega, by omega⟩
    rw [cOf.sh (Or.inl rfl) b hb, zT_0 (by omega), ← Nat.add_assoc]
    exact hC1 b hb
  · exact hP0
  · rw [show q + 7 = q + 1 + 5 + 1 from rfl, hP1]
    show some (Sum.inl (4, 6, _)) = some (Sum.inl (4, 6, _))
    congr 8
    funext k
    show some (q + 1 + 5 + (2 + 5 * tN (nI k))) = some (q + (8 + 5 * tN (nI k)))
    congr 1
    omega
  · obtain ⟨a, b, ha, hb, rfl⟩ : ∃ a b, a < 6 ∧ b < 5 ∧ j = 8 + 5 * a + b := ⟨(j - 8) / 5, (j - 8) % 5, by omega, by omega, by omega⟩
    rw [cOf.sh (Or.inr ⟨a, ha, rfl⟩) b hb, zT_0 (by omega), show q + (8 + 5 * a + b) = q + 1 + 5 + (2 + 5 * a) + b by omega, show q + (8 + 5 * a) = q + 1 + 5 + (2 + 5 * a) by omega]
    exact hPc a ha b hb
  · exact hA3
  · exact hA4
  · exact hA5
  · exact hA6
abbrev CT_X12_init : List Value → (Gm → Sg → Nat → Prop) → (Gm → Sg → Nat → PO) → Prop := CT yX12_init cX12_init 1 (none) { frames := 1, cells := 8, slots := 2253, locals := 20 }
theorem c_X12_init (q : Nat) : CT_X12_init [.ref q] (fun Γ σ sz => σ q = some (.inr (12, [.null, .int 0, .null, .null, .null, .int 0, .int 0, .int 0, .int 0, .int 0, .int 0, .null, .int 0, .null, .null, .int 0, .null])) ∧ sz = q + 1) (fun Γ σ sz v σ' sz' => (CL σ' q 9 (shM q) (fun _ _ => 0)) ∧ Fr q (q + 9) σ σ' ∧ v = none ∧ sz' = q + 9) := by
  refine CT.mkP rfl (Nat.le_of_ble_eq_true rfl) [_] rfl ?_
  intro X Γ σ sz P hX hpre hsz hP
  obtain ⟨h0, rfl⟩ := hpre
  obtain ⟨σ0, eσ0⟩ : ∃ z, z = σ := ⟨σ, rfl⟩
  rw [← eσ0] at hP
  have hF : Fr q (q + 9) σ0 σ := by rw [eσ0]; exact Fr.rf
  refine S_aload_n (q := 1) hX dX12_init_0 rfl rfl ?_
  refine S_objInit (q := 4) hX u_781 u_26 u_27 (by decide) (Nat.le_of_ble_eq_true rfl) dX12_init_1 rfl ?_
  refine S_aload_n (q := 5) hX dX12_init_4 rfl rfl ?_
  refine S_sipush (q := 8) (v := 1812) hX dX12_init_5 sp_1812 rfl ?_
  refine S_newa (at0 := .int) (t := 0) (N := 1812) (q := 10) hX rfl (by decide) u_66 (by decide) rfl (by decide) (Nat.le_of_ble_eq_true rfl) (Nat.le_of_ble_eq_true rfl) dX12_init_8 (ow_le hsz (by omega)) rfl 1 1812 rfl rfl ?_
  refine S_cell (fun σ hA1 hFn => ?_)
  have h0 := (hFn _ (by omega)).trans h0
  have hF := hF.trans (hFn.mono (by omega) (by omega))
  refine S_putF (fs := ?fs_1) (q := 13) hX rfl rfl u_782 fo_X12_now rfl rfl ?hl_1 dX12_init_10 ?hs_1 rfl ?_
  case hs_1 => first | exact hR | exact h0
  case hl_1 => exact Nat.le_of_ble_eq_true rfl
  refine S_cell (fun σ h0 hFn => ?_)
  have hA1 := (hFn _ (by omega)).trans hA1
  have hF := hF.trans (hFn.mono (by omega) (by omega))
  refine S_aload_n (q := 14) hX dX12_init_13 rfl rfl ?_
  refine S_iconst (q := 15) (v := 2) hX dX12_init_14 ic_2 rfl ?_
  refine S_newa (at0 := .boolean) (t := 1) (N := 2) (q := 17) hX rfl (by decide) u_166 (by decide) rfl (by decide) (Nat.le_of_ble_eq_true rfl) (Nat.le_of_ble_eq_true rfl) dX12_init_15 (ow_le hsz (by omega)) rfl 2 1814 rfl rfl ?_
  refine S_cell (fun σ hA2 hFn => ?_)
  have h0 := (hFn _ (by omega)).trans h0
  have hA1 := (hFn _ (by omega)).trans hA1
  have hF := hF.trans (hFn.mono (by omega) (by omega))
  refine S_putF (fs := ?fs_2) (q := 20) hX rfl rfl u_784 fo_X12_isKept rfl rfl ?hl_2 dX12_init_17 ?hs_2 rfl ?_
  case hs_2 => first | exact hR | exact h0
  case hl_2 => exact Nat.le_of_ble_eq_true rfl
  refine S_cell (fun σ h0 hFn => ?_)
  have hA1 := (hFn _ (by omega)).trans hA1
  have hA2 := (hFn _ (by omega)).trans hA2
  have hF := hF.trans (hFn.mono (by omega) (by omega))
  refine S_aload_n (q := 21) hX dX12_init_20 rfl rfl ?_
  refine S_iconst (q := 22) (v := 3) hX dX12_init_21 ic_3 rfl ?_
  refine S_newa (at0 := .int) (t := 0) (N := 3) (q := 24) hX rfl (by decide) u_66 (by decide) rfl (by decide) (Nat.le_of_ble_eq_true rfl) (Nat.le_of_ble_eq_true rfl) dX12_init_22 (ow_le hsz (by omega)) rfl 3 1817 rfl rfl ?_
  refine S_cell (fun σ hA3 hFn => ?_)
  have h0 := (hFn _ (by omega)).trans h0
  have hA1 := (hFn _ (by omega)).trans hA1
  have hA2 := (hFn _ (by omega)).trans hA2
  have hF := hF.trans (hFn.mono (by omega) (by omega))
  refine S_putF (fs := ?fs_3) (q := 27) hX rfl rfl u_785 fo_X12_refused rfl rfl ?hl_3 dX12_init_24 ?hs_3 rfl ?_
  case hs_3 => first | exact hR | exact h0
  case hl_3 => exact Nat.le_of_ble_eq_true rfl
  refine S_cell (fun σ h0 hFn => ?_)
  have hA1 := (hFn _ (by omega)).trans hA1
  have hA2 := (hFn _ (by omega)).trans hA2
  have hA3 := (hFn _ (by omega)).trans hA3
  have hF := hF.trans (hFn.mono (by omega) (by omega))
  refine S_aload_n (q := 28) hX dX12_init_27 rfl rfl ?_
  refine S_sipush (q := 31) (v := 250) hX dX12_init_28 sp_250 rfl ?_
  refine S_newa (at0 := .byte) (t := 2) (N := 250) (q := 33) hX rfl (by decide) u_488 (by decide) rfl (by decide) (Nat.le_of_ble_eq_true rfl) (Nat.le_of_ble_eq_true rfl) dX12_init_31 (ow_le hsz (by omega)) rfl 4 2067 rfl rfl ?_
  refine S_cell (fun σ hA4 hFn => ?_)
  have h0 := (hFn _ (by omega)).trans h0
  have hA1 := (hFn _ (by omega)).trans hA1
  have hA2 := (hFn _ (by omega)).trans hA2
  have hA3 := (hFn _ (by omega)).trans hA3
  have hF := hF.trans (hFn.mono (by omega) (by omega))
  refine S_putF (fs := ?fs_4) (q := 36) hX rfl rfl u_786 fo_X12_text rfl rfl ?hl_4 dX12_init_33 ?hs_4 rfl ?_
  case hs_4 => first | exact hR | exact h0
  case hl_4 => exact Nat.le_of_ble_eq_true rfl
  refine S_cell (fun σ h0 hFn => ?_)
  have hA1 := (hFn _ (by omega)).trans hA1
  have hA2 := (hFn _ (by omega)).trans hA2
  have hA3 := (hFn _ (by omega)).trans hA3
  have hA4 := (hFn _ (by omega)).trans hA4
  have hF := hF.trans (hFn.mono (by omega) (by omega))
  refine S_aload_n (q := 37) hX dX12_init_36 rfl rfl ?_
  refine S_bipush (q := 39) (v := 60) hX dX12_init_37 bp_60 rfl ?_
  refine S_newa (at0 := .int) (t := 0) (N := 60) (q := 41) hX rfl (by decide) u_66 (by decide) rfl (by decide) (Nat.le_of_ble_eq_true rfl) (Nat.le_of_ble_eq_true rfl) dX12_init_39 (ow_le hsz (by omega)) rfl 5 2127 rfl rfl ?_
  refine S_cell (fun σ hA5 hFn => ?_)
  have h0 := (hFn _ (by omega)).trans h0
  have hA1 := (hFn _ (by omega)).trans hA1
  have hA2 := (hFn _ (by omega)).trans hA2
  have hA3 := (hFn _ (by omega)).trans hA3
  have hA4 := (hFn _ (by omega)).trans hA4
  have hF := hF.trans (hFn.mono (by omega) (by omega))
  refine S_putF (fs := ?fs_5) (q := 44) hX rfl rfl u_793 fo_X12_made rfl rfl ?hl_5 dX12_init_41 ?hs_5 rfl ?_
  case hs_5 => first | exact hR | exact h0
  case hl_5 => exact Nat.le_of_ble_eq_true rfl
  refine S_cell (fun σ h0 hFn => ?_)
  have hA1 := (hFn _ (by omega)).trans hA1
  have hA2 := (hFn _ (by omega)).trans hA2
  have hA3 := (hFn _ (by omega)).trans hA3
  have hA4 := (hFn _ (by omega)).trans hA4
  have hA5 := (hFn _ (by omega)).trans hA5
  have hF := hF.trans (hFn.mono (by omega) (by omega))
  refine S_aload_n (q := 45) hX dX12_init_44 rfl rfl ?_
  refine S_bipush (q := 47) (v := 60) hX dX12_init_45 bp_60 rfl ?_
  refine S_newa (at0 := .int) (t := 0) (N := 60) (q := 49) hX rfl (by decide) u_66 (by decide) rfl (by decide) (Nat.le_of_ble_eq_true rfl) (Nat.le_of_ble_eq_true rfl) dX12_init_47 (ow_le hsz (by omega)) rfl 6 2187 rfl rfl ?_
  refine S_cell (fun σ hA6 hFn => ?_)
  have h0 := (hFn _ (by omega)).trans h0
  have hA1 := (hFn _ (by omega)).trans hA1
  have hA2 := (hFn _ (by omega)).trans hA2
  have hA3 := (hFn _ (by omega)).trans hA3
  have hA4 := (hFn _ (by omega)).trans hA4
  have hA5 := (hFn _ (by omega)).trans hA5
  have hF := hF.trans (hFn.mono (by omega) (by omega))
  refine S_putF (fs := ?fs_6) (q := 52) hX rfl rfl u_795 fo_X12_view rfl rfl ?hl_6 dX12_init_49 ?hs_6 rfl ?_
  case hs_6 => first | exact hR | exact h0
  case hl_6 => exact Nat.le_of_ble_eq_true rfl
  refine S_cell (fun σ h0 hFn => ?_)
  have hA1 := (hFn _ (by omega)).trans hA1
  have hA2 := (hFn _ (by omega)).trans hA2
  have hA3 := (hFn _ (by omega)).trans hA3
  have hA4 := (hFn _ (by omega)).trans hA4
  have hA5 := (hFn _ (by omega)).trans hA5
  have hA6 := (hFn _ (by omega)).trans hA6
  have hF := hF.trans (hFn.mono (by omega) (by omega))
  refine S_aload_n (q := 53) hX dX12_init_52 rfl rfl ?_
  refine S_bipush (q := 55) (v := 60) hX dX12_init_53 bp_60 rfl ?_
  refine S_newa (at0 := .int) (t := 0) (N := 60) (q := 57) hX rfl (by decide) u_66 (by decide) rfl (by decide) (Nat.le_of_ble_eq_true rfl) (Nat.le_of_ble_eq_true rfl) dX12_init_55 (ow_le hsz (by omega)) rfl 7 2247 rfl rfl ?_
  refine S_cell (fun σ hA7 hFn => ?_)
  have h0 := (hFn _ (by omega)).trans h0
  have hA1 := (hFn _ (by omega)).trans hA1
  have hA2 := (hFn _ (by omega)).trans hA2
  have hA3 := (hFn _ (by omega)).trans hA3
  have hA4 := (hFn _ (by omega)).trans hA4
  have hA5 := (hFn _ (by omega)).trans hA5
  have hA6 := (hFn _ (by omega)).trans hA6
  have hF := hF.trans (hFn.mono (by omega) (by omega))
  refine S_putF (fs := ?fs_7) (q := 60) hX rfl rfl u_796 fo_X12_words rfl rfl ?hl_7 dX12_init_57 ?hs_7 rfl ?_
  case hs_7 => first | exact hR | exact h0
  case hl_7 => exact Nat.le_of_ble_eq_true rfl
  refine S_cell (fun σ h0 hFn => ?_)
  have hA1 := (hFn _ (by omega)).trans hA1
  have hA2 := (hFn _ (by omega)).trans hA2
  have hA3 := (hFn _ (by omega)).trans hA3
  have hA4 := (hFn _ (by omega)).trans hA4
  have hA5 := (hFn _ (by omega)).trans hA5
  have hA6 := (hFn _ (by omega)).trans hA6
  have hA7 := (hFn _ (by omega)).trans hA7
  have hF := hF.trans (hFn.mono (by omega) (by omega))
  refine S_aload_n (q := 61) hX dX12_init_60 rfl rfl ?_
  refine S_bipush (q := 63) (v := 6) hX dX12_init_61 bp_6 rfl ?_
  refine S_newa (at0 := .int) (t := 0) (N := 6) (q := 65) hX rfl (by decide) u_66 (by decide) rfl (by decide) (Nat.le_of_ble_eq_true rfl) (Nat.le_of_ble_eq_true rfl) dX12_init_63 (ow_le hsz (by omega)) rfl 8 2253 rfl rfl ?_
  refine S_cell (fun σ hA8 hFn => ?_)
  have h0 := (hFn _ (by omega)).trans h0
  have hA1 := (hFn _ (by omega)).trans hA1
  have hA2 := (hFn _ (by omega)).trans hA2
  have hA3 := (hFn _ (by omega)).trans hA3
  have hA4 := (hFn _ (by omega)).trans hA4
  have hA5 := (hFn _ (by omega)).trans hA5
  have hA6 := (hFn _ (by omega)).trans hA6
  have hA7 := (hFn _ (by omega)).trans hA7
  have hF := hF.trans (hFn.mono (by omega) (by omega))
  refine S_putF (fs := ?fs_8) (q := 68) hX rfl rfl u_798 fo_X12_first rfl rfl ?hl_8 dX12_init_65 ?hs_8 rfl ?_
  case hs_8 => first | exact hR | exact h0
  case hl_8 => exact Nat.le_of_ble_eq_true rfl
  refine S_cell (fun σ h0 hFn => ?_)
  have hA1 := (hFn _ (by omega)).trans hA1
  have hA2 := (hFn _ (by omega)).trans hA2
  have hA3 := (hFn _ (by omega)).trans hA3
  have hA4 := (hFn _ (by omega)).trans hA4
  have hA5 := (hFn _ (by omega)).trans hA5
  have hA6 := (hFn _ (by omega)).trans hA6
  have hA7 := (hFn _ (by omega)).trans hA7
  have hA8 := (hFn _ (by omega)).trans hA8
  have hF := hF.trans (hFn.mono (by omega) (by omega))
  refine S_aload_n (q := 69) hX dX12_init_68 rfl rfl ?_
  refine S_iconst (q := 70) (v := 0) hX dX12_init_69 ic_0 rfl ?_
  refine S_putf (fs := ?fs_9) (q := 73) hX u_787 fo_X12_typed rfl rfl ?hl_9 dX12_init_70 ?hs_9 rfl ?_
  case hs_9 => first | exact hR | exact h0
  case hl_9 => exact Nat.le_of_ble_eq_true rfl
  refine S_cell (fun σ h0 hFn => ?_)
  have hA1 := (hFn _ (by omega)).trans hA1
  have hA2 := (hFn _ (by omega)).trans hA2
  have hA3 := (hFn _ (by omega)).trans hA3
  have hA4 := (hFn _ (by omega)).trans hA4
  have hA5 := (hFn _ (by omega)).trans hA5
  have hA6 := (hFn _ (by omega)).trans hA6
  have hA7 := (hFn _ (by omega)).trans hA7
  have hA8 := (hFn _ (by omega)).trans hA8
  have hF := hF.trans (hFn.mono (by omega) (by omega))
  refine S_vret hX dX12_init_73 (Nat.le_of_ble_eq_true rfl) (Nat.le_of_ble_eq_true rfl) ?_
  refine hP _ _ _ ?_
  refine ⟨fun j hj => ?_, hF, rfl, rfl⟩
  rcases (show j = 0 ∨ j = 1 ∨ j = 2 ∨ j = 3 ∨ j = 4 ∨ j = 5 ∨ j = 6 ∨ j = 7 ∨ j = 8 by omega) with rfl | rfl | rfl | rfl | rfl | rfl | rfl | rfl | rfl
  · exact h0
  · exact hA1
  · exact hA2
  · exact hA3
  · exact hA4
  · exact hA5
  · exact hA6
  · exact hA7
  · exact hA8
