theorem TkR.past {f f' : MF} {C : CtT} {B : BkT} {p : Nat × (Nat → BkT)} (h : TkR f C) (hB : CoR (fun j => f' (1 + j)) B) (hp : PaR f' p) (e : ∀ j, j = 0 ∨ 38 ≤ j → j < 42 → f' j = f j) : TkR f' (B, p, C.2.2) := by
  obtain ⟨r0, r1, r2, r3, r4, r5, r6, r7, r8⟩ := h
  have e0 := e 0 (by decide) (by decide)
  exact ⟨hB, hp, by rw [e0]; exact r2, by rw [e0]; exact r3, fun k hk => by rw [e 38 (by decide) (by decide)]; exact r4 k hk, by rw [e0]; exact r5, fun k hk => by rw [e 39 (by decide) (by decide)]; exact r6 k hk, by rw [e0]; exact r7, fun k hk => by rw [e 40 (by decide) (by decide), e 41 (by decide) (by decide)]; exact r8 k hk⟩
theorem rdP_ok {T : TxT} (hb : ∀ i, i < T.1 → T.2 i < 256) : ∀ f k P, PsOk T P → PsOk T (rdP T f k P).2 := by
  intro f
  induction f with
  | zero => intro k P h; exact h
  | succ f ih =>
    intro k P h
    rw [rdP]
    split
    · exact ih (k + 1) _ (itP_ok hb h).1
    · exact h
theorem sp1 {f g : MF} {j : Nat} (h : j < 42) : spl f 1 42 g (1 + j) = g j := by rw [spl_in ⟨by omega, by omega⟩, show 1 + j - 1 = j by omega]

theorem c_X11_entry (q : Nat) (γ : MF) (S : ST) (x y z : Int32) : CT_X11_entry [.ref q, .int x, .int y, .int z] (fun Γ σ sz => FK σ q γ ∧ FR γ S ∧ StOk S) (fun Γ σ sz v σ' sz' => ∃ γ', FK σ' q γ' ∧ Fr q (q + 179) σ σ' ∧ v = some (.int (sp_entry S x y z).1) ∧ FR γ' (sp_entry S x y z).2 ∧ sz' = sz) := by
  refine CT.mkP rfl (Nat.le_of_ble_eq_true rfl) [_, _, _, _, _] rfl ?_
  intro X Γ σ sz P hX hpre hsz hP
  obtain ⟨hM, hR, ok⟩ := hpre
  obtain ⟨σ0, eσ0⟩ : ∃ z, z = σ := ⟨σ, rfl⟩
  rw [← eσ0] at hP
  have hF : Fr q (q + 179) σ0 σ := by rw [eσ0]; exact Fr.rf
  obtain ⟨r0, r1, r2, r3, r4, r5⟩ := id hR
  obtain ⟨t0, t1, t2, t3, t4, t5, t6, t7, t8⟩ := id r0
  obtain ⟨o1, o2, o3, o4, o5, o6, o7, o8, o9, o10⟩ := id ok.1
  have hco : CoR (fun j => γ (2 + j)) S.1.1 := t0.ext (fun j hj => by show γ (2 + j) = γ (1 + (1 + j)); congr 1; omega)
  refine S_iload_n (q := 1) hX dX11_entry_0 rfl rfl ?_
  refine S_callS (q := 4) 0 0 hX (c_X7_beats z) rfl u_335 u_336 u_13 u_337 ⟨by decide, by decide, rfl⟩ ⟨Nat.le_of_ble_eq_true rfl, Nat.le_of_ble_eq_true rfl⟩ ⟨Nat.le_of_ble_eq_true rfl, Nat.le_of_ble_eq_true rfl⟩ (Nat.le_of_ble_eq_true rfl) dX11_entry_1 ?hp_1 rfl rfl rfl ?_
  case hp_1 => trivial
  rintro v σ1 sz1 ⟨rfl, rfl, rfl⟩
  refine S_istore (q := 6) [_, _, _, _, _] hX dX11_entry_4 rfl (Nat.le_of_ble_eq_true rfl) rfl rfl ?_
  refine S_aload_n (q := 7) hX dX11_entry_6 rfl rfl ?_
  refine S_iload_n (q := 8) hX dX11_entry_7 rfl rfl ?_
  refine S_callV (ci := 11) (C := "FanTalk") (T := TX11) (N := 11) (q := 11) 0 0 hX (c_X11_isCode q γ S _) rfl ?hs_2 rfl u_338 u_340 us_1 u_1 u_341 ⟨by decide, by decide, rfl⟩ ⟨Nat.le_of_ble_eq_true rfl, Nat.le_of_ble_eq_true rfl⟩ ⟨Nat.le_of_ble_eq_true rfl, Nat.le_of_ble_eq_true rfl⟩ (Nat.le_of_ble_eq_true rfl) dX11_entry_8 ?hp_2 rfl rfl rfl ?_
  case hs_2 => first | with_reducible assumption | exact ⟨_, FK.c0 hM⟩ | exact ⟨_, FK.c2 hM⟩ | exact ⟨_, FK.c7 hM⟩ | exact ⟨_, FK.c129 hM⟩ | exact ⟨_, FK.c173 hM⟩ | exact ⟨_, FK.c1 hM⟩
  case hp_2 => exact ⟨hM, hR, ok⟩
  rintro v σ1 sz1 ⟨rfl, rfl, rfl⟩
  refine S_if_eq_b (q := 14) 33 hX dX11_entry_11 rfl rfl (fun c11 => ?_) (fun c11 => ?_)
  · refine S_aload_n (q := 34) hX dX11_entry_33 rfl rfl ?_
    refine S_bipush (q := 36) (v := (-2)) hX dX11_entry_34 bp_m2 rfl ?_
    refine S_bipush (q := 38) (v := (-2)) hX dX11_entry_36 bp_m2 rfl ?_
    refine S_callV (ci := 11) (C := "FanTalk") (T := TX11) (N := 11) (q := 41) 0 0 hX (c_X11_refused q γ _ _ 0 (by decide)) rfl ?hs_3 rfl u_323 u_325 us_0 u_1 u_326 ⟨by decide, by decide, rfl⟩ ⟨Nat.le_of_ble_eq_true rfl, Nat.le_of_ble_eq_true rfl⟩ ⟨Nat.le_of_ble_eq_true rfl, Nat.le_of_ble_eq_true rfl⟩ (Nat.le_of_ble_eq_true rfl) dX11_entry_38 ?hp_3 rfl rfl rfl ?_
    case hs_3 => first | with_reducible assumption | exact ⟨_, FK.c0 hM⟩ | exact ⟨_, FK.c2 hM⟩ | exact ⟨_, FK.c7 hM⟩ | exact ⟨_, FK.c129 hM⟩ | exact ⟨_, FK.c173 hM⟩ | exact ⟨_, FK.c1 hM⟩
    case hp_3 => exact ⟨hM, by decide⟩
    rintro v σ sz1 ⟨μ9, hM, hF1, rfl, e9, rfl⟩
    have hF := hF.trans hF1
    refine S_iret hX dX11_entry_41 (Nat.zero_le _) (Nat.zero_le _) ?_
    refine hP _ _ _ ?_
    have hsp : sp_entry S x y z = (-2, rfS S 0) := by unfold sp_entry ent_bad; rw [if_pos (Or.inl c11)]
    rw [hsp]
    exact ⟨_, hM, hF, rfl, hR.rf ok e9, rfl⟩
  · have cx := okc.ex c11
    have hcx := o2.2.1 (tN x) cx.2.1
    refine S_iload_n (q := 15) hX dX11_entry_14 rfl rfl ?_
    refine S_callS (q := 18) 0 0 hX (c_X11_isWord _) rfl u_342 u_343 u_1 u_344 ⟨by decide, by decide, rfl⟩ ⟨Nat.le_of_ble_eq_true rfl, Nat.le_of_ble_eq_true rfl⟩ ⟨Nat.le_of_ble_eq_true rfl, Nat.le_of_ble_eq_true rfl⟩ (Nat.le_of_ble_eq_true rfl) dX11_entry_15 ?hp_4 rfl rfl rfl ?_
    case hp_4 => trivial
    rintro v σ1 sz1 ⟨rfl, rfl, rfl⟩
    refine S_if_eq_b (q := 21) 33 hX dX11_entry_18 rfl rfl (fun c18 => ?_) (fun c18 => ?_)
    · refine S_aload_n (q := 34) hX dX11_entry_33 rfl rfl ?_
      refine S_bipush (q := 36) (v := (-2)) hX dX11_entry_34 bp_m2 rfl ?_
      refine S_bipush (q := 38) (v := (-2)) hX dX11_entry_36 bp_m2 rfl ?_
      refine S_callV (ci := 11) (C := "FanTalk") (T := TX11) (N := 11) (q := 41) 0 0 hX (c_X11_refused q γ _ _ 0 (by decide)) rfl ?hs_5 rfl u_323 u_325 us_0 u_1 u_326 ⟨by decide, by decide, rfl⟩ ⟨Nat.le_of_ble_eq_true rfl, Nat.le_of_ble_eq_true rfl⟩ ⟨Nat.le_of_ble_eq_true rfl, Nat.le_of_ble_eq_true rfl⟩ (Nat.le_of_ble_eq_true rfl) dX11_entry_38 ?hp_5 rfl rfl rfl ?_
      case hs_5 => first | with_reducible assumption | exact ⟨_, FK.c0 hM⟩ | exact ⟨_, FK.c2 hM⟩ | exact ⟨_, FK.c7 hM⟩ | exact ⟨_, FK.c129 hM⟩ | exact ⟨_, FK.c173 hM⟩ | exact ⟨_, FK.c1 hM⟩
      case hp_5 => exact ⟨hM, by decide⟩
      rintro v σ sz1 ⟨μ9, hM, hF1, rfl, e9, rfl⟩
      have hF := hF.trans hF1
      refine S_iret hX dX11_entry_41 (Nat.zero_le _) (Nat.zero_le _) ?_
      refine hP _ _ _ ?_
      have hsp : sp_entry S x y z = (-2, rfS S 0) := by unfold sp_entry ent_bad; rw [if_pos (Or.inr (Or.inl c18))]
      rw [hsp]
      exact ⟨_, hM, hF, rfl, hR.rf ok e9, rfl⟩
    · have cy := tN_ex c18.1
      refine S_iload (q := 23) hX dX11_entry_21 rfl rfl ?_
      refine S_iconst (q := 24) (v := 1) hX dX11_entry_23 ic_1 rfl ?_
      refine S_icmp_lt (q := 27) 33 hX dX11_entry_24 rfl rfl (fun c24 => ?_) (fun c24 => ?_)
      · have k24 := c24
        rw [show (1 : Int32) = nI 1 from rfl, nI_ltI (by have := lnZ_6 z.toInt; omega) (by have := lnZ_6 z.toInt; omega)] at k24
        refine S_aload_n (q := 34) hX dX11_entry_33 rfl rfl ?_
        refine S_bipush (q := 36) (v := (-2)) hX dX11_entry_34 bp_m2 rfl ?_
        refine S_bipush (q := 38) (v := (-2)) hX dX11_entry_36 bp_m2 rfl ?_
        refine S_callV (ci := 11) (C := "FanTalk") (T := TX11) (N := 11) (q := 41) 0 0 hX (c_X11_refused q γ _ _ 0 (by decide)) rfl ?hs_6 rfl u_323 u_325 us_0 u_1 u_326 ⟨by decide, by decide, rfl⟩ ⟨Nat.le_of_ble_eq_true rfl, Nat.le_of_ble_eq_true rfl⟩ ⟨Nat.le_of_ble_eq_true rfl, Nat.le_of_ble_eq_true rfl⟩ (Nat.le_of_ble_eq_true rfl) dX11_entry_38 ?hp_6 rfl rfl rfl ?_
        case hs_6 => first | with_reducible assumption | exact ⟨_, FK.c0 hM⟩ | exact ⟨_, FK.c2 hM⟩ | exact ⟨_, FK.c7 hM⟩ | exact ⟨_, FK.c129 hM⟩ | exact ⟨_, FK.c173 hM⟩ | exact ⟨_, FK.c1 hM⟩
        case hp_6 => exact ⟨hM, by decide⟩
        rintro v σ sz1 ⟨μ9, hM, hF1, rfl, e9, rfl⟩
        have hF := hF.trans hF1
        refine S_iret hX dX11_entry_41 (Nat.zero_le _) (Nat.zero_le _) ?_
        refine hP _ _ _ ?_
        have hsp : sp_entry S x y z = (-2, rfS S 0) := by unfold sp_entry ent_bad; rw [if_pos (Or.inr (Or.inr (fun w => by omega)))]
        rw [hsp]
        exact ⟨_, hM, hF, rfl, hR.rf ok e9, rfl⟩
      · have k24 := c24
        rw [show (1 : Int32) = nI 1 from rfl, nI_ltI (by have := lnZ_6 z.toInt; omega) (by have := lnZ_6 z.toInt; omega)] at k24
        refine S_iload (q := 29) hX dX11_entry_27 rfl rfl ?_
        refine S_iconst (q := 30) (v := 3) hX dX11_entry_29 ic_3 rfl ?_
        refine S_icmp_le (q := 33) 42 hX dX11_entry_30 rfl rfl (fun c30 => ?_) (fun c30 => ?_)
        · have k30 := c30
          rw [show (3 : Int32) = nI 3 from rfl, nI_leI (by have := lnZ_6 z.toInt; omega) (by have := lnZ_6 z.toInt; omega)] at k30
          have cz := lnZ_row (x := z) (by omega)
          refine S_aload_n (q := 43) hX dX11_entry_42 rfl rfl ?_
          refine S_getf (fs := ?fs_7) (v := ?v_7) (q := 46) hX u_285 fo_X11_now dX11_entry_43 ?hs_7 ?hv_7 rfl ?_
          case hs_7 => with_reducible first | exact FK.c0 hM | exact FK.c1 hM | exact FK.c2 hM | exact FK.c7 hM | exact FK.c129 hM | exact FK.c3 hM | exact FK.c4 hM | exact FK.c5 hM | exact FK.c6 hM | exact FK.c39 hM | exact FK.c40 hM | exact FK.c41 hM | exact FK.c42 hM | exact FK.c43 hM | exact FK.c128 hM | exact FK.c136 hM | exact FK.c137 hM | exact FK.c173 hM | exact FK.c174 hM | exact FK.c175 hM | exact FK.c176 hM | exact FK.c177 hM | exact FK.c178 hM
          case hv_7 => rfl
          refine S_getf (fs := ?fs_8) (v := ?v_8) (q := 49) hX u_85 fo_X9_codes dX11_entry_46 ?hs_8 ?hv_8 rfl ?_
          case hs_8 => with_reducible first | exact FK.c0 hM | exact FK.c1 hM | exact FK.c2 hM | exact FK.c7 hM | exact FK.c129 hM | exact FK.c3 hM | exact FK.c4 hM | exact FK.c5 hM | exact FK.c6 hM | exact FK.c39 hM | exact FK.c40 hM | exact FK.c41 hM | exact FK.c42 hM | exact FK.c43 hM | exact FK.c128 hM | exact FK.c136 hM | exact FK.c137 hM | exact FK.c173 hM | exact FK.c174 hM | exact FK.c175 hM | exact FK.c176 hM | exact FK.c177 hM | exact FK.c178 hM
          case hv_8 => rfl
          refine S_iload_n (q := 50) hX dX11_entry_49 rfl rfl ?_
          refine S_iload_n (q := 51) hX dX11_entry_50 rfl rfl ?_
          refine S_callV (ci := 2) (C := "FanTalk$Codes") (T := TX2) (N := 5) (q := 54) 0 0 hX (c_X2_has (q + 2) (fun j => γ (2 + j)) _ _ (tN x) (tN z) S.1.1 cx.1 cz.1) rfl ?hs_9 rfl u_345 u_346 u_347 u_3 u_348 ⟨by decide, by decide, rfl⟩ ⟨Nat.le_of_ble_eq_true rfl, Nat.le_of_ble_eq_true rfl⟩ ⟨Nat.le_of_ble_eq_true rfl, Nat.le_of_ble_eq_true rfl⟩ (Nat.le_of_ble_eq_true rfl) dX11_entry_51 ?hp_9 rfl rfl rfl ?_
          case hs_9 => exact ⟨_, FK.c2 hM⟩
          case hp_9 => exact ⟨FK.co hM, hco, o2.s o1, cx.2.1, hcx, cz.2.1⟩
          rintro v σ1 sz1 ⟨rfl, rfl, rfl⟩
          refine S_if_eq_b (q := 57) 66 hX dX11_entry_54 rfl rfl (fun c54 => ?_) (fun c54 => ?_)
          · refine S_aload_n (q := 67) hX dX11_entry_66 rfl rfl ?_
            refine S_getf (fs := ?fs_10) (v := ?v_10) (q := 70) hX u_285 fo_X11_now dX11_entry_67 ?hs_10 ?hv_10 rfl ?_
            case hs_10 => with_reducible first | exact FK.c0 hM | exact FK.c1 hM | exact FK.c2 hM | exact FK.c7 hM | exact FK.c129 hM | exact FK.c3 hM | exact FK.c4 hM | exact FK.c5 hM | exact FK.c6 hM | exact FK.c39 hM | exact FK.c40 hM | exact FK.c41 hM | exact FK.c42 hM | exact FK.c43 hM | exact FK.c128 hM | exact FK.c136 hM | exact FK.c137 hM | exact FK.c173 hM | exact FK.c174 hM | exact FK.c175 hM | exact FK.c176 hM | exact FK.c177 hM | exact FK.c178 hM
            case hv_10 => rfl
            refine S_getf (fs := ?fs_11) (v := ?v_11) (q := 73) hX u_85 fo_X9_codes dX11_entry_70 ?hs_11 ?hv_11 rfl ?_
            case hs_11 => with_reducible first | exact FK.c0 hM | exact FK.c1 hM | exact FK.c2 hM | exact FK.c7 hM | exact FK.c129 hM | exact FK.c3 hM | exact FK.c4 hM | exact FK.c5 hM | exact FK.c6 hM | exact FK.c39 hM | exact FK.c40 hM | exact FK.c41 hM | exact FK.c42 hM | exact FK.c43 hM | exact FK.c128 hM | exact FK.c136 hM | exact FK.c137 hM | exact FK.c173 hM | exact FK.c174 hM | exact FK.c175 hM | exact FK.c176 hM | exact FK.c177 hM | exact FK.c178 hM
            case hv_11 => rfl
            refine S_getf (fs := ?fs_12) (v := ?v_12) (q := 76) hX u_44 fo_X2_entries dX11_entry_73 ?hs_12 ?hv_12 rfl ?_
            case hs_12 => with_reducible first | exact FK.c0 hM | exact FK.c1 hM | exact FK.c2 hM | exact FK.c7 hM | exact FK.c129 hM | exact FK.c3 hM | exact FK.c4 hM | exact FK.c5 hM | exact FK.c6 hM | exact FK.c39 hM | exact FK.c40 hM | exact FK.c41 hM | exact FK.c42 hM | exact FK.c43 hM | exact FK.c128 hM | exact FK.c136 hM | exact FK.c137 hM | exact FK.c173 hM | exact FK.c174 hM | exact FK.c175 hM | exact FK.c176 hM | exact FK.c177 hM | exact FK.c178 hM
            case hv_12 => rfl
            refine S_iload_n (q := 77) hX dX11_entry_76 rfl rfl ?_
            refine S_iald (N := ?n_13) (f := ?f_13) (q := 78) hX dX11_entry_77 ?hs_13 ?hi_13 rfl ?_
            case hs_13 => with_reducible first | exact FK.c0 hM | exact FK.c1 hM | exact FK.c2 hM | exact FK.c7 hM | exact FK.c129 hM | exact FK.c3 hM | exact FK.c4 hM | exact FK.c5 hM | exact FK.c6 hM | exact FK.c39 hM | exact FK.c40 hM | exact FK.c41 hM | exact FK.c42 hM | exact FK.c43 hM | exact FK.c128 hM | exact FK.c136 hM | exact FK.c137 hM | exact FK.c173 hM | exact FK.c174 hM | exact FK.c175 hM | exact FK.c176 hM | exact FK.c177 hM | exact FK.c178 hM
            case hi_13 => rw [vp_in_iff]; have := c11.1; have := c11.2; omega
            refine S_bipush (q := 80) (v := 8) hX dX11_entry_78 bp_8 rfl ?_
            refine S_icmp_lt (q := 83) 92 hX dX11_entry_80 rfl rfl (fun c80 => ?_) (fun c80 => ?_)
            · have k80 := c80
              have hl8 := hcx.1
              rw [show γ 3 x.toNatClampNeg = nI (S.1.1.2.1 (tN x)).1 from (hco.2.1 (tN x) cx.2.1).1, i8, nI_ltI (by omega) (by decide)] at k80
              refine S_aload_n (q := 93) hX dX11_entry_92 rfl rfl ?_
              refine S_getf (fs := ?fs_14) (v := ?v_14) (q := 96) hX u_285 fo_X11_now dX11_entry_93 ?hs_14 ?hv_14 rfl ?_
              case hs_14 => with_reducible first | exact FK.c0 hM | exact FK.c1 hM | exact FK.c2 hM | exact FK.c7 hM | exact FK.c129 hM | exact FK.c3 hM | exact FK.c4 hM | exact FK.c5 hM | exact FK.c6 hM | exact FK.c39 hM | exact FK.c40 hM | exact FK.c41 hM | exact FK.c42 hM | exact FK.c43 hM | exact FK.c128 hM | exact FK.c136 hM | exact FK.c137 hM | exact FK.c173 hM | exact FK.c174 hM | exact FK.c175 hM | exact FK.c176 hM | exact FK.c177 hM | exact FK.c178 hM
              case hv_14 => rfl
              refine S_getf (fs := ?fs_15) (v := ?v_15) (q := 99) hX u_87 fo_X9_past dX11_entry_96 ?hs_15 ?hv_15 rfl ?_
              case hs_15 => with_reducible first | exact FK.c0 hM | exact FK.c1 hM | exact FK.c2 hM | exact FK.c7 hM | exact FK.c129 hM | exact FK.c3 hM | exact FK.c4 hM | exact FK.c5 hM | exact FK.c6 hM | exact FK.c39 hM | exact FK.c40 hM | exact FK.c41 hM | exact FK.c42 hM | exact FK.c43 hM | exact FK.c128 hM | exact FK.c136 hM | exact FK.c137 hM | exact FK.c173 hM | exact FK.c174 hM | exact FK.c175 hM | exact FK.c176 hM | exact FK.c177 hM | exact FK.c178 hM
              case hv_15 => rfl
              refine S_iconst (q := 100) (v := 0) hX dX11_entry_99 ic_0 rfl ?_
              refine S_nm (fun x100 hx100 => ?_)
              refine S_putf (fs := ?fs_16) (q := 103) hX u_78 fo_X6_kept rfl rfl ?hl_16 dX11_entry_100 ?hs_16 rfl ?_
              case hs_16 => with_reducible first | exact FK.c0 hM | exact FK.c1 hM | exact FK.c2 hM | exact FK.c7 hM | exact FK.c129 hM | exact FK.c3 hM | exact FK.c4 hM | exact FK.c5 hM | exact FK.c6 hM | exact FK.c39 hM | exact FK.c40 hM | exact FK.c41 hM | exact FK.c42 hM | exact FK.c43 hM | exact FK.c128 hM | exact FK.c136 hM | exact FK.c137 hM | exact FK.c173 hM | exact FK.c174 hM | exact FK.c175 hM | exact FK.c176 hM | exact FK.c177 hM | exact FK.c178 hM
              case hl_16 => exact Nat.le_of_ble_eq_true rfl
              refine S_stu (q0 := q) (j := 7) (i := 0) hM hF (by decide) rfl (fun σ μ100 e100 hM hF => ?_)
              subst hx100
              refine S_aload_n (q := 104) hX dX11_entry_103 rfl rfl ?_
              refine S_getf (fs := ?fs_17) (v := ?v_17) (q := 107) hX u_285 fo_X11_now dX11_entry_104 ?hs_17 ?hv_17 rfl ?_
              case hs_17 => with_reducible first | exact FK.c0 hM | exact FK.c1 hM | exact FK.c2 hM | exact FK.c7 hM | exact FK.c129 hM | exact FK.c3 hM | exact FK.c4 hM | exact FK.c5 hM | exact FK.c6 hM | exact FK.c39 hM | exact FK.c40 hM | exact FK.c41 hM | exact FK.c42 hM | exact FK.c43 hM | exact FK.c128 hM | exact FK.c136 hM | exact FK.c137 hM | exact FK.c173 hM | exact FK.c174 hM | exact FK.c175 hM | exact FK.c176 hM | exact FK.c177 hM | exact FK.c178 hM
              case hv_17 => rfl
              refine S_getf (fs := ?fs_18) (v := ?v_18) (q := 110) hX u_85 fo_X9_codes dX11_entry_107 ?hs_18 ?hv_18 rfl ?_
              case hs_18 => with_reducible first | exact FK.c0 hM | exact FK.c1 hM | exact FK.c2 hM | exact FK.c7 hM | exact FK.c129 hM | exact FK.c3 hM | exact FK.c4 hM | exact FK.c5 hM | exact FK.c6 hM | exact FK.c39 hM | exact FK.c40 hM | exact FK.c41 hM | exact FK.c42 hM | exact FK.c43 hM | exact FK.c128 hM | exact FK.c136 hM | exact FK.c137 hM | exact FK.c173 hM | exact FK.c174 hM | exact FK.c175 hM | exact FK.c176 hM | exact FK.c177 hM | exact FK.c178 hM
              case hv_18 => rfl
              refine S_iload_n (q := 111) hX dX11_entry_110 rfl rfl ?_
              refine S_iload_n (q := 112) hX dX11_entry_111 rfl rfl ?_
              refine S_iload_n (q := 113) hX dX11_entry_112 rfl rfl ?_
              refine S_callV (ci := 2) (C := "FanTalk$Codes") (T := TX2) (N := 5) (q := 116) 0 0 hX (c_X2_add (q + 2) (fun j => μ100 (2 + j)) _ _ _ (tN x) (tN z) (tN y) S.1.1 cx.1 cy.1 cz.1) rfl ?hs_19 rfl u_349 u_350 u_351 u_3 u_352 ⟨by decide, by decide, rfl⟩ ⟨Nat.le_of_ble_eq_true rfl, Nat.le_of_ble_eq_true rfl⟩ ⟨Nat.le_of_ble_eq_true rfl, Nat.le_of_ble_eq_true rfl⟩ (Nat.le_of_ble_eq_true rfl) dX11_entry_113 ?hp_19 rfl rfl rfl ?_
              case hs_19 => exact ⟨_, FK.c2 hM⟩
              case hp_19 => exact ⟨FK.co hM, hco.ext (fun j hj => by show μ100 (2 + j) = γ (2 + j); rw [e100, m2_o (by omega)]), o2.s o1, cx.2.1, by omega⟩
              rintro v σ sz1 ⟨g1, hM1, hF1, rfl, hg1, rfl⟩
              have hM := FK.jco hM hF1 hM1
              have hF := hF.trans (hF1.mono (Nat.le_add_right _ _) (by omega))
              refine S_iret hX dX11_entry_116 (Nat.zero_le _) (Nat.zero_le _) ?_
              refine hP _ _ _ ?_
              have hsp : sp_entry S x y z = (nI (S.1.1.2.1 (tN x)).1, stC S (newB S.1 (S.1.1.1, fu S.1.1.2.1 (tN x) (addC (S.1.1.2.1 (tN x)) (tN z) (tN y)), S.1.1.2.2))) := by unfold sp_entry ent_bad; rw [if_neg (by rintro (w | w | w); exact w c11; exact w c18; exact w ⟨by omega, by omega⟩), if_neg c54, if_neg (by omega)]
              rw [hsp]
              refine ⟨_, hM, hF, rfl, hR.now ok (fun j a b => by rw [spl_out (by omega), e100, m2_o (by omega)]) (r0.newB ?_ ?_ (fun j a b => ?_)), rfl⟩
              · exact hg1.ext (fun j hj => by show spl μ100 2 5 g1 (1 + (1 + j)) = g1 j; rw [spl_in (by omega), show 1 + (1 + j) - 2 = j by omega])
              · show spl μ100 2 5 g1 (1 + 6) 0 = nI 0; rw [spl_out (by omega), e100, m2_at, if_pos ⟨rfl, rfl⟩]; rfl
              · show spl μ100 2 5 g1 (1 + j) = γ (1 + j)
                rw [spl_out (by omega), e100, m2_o (by omega)]
            · have k80 := c80
              have hl8 := hcx.1
              rw [show γ 3 x.toNatClampNeg = nI (S.1.1.2.1 (tN x)).1 from (hco.2.1 (tN x) cx.2.1).1, i8, nI_ltI (by omega) (by decide)] at k80
              refine S_aload_n (q := 84) hX dX11_entry_83 rfl rfl ?_
              refine S_bipush (q := 86) (v := (-4)) hX dX11_entry_84 bp_m4 rfl ?_
              refine S_bipush (q := 88) (v := (-4)) hX dX11_entry_86 bp_m4 rfl ?_
              refine S_callV (ci := 11) (C := "FanTalk") (T := TX11) (N := 11) (q := 91) 0 0 hX (c_X11_refused q γ _ _ 2 (by decide)) rfl ?hs_20 rfl u_323 u_325 us_0 u_1 u_326 ⟨by decide, by decide, rfl⟩ ⟨Nat.le_of_ble_eq_true rfl, Nat.le_of_ble_eq_true rfl⟩ ⟨Nat.le_of_ble_eq_true rfl, Nat.le_of_ble_eq_true rfl⟩ (Nat.le_of_ble_eq_true rfl) dX11_entry_88 ?hp_20 rfl rfl rfl ?_
              case hs_20 => first | with_reducible assumption | exact ⟨_, FK.c0 hM⟩ | exact ⟨_, FK.c2 hM⟩ | exact ⟨_, FK.c7 hM⟩ | exact ⟨_, FK.c129 hM⟩ | exact ⟨_, FK.c173 hM⟩ | exact ⟨_, FK.c1 hM⟩
              case hp_20 => exact ⟨hM, by decide⟩
              rintro v σ sz1 ⟨μ9, hM, hF1, rfl, e9, rfl⟩
              have hF := hF.trans hF1
              refine S_iret hX dX11_entry_91 (Nat.zero_le _) (Nat.zero_le _) ?_
              refine hP _ _ _ ?_
              have hsp : sp_entry S x y z = (-4, rfS S 2) := by unfold sp_entry ent_bad; rw [if_neg (by rintro (w | w | w); exact w c11; exact w c18; exact w ⟨by omega, by omega⟩), if_neg c54, if_pos (by omega)]
              rw [hsp]
              exact ⟨_, hM, hF, rfl, hR.rf ok e9, rfl⟩
          · refine S_aload_n (q := 58) hX dX11_entry_57 rfl rfl ?_
            refine S_bipush (q := 60) (v := (-3)) hX dX11_entry_58 bp_m3 rfl ?_
            refine S_bipush (q := 62) (v := (-3)) hX dX11_entry_60 bp_m3 rfl ?_
            refine S_callV (ci := 11) (C := "FanTalk") (T := TX11) (N := 11) (q := 65) 0 0 hX (c_X11_refused q γ _ _ 1 (by decide)) rfl ?hs_21 rfl u_323 u_325 us_0 u_1 u_326 ⟨by decide, by decide, rfl⟩ ⟨Nat.le_of_ble_eq_true rfl, Nat.le_of_ble_eq_true rfl⟩ ⟨Nat.le_of_ble_eq_true rfl, Nat.le_of_ble_eq_true rfl⟩ (Nat.le_of_ble_eq_true rfl) dX11_entry_62 ?hp_21 rfl rfl rfl ?_
            case hs_21 => first | with_reducible assumption | exact ⟨_, FK.c0 hM⟩ | exact ⟨_, FK.c2 hM⟩ | exact ⟨_, FK.c7 hM⟩ | exact ⟨_, FK.c129 hM⟩ | exact ⟨_, FK.c173 hM⟩ | exact ⟨_, FK.c1 hM⟩
            case hp_21 => exact ⟨hM, by decide⟩
            rintro v σ sz1 ⟨μ9, hM, hF1, rfl, e9, rfl⟩
            have hF := hF.trans hF1
            refine S_iret hX dX11_entry_65 (Nat.zero_le _) (Nat.zero_le _) ?_
            refine hP _ _ _ ?_
            have hsp : sp_entry S x y z = (-3, rfS S 1) := by unfold sp_entry ent_bad; rw [if_neg (by rintro (w | w | w); exact w c11; exact w c18; exact w ⟨by omega, by omega⟩), if_pos c54]
            rw [hsp]
            exact ⟨_, hM, hF, rfl, hR.rf ok e9, rfl⟩
        · have k30 := c30
          rw [show (3 : Int32) = nI 3 from rfl, nI_leI (by have := lnZ_6 z.toInt; omega) (by have := lnZ_6 z.toInt; omega)] at k30
          refine S_aload_n (q := 34) hX dX11_entry_33 rfl rfl ?_
          refine S_bipush (q := 36) (v := (-2)) hX dX11_entry_34 bp_m2 rfl ?_
          refine S_bipush (q := 38) (v := (-2)) hX dX11_entry_36 bp_m2 rfl ?_
          refine S_callV (ci := 11) (C := "FanTalk") (T := TX11) (N := 11) (q := 41) 0 0 hX (c_X11_refused q γ _ _ 0 (by decide)) rfl ?hs_22 rfl u_323 u_325 us_0 u_1 u_326 ⟨by decide, by decide, rfl⟩ ⟨Nat.le_of_ble_eq_true rfl, Nat.le_of_ble_eq_true rfl⟩ ⟨Nat.le_of_ble_eq_true rfl, Nat.le_of_ble_eq_true rfl⟩ (Nat.le_of_ble_eq_true rfl) dX11_entry_38 ?hp_22 rfl rfl rfl ?_
          case hs_22 => first | with_reducible assumption | exact ⟨_, FK.c0 hM⟩ | exact ⟨_, FK.c2 hM⟩ | exact ⟨_, FK.c7 hM⟩ | exact ⟨_, FK.c129 hM⟩ | exact ⟨_, FK.c173 hM⟩ | exact ⟨_, FK.c1 hM⟩
          case hp_22 => exact ⟨hM, by decide⟩
          rintro v σ sz1 ⟨μ9, hM, hF1, rfl, e9, rfl⟩
          have hF := hF.trans hF1
          refine S_iret hX dX11_entry_41 (Nat.zero_le _) (Nat.zero_le _) ?_
          refine hP _ _ _ ?_
          have hsp : sp_entry S x y z = (-2, rfS S 0) := by unfold sp_entry ent_bad; rw [if_pos (Or.inr (Or.inr (fun w => by omega)))]
          rw [hsp]
          exact ⟨_, hM, hF, rfl, hR.rf ok e9, rfl⟩
theorem c_X11_fact (q : Nat) (γ : MF) (S : ST) (x y : Int32) : CT_X11_fact [.ref q, .int x, .int y] (fun Γ σ sz => FK σ q γ ∧ FR γ S ∧ StOk S) (fun Γ σ sz v σ' sz' => ∃ γ', FK σ' q γ' ∧ Fr q (q + 179) σ σ' ∧ v = some (.int (sp_fact S x y).1) ∧ FR γ' (sp_fact S x y).2 ∧ sz' = sz) := by
  refine CT.mkP rfl (Nat.le_of_ble_eq_true rfl) [_, _, _, _] rfl ?_
  intro X Γ σ sz P hX hpre hsz hP
  obtain ⟨hM, hR, ok⟩ := hpre
  obtain ⟨σ0, eσ0⟩ : ∃ z, z = σ := ⟨σ, rfl⟩
  rw [← eσ0] at hP
  have hF : Fr q (q + 179) σ0 σ := by rw [eσ0]; exact Fr.rf
  obtain ⟨r0, r1, r2, r3, r4, r5⟩ := id hR
  obtain ⟨t0, t1, t2, t3, t4, t5, t6, t7, t8⟩ := id r0
  obtain ⟨o1, o2, o3, o4, o5, o6, o7, o8, o9, o10⟩ := id ok.1
  have hw : γ 1 3 = nI S.1.2.2.2.2.2.1 := t7
  refine S_iload_n (q := 1) hX dX11_fact_0 rfl rfl ?_
  refine S_callS (q := 4) 0 0 hX (c_X7_beats x) rfl u_335 u_336 u_13 u_337 ⟨by decide, by decide, rfl⟩ ⟨Nat.le_of_ble_eq_true rfl, Nat.le_of_ble_eq_true rfl⟩ ⟨Nat.le_of_ble_eq_true rfl, Nat.le_of_ble_eq_true rfl⟩ (Nat.le_of_ble_eq_true rfl) dX11_fact_1 ?hp_1 rfl rfl rfl ?_
  case hp_1 => trivial
  rintro v σ1 sz1 ⟨rfl, rfl, rfl⟩
  refine S_istore_n (q := 5) [_, _, _, _] hX dX11_fact_4 rfl (Nat.le_of_ble_eq_true rfl) rfl rfl ?_
  refine S_iload_n (q := 6) hX dX11_fact_5 rfl rfl ?_
  refine S_iconst (q := 7) (v := 1) hX dX11_fact_6 ic_1 rfl ?_
  refine S_icmp_lt (q := 10) 22 hX dX11_fact_7 rfl rfl (fun c7 => ?_) (fun c7 => ?_)
  · have k7 := c7
    rw [show (1 : Int32) = nI 1 from rfl, nI_ltI (by have := lnZ_6 x.toInt; omega) (by have := lnZ_6 x.toInt; omega)] at k7
    refine S_aload_n (q := 23) hX dX11_fact_22 rfl rfl ?_
    refine S_bipush (q := 25) (v := (-2)) hX dX11_fact_23 bp_m2 rfl ?_
    refine S_bipush (q := 27) (v := (-2)) hX dX11_fact_25 bp_m2 rfl ?_
    refine S_callV (ci := 11) (C := "FanTalk") (T := TX11) (N := 11) (q := 30) 0 0 hX (c_X11_refused q γ _ _ 0 (by decide)) rfl ?hs_2 rfl u_323 u_325 us_0 u_1 u_326 ⟨by decide, by decide, rfl⟩ ⟨Nat.le_of_ble_eq_true rfl, Nat.le_of_ble_eq_true rfl⟩ ⟨Nat.le_of_ble_eq_true rfl, Nat.le_of_ble_eq_true rfl⟩ (Nat.le_of_ble_eq_true rfl) dX11_fact_27 ?hp_2 rfl rfl rfl ?_
    case hs_2 => first | with_reducible assumption | exact ⟨_, FK.c0 hM⟩ | exact ⟨_, FK.c2 hM⟩ | exact ⟨_, FK.c7 hM⟩ | exact ⟨_, FK.c129 hM⟩ | exact ⟨_, FK.c173 hM⟩ | exact ⟨_, FK.c1 hM⟩
    case hp_2 => exact ⟨hM, by decide⟩
    rintro v σ sz1 ⟨μ9, hM, hF1, rfl, e9, rfl⟩
    have hF := hF.trans hF1
    refine S_iret hX dX11_fact_30 (Nat.zero_le _) (Nat.zero_le _) ?_
    refine hP _ _ _ ?_
    have hsp : sp_fact S x y = (-2, rfS S 0) := by unfold sp_fact; rw [if_pos (Or.inl (fun w => by omega))]
    rw [hsp]
    exact ⟨_, hM, hF, rfl, hR.rf ok e9, rfl⟩
  · have k7 := c7
    rw [show (1 : Int32) = nI 1 from rfl, nI_ltI (by have := lnZ_6 x.toInt; omega) (by have := lnZ_6 x.toInt; omega)] at k7
    refine S_iload_n (q := 11) hX dX11_fact_10 rfl rfl ?_
    refine S_iconst (q := 12) (v := 5) hX dX11_fact_11 ic_5 rfl ?_
    refine S_icmp_gt (q := 15) 22 hX dX11_fact_12 rfl rfl (fun c12 => ?_) (fun c12 => ?_)
    · have k12 := c12
      rw [show (5 : Int32) = nI 5 from rfl, nI_ltI (by have := lnZ_6 x.toInt; omega) (by have := lnZ_6 x.toInt; omega)] at k12
      refine S_aload_n (q := 23) hX dX11_fact_22 rfl rfl ?_
      refine S_bipush (q := 25) (v := (-2)) hX dX11_fact_23 bp_m2 rfl ?_
      refine S_bipush (q := 27) (v := (-2)) hX dX11_fact_25 bp_m2 rfl ?_
      refine S_callV (ci := 11) (C := "FanTalk") (T := TX11) (N := 11) (q := 30) 0 0 hX (c_X11_refused q γ _ _ 0 (by decide)) rfl ?hs_3 rfl u_323 u_325 us_0 u_1 u_326 ⟨by decide, by decide, rfl⟩ ⟨Nat.le_of_ble_eq_true rfl, Nat.le_of_ble_eq_true rfl⟩ ⟨Nat.le_of_ble_eq_true rfl, Nat.le_of_ble_eq_true rfl⟩ (Nat.le_of_ble_eq_true rfl) dX11_fact_27 ?hp_3 rfl rfl rfl ?_
      case hs_3 => first | with_reducible assumption | exact ⟨_, FK.c0 hM⟩ | exact ⟨_, FK.c2 hM⟩ | exact ⟨_, FK.c7 hM⟩ | exact ⟨_, FK.c129 hM⟩ | exact ⟨_, FK.c173 hM⟩ | exact ⟨_, FK.c1 hM⟩
      case hp_3 => exact ⟨hM, by decide⟩
      rintro v σ sz1 ⟨μ9, hM, hF1, rfl, e9, rfl⟩
      have hF := hF.trans hF1
      refine S_iret hX dX11_fact_30 (Nat.zero_le _) (Nat.zero_le _) ?_
      refine hP _ _ _ ?_
      have hsp : sp_fact S x y = (-2, rfS S 0) := by unfold sp_fact; rw [if_pos (Or.inl (fun w => by omega))]
      rw [hsp]
      exact ⟨_, hM, hF, rfl, hR.rf ok e9, rfl⟩
    · have k12 := c12
      rw [show (5 : Int32) = nI 5 from rfl, nI_ltI (by have := lnZ_6 x.toInt; omega) (by have := lnZ_6 x.toInt; omega)] at k12
      refine S_iload_n (q := 16) hX dX11_fact_15 rfl rfl ?_
      refine S_callS (q := 19) 0 0 hX (c_X11_isWord _) rfl u_342 u_343 u_1 u_344 ⟨by decide, by decide, rfl⟩ ⟨Nat.le_of_ble_eq_true rfl, Nat.le_of_ble_eq_true rfl⟩ ⟨Nat.le_of_ble_eq_true rfl, Nat.le_of_ble_eq_true rfl⟩ (Nat.le_of_ble_eq_true rfl) dX11_fact_16 ?hp_4 rfl rfl rfl ?_
      case hp_4 => trivial
      rintro v σ1 sz1 ⟨rfl, rfl, rfl⟩
      refine S_if_ne_b (q := 22) 31 hX dX11_fact_19 rfl rfl (fun c19 => ?_) (fun c19 => ?_)
      · refine S_aload_n (q := 32) hX dX11_fact_31 rfl rfl ?_
        refine S_getf (fs := ?fs_5) (v := ?v_5) (q := 35) hX u_285 fo_X11_now dX11_fact_32 ?hs_5 ?hv_5 rfl ?_
        case hs_5 => with_reducible first | exact FK.c0 hM | exact FK.c1 hM | exact FK.c2 hM | exact FK.c7 hM | exact FK.c129 hM | exact FK.c3 hM | exact FK.c4 hM | exact FK.c5 hM | exact FK.c6 hM | exact FK.c39 hM | exact FK.c40 hM | exact FK.c41 hM | exact FK.c42 hM | exact FK.c43 hM | exact FK.c128 hM | exact FK.c136 hM | exact FK.c137 hM | exact FK.c173 hM | exact FK.c174 hM | exact FK.c175 hM | exact FK.c176 hM | exact FK.c177 hM | exact FK.c178 hM
        case hv_5 => rfl
        refine S_getf (fs := ?fs_6) (v := ?v_6) (q := 38) hX u_103 fo_X9_facts dX11_fact_35 ?hs_6 ?hv_6 rfl ?_
        case hs_6 => with_reducible first | exact FK.c0 hM | exact FK.c1 hM | exact FK.c2 hM | exact FK.c7 hM | exact FK.c129 hM | exact FK.c3 hM | exact FK.c4 hM | exact FK.c5 hM | exact FK.c6 hM | exact FK.c39 hM | exact FK.c40 hM | exact FK.c41 hM | exact FK.c42 hM | exact FK.c43 hM | exact FK.c128 hM | exact FK.c136 hM | exact FK.c137 hM | exact FK.c173 hM | exact FK.c174 hM | exact FK.c175 hM | exact FK.c176 hM | exact FK.c177 hM | exact FK.c178 hM
        case hv_6 => rfl
        refine S_bipush (q := 40) (v := 8) hX dX11_fact_38 bp_8 rfl ?_
        refine S_icmp_lt (q := 43) 52 hX dX11_fact_40 rfl rfl (fun c40 => ?_) (fun c40 => ?_)
        · have k40 := c40
          rw [hw, i8, nI_ltI (by omega) (by decide)] at k40
          refine S_aload_n (q := 53) hX dX11_fact_52 rfl rfl ?_
          refine S_getf (fs := ?fs_7) (v := ?v_7) (q := 56) hX u_285 fo_X11_now dX11_fact_53 ?hs_7 ?hv_7 rfl ?_
          case hs_7 => with_reducible first | exact FK.c0 hM | exact FK.c1 hM | exact FK.c2 hM | exact FK.c7 hM | exact FK.c129 hM | exact FK.c3 hM | exact FK.c4 hM | exact FK.c5 hM | exact FK.c6 hM | exact FK.c39 hM | exact FK.c40 hM | exact FK.c41 hM | exact FK.c42 hM | exact FK.c43 hM | exact FK.c128 hM | exact FK.c136 hM | exact FK.c137 hM | exact FK.c173 hM | exact FK.c174 hM | exact FK.c175 hM | exact FK.c176 hM | exact FK.c177 hM | exact FK.c178 hM
          case hv_7 => rfl
          refine S_getf (fs := ?fs_8) (v := ?v_8) (q := 59) hX u_99 fo_X9_factRows dX11_fact_56 ?hs_8 ?hv_8 rfl ?_
          case hs_8 => with_reducible first | exact FK.c0 hM | exact FK.c1 hM | exact FK.c2 hM | exact FK.c7 hM | exact FK.c129 hM | exact FK.c3 hM | exact FK.c4 hM | exact FK.c5 hM | exact FK.c6 hM | exact FK.c39 hM | exact FK.c40 hM | exact FK.c41 hM | exact FK.c42 hM | exact FK.c43 hM | exact FK.c128 hM | exact FK.c136 hM | exact FK.c137 hM | exact FK.c173 hM | exact FK.c174 hM | exact FK.c175 hM | exact FK.c176 hM | exact FK.c177 hM | exact FK.c178 hM
          case hv_8 => rfl
          refine S_aload_n (q := 60) hX dX11_fact_59 rfl rfl ?_
          refine S_getf (fs := ?fs_9) (v := ?v_9) (q := 63) hX u_285 fo_X11_now dX11_fact_60 ?hs_9 ?hv_9 rfl ?_
          case hs_9 => with_reducible first | exact FK.c0 hM | exact FK.c1 hM | exact FK.c2 hM | exact FK.c7 hM | exact FK.c129 hM | exact FK.c3 hM | exact FK.c4 hM | exact FK.c5 hM | exact FK.c6 hM | exact FK.c39 hM | exact FK.c40 hM | exact FK.c41 hM | exact FK.c42 hM | exact FK.c43 hM | exact FK.c128 hM | exact FK.c136 hM | exact FK.c137 hM | exact FK.c173 hM | exact FK.c174 hM | exact FK.c175 hM | exact FK.c176 hM | exact FK.c177 hM | exact FK.c178 hM
          case hv_9 => rfl
          refine S_getf (fs := ?fs_10) (v := ?v_10) (q := 66) hX u_103 fo_X9_facts dX11_fact_63 ?hs_10 ?hv_10 rfl ?_
          case hs_10 => with_reducible first | exact FK.c0 hM | exact FK.c1 hM | exact FK.c2 hM | exact FK.c7 hM | exact FK.c129 hM | exact FK.c3 hM | exact FK.c4 hM | exact FK.c5 hM | exact FK.c6 hM | exact FK.c39 hM | exact FK.c40 hM | exact FK.c41 hM | exact FK.c42 hM | exact FK.c43 hM | exact FK.c128 hM | exact FK.c136 hM | exact FK.c137 hM | exact FK.c173 hM | exact FK.c174 hM | exact FK.c175 hM | exact FK.c176 hM | exact FK.c177 hM | exact FK.c178 hM
          case hv_10 => rfl
          refine S_iload_n (q := 67) hX dX11_fact_66 rfl rfl ?_
          refine S_nm (fun x67 hx67 => ?_)
          refine S_iast (N := ?n_11) (f := ?f_11) (q := 68) hX dX11_fact_67 ?hs_11 ?hi_11 rfl ?_
          case hs_11 => with_reducible first | exact FK.c0 hM | exact FK.c1 hM | exact FK.c2 hM | exact FK.c7 hM | exact FK.c129 hM | exact FK.c3 hM | exact FK.c4 hM | exact FK.c5 hM | exact FK.c6 hM | exact FK.c39 hM | exact FK.c40 hM | exact FK.c41 hM | exact FK.c42 hM | exact FK.c43 hM | exact FK.c128 hM | exact FK.c136 hM | exact FK.c137 hM | exact FK.c173 hM | exact FK.c174 hM | exact FK.c175 hM | exact FK.c176 hM | exact FK.c177 hM | exact FK.c178 hM
          case hi_11 => rw [hw]; exact vp_in_nI (by omega) (by decide)
          refine S_stu (q0 := q) (j := 41) (i := _) hM hF (by decide) rfl (fun σ μ67 e67 hM hF => ?_)
          subst hx67
          refine S_aload_n (q := 69) hX dX11_fact_68 rfl rfl ?_
          refine S_getf (fs := ?fs_12) (v := ?v_12) (q := 72) hX u_285 fo_X11_now dX11_fact_69 ?hs_12 ?hv_12 rfl ?_
          case hs_12 => with_reducible first | exact FK.c0 hM | exact FK.c1 hM | exact FK.c2 hM | exact FK.c7 hM | exact FK.c129 hM | exact FK.c3 hM | exact FK.c4 hM | exact FK.c5 hM | exact FK.c6 hM | exact FK.c39 hM | exact FK.c40 hM | exact FK.c41 hM | exact FK.c42 hM | exact FK.c43 hM | exact FK.c128 hM | exact FK.c136 hM | exact FK.c137 hM | exact FK.c173 hM | exact FK.c174 hM | exact FK.c175 hM | exact FK.c176 hM | exact FK.c177 hM | exact FK.c178 hM
          case hv_12 => rfl
          refine S_getf (fs := ?fs_13) (v := ?v_13) (q := 75) hX u_101 fo_X9_factWords dX11_fact_72 ?hs_13 ?hv_13 rfl ?_
          case hs_13 => with_reducible first | exact FK.c0 hM | exact FK.c1 hM | exact FK.c2 hM | exact FK.c7 hM | exact FK.c129 hM | exact FK.c3 hM | exact FK.c4 hM | exact FK.c5 hM | exact FK.c6 hM | exact FK.c39 hM | exact FK.c40 hM | exact FK.c41 hM | exact FK.c42 hM | exact FK.c43 hM | exact FK.c128 hM | exact FK.c136 hM | exact FK.c137 hM | exact FK.c173 hM | exact FK.c174 hM | exact FK.c175 hM | exact FK.c176 hM | exact FK.c177 hM | exact FK.c178 hM
          case hv_13 => rfl
          refine S_aload_n (q := 76) hX dX11_fact_75 rfl rfl ?_
          refine S_getf (fs := ?fs_14) (v := ?v_14) (q := 79) hX u_285 fo_X11_now dX11_fact_76 ?hs_14 ?hv_14 rfl ?_
          case hs_14 => with_reducible first | exact FK.c0 hM | exact FK.c1 hM | exact FK.c2 hM | exact FK.c7 hM | exact FK.c129 hM | exact FK.c3 hM | exact FK.c4 hM | exact FK.c5 hM | exact FK.c6 hM | exact FK.c39 hM | exact FK.c40 hM | exact FK.c41 hM | exact FK.c42 hM | exact FK.c43 hM | exact FK.c128 hM | exact FK.c136 hM | exact FK.c137 hM | exact FK.c173 hM | exact FK.c174 hM | exact FK.c175 hM | exact FK.c176 hM | exact FK.c177 hM | exact FK.c178 hM
          case hv_14 => rfl
          refine S_getf (fs := ?fs_15) (v := ?v_15) (q := 82) hX u_103 fo_X9_facts dX11_fact_79 ?hs_15 ?hv_15 rfl ?_
          case hs_15 => with_reducible first | exact FK.c0 hM | exact FK.c1 hM | exact FK.c2 hM | exact FK.c7 hM | exact FK.c129 hM | exact FK.c3 hM | exact FK.c4 hM | exact FK.c5 hM | exact FK.c6 hM | exact FK.c39 hM | exact FK.c40 hM | exact FK.c41 hM | exact FK.c42 hM | exact FK.c43 hM | exact FK.c128 hM | exact FK.c136 hM | exact FK.c137 hM | exact FK.c173 hM | exact FK.c174 hM | exact FK.c175 hM | exact FK.c176 hM | exact FK.c177 hM | exact FK.c178 hM
          case hv_15 => rfl
          refine S_iload_n (q := 83) hX dX11_fact_82 rfl rfl ?_
          refine S_nm (fun x83 hx83 => ?_)
          refine S_iast (N := ?n_16) (f := ?f_16) (q := 84) hX dX11_fact_83 ?hs_16 ?hi_16 rfl ?_
          case hs_16 => with_reducible first | exact FK.c0 hM | exact FK.c1 hM | exact FK.c2 hM | exact FK.c7 hM | exact FK.c129 hM | exact FK.c3 hM | exact FK.c4 hM | exact FK.c5 hM | exact FK.c6 hM | exact FK.c39 hM | exact FK.c40 hM | exact FK.c41 hM | exact FK.c42 hM | exact FK.c43 hM | exact FK.c128 hM | exact FK.c136 hM | exact FK.c137 hM | exact FK.c173 hM | exact FK.c174 hM | exact FK.c175 hM | exact FK.c176 hM | exact FK.c177 hM | exact FK.c178 hM
          case hi_16 => rw [e67, m2_o (by decide), hw]; exact vp_in_nI (by omega) (by decide)
          refine S_stu (q0 := q) (j := 42) (i := _) hM hF (by decide) rfl (fun σ μ83 e83 hM hF => ?_)
          subst hx83
          refine S_aload_n (q := 85) hX dX11_fact_84 rfl rfl ?_
          refine S_getf (fs := ?fs_17) (v := ?v_17) (q := 88) hX u_285 fo_X11_now dX11_fact_85 ?hs_17 ?hv_17 rfl ?_
          case hs_17 => with_reducible first | exact FK.c0 hM | exact FK.c1 hM | exact FK.c2 hM | exact FK.c7 hM | exact FK.c129 hM | exact FK.c3 hM | exact FK.c4 hM | exact FK.c5 hM | exact FK.c6 hM | exact FK.c39 hM | exact FK.c40 hM | exact FK.c41 hM | exact FK.c42 hM | exact FK.c43 hM | exact FK.c128 hM | exact FK.c136 hM | exact FK.c137 hM | exact FK.c173 hM | exact FK.c174 hM | exact FK.c175 hM | exact FK.c176 hM | exact FK.c177 hM | exact FK.c178 hM
          case hv_17 => rfl
          refine S_dup (q := 89) hX dX11_fact_88 rfl rfl ?_
          refine S_getf (fs := ?fs_18) (v := ?v_18) (q := 92) hX u_103 fo_X9_facts dX11_fact_89 ?hs_18 ?hv_18 rfl ?_
          case hs_18 => with_reducible first | exact FK.c0 hM | exact FK.c1 hM | exact FK.c2 hM | exact FK.c7 hM | exact FK.c129 hM | exact FK.c3 hM | exact FK.c4 hM | exact FK.c5 hM | exact FK.c6 hM | exact FK.c39 hM | exact FK.c40 hM | exact FK.c41 hM | exact FK.c42 hM | exact FK.c43 hM | exact FK.c128 hM | exact FK.c136 hM | exact FK.c137 hM | exact FK.c173 hM | exact FK.c174 hM | exact FK.c175 hM | exact FK.c176 hM | exact FK.c177 hM | exact FK.c178 hM
          case hv_18 => rfl
          refine S_iconst (q := 93) (v := 1) hX dX11_fact_92 ic_1 rfl ?_
          refine S_iadd (q := 94) hX dX11_fact_93 rfl ?_
          refine S_nm (fun x94 hx94 => ?_)
          refine S_putf (fs := ?fs_19) (q := 97) hX u_103 fo_X9_facts rfl rfl ?hl_19 dX11_fact_94 ?hs_19 rfl ?_
          case hs_19 => with_reducible first | exact FK.c0 hM | exact FK.c1 hM | exact FK.c2 hM | exact FK.c7 hM | exact FK.c129 hM | exact FK.c3 hM | exact FK.c4 hM | exact FK.c5 hM | exact FK.c6 hM | exact FK.c39 hM | exact FK.c40 hM | exact FK.c41 hM | exact FK.c42 hM | exact FK.c43 hM | exact FK.c128 hM | exact FK.c136 hM | exact FK.c137 hM | exact FK.c173 hM | exact FK.c174 hM | exact FK.c175 hM | exact FK.c176 hM | exact FK.c177 hM | exact FK.c178 hM
          case hl_19 => exact Nat.le_of_ble_eq_true rfl
          refine S_stu (q0 := q) (j := 1) (i := 3) hM hF (by decide) rfl (fun σ μ94 e94 hM hF => ?_)
          subst hx94
          refine S_aload_n (q := 98) hX dX11_fact_97 rfl rfl ?_
          refine S_getf (fs := ?fs_20) (v := ?v_20) (q := 101) hX u_285 fo_X11_now dX11_fact_98 ?hs_20 ?hv_20 rfl ?_
          case hs_20 => with_reducible first | exact FK.c0 hM | exact FK.c1 hM | exact FK.c2 hM | exact FK.c7 hM | exact FK.c129 hM | exact FK.c3 hM | exact FK.c4 hM | exact FK.c5 hM | exact FK.c6 hM | exact FK.c39 hM | exact FK.c40 hM | exact FK.c41 hM | exact FK.c42 hM | exact FK.c43 hM | exact FK.c128 hM | exact FK.c136 hM | exact FK.c137 hM | exact FK.c173 hM | exact FK.c174 hM | exact FK.c175 hM | exact FK.c176 hM | exact FK.c177 hM | exact FK.c178 hM
          case hv_20 => rfl
          refine S_getf (fs := ?fs_21) (v := ?v_21) (q := 104) hX u_103 fo_X9_facts dX11_fact_101 ?hs_21 ?hv_21 rfl ?_
          case hs_21 => with_reducible first | exact FK.c0 hM | exact FK.c1 hM | exact FK.c2 hM | exact FK.c7 hM | exact FK.c129 hM | exact FK.c3 hM | exact FK.c4 hM | exact FK.c5 hM | exact FK.c6 hM | exact FK.c39 hM | exact FK.c40 hM | exact FK.c41 hM | exact FK.c42 hM | exact FK.c43 hM | exact FK.c128 hM | exact FK.c136 hM | exact FK.c137 hM | exact FK.c173 hM | exact FK.c174 hM | exact FK.c175 hM | exact FK.c176 hM | exact FK.c177 hM | exact FK.c178 hM
          case hv_21 => rfl
          refine S_iconst (q := 105) (v := 1) hX dX11_fact_104 ic_1 rfl ?_
          refine S_isub (q := 106) hX dX11_fact_105 rfl ?_
          refine S_iret hX dX11_fact_106 (Nat.zero_le _) (Nat.zero_le _) ?_
          refine hP _ _ _ ?_
          have cz := lnZ_row (x := x67) (by omega)
          have cy := tN_ex c19.1
          have hsp : sp_fact S x67 x83 = (nI S.1.2.2.2.2.2.1, stC S (S.1.1, S.1.2.1, S.1.2.2.1, S.1.2.2.2.1, S.1.2.2.2.2.1, (S.1.2.2.2.2.2.1 + 1, fu S.1.2.2.2.2.2.2 S.1.2.2.2.2.2.1 (tN x67, tN x83)))) := by unfold sp_fact; rw [if_neg (by rintro (w | w); exact w ⟨by omega, by omega⟩; exact w c19), if_neg (by omega)]
          rw [hsp]
          rw [hw, nI_clamp (by omega)] at e67
          have hw2 : μ67 1 3 = nI S.1.2.2.2.2.2.1 := by rw [e67, m2_o (by decide)]; exact hw
          rw [hw2, nI_clamp (by omega)] at e83
          have hw3 : μ83 1 3 = nI S.1.2.2.2.2.2.1 := by rw [e83, m2_o (by decide)]; exact hw2
          rw [hw3, nI_1] at e94
          have g : ∀ j, j ≠ 1 → j ≠ 41 → j ≠ 42 → μ94 j = γ j := fun j h1 h2 h3 => by rw [e94, m2_o h1, e83, m2_o h3, e67, m2_o h2]
          have g0 : ∀ i, i ≠ 3 → μ94 1 i = γ 1 i := fun i hi => by rw [e94, m2_at, if_neg (fun z => hi z.2), e83, m2_o (by decide), e67, m2_o (by decide)]
          refine ⟨_, hM, hF, by rw [e94, m2_at, if_pos ⟨rfl, rfl⟩, s1_s], hR.now ok (fun j a b => g j (by omega) (by omega) (by omega)) ⟨t0.ext (fun j hj => g _ (by omega) (by omega) (by omega)), t1.ext o3 (fun j h1 h2 => g _ (by omega) (by omega) (by omega)), (g0 0 (by decide)).trans t2, (g0 1 (by decide)).trans t3, fun k hk => by show μ94 (1 + 38) k = _; rw [g _ (by decide) (by decide) (by decide)]; exact t4 k hk, (g0 2 (by decide)).trans t5, fun k hk => by show μ94 (1 + 39) k = _; rw [g _ (by decide) (by decide) (by decide)]; exact t6 k hk, by show μ94 1 3 = _; rw [e94, m2_at, if_pos ⟨rfl, rfl⟩], fun k hk => ?_⟩, rfl⟩
          have hk : k < S.1.2.2.2.2.2.1 + 1 := hk
          show μ94 41 k = nI (fu S.1.2.2.2.2.2.2 S.1.2.2.2.2.2.1 (tN x67, tN x83) k).1 ∧ μ94 42 k = nI (fu S.1.2.2.2.2.2.2 S.1.2.2.2.2.2.1 (tN x67, tN x83) k).2
          rw [e94, m2_o (by decide), m2_o (by decide), e83, m2_at, m2_at, e67, m2_at, m2_at]
          by_cases hkn : k = S.1.2.2.2.2.2.1
          · rw [if_neg (by omega), if_pos ⟨rfl, hkn⟩, if_pos ⟨rfl, hkn⟩, hkn, fu_eq]; exact ⟨cz.1, cy.1⟩
          · rw [if_neg (by omega), if_neg (fun z => hkn z.2), if_neg (fun z => hkn z.2), if_neg (by omega), fu_ne hkn]; exact t8 k (by omega)
        · have k40 := c40
          rw [hw, i8, nI_ltI (by omega) (by decide)] at k40
          refine S_aload_n (q := 44) hX dX11_fact_43 rfl rfl ?_
          refine S_bipush (q := 46) (v := (-4)) hX dX11_fact_44 bp_m4 rfl ?_
          refine S_bipush (q := 48) (v := (-4)) hX dX11_fact_46 bp_m4 rfl ?_
          refine S_callV (ci := 11) (C := "FanTalk") (T := TX11) (N := 11) (q := 51) 0 0 hX (c_X11_refused q γ _ _ 2 (by decide)) rfl ?hs_22 rfl u_323 u_325 us_0 u_1 u_326 ⟨by decide, by decide, rfl⟩ ⟨Nat.le_of_ble_eq_true rfl, Nat.le_of_ble_eq_true rfl⟩ ⟨Nat.le_of_ble_eq_true rfl, Nat.le_of_ble_eq_true rfl⟩ (Nat.le_of_ble_eq_true rfl) dX11_fact_48 ?hp_22 rfl rfl rfl ?_
          case hs_22 => first | with_reducible assumption | exact ⟨_, FK.c0 hM⟩ | exact ⟨_, FK.c2 hM⟩ | exact ⟨_, FK.c7 hM⟩ | exact ⟨_, FK.c129 hM⟩ | exact ⟨_, FK.c173 hM⟩ | exact ⟨_, FK.c1 hM⟩
          case hp_22 => exact ⟨hM, by decide⟩
          rintro v σ sz1 ⟨μ9, hM, hF1, rfl, e9, rfl⟩
          have hF := hF.trans hF1
          refine S_iret hX dX11_fact_51 (Nat.zero_le _) (Nat.zero_le _) ?_
          refine hP _ _ _ ?_
          have hsp : sp_fact S x y = (-4, rfS S 2) := by unfold sp_fact; rw [if_neg (by rintro (w | w); exact w ⟨by omega, by omega⟩; exact w c19), if_pos (by omega)]
          rw [hsp]
          exact ⟨_, hM, hF, rfl, hR.rf ok e9, rfl⟩
      · refine S_aload_n (q := 23) hX dX11_fact_22 rfl rfl ?_
        refine S_bipush (q := 25) (v := (-2)) hX dX11_fact_23 bp_m2 rfl ?_
        refine S_bipush (q := 27) (v := (-2)) hX dX11_fact_25 bp_m2 rfl ?_
        refine S_callV (ci := 11) (C := "FanTalk") (T := TX11) (N := 11) (q := 30) 0 0 hX (c_X11_refused q γ _ _ 0 (by decide)) rfl ?hs_23 rfl u_323 u_325 us_0 u_1 u_326 ⟨by decide, by decide, rfl⟩ ⟨Nat.le_of_ble_eq_true rfl, Nat.le_of_ble_eq_true rfl⟩ ⟨Nat.le_of_ble_eq_true rfl, Nat.le_of_ble_eq_true rfl⟩ (Nat.le_of_ble_eq_true rfl) dX11_fact_27 ?hp_23 rfl rfl rfl ?_
        case hs_23 => first | with_reducible assumption | exact ⟨_, FK.c0 hM⟩ | exact ⟨_, FK.c2 hM⟩ | exact ⟨_, FK.c7 hM⟩ | exact ⟨_, FK.c129 hM⟩ | exact ⟨_, FK.c173 hM⟩ | exact ⟨_, FK.c1 hM⟩
        case hp_23 => exact ⟨hM, by decide⟩
        rintro v σ sz1 ⟨μ9, hM, hF1, rfl, e9, rfl⟩
        have hF := hF.trans hF1
        refine S_iret hX dX11_fact_30 (Nat.zero_le _) (Nat.zero_le _) ?_
        refine hP _ _ _ ?_
        have hsp : sp_fact S x y = (-2, rfS S 0) := by unfold sp_fact; rw [if_pos (Or.inr c19)]
        rw [hsp]
        exact ⟨_, hM, hF, rfl, hR.rf ok e9, rfl⟩
theorem c_X11_undo (q : Nat) (γ : MF) (S : ST)  : CT_X11_undo [.ref q] (fun Γ σ sz => FK σ q γ ∧ FR γ S ∧ StOk S) (fun Γ σ sz v σ' sz' => ∃ γ', FK σ' q γ' ∧ Fr q (q + 179) σ σ' ∧ v = some (.int (sp_undo S).1) ∧ FR γ' (sp_undo S).2 ∧ sz' = sz) := by
  refine CT.mkP rfl (Nat.le_of_ble_eq_true rfl) [_] rfl ?_
  intro X Γ σ sz P hX hpre hsz hP
  obtain ⟨hM, hR, ok⟩ := hpre
  obtain ⟨σ0, eσ0⟩ : ∃ z, z = σ := ⟨σ, rfl⟩
  rw [← eσ0] at hP
  have hF : Fr q (q + 179) σ0 σ := by rw [eσ0]; exact Fr.rf
  obtain ⟨r0, r1, r2, r3, r4, r5⟩ := id hR
  obtain ⟨t0, t1, t2, t3, t4, t5, t6, t7, t8⟩ := id r0
  obtain ⟨o1, o2, o3, o4, o5, o6, o7, o8, o9, o10⟩ := id ok.1
  have hk7 : γ 7 0 = nI S.1.2.1.1 := t1.1
  refine S_aload_n (q := 1) hX dX11_undo_0 rfl rfl ?_
  refine S_getf (fs := ?fs_1) (v := ?v_1) (q := 4) hX u_285 fo_X11_now dX11_undo_1 ?hs_1 ?hv_1 rfl ?_
  case hs_1 => with_reducible first | exact FK.c0 hM | exact FK.c1 hM | exact FK.c2 hM | exact FK.c7 hM | exact FK.c129 hM | exact FK.c3 hM | exact FK.c4 hM | exact FK.c5 hM | exact FK.c6 hM | exact FK.c39 hM | exact FK.c40 hM | exact FK.c41 hM | exact FK.c42 hM | exact FK.c43 hM | exact FK.c128 hM | exact FK.c136 hM | exact FK.c137 hM | exact FK.c173 hM | exact FK.c174 hM | exact FK.c175 hM | exact FK.c176 hM | exact FK.c177 hM | exact FK.c178 hM
  case hv_1 => rfl
  refine S_getf (fs := ?fs_2) (v := ?v_2) (q := 7) hX u_87 fo_X9_past dX11_undo_4 ?hs_2 ?hv_2 rfl ?_
  case hs_2 => with_reducible first | exact FK.c0 hM | exact FK.c1 hM | exact FK.c2 hM | exact FK.c7 hM | exact FK.c129 hM | exact FK.c3 hM | exact FK.c4 hM | exact FK.c5 hM | exact FK.c6 hM | exact FK.c39 hM | exact FK.c40 hM | exact FK.c41 hM | exact FK.c42 hM | exact FK.c43 hM | exact FK.c128 hM | exact FK.c136 hM | exact FK.c137 hM | exact FK.c173 hM | exact FK.c174 hM | exact FK.c175 hM | exact FK.c176 hM | exact FK.c177 hM | exact FK.c178 hM
  case hv_2 => rfl
  refine S_getf (fs := ?fs_3) (v := ?v_3) (q := 10) hX u_78 fo_X6_kept dX11_undo_7 ?hs_3 ?hv_3 rfl ?_
  case hs_3 => with_reducible first | exact FK.c0 hM | exact FK.c1 hM | exact FK.c2 hM | exact FK.c7 hM | exact FK.c129 hM | exact FK.c3 hM | exact FK.c4 hM | exact FK.c5 hM | exact FK.c6 hM | exact FK.c39 hM | exact FK.c40 hM | exact FK.c41 hM | exact FK.c42 hM | exact FK.c43 hM | exact FK.c128 hM | exact FK.c136 hM | exact FK.c137 hM | exact FK.c173 hM | exact FK.c174 hM | exact FK.c175 hM | exact FK.c176 hM | exact FK.c177 hM | exact FK.c178 hM
  case hv_3 => rfl
  refine S_if_ne (q := 13) 22 hX dX11_undo_10 rfl rfl (fun c10 => ?_) (fun c10 => ?_)
  · have hz : 0 < S.1.2.1.1 := by
      rcases Nat.eq_zero_or_pos S.1.2.1.1 with w | w
      · exact absurd (by rw [hk7, w]; rfl) c10
      · exact w
    refine S_aload_n (q := 23) hX dX11_undo_22 rfl rfl ?_
    refine S_getf (fs := ?fs_4) (v := ?v_4) (q := 26) hX u_285 fo_X11_now dX11_undo_23 ?hs_4 ?hv_4 rfl ?_
    case hs_4 => with_reducible first | exact FK.c0 hM | exact FK.c1 hM | exact FK.c2 hM | exact FK.c7 hM | exact FK.c129 hM | exact FK.c3 hM | exact FK.c4 hM | exact FK.c5 hM | exact FK.c6 hM | exact FK.c39 hM | exact FK.c40 hM | exact FK.c41 hM | exact FK.c42 hM | exact FK.c43 hM | exact FK.c128 hM | exact FK.c136 hM | exact FK.c137 hM | exact FK.c173 hM | exact FK.c174 hM | exact FK.c175 hM | exact FK.c176 hM | exact FK.c177 hM | exact FK.c178 hM
    case hv_4 => rfl
    refine S_getf (fs := ?fs_5) (v := ?v_5) (q := 29) hX u_87 fo_X9_past dX11_undo_26 ?hs_5 ?hv_5 rfl ?_
    case hs_5 => with_reducible first | exact FK.c0 hM | exact FK.c1 hM | exact FK.c2 hM | exact FK.c7 hM | exact FK.c129 hM | exact FK.c3 hM | exact FK.c4 hM | exact FK.c5 hM | exact FK.c6 hM | exact FK.c39 hM | exact FK.c40 hM | exact FK.c41 hM | exact FK.c42 hM | exact FK.c43 hM | exact FK.c128 hM | exact FK.c136 hM | exact FK.c137 hM | exact FK.c173 hM | exact FK.c174 hM | exact FK.c175 hM | exact FK.c176 hM | exact FK.c177 hM | exact FK.c178 hM
    case hv_5 => rfl
    refine S_aload_n (q := 30) hX dX11_undo_29 rfl rfl ?_
    refine S_getf (fs := ?fs_6) (v := ?v_6) (q := 33) hX u_285 fo_X11_now dX11_undo_30 ?hs_6 ?hv_6 rfl ?_
    case hs_6 => with_reducible first | exact FK.c0 hM | exact FK.c1 hM | exact FK.c2 hM | exact FK.c7 hM | exact FK.c129 hM | exact FK.c3 hM | exact FK.c4 hM | exact FK.c5 hM | exact FK.c6 hM | exact FK.c39 hM | exact FK.c40 hM | exact FK.c41 hM | exact FK.c42 hM | exact FK.c43 hM | exact FK.c128 hM | exact FK.c136 hM | exact FK.c137 hM | exact FK.c173 hM | exact FK.c174 hM | exact FK.c175 hM | exact FK.c176 hM | exact FK.c177 hM | exact FK.c178 hM
    case hv_6 => rfl
    refine S_getf (fs := ?fs_7) (v := ?v_7) (q := 36) hX u_85 fo_X9_codes dX11_undo_33 ?hs_7 ?hv_7 rfl ?_
    case hs_7 => with_reducible first | exact FK.c0 hM | exact FK.c1 hM | exact FK.c2 hM | exact FK.c7 hM | exact FK.c129 hM | exact FK.c3 hM | exact FK.c4 hM | exact FK.c5 hM | exact FK.c6 hM | exact FK.c39 hM | exact FK.c40 hM | exact FK.c41 hM | exact FK.c42 hM | exact FK.c43 hM | exact FK.c128 hM | exact FK.c136 hM | exact FK.c137 hM | exact FK.c173 hM | exact FK.c174 hM | exact FK.c175 hM | exact FK.c176 hM | exact FK.c177 hM | exact FK.c178 hM
    case hv_7 => rfl
    refine S_callV (ci := 6) (C := "FanTalk$Past") (T := TX6) (N := 2) (q := 39) 0 0 hX (c_X6_bringBack (q + 1) (fun j => γ (1 + j)) S.1.2.1) rfl ?hs_8 rfl u_632 u_633 u_634 u_4 u_635 ⟨by decide, by decide, rfl⟩ ⟨Nat.le_of_ble_eq_true rfl, Nat.le_of_ble_eq_true rfl⟩ ⟨Nat.le_of_ble_eq_true rfl, Nat.le_of_ble_eq_true rfl⟩ (Nat.le_of_ble_eq_true rfl) dX11_undo_36 ?hp_8 rfl rfl rfl ?_
    case hs_8 => exact ⟨_, FK.c7 hM⟩
    case hp_8 => exact ⟨FK.tk hM, t1, hz, o3, fun k hk => (o4 k hk).s o1⟩
    rintro v σ sz1 ⟨g1, hM1, hF1, rfl, ⟨hP1, hB1, ho1⟩, rfl⟩
    have hM := FK.jtk hM hF1 hM1
    have hF := hF.trans (hF1.mono (Nat.le_add_right _ _) (by omega))
    refine S_iconst (q := 40) (v := 1) hX dX11_undo_39 ic_1 rfl ?_
    refine S_iret hX dX11_undo_40 (Nat.zero_le _) (Nat.zero_le _) ?_
    refine hP _ _ _ ?_
    have hsp : sp_undo S = (1, stC S (S.1.2.1.2 (S.1.2.1.1 - 1), (S.1.2.1.1 - 1, S.1.2.1.2), S.1.2.2)) := by unfold sp_undo; rw [if_neg (by omega)]
    rw [hsp]
    refine ⟨_, hM, hF, rfl, hR.now ok (fun j a b => spl_out (by omega)) (TkR.ext (f := g1) ?_ (by show S.1.2.1.1 - 1 ≤ 6; omega) (fun j hj => sp1 hj)), rfl⟩
    exact r0.past hB1 hP1 (fun j a b => ho1 j (by omega) a)
  · have hz : S.1.2.1.1 = 0 := nI_inj (by omega) (by decide) (hk7.symm.trans c10)
    refine S_aload_n (q := 14) hX dX11_undo_13 rfl rfl ?_
    refine S_bipush (q := 16) (v := (-3)) hX dX11_undo_14 bp_m3 rfl ?_
    refine S_bipush (q := 18) (v := (-3)) hX dX11_undo_16 bp_m3 rfl ?_
    refine S_callV (ci := 11) (C := "FanTalk") (T := TX11) (N := 11) (q := 21) 0 0 hX (c_X11_refused q γ _ _ 1 (by decide)) rfl ?hs_9 rfl u_323 u_325 us_0 u_1 u_326 ⟨by decide, by decide, rfl⟩ ⟨Nat.le_of_ble_eq_true rfl, Nat.le_of_ble_eq_true rfl⟩ ⟨Nat.le_of_ble_eq_true rfl, Nat.le_of_ble_eq_true rfl⟩ (Nat.le_of_ble_eq_true rfl) dX11_undo_18 ?hp_9 rfl rfl rfl ?_
    case hs_9 => first | with_reducible assumption | exact ⟨_, FK.c0 hM⟩ | exact ⟨_, FK.c2 hM⟩ | exact ⟨_, FK.c7 hM⟩ | exact ⟨_, FK.c129 hM⟩ | exact ⟨_, FK.c173 hM⟩ | exact ⟨_, FK.c1 hM⟩
    case hp_9 => exact ⟨hM, by decide⟩
    rintro v σ sz1 ⟨μ9, hM, hF1, rfl, e9, rfl⟩
    have hF := hF.trans hF1
    refine S_iret hX dX11_undo_21 (Nat.zero_le _) (Nat.zero_le _) ?_
    refine hP _ _ _ ?_
    have hsp : sp_undo S = (-3, rfS S 1) := by unfold sp_undo; rw [if_pos hz]
    rw [hsp]
    exact ⟨_, hM, hF, rfl, hR.rf ok e9, rfl⟩
theorem c_X11_year (q : Nat) (γ : MF) (S : ST)  : CT_X11_year [.ref q] (fun Γ σ sz => FK σ q γ ∧ FR γ S ∧ StOk S) (fun Γ σ sz v σ' sz' => ∃ γ', FK σ' q γ' ∧ Fr q (q + 179) σ σ' ∧ v = some (.int (sp_year S).1) ∧ FR γ' (sp_year S).2 ∧ sz' = sz) := by
  refine CT.mkP rfl (Nat.le_of_ble_eq_true rfl) [_] rfl ?_
  intro X Γ σ sz P hX hpre hsz hP
  obtain ⟨hM, hR, ok⟩ := hpre
  obtain ⟨σ0, eσ0⟩ : ∃ z, z = σ := ⟨σ, rfl⟩
  rw [← eσ0] at hP
  have hF : Fr q (q + 179) σ0 σ := by rw [eσ0]; exact Fr.rf
  obtain ⟨r0, r1, r2, r3, r4, r5⟩ := id hR
  obtain ⟨t0, t1, t2, t3, t4, t5, t6, t7, t8⟩ := id r0
  obtain ⟨o1, o2, o3, o4, o5, o6, o7, o8, o9, o10⟩ := id ok.1
  refine S_aload_n (q := 1) hX dX11_year_0 rfl rfl ?_
  refine S_getf (fs := ?fs_1) (v := ?v_1) (q := 4) hX u_285 fo_X11_now dX11_year_1 ?hs_1 ?hv_1 rfl ?_
  case hs_1 => with_reducible first | exact FK.c0 hM | exact FK.c1 hM | exact FK.c2 hM | exact FK.c7 hM | exact FK.c129 hM | exact FK.c3 hM | exact FK.c4 hM | exact FK.c5 hM | exact FK.c6 hM | exact FK.c39 hM | exact FK.c40 hM | exact FK.c41 hM | exact FK.c42 hM | exact FK.c43 hM | exact FK.c128 hM | exact FK.c136 hM | exact FK.c137 hM | exact FK.c173 hM | exact FK.c174 hM | exact FK.c175 hM | exact FK.c176 hM | exact FK.c177 hM | exact FK.c178 hM
  case hv_1 => rfl
  refine S_getf (fs := ?fs_2) (v := ?v_2) (q := 7) hX u_87 fo_X9_past dX11_year_4 ?hs_2 ?hv_2 rfl ?_
  case hs_2 => with_reducible first | exact FK.c0 hM | exact FK.c1 hM | exact FK.c2 hM | exact FK.c7 hM | exact FK.c129 hM | exact FK.c3 hM | exact FK.c4 hM | exact FK.c5 hM | exact FK.c6 hM | exact FK.c39 hM | exact FK.c40 hM | exact FK.c41 hM | exact FK.c42 hM | exact FK.c43 hM | exact FK.c128 hM | exact FK.c136 hM | exact FK.c137 hM | exact FK.c173 hM | exact FK.c174 hM | exact FK.c175 hM | exact FK.c176 hM | exact FK.c177 hM | exact FK.c178 hM
  case hv_2 => rfl
  refine S_aload_n (q := 8) hX dX11_year_7 rfl rfl ?_
  refine S_getf (fs := ?fs_3) (v := ?v_3) (q := 11) hX u_285 fo_X11_now dX11_year_8 ?hs_3 ?hv_3 rfl ?_
  case hs_3 => with_reducible first | exact FK.c0 hM | exact FK.c1 hM | exact FK.c2 hM | exact FK.c7 hM | exact FK.c129 hM | exact FK.c3 hM | exact FK.c4 hM | exact FK.c5 hM | exact FK.c6 hM | exact FK.c39 hM | exact FK.c40 hM | exact FK.c41 hM | exact FK.c42 hM | exact FK.c43 hM | exact FK.c128 hM | exact FK.c136 hM | exact FK.c137 hM | exact FK.c173 hM | exact FK.c174 hM | exact FK.c175 hM | exact FK.c176 hM | exact FK.c177 hM | exact FK.c178 hM
  case hv_3 => rfl
  refine S_getf (fs := ?fs_4) (v := ?v_4) (q := 14) hX u_85 fo_X9_codes dX11_year_11 ?hs_4 ?hv_4 rfl ?_
  case hs_4 => with_reducible first | exact FK.c0 hM | exact FK.c1 hM | exact FK.c2 hM | exact FK.c7 hM | exact FK.c129 hM | exact FK.c3 hM | exact FK.c4 hM | exact FK.c5 hM | exact FK.c6 hM | exact FK.c39 hM | exact FK.c40 hM | exact FK.c41 hM | exact FK.c42 hM | exact FK.c43 hM | exact FK.c128 hM | exact FK.c136 hM | exact FK.c137 hM | exact FK.c173 hM | exact FK.c174 hM | exact FK.c175 hM | exact FK.c176 hM | exact FK.c177 hM | exact FK.c178 hM
  case hv_4 => rfl
  refine S_callV (ci := 6) (C := "FanTalk$Past") (T := TX6) (N := 2) (q := 17) 0 0 hX (c_X6_keep (q + 1) (fun j => γ (1 + j)) S.1.2.1 S.1.1) rfl ?hs_5 rfl u_598 u_599 u_600 u_4 u_601 ⟨by decide, by decide, rfl⟩ ⟨Nat.le_of_ble_eq_true rfl, Nat.le_of_ble_eq_true rfl⟩ ⟨Nat.le_of_ble_eq_true rfl, Nat.le_of_ble_eq_true rfl⟩ (Nat.le_of_ble_eq_true rfl) dX11_year_14 ?hp_5 rfl rfl rfl ?_
  case hs_5 => exact ⟨_, FK.c7 hM⟩
  case hp_5 => exact ⟨FK.tk hM, t1, o3, t0, o2.s o1⟩
  rintro v σ sz1 ⟨g1, hM1, hF1, rfl, ⟨hP1, ho1⟩, rfl⟩
  have hM := FK.jtk hM hF1 hM1
  have hF := hF.trans (hF1.mono (Nat.le_add_right _ _) (by omega))
  refine S_aload_n (q := 18) hX dX11_year_17 rfl rfl ?_
  refine S_getf (fs := ?fs_6) (v := ?v_6) (q := 21) hX u_285 fo_X11_now dX11_year_18 ?hs_6 ?hv_6 rfl ?_
  case hs_6 => with_reducible first | exact FK.c0 hM | exact FK.c1 hM | exact FK.c2 hM | exact FK.c7 hM | exact FK.c129 hM | exact FK.c3 hM | exact FK.c4 hM | exact FK.c5 hM | exact FK.c6 hM | exact FK.c39 hM | exact FK.c40 hM | exact FK.c41 hM | exact FK.c42 hM | exact FK.c43 hM | exact FK.c128 hM | exact FK.c136 hM | exact FK.c137 hM | exact FK.c173 hM | exact FK.c174 hM | exact FK.c175 hM | exact FK.c176 hM | exact FK.c177 hM | exact FK.c178 hM
  case hv_6 => rfl
  refine S_getf (fs := ?fs_7) (v := ?v_7) (q := 24) hX u_85 fo_X9_codes dX11_year_21 ?hs_7 ?hv_7 rfl ?_
  case hs_7 => with_reducible first | exact FK.c0 hM | exact FK.c1 hM | exact FK.c2 hM | exact FK.c7 hM | exact FK.c129 hM | exact FK.c3 hM | exact FK.c4 hM | exact FK.c5 hM | exact FK.c6 hM | exact FK.c39 hM | exact FK.c40 hM | exact FK.c41 hM | exact FK.c42 hM | exact FK.c43 hM | exact FK.c128 hM | exact FK.c136 hM | exact FK.c137 hM | exact FK.c173 hM | exact FK.c174 hM | exact FK.c175 hM | exact FK.c176 hM | exact FK.c177 hM | exact FK.c178 hM
  case hv_7 => rfl
  refine S_callV (ci := 2) (C := "FanTalk$Codes") (T := TX2) (N := 5) (q := 27) 0 0 hX (c_X2_dropUnused (q + 2) (fun j => spl γ 1 42 g1 (2 + j)) S.1.1) rfl ?hs_8 rfl u_620 u_621 u_622 u_3 u_623 ⟨by decide, by decide, rfl⟩ ⟨Nat.le_of_ble_eq_true rfl, Nat.le_of_ble_eq_true rfl⟩ ⟨Nat.le_of_ble_eq_true rfl, Nat.le_of_ble_eq_true rfl⟩ (Nat.le_of_ble_eq_true rfl) dX11_year_24 ?hp_8 rfl rfl rfl ?_
  case hs_8 => exact ⟨_, FK.c2 hM⟩
  case hp_8 => exact ⟨FK.co hM, t0.ext (fun j hj => by show spl γ 1 42 g1 (2 + j) = γ (1 + (1 + j)); rw [show 2 + j = 1 + (1 + j) by omega, sp1 (by omega)]; exact ho1 _ (by omega) (by omega) (by omega)), o2.s o1, fun c hc => o2.2.1 c hc, o2.2.2⟩
  rintro v σ sz1 ⟨g2, hM2, hF2, rfl, hB2, rfl⟩
  have hM := FK.jco hM hF2 hM2
  have hF := hF.trans (hF2.mono (Nat.le_add_right _ _) (by omega))
  refine S_iret hX dX11_year_27 (Nat.zero_le _) (Nat.zero_le _) ?_
  refine hP _ _ _ ?_
  refine ⟨_, hM, hF, rfl, hR.now ok (fun j a b => by rw [spl_out (by omega), spl_out (by omega)]) (TkR.ext (f := fun j => spl (spl γ 1 42 g1) 2 5 g2 (1 + j)) ?_ (psh_le o3) (fun j hj => rfl)), rfl⟩
  refine r0.past (f' := fun j => spl (spl γ 1 42 g1) 2 5 g2 (1 + j)) (hB2.ext (fun j hj => ?_)) (hP1.ext (psh_le o3) (fun j h1 h2 => ?_)) (fun j a b => ?_)
  · show spl (spl γ 1 42 g1) 2 5 g2 (1 + (1 + j)) = g2 j; rw [spl_in ⟨by omega, by omega⟩, show 1 + (1 + j) - 2 = j by omega]
  · show spl (spl γ 1 42 g1) 2 5 g2 (1 + j) = g1 j; rw [spl_out (by omega), sp1 (by omega)]
  · show spl (spl γ 1 42 g1) 2 5 g2 (1 + j) = γ (1 + j); rw [spl_out (by omega), sp1 b]; exact ho1 j (by omega) (by omega) (by omega)
theorem c_X11_image (q : Nat) (γ : MF) (S : ST) (x : Int32) : CT_X11_image [.ref q, .int x] (fun Γ σ sz => FK σ q γ ∧ FR γ S ∧ StOk S) (fun Γ σ sz v σ' sz' => ∃ γ', FK σ' q γ' ∧ Fr q (q + 179) σ σ' ∧ v = some (.int (sp_image S x).1) ∧ FR γ' (sp_image S x).2 ∧ sz' = sz) := by
  refine CT.mkP rfl (Nat.le_of_ble_eq_true rfl) [_, _] rfl ?_
  intro X Γ σ sz P hX hpre hsz hP
  obtain ⟨hM, hR, ok⟩ := hpre
  obtain ⟨σ0, eσ0⟩ : ∃ z, z = σ := ⟨σ, rfl⟩
  rw [← eσ0] at hP
  have hF : Fr q (q + 179) σ0 σ := by rw [eσ0]; exact Fr.rf
  obtain ⟨r0, r1, r2, r3, r4, r5⟩ := id hR
  obtain ⟨t0, t1, t2, t3, t4, t5, t6, t7, t8⟩ := id r0
  obtain ⟨o1, o2, o3, o4, o5, o6, o7, o8, o9, o10⟩ := id ok.1
  refine S_iload_n (q := 1) hX dX11_image_0 rfl rfl ?_
  refine S_if_lt (q := 4) 9 hX dX11_image_1 rfl rfl (fun c1 => ?_) (fun c1 => ?_)
  · have k1 := c1
    rw [lt_i, show ((0 : Int32)).toInt = 0 by decide] at k1
    refine S_aload_n (q := 10) hX dX11_image_9 rfl rfl ?_
    refine S_bipush (q := 12) (v := (-2)) hX dX11_image_10 bp_m2 rfl ?_
    refine S_bipush (q := 14) (v := (-2)) hX dX11_image_12 bp_m2 rfl ?_
    refine S_callV (ci := 11) (C := "FanTalk") (T := TX11) (N := 11) (q := 17) 0 0 hX (c_X11_refused q γ _ _ 0 (by decide)) rfl ?hs_1 rfl u_323 u_325 us_0 u_1 u_326 ⟨by decide, by decide, rfl⟩ ⟨Nat.le_of_ble_eq_true rfl, Nat.le_of_ble_eq_true rfl⟩ ⟨Nat.le_of_ble_eq_true rfl, Nat.le_of_ble_eq_true rfl⟩ (Nat.le_of_ble_eq_true rfl) dX11_image_14 ?hp_1 rfl rfl rfl ?_
    case hs_1 => first | with_reducible assumption | exact ⟨_, FK.c0 hM⟩ | exact ⟨_, FK.c2 hM⟩ | exact ⟨_, FK.c7 hM⟩ | exact ⟨_, FK.c129 hM⟩ | exact ⟨_, FK.c173 hM⟩ | exact ⟨_, FK.c1 hM⟩
    case hp_1 => exact ⟨hM, by decide⟩
    rintro v σ sz1 ⟨μ9, hM, hF1, rfl, e9, rfl⟩
    have hF := hF.trans hF1
    refine S_iret hX dX11_image_17 (Nat.zero_le _) (Nat.zero_le _) ?_
    refine hP _ _ _ ?_
    have hsp : sp_image S x = (-2, rfS S 0) := by unfold sp_image; rw [if_pos (fun z => by have := z.1; have := z.2; omega)]
    rw [hsp]
    exact ⟨_, hM, hF, rfl, hR.rf ok e9, rfl⟩
  · have k1 := c1
    rw [lt_i, show ((0 : Int32)).toInt = 0 by decide] at k1
    refine S_iload_n (q := 5) hX dX11_image_4 rfl rfl ?_
    refine S_iconst (q := 6) (v := 2) hX dX11_image_5 ic_2 rfl ?_
    refine S_icmp_lt (q := 9) 18 hX dX11_image_6 rfl rfl (fun c6 => ?_) (fun c6 => ?_)
    · have k6 := c6
      rw [lt_i, show ((2 : Int32)).toInt = 2 by decide] at k6
      have hi2 : tN x < 2 := (inb_ok (x := x) (n := 2) (by omega) (by omega)).2.1
      refine S_aload_n (q := 19) hX dX11_image_18 rfl rfl ?_
      refine S_getf (fs := ?fs_2) (v := ?v_2) (q := 22) hX u_286 fo_X11_images dX11_image_19 ?hs_2 ?hv_2 rfl ?_
      case hs_2 => with_reducible first | exact FK.c0 hM | exact FK.c1 hM | exact FK.c2 hM | exact FK.c7 hM | exact FK.c129 hM | exact FK.c3 hM | exact FK.c4 hM | exact FK.c5 hM | exact FK.c6 hM | exact FK.c39 hM | exact FK.c40 hM | exact FK.c41 hM | exact FK.c42 hM | exact FK.c43 hM | exact FK.c128 hM | exact FK.c136 hM | exact FK.c137 hM | exact FK.c173 hM | exact FK.c174 hM | exact FK.c175 hM | exact FK.c176 hM | exact FK.c177 hM | exact FK.c178 hM
      case hv_2 => rfl
      refine S_iload_n (q := 23) hX dX11_image_22 rfl rfl ?_
      refine S_aald (N := ?n_3) (f := ?f_3) (y := q + (44 + 42 * tN x)) (q := 24) (t := 5) hX dX11_image_23 (by decide) rfl ?hs_3 ?hi_3 ?hy_3 rfl ?_
      case hs_3 => with_reducible first | exact FK.c0 hM | exact FK.c1 hM | exact FK.c2 hM | exact FK.c7 hM | exact FK.c129 hM | exact FK.c3 hM | exact FK.c4 hM | exact FK.c5 hM | exact FK.c6 hM | exact FK.c39 hM | exact FK.c40 hM | exact FK.c41 hM | exact FK.c42 hM | exact FK.c43 hM | exact FK.c128 hM | exact FK.c136 hM | exact FK.c137 hM | exact FK.c173 hM | exact FK.c174 hM | exact FK.c175 hM | exact FK.c176 hM | exact FK.c177 hM | exact FK.c178 hM
      case hi_3 => rw [vp_in_iff]; omega
      case hy_3 => rfl
      refine S_aload_n (q := 25) hX dX11_image_24 rfl rfl ?_
      refine S_getf (fs := ?fs_4) (v := ?v_4) (q := 28) hX u_285 fo_X11_now dX11_image_25 ?hs_4 ?hv_4 rfl ?_
      case hs_4 => with_reducible first | exact FK.c0 hM | exact FK.c1 hM | exact FK.c2 hM | exact FK.c7 hM | exact FK.c129 hM | exact FK.c3 hM | exact FK.c4 hM | exact FK.c5 hM | exact FK.c6 hM | exact FK.c39 hM | exact FK.c40 hM | exact FK.c41 hM | exact FK.c42 hM | exact FK.c43 hM | exact FK.c128 hM | exact FK.c136 hM | exact FK.c137 hM | exact FK.c173 hM | exact FK.c174 hM | exact FK.c175 hM | exact FK.c176 hM | exact FK.c177 hM | exact FK.c178 hM
      case hv_4 => rfl
      refine S_callV (ci := 9) (C := "FanTalk$Talk") (T := TX9) (N := 10) (q := 31) 0 0 hX (c_X9_take (q + (44 + 42 * tN x)) (fun j => γ (44 + 42 * tN x + j)) (q + 1) (fun j => γ (1 + j)) S.1) rfl ?hs_5 rfl u_738 u_739 u_740 u_2 u_741 ⟨by decide, by decide, rfl⟩ ⟨Nat.le_of_ble_eq_true rfl, Nat.le_of_ble_eq_true rfl⟩ ⟨Nat.le_of_ble_eq_true rfl, Nat.le_of_ble_eq_true rfl⟩ (Nat.le_of_ble_eq_true rfl) dX11_image_28 ?hp_5 rfl rfl rfl ?_
      case hs_5 => exact ⟨_, (FK.im hi2 hM).c0⟩
      case hp_5 => exact ⟨FK.im hi2 hM, FK.tk hM, by omega, (r1 _ hi2).1, r0, ok.1⟩
      rintro v σ sz1 ⟨g1, hM1, hF1, rfl, hTk, rfl⟩
      have hM := FK.jim hi2 hM hF1 hM1
      have hF := hF.trans (hF1.mono (Nat.le_add_right _ _) (by omega))
      refine S_aload_n (q := 32) hX dX11_image_31 rfl rfl ?_
      refine S_getf (fs := ?fs_6) (v := ?v_6) (q := 35) hX u_287 fo_X11_kept dX11_image_32 ?hs_6 ?hv_6 rfl ?_
      case hs_6 => with_reducible first | exact FK.c0 hM | exact FK.c1 hM | exact FK.c2 hM | exact FK.c7 hM | exact FK.c129 hM | exact FK.c3 hM | exact FK.c4 hM | exact FK.c5 hM | exact FK.c6 hM | exact FK.c39 hM | exact FK.c40 hM | exact FK.c41 hM | exact FK.c42 hM | exact FK.c43 hM | exact FK.c128 hM | exact FK.c136 hM | exact FK.c137 hM | exact FK.c173 hM | exact FK.c174 hM | exact FK.c175 hM | exact FK.c176 hM | exact FK.c177 hM | exact FK.c178 hM
      case hv_6 => rfl
      refine S_iload_n (q := 36) hX dX11_image_35 rfl rfl ?_
      refine S_iconst (q := 37) (v := 1) hX dX11_image_36 ic_1 rfl ?_
      refine S_nm (fun x37 hx37 => ?_)
      refine S_zast (N := ?n_7) (f := ?f_7) (q := 38) hX dX11_image_37 ?hs_7 ?hi_7 rfl ?_
      case hs_7 => with_reducible first | exact FK.c0 hM | exact FK.c1 hM | exact FK.c2 hM | exact FK.c7 hM | exact FK.c129 hM | exact FK.c3 hM | exact FK.c4 hM | exact FK.c5 hM | exact FK.c6 hM | exact FK.c39 hM | exact FK.c40 hM | exact FK.c41 hM | exact FK.c42 hM | exact FK.c43 hM | exact FK.c128 hM | exact FK.c136 hM | exact FK.c137 hM | exact FK.c173 hM | exact FK.c174 hM | exact FK.c175 hM | exact FK.c176 hM | exact FK.c177 hM | exact FK.c178 hM
      case hi_7 => rw [vp_in_iff]; omega
      refine S_stu (q0 := q) (j := 128) (i := _) hM hF (by decide) rfl (fun σ μ37 e37 hM hF => ?_)
      subst hx37
      refine S_iconst (q := 39) (v := 1) hX dX11_image_38 ic_1 rfl ?_
      refine S_iret hX dX11_image_39 (Nat.zero_le _) (Nat.zero_le _) ?_
      refine hP _ _ _ ?_
      have hsp : sp_image S x = (1, (S.1, fu S.2.1 (tN x) (some S.1), S.2.2)) := by unfold sp_image; rw [if_neg (fun z => z ⟨by omega, by omega⟩)]
      rw [hsp]
      have e37x : μ37 = m2 (spl γ (44 + 42 * tN x) 42 g1) 128 (tN x) 1 := e37
      have g : ∀ j, j ≠ 128 → (j < 44 + 42 * tN x ∨ 44 + 42 * tN x + 42 ≤ j) → μ37 j = γ j := fun j h1 h2 => by rw [e37x, m2_o h1, spl_out (by omega)]
      refine ⟨_, hM, hF, rfl, ⟨r0.ext o3 (fun j hj => g _ (by omega) (by omega)), fun i hi => ?_, fun k hk => by rw [g 136 (by decide) (by omega)]; exact r2 k hk, by rw [g 129 (by decide) (by omega)]; exact r3, fun i hi => by rw [g 130 (by decide) (by omega)]; exact r4 i hi, fun w hw => by show μ37 (129 + 6) w = nI 0; rw [g _ (by decide) (by omega)]; exact r5 w hw⟩, rfl⟩
      show PmR _ ∧ μ37 128 i = bi ((fu S.2.1 (tN x) (some S.1) i).isSome = true) ∧ ∀ C, fu S.2.1 (tN x) (some S.1) i = some C → _
      by_cases hix : i = tN x
      · rw [hix, fu_eq]
        have hT1 : TkR (fun j => μ37 (44 + 42 * tN x + j)) S.1 := hTk.ext o3 (fun j hj => by rw [e37x, m2_o (by omega), spl_in ⟨by omega, by omega⟩, Nat.add_sub_cancel_left])
        exact ⟨hT1.2.1.pm, by rw [e37x, m2_at, if_pos ⟨rfl, rfl⟩]; rfl, fun C hC => by rw [← Option.some.inj hC]; exact hT1⟩
      · rw [fu_ne hix]
        have h128 : μ37 128 i = γ 128 i := by rw [e37x, m2_at, if_neg (fun z => hix z.2), spl_out (by omega)]
        exact ⟨(r1 i hi).1.ext (g _ (by omega) (by omega)), h128.trans (r1 i hi).2.1, fun C hC => ((r1 i hi).2.2 C hC).ext (ok.2.1 i hi C hC).2.2.1 (fun j hj => g _ (by omega) (by omega))⟩
    · have k6 := c6
      rw [lt_i, show ((2 : Int32)).toInt = 2 by decide] at k6
      refine S_aload_n (q := 10) hX dX11_image_9 rfl rfl ?_
      refine S_bipush (q := 12) (v := (-2)) hX dX11_image_10 bp_m2 rfl ?_
      refine S_bipush (q := 14) (v := (-2)) hX dX11_image_12 bp_m2 rfl ?_
      refine S_callV (ci := 11) (C := "FanTalk") (T := TX11) (N := 11) (q := 17) 0 0 hX (c_X11_refused q γ _ _ 0 (by decide)) rfl ?hs_8 rfl u_323 u_325 us_0 u_1 u_326 ⟨by decide, by decide, rfl⟩ ⟨Nat.le_of_ble_eq_true rfl, Nat.le_of_ble_eq_true rfl⟩ ⟨Nat.le_of_ble_eq_true rfl, Nat.le_of_ble_eq_true rfl⟩ (Nat.le_of_ble_eq_true rfl) dX11_image_14 ?hp_8 rfl rfl rfl ?_
      case hs_8 => first | with_reducible assumption | exact ⟨_, FK.c0 hM⟩ | exact ⟨_, FK.c2 hM⟩ | exact ⟨_, FK.c7 hM⟩ | exact ⟨_, FK.c129 hM⟩ | exact ⟨_, FK.c173 hM⟩ | exact ⟨_, FK.c1 hM⟩
      case hp_8 => exact ⟨hM, by decide⟩
      rintro v σ sz1 ⟨μ9, hM, hF1, rfl, e9, rfl⟩
      have hF := hF.trans hF1
      refine S_iret hX dX11_image_17 (Nat.zero_le _) (Nat.zero_le _) ?_
      refine hP _ _ _ ?_
      have hsp : sp_image S x = (-2, rfS S 0) := by unfold sp_image; rw [if_pos (fun z => by have := z.1; have := z.2; omega)]
      rw [hsp]
      exact ⟨_, hM, hF, rfl, hR.rf ok e9, rfl⟩
theorem c_X11_from (q : Nat) (γ : MF) (S : ST) (x : Int32) : CT_X11_from [.ref q, .int x] (fun Γ σ sz => FK σ q γ ∧ FR γ S ∧ StOk S) (fun Γ σ sz v σ' sz' => ∃ γ', FK σ' q γ' ∧ Fr q (q + 179) σ σ' ∧ v = some (.int (sp_from S x).1) ∧ FR γ' (sp_from S x).2 ∧ sz' = sz) := by
  refine CT.mkP rfl (Nat.le_of_ble_eq_true rfl) [_, _] rfl ?_
  intro X Γ σ sz P hX hpre hsz hP
  obtain ⟨hM, hR, ok⟩ := hpre
  obtain ⟨σ0, eσ0⟩ : ∃ z, z = σ := ⟨σ, rfl⟩
  rw [← eσ0] at hP
  have hF : Fr q (q + 179) σ0 σ := by rw [eσ0]; exact Fr.rf
  obtain ⟨r0, r1, r2, r3, r4, r5⟩ := id hR
  obtain ⟨t0, t1, t2, t3, t4, t5, t6, t7, t8⟩ := id r0
  obtain ⟨o1, o2, o3, o4, o5, o6, o7, o8, o9, o10⟩ := id ok.1
  refine S_iload_n (q := 1) hX dX11_from_0 rfl rfl ?_
  refine S_if_lt (q := 4) 9 hX dX11_from_1 rfl rfl (fun c1 => ?_) (fun c1 => ?_)
  · have k1 := c1
    rw [lt_i, show ((0 : Int32)).toInt = 0 by decide] at k1
    refine S_aload_n (q := 10) hX dX11_from_9 rfl rfl ?_
    refine S_bipush (q := 12) (v := (-2)) hX dX11_from_10 bp_m2 rfl ?_
    refine S_bipush (q := 14) (v := (-2)) hX dX11_from_12 bp_m2 rfl ?_
    refine S_callV (ci := 11) (C := "FanTalk") (T := TX11) (N := 11) (q := 17) 0 0 hX (c_X11_refused q γ _ _ 0 (by decide)) rfl ?hs_1 rfl u_323 u_325 us_0 u_1 u_326 ⟨by decide, by decide, rfl⟩ ⟨Nat.le_of_ble_eq_true rfl, Nat.le_of_ble_eq_true rfl⟩ ⟨Nat.le_of_ble_eq_true rfl, Nat.le_of_ble_eq_true rfl⟩ (Nat.le_of_ble_eq_true rfl) dX11_from_14 ?hp_1 rfl rfl rfl ?_
    case hs_1 => first | with_reducible assumption | exact ⟨_, FK.c0 hM⟩ | exact ⟨_, FK.c2 hM⟩ | exact ⟨_, FK.c7 hM⟩ | exact ⟨_, FK.c129 hM⟩ | exact ⟨_, FK.c173 hM⟩ | exact ⟨_, FK.c1 hM⟩
    case hp_1 => exact ⟨hM, by decide⟩
    rintro v σ sz1 ⟨μ9, hM, hF1, rfl, e9, rfl⟩
    have hF := hF.trans hF1
    refine S_iret hX dX11_from_17 (Nat.zero_le _) (Nat.zero_le _) ?_
    refine hP _ _ _ ?_
    have hsp : sp_from S x = (-2, rfS S 0) := by unfold sp_from; rw [if_pos (fun z => by have := z.1; have := z.2; omega)]
    rw [hsp]
    exact ⟨_, hM, hF, rfl, hR.rf ok e9, rfl⟩
  · have k1 := c1
    rw [lt_i, show ((0 : Int32)).toInt = 0 by decide] at k1
    refine S_iload_n (q := 5) hX dX11_from_4 rfl rfl ?_
    refine S_iconst (q := 6) (v := 2) hX dX11_from_5 ic_2 rfl ?_
    refine S_icmp_lt (q := 9) 18 hX dX11_from_6 rfl rfl (fun c6 => ?_) (fun c6 => ?_)
    · have k6 := c6
      rw [lt_i, show ((2 : Int32)).toInt = 2 by decide] at k6
      have hi2 : tN x < 2 := (inb_ok (x := x) (n := 2) (by omega) (by omega)).2.1
      refine S_aload_n (q := 19) hX dX11_from_18 rfl rfl ?_
      refine S_getf (fs := ?fs_2) (v := ?v_2) (q := 22) hX u_287 fo_X11_kept dX11_from_19 ?hs_2 ?hv_2 rfl ?_
      case hs_2 => with_reducible first | exact FK.c0 hM | exact FK.c1 hM | exact FK.c2 hM | exact FK.c7 hM | exact FK.c129 hM | exact FK.c3 hM | exact FK.c4 hM | exact FK.c5 hM | exact FK.c6 hM | exact FK.c39 hM | exact FK.c40 hM | exact FK.c41 hM | exact FK.c42 hM | exact FK.c43 hM | exact FK.c128 hM | exact FK.c136 hM | exact FK.c137 hM | exact FK.c173 hM | exact FK.c174 hM | exact FK.c175 hM | exact FK.c176 hM | exact FK.c177 hM | exact FK.c178 hM
      case hv_2 => rfl
      refine S_iload_n (q := 23) hX dX11_from_22 rfl rfl ?_
      refine S_zald (N := ?n_3) (f := ?f_3) (q := 24) hX dX11_from_23 ?hs_3 ?hi_3 rfl ?_
      case hs_3 => with_reducible first | exact FK.c0 hM | exact FK.c1 hM | exact FK.c2 hM | exact FK.c7 hM | exact FK.c129 hM | exact FK.c3 hM | exact FK.c4 hM | exact FK.c5 hM | exact FK.c6 hM | exact FK.c39 hM | exact FK.c40 hM | exact FK.c41 hM | exact FK.c42 hM | exact FK.c43 hM | exact FK.c128 hM | exact FK.c136 hM | exact FK.c137 hM | exact FK.c173 hM | exact FK.c174 hM | exact FK.c175 hM | exact FK.c176 hM | exact FK.c177 hM | exact FK.c178 hM
      case hi_3 => rw [vp_in_iff]; omega
      refine S_top (r1 (tN x) hi2).2.1 ?_
      refine S_if_ne_b (q := 27) 36 hX dX11_from_24 rfl rfl (fun c24 => ?_) (fun c24 => ?_)
      · obtain ⟨C, hC⟩ : ∃ C, S.2.1 (tN x) = some C := Option.isSome_iff_exists.mp c24
        refine S_aload_n (q := 37) hX dX11_from_36 rfl rfl ?_
        refine S_getf (fs := ?fs_4) (v := ?v_4) (q := 40) hX u_285 fo_X11_now dX11_from_37 ?hs_4 ?hv_4 rfl ?_
        case hs_4 => with_reducible first | exact FK.c0 hM | exact FK.c1 hM | exact FK.c2 hM | exact FK.c7 hM | exact FK.c129 hM | exact FK.c3 hM | exact FK.c4 hM | exact FK.c5 hM | exact FK.c6 hM | exact FK.c39 hM | exact FK.c40 hM | exact FK.c41 hM | exact FK.c42 hM | exact FK.c43 hM | exact FK.c128 hM | exact FK.c136 hM | exact FK.c137 hM | exact FK.c173 hM | exact FK.c174 hM | exact FK.c175 hM | exact FK.c176 hM | exact FK.c177 hM | exact FK.c178 hM
        case hv_4 => rfl
        refine S_aload_n (q := 41) hX dX11_from_40 rfl rfl ?_
        refine S_getf (fs := ?fs_5) (v := ?v_5) (q := 44) hX u_286 fo_X11_images dX11_from_41 ?hs_5 ?hv_5 rfl ?_
        case hs_5 => with_reducible first | exact FK.c0 hM | exact FK.c1 hM | exact FK.c2 hM | exact FK.c7 hM | exact FK.c129 hM | exact FK.c3 hM | exact FK.c4 hM | exact FK.c5 hM | exact FK.c6 hM | exact FK.c39 hM | exact FK.c40 hM | exact FK.c41 hM | exact FK.c42 hM | exact FK.c43 hM | exact FK.c128 hM | exact FK.c136 hM | exact FK.c137 hM | exact FK.c173 hM | exact FK.c174 hM | exact FK.c175 hM | exact FK.c176 hM | exact FK.c177 hM | exact FK.c178 hM
        case hv_5 => rfl
        refine S_iload_n (q := 45) hX dX11_from_44 rfl rfl ?_
        refine S_aald (N := ?n_6) (f := ?f_6) (y := q + (44 + 42 * tN x)) (q := 46) (t := 5) hX dX11_from_45 (by decide) rfl ?hs_6 ?hi_6 ?hy_6 rfl ?_
        case hs_6 => with_reducible first | exact FK.c0 hM | exact FK.c1 hM | exact FK.c2 hM | exact FK.c7 hM | exact FK.c129 hM | exact FK.c3 hM | exact FK.c4 hM | exact FK.c5 hM | exact FK.c6 hM | exact FK.c39 hM | exact FK.c40 hM | exact FK.c41 hM | exact FK.c42 hM | exact FK.c43 hM | exact FK.c128 hM | exact FK.c136 hM | exact FK.c137 hM | exact FK.c173 hM | exact FK.c174 hM | exact FK.c175 hM | exact FK.c176 hM | exact FK.c177 hM | exact FK.c178 hM
        case hi_6 => rw [vp_in_iff]; omega
        case hy_6 => rfl
        refine S_callV (ci := 9) (C := "FanTalk$Talk") (T := TX9) (N := 10) (q := 49) 0 0 hX (c_X9_take (q + 1) (fun j => γ (1 + j)) (q + (44 + 42 * tN x)) (fun j => γ (44 + 42 * tN x + j)) C) rfl ?hs_7 rfl u_738 u_739 u_740 u_2 u_741 ⟨by decide, by decide, rfl⟩ ⟨Nat.le_of_ble_eq_true rfl, Nat.le_of_ble_eq_true rfl⟩ ⟨Nat.le_of_ble_eq_true rfl, Nat.le_of_ble_eq_true rfl⟩ (Nat.le_of_ble_eq_true rfl) dX11_from_46 ?hp_7 rfl rfl rfl ?_
        case hs_7 => exact ⟨_, FK.c1 hM⟩
        case hp_7 => exact ⟨FK.tk hM, FK.im hi2 hM, by omega, t1.pm, (r1 _ hi2).2.2 C hC, ok.2.1 _ hi2 C hC⟩
        rintro v σ sz1 ⟨g1, hM1, hF1, rfl, hTk, rfl⟩
        have hM := FK.jtk hM hF1 hM1
        have hF := hF.trans (hF1.mono (Nat.le_add_right _ _) (by omega))
        refine S_iconst (q := 50) (v := 1) hX dX11_from_49 ic_1 rfl ?_
        refine S_iret hX dX11_from_50 (Nat.zero_le _) (Nat.zero_le _) ?_
        refine hP _ _ _ ?_
        have hsp : sp_from S x = (1, stC S C) := by unfold sp_from; rw [if_neg (fun z => z ⟨by omega, by omega⟩), hC]
        rw [hsp]
        exact ⟨_, hM, hF, rfl, hR.now ok (fun j a b => spl_out (by omega)) (hTk.ext (ok.2.1 _ hi2 C hC).2.2.1 (fun j hj => sp1 hj)), rfl⟩
      · refine S_aload_n (q := 28) hX dX11_from_27 rfl rfl ?_
        refine S_bipush (q := 30) (v := (-3)) hX dX11_from_28 bp_m3 rfl ?_
        refine S_bipush (q := 32) (v := (-3)) hX dX11_from_30 bp_m3 rfl ?_
        refine S_callV (ci := 11) (C := "FanTalk") (T := TX11) (N := 11) (q := 35) 0 0 hX (c_X11_refused q γ _ _ 1 (by decide)) rfl ?hs_8 rfl u_323 u_325 us_0 u_1 u_326 ⟨by decide, by decide, rfl⟩ ⟨Nat.le_of_ble_eq_true rfl, Nat.le_of_ble_eq_true rfl⟩ ⟨Nat.le_of_ble_eq_true rfl, Nat.le_of_ble_eq_true rfl⟩ (Nat.le_of_ble_eq_true rfl) dX11_from_32 ?hp_8 rfl rfl rfl ?_
        case hs_8 => first | with_reducible assumption | exact ⟨_, FK.c0 hM⟩ | exact ⟨_, FK.c2 hM⟩ | exact ⟨_, FK.c7 hM⟩ | exact ⟨_, FK.c129 hM⟩ | exact ⟨_, FK.c173 hM⟩ | exact ⟨_, FK.c1 hM⟩
        case hp_8 => exact ⟨hM, by decide⟩
        rintro v σ sz1 ⟨μ9, hM, hF1, rfl, e9, rfl⟩
        have hF := hF.trans hF1
        refine S_iret hX dX11_from_35 (Nat.zero_le _) (Nat.zero_le _) ?_
        refine hP _ _ _ ?_
        have hsp : sp_from S x = (-3, rfS S 1) := by unfold sp_from; rw [if_neg (fun z => z ⟨by omega, by omega⟩)]; cases hh : S.2.1 (tN x) with | none => rfl | some C => exact absurd (by rw [hh]; rfl) c24
        rw [hsp]
        exact ⟨_, hM, hF, rfl, hR.rf ok e9, rfl⟩
    · have k6 := c6
      rw [lt_i, show ((2 : Int32)).toInt = 2 by decide] at k6
      refine S_aload_n (q := 10) hX dX11_from_9 rfl rfl ?_
      refine S_bipush (q := 12) (v := (-2)) hX dX11_from_10 bp_m2 rfl ?_
      refine S_bipush (q := 14) (v := (-2)) hX dX11_from_12 bp_m2 rfl ?_
      refine S_callV (ci := 11) (C := "FanTalk") (T := TX11) (N := 11) (q := 17) 0 0 hX (c_X11_refused q γ _ _ 0 (by decide)) rfl ?hs_9 rfl u_323 u_325 us_0 u_1 u_326 ⟨by decide, by decide, rfl⟩ ⟨Nat.le_of_ble_eq_true rfl, Nat.le_of_ble_eq_true rfl⟩ ⟨Nat.le_of_ble_eq_true rfl, Nat.le_of_ble_eq_true rfl⟩ (Nat.le_of_ble_eq_true rfl) dX11_from_14 ?hp_9 rfl rfl rfl ?_
      case hs_9 => first | with_reducible assumption | exact ⟨_, FK.c0 hM⟩ | exact ⟨_, FK.c2 hM⟩ | exact ⟨_, FK.c7 hM⟩ | exact ⟨_, FK.c129 hM⟩ | exact ⟨_, FK.c173 hM⟩ | exact ⟨_, FK.c1 hM⟩
      case hp_9 => exact ⟨hM, by decide⟩
      rintro v σ sz1 ⟨μ9, hM, hF1, rfl, e9, rfl⟩
      have hF := hF.trans hF1
      refine S_iret hX dX11_from_17 (Nat.zero_le _) (Nat.zero_le _) ?_
      refine hP _ _ _ ?_
      have hsp : sp_from S x = (-2, rfS S 0) := by unfold sp_from; rw [if_pos (fun z => by have := z.1; have := z.2; omega)]
      rw [hsp]
      exact ⟨_, hM, hF, rfl, hR.rf ok e9, rfl⟩
theorem c_X11_howMany (q : Nat) (γ : MF) (S : ST) (x : Int32) : CT_X11_howMany [.ref q, .int x] (fun Γ σ sz => FK σ q γ ∧ FR γ S ∧ StOk S) (fun Γ σ sz v σ' sz' => v = some (.int (if inb x 0 7 then nI (cntS S (tN x)) else -1)) ∧ σ' = σ ∧ sz' = sz) := by
  refine CT.mkP rfl (Nat.le_of_ble_eq_true rfl) [_, _] rfl ?_
  intro X Γ σ sz P hX hpre hsz hP
  obtain ⟨hM, hR, ok⟩ := hpre
  obtain ⟨σ0, eσ0⟩ : ∃ z, z = σ := ⟨σ, rfl⟩
  rw [← eσ0] at hP
  have hF : Fr q (q + 179) σ0 σ := by rw [eσ0]; exact Fr.rf
  obtain ⟨r0, r1, r2, r3, r4, r5⟩ := id hR
  obtain ⟨t0, t1, t2, t3, t4, t5, t6, t7, t8⟩ := id r0
  obtain ⟨o1, o2, o3, o4, o5, o6, o7, o8, o9, o10⟩ := id ok.1
  by_cases hx : inb x 0 7
  · rw [if_pos hx] at hP
    have cx := inb_ok (x := x) (n := 8) hx.1 (by have := hx.2; omega)
    obtain ⟨k, ek⟩ : ∃ z, z = tN x := ⟨_, rfl⟩
    rw [← ek] at cx hP
    obtain ⟨ex, hk8, -⟩ := cx
    clear ek hx
    subst ex
    rcases (show k = 0 ∨ k = 1 ∨ k = 2 ∨ k = 3 ∨ k = 4 ∨ k = 5 ∨ k = 6 ∨ k = 7 by omega) with rfl | rfl | rfl | rfl | rfl | rfl | rfl | rfl
    · refine S_iload_n (q := 1) hX dX11_howMany_0 rfl rfl ?_
      refine S_tableIn (off := 47) 48 hX dX11_howMany_1 (by decide) (by decide) rfl rfl ?_
      refine S_aload_n (q := 49) hX dX11_howMany_48 rfl rfl ?_
      refine S_getf (fs := ?fs_1) (v := ?v_1) (q := 52) hX u_285 fo_X11_now dX11_howMany_49 ?hs_1 ?hv_1 rfl ?_
      case hs_1 => with_reducible first | exact FK.c0 hM | exact FK.c1 hM | exact FK.c2 hM | exact FK.c7 hM | exact FK.c129 hM | exact FK.c3 hM | exact FK.c4 hM | exact FK.c5 hM | exact FK.c6 hM | exact FK.c39 hM | exact FK.c40 hM | exact FK.c41 hM | exact FK.c42 hM | exact FK.c43 hM | exact FK.c128 hM | exact FK.c136 hM | exact FK.c137 hM | exact FK.c173 hM | exact FK.c174 hM | exact FK.c175 hM | exact FK.c176 hM | exact FK.c177 hM | exact FK.c178 hM
      case hv_1 => rfl
      refine S_getf (fs := ?fs_2) (v := ?v_2) (q := 55) hX u_85 fo_X9_codes dX11_howMany_52 ?hs_2 ?hv_2 rfl ?_
      case hs_2 => with_reducible first | exact FK.c0 hM | exact FK.c1 hM | exact FK.c2 hM | exact FK.c7 hM | exact FK.c129 hM | exact FK.c3 hM | exact FK.c4 hM | exact FK.c5 hM | exact FK.c6 hM | exact FK.c39 hM | exact FK.c40 hM | exact FK.c41 hM | exact FK.c42 hM | exact FK.c43 hM | exact FK.c128 hM | exact FK.c136 hM | exact FK.c137 hM | exact FK.c173 hM | exact FK.c174 hM | exact FK.c175 hM | exact FK.c176 hM | exact FK.c177 hM | exact FK.c178 hM
      case hv_2 => rfl
      refine S_getf (fs := ?fs_3) (v := ?v_3) (q := 58) hX u_41 fo_X2_codes dX11_howMany_55 ?hs_3 ?hv_3 rfl ?_
      case hs_3 => with_reducible first | exact FK.c0 hM | exact FK.c1 hM | exact FK.c2 hM | exact FK.c7 hM | exact FK.c129 hM | exact FK.c3 hM | exact FK.c4 hM | exact FK.c5 hM | exact FK.c6 hM | exact FK.c39 hM | exact FK.c40 hM | exact FK.c41 hM | exact FK.c42 hM | exact FK.c43 hM | exact FK.c128 hM | exact FK.c136 hM | exact FK.c137 hM | exact FK.c173 hM | exact FK.c174 hM | exact FK.c175 hM | exact FK.c176 hM | exact FK.c177 hM | exact FK.c178 hM
      case hv_3 => rfl
      refine S_iret hX dX11_howMany_58 (Nat.zero_le _) (Nat.zero_le _) ?_
      refine hP _ _ _ ?_
      exact ⟨congrArg (fun z => some (Value.int z)) t0.1, eσ0.symm, rfl⟩
    · refine S_iload_n (q := 1) hX dX11_howMany_0 rfl rfl ?_
      refine S_tableIn (off := 58) 59 hX dX11_howMany_1 (by decide) (by decide) rfl rfl ?_
      refine S_aload_n (q := 60) hX dX11_howMany_59 rfl rfl ?_
      refine S_getf (fs := ?fs_4) (v := ?v_4) (q := 63) hX u_285 fo_X11_now dX11_howMany_60 ?hs_4 ?hv_4 rfl ?_
      case hs_4 => with_reducible first | exact FK.c0 hM | exact FK.c1 hM | exact FK.c2 hM | exact FK.c7 hM | exact FK.c129 hM | exact FK.c3 hM | exact FK.c4 hM | exact FK.c5 hM | exact FK.c6 hM | exact FK.c39 hM | exact FK.c40 hM | exact FK.c41 hM | exact FK.c42 hM | exact FK.c43 hM | exact FK.c128 hM | exact FK.c136 hM | exact FK.c137 hM | exact FK.c173 hM | exact FK.c174 hM | exact FK.c175 hM | exact FK.c176 hM | exact FK.c177 hM | exact FK.c178 hM
      case hv_4 => rfl
      refine S_getf (fs := ?fs_5) (v := ?v_5) (q := 66) hX u_85 fo_X9_codes dX11_howMany_63 ?hs_5 ?hv_5 rfl ?_
      case hs_5 => with_reducible first | exact FK.c0 hM | exact FK.c1 hM | exact FK.c2 hM | exact FK.c7 hM | exact FK.c129 hM | exact FK.c3 hM | exact FK.c4 hM | exact FK.c5 hM | exact FK.c6 hM | exact FK.c39 hM | exact FK.c40 hM | exact FK.c41 hM | exact FK.c42 hM | exact FK.c43 hM | exact FK.c128 hM | exact FK.c136 hM | exact FK.c137 hM | exact FK.c173 hM | exact FK.c174 hM | exact FK.c175 hM | exact FK.c176 hM | exact FK.c177 hM | exact FK.c178 hM
      case hv_5 => rfl
      refine S_callV (ci := 2) (C := "FanTalk$Codes") (T := TX2) (N := 5) (q := 69) 0 0 hX (c_X2_allEntries (q + 2) (fun j => γ (2 + j)) S.1.1) rfl ?hs_6 rfl u_764 u_625 u_626 u_3 u_627 ⟨by decide, by decide, rfl⟩ ⟨Nat.le_of_ble_eq_true rfl, Nat.le_of_ble_eq_true rfl⟩ ⟨Nat.le_of_ble_eq_true rfl, Nat.le_of_ble_eq_true rfl⟩ (Nat.le_of_ble_eq_true rfl) dX11_howMany_66 ?hp_6 rfl rfl rfl ?_
      case hs_6 => exact ⟨_, FK.c2 hM⟩
      case hp_6 => exact ⟨FK.co hM, t0.ext (fun j hj => by show γ (2 + j) = γ (1 + (1 + j)); congr 1; omega), o2.s o1⟩
      rintro v σ1 sz1 ⟨rfl, rfl, rfl⟩
      refine S_iret hX dX11_howMany_69 (Nat.zero_le _) (Nat.zero_le _) ?_
      refine hP _ _ _ ?_
      exact ⟨rfl, eσ0.symm, rfl⟩
    · refine S_iload_n (q := 1) hX dX11_howMany_0 rfl rfl ?_
      refine S_tableIn (off := 69) 70 hX dX11_howMany_1 (by decide) (by decide) rfl rfl ?_
      refine S_aload_n (q := 71) hX dX11_howMany_70 rfl rfl ?_
      refine S_getf (fs := ?fs_7) (v := ?v_7) (q := 74) hX u_285 fo_X11_now dX11_howMany_71 ?hs_7 ?hv_7 rfl ?_
      case hs_7 => with_reducible first | exact FK.c0 hM | exact FK.c1 hM | exact FK.c2 hM | exact FK.c7 hM | exact FK.c129 hM | exact FK.c3 hM | exact FK.c4 hM | exact FK.c5 hM | exact FK.c6 hM | exact FK.c39 hM | exact FK.c40 hM | exact FK.c41 hM | exact FK.c42 hM | exact FK.c43 hM | exact FK.c128 hM | exact FK.c136 hM | exact FK.c137 hM | exact FK.c173 hM | exact FK.c174 hM | exact FK.c175 hM | exact FK.c176 hM | exact FK.c177 hM | exact FK.c178 hM
      case hv_7 => rfl
      refine S_getf (fs := ?fs_8) (v := ?v_8) (q := 77) hX u_93 fo_X9_beats dX11_howMany_74 ?hs_8 ?hv_8 rfl ?_
      case hs_8 => with_reducible first | exact FK.c0 hM | exact FK.c1 hM | exact FK.c2 hM | exact FK.c7 hM | exact FK.c129 hM | exact FK.c3 hM | exact FK.c4 hM | exact FK.c5 hM | exact FK.c6 hM | exact FK.c39 hM | exact FK.c40 hM | exact FK.c41 hM | exact FK.c42 hM | exact FK.c43 hM | exact FK.c128 hM | exact FK.c136 hM | exact FK.c137 hM | exact FK.c173 hM | exact FK.c174 hM | exact FK.c175 hM | exact FK.c176 hM | exact FK.c177 hM | exact FK.c178 hM
      case hv_8 => rfl
      refine S_iret hX dX11_howMany_77 (Nat.zero_le _) (Nat.zero_le _) ?_
      refine hP _ _ _ ?_
      exact ⟨congrArg (fun z => some (Value.int z)) t3, eσ0.symm, rfl⟩
    · refine S_iload_n (q := 1) hX dX11_howMany_0 rfl rfl ?_
      refine S_tableIn (off := 77) 78 hX dX11_howMany_1 (by decide) (by decide) rfl rfl ?_
      refine S_aload_n (q := 79) hX dX11_howMany_78 rfl rfl ?_
      refine S_getf (fs := ?fs_9) (v := ?v_9) (q := 82) hX u_285 fo_X11_now dX11_howMany_79 ?hs_9 ?hv_9 rfl ?_
      case hs_9 => with_reducible first | exact FK.c0 hM | exact FK.c1 hM | exact FK.c2 hM | exact FK.c7 hM | exact FK.c129 hM | exact FK.c3 hM | exact FK.c4 hM | exact FK.c5 hM | exact FK.c6 hM | exact FK.c39 hM | exact FK.c40 hM | exact FK.c41 hM | exact FK.c42 hM | exact FK.c43 hM | exact FK.c128 hM | exact FK.c136 hM | exact FK.c137 hM | exact FK.c173 hM | exact FK.c174 hM | exact FK.c175 hM | exact FK.c176 hM | exact FK.c177 hM | exact FK.c178 hM
      case hv_9 => rfl
      refine S_getf (fs := ?fs_10) (v := ?v_10) (q := 85) hX u_97 fo_X9_wants dX11_howMany_82 ?hs_10 ?hv_10 rfl ?_
      case hs_10 => with_reducible first | exact FK.c0 hM | exact FK.c1 hM | exact FK.c2 hM | exact FK.c7 hM | exact FK.c129 hM | exact FK.c3 hM | exact FK.c4 hM | exact FK.c5 hM | exact FK.c6 hM | exact FK.c39 hM | exact FK.c40 hM | exact FK.c41 hM | exact FK.c42 hM | exact FK.c43 hM | exact FK.c128 hM | exact FK.c136 hM | exact FK.c137 hM | exact FK.c173 hM | exact FK.c174 hM | exact FK.c175 hM | exact FK.c176 hM | exact FK.c177 hM | exact FK.c178 hM
      case hv_10 => rfl
      refine S_iret hX dX11_howMany_85 (Nat.zero_le _) (Nat.zero_le _) ?_
      refine hP _ _ _ ?_
      exact ⟨congrArg (fun z => some (Value.int z)) t5, eσ0.symm, rfl⟩
    · refine S_iload_n (q := 1) hX dX11_howMany_0 rfl rfl ?_
      refine S_tableIn (off := 85) 86 hX dX11_howMany_1 (by decide) (by decide) rfl rfl ?_
      refine S_aload_n (q := 87) hX dX11_howMany_86 rfl rfl ?_
      refine S_getf (fs := ?fs_11) (v := ?v_11) (q := 90) hX u_285 fo_X11_now dX11_howMany_87 ?hs_11 ?hv_11 rfl ?_
      case hs_11 => with_reducible first | exact FK.c0 hM | exact FK.c1 hM | exact FK.c2 hM | exact FK.c7 hM | exact FK.c129 hM | exact FK.c3 hM | exact FK.c4 hM | exact FK.c5 hM | exact FK.c6 hM | exact FK.c39 hM | exact FK.c40 hM | exact FK.c41 hM | exact FK.c42 hM | exact FK.c43 hM | exact FK.c128 hM | exact FK.c136 hM | exact FK.c137 hM | exact FK.c173 hM | exact FK.c174 hM | exact FK.c175 hM | exact FK.c176 hM | exact FK.c177 hM | exact FK.c178 hM
      case hv_11 => rfl
      refine S_getf (fs := ?fs_12) (v := ?v_12) (q := 93) hX u_103 fo_X9_facts dX11_howMany_90 ?hs_12 ?hv_12 rfl ?_
      case hs_12 => with_reducible first | exact FK.c0 hM | exact FK.c1 hM | exact FK.c2 hM | exact FK.c7 hM | exact FK.c129 hM | exact FK.c3 hM | exact FK.c4 hM | exact FK.c5 hM | exact FK.c6 hM | exact FK.c39 hM | exact FK.c40 hM | exact FK.c41 hM | exact FK.c42 hM | exact FK.c43 hM | exact FK.c128 hM | exact FK.c136 hM | exact FK.c137 hM | exact FK.c173 hM | exact FK.c174 hM | exact FK.c175 hM | exact FK.c176 hM | exact FK.c177 hM | exact FK.c178 hM
      case hv_12 => rfl
      refine S_iret hX dX11_howMany_93 (Nat.zero_le _) (Nat.zero_le _) ?_
      refine hP _ _ _ ?_
      exact ⟨congrArg (fun z => some (Value.int z)) t7, eσ0.symm, rfl⟩
    · refine S_iload_n (q := 1) hX dX11_howMany_0 rfl rfl ?_
      refine S_tableIn (off := 93) 94 hX dX11_howMany_1 (by decide) (by decide) rfl rfl ?_
      refine S_aload_n (q := 95) hX dX11_howMany_94 rfl rfl ?_
      refine S_getf (fs := ?fs_13) (v := ?v_13) (q := 98) hX u_285 fo_X11_now dX11_howMany_95 ?hs_13 ?hv_13 rfl ?_
      case hs_13 => with_reducible first | exact FK.c0 hM | exact FK.c1 hM | exact FK.c2 hM | exact FK.c7 hM | exact FK.c129 hM | exact FK.c3 hM | exact FK.c4 hM | exact FK.c5 hM | exact FK.c6 hM | exact FK.c39 hM | exact FK.c40 hM | exact FK.c41 hM | exact FK.c42 hM | exact FK.c43 hM | exact FK.c128 hM | exact FK.c136 hM | exact FK.c137 hM | exact FK.c173 hM | exact FK.c174 hM | exact FK.c175 hM | exact FK.c176 hM | exact FK.c177 hM | exact FK.c178 hM
      case hv_13 => rfl
      refine S_getf (fs := ?fs_14) (v := ?v_14) (q := 101) hX u_87 fo_X9_past dX11_howMany_98 ?hs_14 ?hv_14 rfl ?_
      case hs_14 => with_reducible first | exact FK.c0 hM | exact FK.c1 hM | exact FK.c2 hM | exact FK.c7 hM | exact FK.c129 hM | exact FK.c3 hM | exact FK.c4 hM | exact FK.c5 hM | exact FK.c6 hM | exact FK.c39 hM | exact FK.c40 hM | exact FK.c41 hM | exact FK.c42 hM | exact FK.c43 hM | exact FK.c128 hM | exact FK.c136 hM | exact FK.c137 hM | exact FK.c173 hM | exact FK.c174 hM | exact FK.c175 hM | exact FK.c176 hM | exact FK.c177 hM | exact FK.c178 hM
      case hv_14 => rfl
      refine S_getf (fs := ?fs_15) (v := ?v_15) (q := 104) hX u_78 fo_X6_kept dX11_howMany_101 ?hs_15 ?hv_15 rfl ?_
      case hs_15 => with_reducible first | exact FK.c0 hM | exact FK.c1 hM | exact FK.c2 hM | exact FK.c7 hM | exact FK.c129 hM | exact FK.c3 hM | exact FK.c4 hM | exact FK.c5 hM | exact FK.c6 hM | exact FK.c39 hM | exact FK.c40 hM | exact FK.c41 hM | exact FK.c42 hM | exact FK.c43 hM | exact FK.c128 hM | exact FK.c136 hM | exact FK.c137 hM | exact FK.c173 hM | exact FK.c174 hM | exact FK.c175 hM | exact FK.c176 hM | exact FK.c177 hM | exact FK.c178 hM
      case hv_15 => rfl
      refine S_iret hX dX11_howMany_104 (Nat.zero_le _) (Nat.zero_le _) ?_
      refine hP _ _ _ ?_
      exact ⟨congrArg (fun z => some (Value.int z)) t1.1, eσ0.symm, rfl⟩
    · refine S_iload_n (q := 1) hX dX11_howMany_0 rfl rfl ?_
      refine S_tableIn (off := 104) 105 hX dX11_howMany_1 (by decide) (by decide) rfl rfl ?_
      refine S_aload_n (q := 106) hX dX11_howMany_105 rfl rfl ?_
      refine S_getf (fs := ?fs_16) (v := ?v_16) (q := 109) hX u_288 fo_X11_script dX11_howMany_106 ?hs_16 ?hv_16 rfl ?_
      case hs_16 => with_reducible first | exact FK.c0 hM | exact FK.c1 hM | exact FK.c2 hM | exact FK.c7 hM | exact FK.c129 hM | exact FK.c3 hM | exact FK.c4 hM | exact FK.c5 hM | exact FK.c6 hM | exact FK.c39 hM | exact FK.c40 hM | exact FK.c41 hM | exact FK.c42 hM | exact FK.c43 hM | exact FK.c128 hM | exact FK.c136 hM | exact FK.c137 hM | exact FK.c173 hM | exact FK.c174 hM | exact FK.c175 hM | exact FK.c176 hM | exact FK.c177 hM | exact FK.c178 hM
      case hv_16 => rfl
      refine S_getf (fs := ?fs_17) (v := ?v_17) (q := 112) hX u_136 fo_X8_length dX11_howMany_109 ?hs_17 ?hv_17 rfl ?_
      case hs_17 => with_reducible first | exact FK.c0 hM | exact FK.c1 hM | exact FK.c2 hM | exact FK.c7 hM | exact FK.c129 hM | exact FK.c3 hM | exact FK.c4 hM | exact FK.c5 hM | exact FK.c6 hM | exact FK.c39 hM | exact FK.c40 hM | exact FK.c41 hM | exact FK.c42 hM | exact FK.c43 hM | exact FK.c128 hM | exact FK.c136 hM | exact FK.c137 hM | exact FK.c173 hM | exact FK.c174 hM | exact FK.c175 hM | exact FK.c176 hM | exact FK.c177 hM | exact FK.c178 hM
      case hv_17 => rfl
      refine S_iret hX dX11_howMany_112 (Nat.zero_le _) (Nat.zero_le _) ?_
      refine hP _ _ _ ?_
      exact ⟨congrArg (fun z => some (Value.int z)) r3, eσ0.symm, rfl⟩
    · refine S_iload_n (q := 1) hX dX11_howMany_0 rfl rfl ?_
      refine S_tableIn (off := 112) 113 hX dX11_howMany_1 (by decide) (by decide) rfl rfl ?_
      refine S_aload_n (q := 114) hX dX11_howMany_113 rfl rfl ?_
      refine S_getf (fs := ?fs_18) (v := ?v_18) (q := 117) hX u_285 fo_X11_now dX11_howMany_114 ?hs_18 ?hv_18 rfl ?_
      case hs_18 => with_reducible first | exact FK.c0 hM | exact FK.c1 hM | exact FK.c2 hM | exact FK.c7 hM | exact FK.c129 hM | exact FK.c3 hM | exact FK.c4 hM | exact FK.c5 hM | exact FK.c6 hM | exact FK.c39 hM | exact FK.c40 hM | exact FK.c41 hM | exact FK.c42 hM | exact FK.c43 hM | exact FK.c128 hM | exact FK.c136 hM | exact FK.c137 hM | exact FK.c173 hM | exact FK.c174 hM | exact FK.c175 hM | exact FK.c176 hM | exact FK.c177 hM | exact FK.c178 hM
      case hv_18 => rfl
      refine S_getf (fs := ?fs_19) (v := ?v_19) (q := 120) hX u_89 fo_X9_draughts dX11_howMany_117 ?hs_19 ?hv_19 rfl ?_
      case hs_19 => with_reducible first | exact FK.c0 hM | exact FK.c1 hM | exact FK.c2 hM | exact FK.c7 hM | exact FK.c129 hM | exact FK.c3 hM | exact FK.c4 hM | exact FK.c5 hM | exact FK.c6 hM | exact FK.c39 hM | exact FK.c40 hM | exact FK.c41 hM | exact FK.c42 hM | exact FK.c43 hM | exact FK.c128 hM | exact FK.c136 hM | exact FK.c137 hM | exact FK.c173 hM | exact FK.c174 hM | exact FK.c175 hM | exact FK.c176 hM | exact FK.c177 hM | exact FK.c178 hM
      case hv_19 => rfl
      refine S_iret hX dX11_howMany_120 (Nat.zero_le _) (Nat.zero_le _) ?_
      refine hP _ _ _ ?_
      exact ⟨congrArg (fun z => some (Value.int z)) t2, eσ0.symm, rfl⟩
  · rw [if_neg hx] at hP
    refine S_iload_n (q := 1) hX dX11_howMany_0 rfl rfl ?_
    refine S_tableOut 121 hX dX11_howMany_1 (by have h : ¬ ((0 : Int) ≤ x.toInt ∧ x.toInt ≤ 7) := hx; show x.toInt < 0 ∨ 7 < x.toInt; omega) rfl ?_
    refine S_iconst (q := 122) (v := (-1)) hX dX11_howMany_121 ic_m1 rfl ?_
    refine S_iret hX dX11_howMany_122 (Nat.zero_le _) (Nat.zero_le _) ?_
    refine hP _ _ _ ?_
    exact ⟨rfl, eσ0.symm, rfl⟩
theorem cntS_lt {S : ST} (ok : StOk S) (k : Nat) : cntS S k < 1000 := by
  obtain ⟨o1, o2, o3, o4, o5, o6, o7, o8, o9, o10⟩ := ok.1
  have h1 := sumE_24 (f := S.1.1.2.1) (n := S.1.1.1) (fun c hc => (o2.2.1 c hc).1)
  have h2 := ln_6 S.1.2.2.2.1
  have h3 := ok.2.2.1
  unfold cntS
  split <;> omega

theorem c_X11_count (q : Nat) (γ : MF) (S : ST) (x : Int32) : CT_X11_count [.ref q, .int x] (fun Γ σ sz => FK σ q γ ∧ FR γ S ∧ StOk S) (fun Γ σ sz v σ' sz' => ∃ γ', FK σ' q γ' ∧ Fr q (q + 179) σ σ' ∧ v = some (.int (sp_count S x).1) ∧ FR γ' (sp_count S x).2 ∧ sz' = sz) := by
  refine CT.mkP rfl (Nat.le_of_ble_eq_true rfl) [_, _, _] rfl ?_
  intro X Γ σ sz P hX hpre hsz hP
  obtain ⟨hM, hR, ok⟩ := hpre
  obtain ⟨σ0, eσ0⟩ : ∃ z, z = σ := ⟨σ, rfl⟩
  rw [← eσ0] at hP
  have hF : Fr q (q + 179) σ0 σ := by rw [eσ0]; exact Fr.rf
  obtain ⟨r0, r1, r2, r3, r4, r5⟩ := id hR
  obtain ⟨t0, t1, t2, t3, t4, t5, t6, t7, t8⟩ := id r0
  obtain ⟨o1, o2, o3, o4, o5, o6, o7, o8, o9, o10⟩ := id ok.1
  refine S_aload_n (q := 1) hX dX11_count_0 rfl rfl ?_
  refine S_iload_n (q := 2) hX dX11_count_1 rfl rfl ?_
  refine S_callV (ci := 11) (C := "FanTalk") (T := TX11) (N := 11) (q := 5) 0 0 hX (c_X11_howMany q γ S _) rfl ?hs_1 rfl u_760 u_762 us_25 u_1 u_763 ⟨by decide, by decide, rfl⟩ ⟨Nat.le_of_ble_eq_true rfl, Nat.le_of_ble_eq_true rfl⟩ ⟨Nat.le_of_ble_eq_true rfl, Nat.le_of_ble_eq_true rfl⟩ (Nat.le_of_ble_eq_true rfl) dX11_count_2 ?hp_1 rfl rfl rfl ?_
  case hs_1 => first | with_reducible assumption | exact ⟨_, FK.c0 hM⟩ | exact ⟨_, FK.c2 hM⟩ | exact ⟨_, FK.c7 hM⟩ | exact ⟨_, FK.c129 hM⟩ | exact ⟨_, FK.c173 hM⟩ | exact ⟨_, FK.c1 hM⟩
  case hp_1 => exact ⟨hM, hR, ok⟩
  rintro v σ1 sz1 ⟨rfl, rfl, rfl⟩
  refine S_istore_n (q := 6) [_, _, _] hX dX11_count_5 rfl (Nat.le_of_ble_eq_true rfl) rfl rfl ?_
  refine S_iload_n (q := 7) hX dX11_count_6 rfl rfl ?_
  refine S_if_ge (q := 10) 21 hX dX11_count_7 rfl rfl (fun c7 => ?_) (fun c7 => ?_)
  · refine S_iload_n (q := 22) hX dX11_count_21 rfl rfl ?_
    refine S_iret hX dX11_count_22 (Nat.zero_le _) (Nat.zero_le _) ?_
    refine hP _ _ _ ?_
    have hx : inb x 0 7 := by
      rcases Classical.em (inb x 0 7) with w | w
      · exact w
      · rw [if_neg w] at c7; exact absurd c7 (by decide)
    have hsp : sp_count S x = (nI (cntS S (tN x)), S) := by unfold sp_count; rw [if_neg (fun w => w hx)]
    rw [hsp, if_pos hx]
    exact ⟨_, hM, hF, rfl, hR, rfl⟩
  · refine S_aload_n (q := 11) hX dX11_count_10 rfl rfl ?_
    refine S_bipush (q := 13) (v := (-2)) hX dX11_count_11 bp_m2 rfl ?_
    refine S_bipush (q := 15) (v := (-2)) hX dX11_count_13 bp_m2 rfl ?_
    refine S_callV (ci := 11) (C := "FanTalk") (T := TX11) (N := 11) (q := 18) 0 0 hX (c_X11_refused q γ _ _ 0 (by decide)) rfl ?hs_2 rfl u_323 u_325 us_0 u_1 u_326 ⟨by decide, by decide, rfl⟩ ⟨Nat.le_of_ble_eq_true rfl, Nat.le_of_ble_eq_true rfl⟩ ⟨Nat.le_of_ble_eq_true rfl, Nat.le_of_ble_eq_true rfl⟩ (Nat.le_of_ble_eq_true rfl) dX11_count_15 ?hp_2 rfl rfl rfl ?_
    case hs_2 => first | with_reducible assumption | exact ⟨_, FK.c0 hM⟩ | exact ⟨_, FK.c2 hM⟩ | exact ⟨_, FK.c7 hM⟩ | exact ⟨_, FK.c129 hM⟩ | exact ⟨_, FK.c173 hM⟩ | exact ⟨_, FK.c1 hM⟩
    case hp_2 => exact ⟨hM, by decide⟩
    rintro v σ sz1 ⟨μ9, hM, hF1, rfl, e9, rfl⟩
    have hF := hF.trans hF1
    refine S_goto 22 hX dX11_count_18 rfl ?_
    refine S_iret hX dX11_count_22 (Nat.zero_le _) (Nat.zero_le _) ?_
    refine hP _ _ _ ?_
    have hx : ¬ inb x 0 7 := fun w => c7 (by rw [if_pos w, le_i, toI0, nI_toInt (by have := cntS_lt ok (tN x); omega)]; omega)
    have hsp : sp_count S x = (-2, rfS S 0) := by unfold sp_count; rw [if_pos hx]
    rw [hsp]
    exact ⟨_, hM, hF, rfl, hR.rf ok e9, rfl⟩
