theorem and31 (x : Int32) : ∃ j, j < 32 ∧ x &&& 31 = nI j := by
  refine ⟨(x &&& 31).toBitVec.toNat, ?_, ?_⟩
  · rw [Int32.toBitVec_and, BitVec.toNat_and]
    exact Nat.and_lt_two_pow _ (show (31 : Int32).toBitVec.toNat < 2 ^ 5 by decide)
  · apply Int32.toBitVec_inj.mp
    show _ = BitVec.ofNat 32 (x &&& 31).toBitVec.toNat
    rw [BitVec.ofNat_toNat, BitVec.setWidth_eq]

theorem law_loop {X : CX} {Γ : Gm} {P : PO} {b N q : Nat} {xs : Nat → Int32} (hX : Ok X Γ ("FanTalkLaw", "law", cL_law, 4, some .boolean, room_1)) (hs : Scr X Γ b N xs) (hN : N ≤ 384) (hP : ∀ σ' sz', P (some (.int 1)) σ' sz') : ∀ (fl i : Nat) (σ : Sg) (sz : Nat) (γ μ : MF) (S : ST), i ≤ N → N - i < fl → FK σ q γ → MM σ (q + 179) μ → FR γ S → MR μ S → StOk S → G X Γ P 188 5367 18 [some (.ref b), some (.ref q), some (.ref (q + 179)), some (.int (nI i))] [] σ sz := by
  intro fl
  induction fl with
    | zero => intro i σ sz γ μ S h1 h2; omega
    | succ fl ih =>
      intro i σ sz γ μ S hi hfu hM hMm hR hQ ok
      refine S_iload_n (q := 19) hX dL_law_18 rfl rfl ?_
      refine S_aload_n (q := 20) hX dL_law_19 rfl rfl ?_
      refine S_sclen (q := 21) hX hs dL_law_20 rfl ?_
      refine S_bipush (q := 23) (v := 6) hX dL_law_21 bp_6 rfl ?_
      refine S_isub (q := 24) hX dL_law_23 rfl ?_
      refine S_icmp_gt (q := 27) 951 hX dL_law_24 rfl rfl (fun c24 => ?_) (fun c24 => ?_)
      · refine S_iconst (q := 952) (v := 1) hX dL_law_951 ic_1 rfl ?_
        refine S_xret hX dL_law_952 (Nat.le_of_ble_eq_true rfl) (Nat.le_of_ble_eq_true rfl) rfl ?_
        refine hP _ _ _ ?_
        exact hP _ _
      · have hle : i + 6 ≤ N := by
          refine Classical.byContradiction fun w => c24 ?_
          rw [lt_i, Int32.toInt_sub, nI_toInt (by omega), nI_toInt (by omega), show ((6 : Int32)).toInt = 6 by decide, Int.bmod_eq_of_le (by omega) (by omega)]
          omega
        refine S_aload_n (q := 28) hX dL_law_27 rfl rfl ?_
        refine S_iload_n (q := 29) hX dL_law_28 rfl rfl ?_
        refine S_scld (q := 30) hX hs dL_law_29 ?hi_1 rfl ?_
        case hi_1 => first | exact vp_in_nI (by omega) (by omega) | (rw [show (1 : Int32) = nI 1 from rfl, nI_add]; exact vp_in_nI (by omega) (by omega)) | (rw [show (2 : Int32) = nI 2 from rfl, nI_add]; exact vp_in_nI (by omega) (by omega)) | (rw [show (3 : Int32) = nI 3 from rfl, nI_add]; exact vp_in_nI (by omega) (by omega)) | (rw [show (4 : Int32) = nI 4 from rfl, nI_add]; exact vp_in_nI (by omega) (by omega)) | (rw [show (5 : Int32) = nI 5 from rfl, nI_add]; exact vp_in_nI (by omega) (by omega))
        refine S_bipush (q := 32) (v := 31) hX dL_law_30 bp_31 rfl ?_
        refine S_iand (q := 33) hX dL_law_32 rfl ?_
        obtain ⟨j, hj, ej⟩ := and31 (xs (nI i).toNatClampNeg)
        rw [ej]
        rcases (show j = 0 ∨ j = 1 ∨ j = 2 ∨ j = 3 ∨ j = 4 ∨ j = 5 ∨ j = 6 ∨ j = 7 ∨ j = 8 ∨ j = 9 ∨ j = 10 ∨ j = 11 ∨ j = 12 ∨ j = 13 ∨ j = 14 ∨ j = 15 ∨ j = 16 ∨ j = 17 ∨ j = 18 ∨ j = 19 ∨ j = 20 ∨ j = 21 ∨ j = 22 ∨ j = 23 ∨ j = 24 ∨ j = 25 ∨ j = 26 ∨ j = 27 ∨ j = 28 ∨ j = 29 ∨ j = 30 ∨ j = 31 by omega) with rfl | rfl | rfl | rfl | rfl | rfl | rfl | rfl | rfl | rfl | rfl | rfl | rfl | rfl | rfl | rfl | rfl | rfl | rfl | rfl | rfl | rfl | rfl | rfl | rfl | rfl | rfl | rfl | rfl | rfl | rfl | rfl
        · refine S_tableIn (off := 127) 160 hX dL_law_33 (by decide) (by decide) rfl rfl ?_
          refine S_aload_n (q := 161) hX dL_law_160 rfl rfl ?_
          refine S_callV (ci := 11) (C := "FanTalk") (T := TX11) (N := 11) (q := 164) 188 5367 hX (c_X11_code q γ S) rfl ?hs_2 rfl u_319 u_320 u_321 u_1 u_322 ⟨by decide, by decide, rfl⟩ ⟨Nat.le_of_ble_eq_true rfl, Nat.le_of_ble_eq_true rfl⟩ ⟨Nat.le_of_ble_eq_true rfl, Nat.le_of_ble_eq_true rfl⟩ (Nat.le_of_ble_eq_true rfl) dL_law_161 ?hp_2 rfl rfl rfl ?_
          case hs_2 => exact ⟨_, FK.c0 hM⟩
          case hp_2 => exact ⟨hM, hR, ok⟩
          rintro v σ sz1 ⟨γ1, hM, hF1, rfl, hR1, rfl⟩
          have hMm := hMm.fr hF1 (by omega)
          refine S_aload_n (q := 165) hX dL_law_164 rfl rfl ?_
          refine S_callV (ci := 12) (C := "FanTalkModel") (T := TX12) (N := 17) (q := 168) 188 5367 hX (c_X12_code (q + 179) μ S) rfl ?hs_3 rfl u_834 u_835 u_836 u_12 u_837 ⟨by decide, by decide, rfl⟩ ⟨Nat.le_of_ble_eq_true rfl, Nat.le_of_ble_eq_true rfl⟩ ⟨Nat.le_of_ble_eq_true rfl, Nat.le_of_ble_eq_true rfl⟩ (Nat.le_of_ble_eq_true rfl) dL_law_165 ?hp_3 rfl rfl rfl ?_
          case hs_3 => exact MM.isO hMm
          case hp_3 => exact ⟨hMm, hQ, ok⟩
          rintro v σ sz1 ⟨μ1, hMm, hF2, rfl, hQ1, rfl⟩
          have hM := hM.fr hF2 (by omega)
          refine S_icmp_eq (q := 171) 945 hX dL_law_168 rfl rfl (fun c168 => ?_) (fun c168 => absurd rfl c168)
          refine S_iinc (q := 948) [_, _, _, _] hX dL_law_945 rfl (ii_6 _) rfl (Nat.le_of_ble_eq_true rfl) rfl rfl ?_
          refine S_goto 18 hX dL_law_948 rfl ?_
          rw [show (6 : Int32) = nI 6 from rfl, nI_add]
          exact ih (i + 6) _ _ γ1 μ1 _ (by omega) (by omega) hM hMm hR1 hQ1 (ok_code ok)
        · refine S_tableIn (off := 140) 173 hX dL_law_33 (by decide) (by decide) rfl rfl ?_
          sorry
        · refine S_tableIn (off := 183) 216 hX dL_law_33 (by decide) (by decide) rfl rfl ?_
          sorry
        · refine S_tableIn (off := 226) 259 hX dL_law_33 (by decide) (by decide) rfl rfl ?_
          sorry
        · refine S_tableIn (off := 249) 282 hX dL_law_33 (by decide) (by decide) rfl rfl ?_
          sorry
        · refine S_tableIn (off := 312) 345 hX dL_law_33 (by decide) (by decide) rfl rfl ?_
          sorry
        · refine S_tableIn (off := 325) 358 hX dL_law_33 (by decide) (by decide) rfl rfl ?_
          sorry
        · refine S_tableIn (off := 338) 371 hX dL_law_33 (by decide) (by decide) rfl rfl ?_
          sorry
        · refine S_tableIn (off := 361) 394 hX dL_law_33 (by decide) (by decide) rfl rfl ?_
          sorry
        · refine S_tableIn (off := 384) 417 hX dL_law_33 (by decide) (by decide) rfl rfl ?_
          sorry
        · refine S_tableIn (off := 427) 460 hX dL_law_33 (by decide) (by decide) rfl rfl ?_
          sorry
        · refine S_tableIn (off := 480) 513 hX dL_law_33 (by decide) (by decide) rfl rfl ?_
          sorry
        · refine S_tableIn (off := 503) 536 hX dL_law_33 (by decide) (by decide) rfl rfl ?_
          sorry
        · refine S_tableIn (off := 526) 559 hX dL_law_33 (by decide) (by decide) rfl rfl ?_
          sorry
        · refine S_tableIn (off := 539) 572 hX dL_law_33 (by decide) (by decide) rfl rfl ?_
          sorry
        · refine S_tableIn (off := 552) 585 hX dL_law_33 (by decide) (by decide) rfl rfl ?_
          sorry
        · refine S_tableIn (off := 575) 608 hX dL_law_33 (by decide) (by decide) rfl rfl ?_
          sorry
        · refine S_tableIn (off := 588) 621 hX dL_law_33 (by decide) (by decide) rfl rfl ?_
          sorry
        · refine S_tableIn (off := 631) 664 hX dL_law_33 (by decide) (by decide) rfl rfl ?_
          sorry
        · refine S_tableIn (off := 674) 707 hX dL_law_33 (by decide) (by decide) rfl rfl ?_
          sorry
        · refine S_tableIn (off := 697) 730 hX dL_law_33 (by decide) (by decide) rfl rfl ?_
          sorry
        · refine S_tableIn (off := 730) 763 hX dL_law_33 (by decide) (by decide) rfl rfl ?_
          sorry
        · refine S_tableIn (off := 743) 776 hX dL_law_33 (by decide) (by decide) rfl rfl ?_
          sorry
        · refine S_tableIn (off := 806) 839 hX dL_law_33 (by decide) (by decide) rfl rfl ?_
          sorry
        · refine S_tableIn (off := 829) 862 hX dL_law_33 (by decide) (by decide) rfl rfl ?_
          sorry
        · refine S_tableIn (off := 852) 885 hX dL_law_33 (by decide) (by decide) rfl rfl ?_
          sorry
        · refine S_tableIn (off := 875) 908 hX dL_law_33 (by decide) (by decide) rfl rfl ?_
          sorry
        · refine S_tableIn (off := 898) 931 hX dL_law_33 (by decide) (by decide) rfl rfl ?_
          sorry
        · refine S_tableOut 945 hX dL_law_33 (Or.inr (by decide)) rfl ?_
          refine S_iinc (q := 948) [_, _, _, _] hX dL_law_945 rfl (ii_6 _) rfl (Nat.le_of_ble_eq_true rfl) rfl rfl ?_
          refine S_goto 18 hX dL_law_948 rfl ?_
          rw [show (6 : Int32) = nI 6 from rfl, nI_add]
          exact ih (i + 6) _ _ γ μ S (by omega) (by omega) hM hMm hR hQ ok
        · refine S_tableOut 945 hX dL_law_33 (Or.inr (by decide)) rfl ?_
          refine S_iinc (q := 948) [_, _, _, _] hX dL_law_945 rfl (ii_6 _) rfl (Nat.le_of_ble_eq_true rfl) rfl rfl ?_
          refine S_goto 18 hX dL_law_948 rfl ?_
          rw [show (6 : Int32) = nI 6 from rfl, nI_add]
          exact ih (i + 6) _ _ γ μ S (by omega) (by omega) hM hMm hR hQ ok
        · refine S_tableOut 945 hX dL_law_33 (Or.inr (by decide)) rfl ?_
          refine S_iinc (q := 948) [_, _, _, _] hX dL_law_945 rfl (ii_6 _) rfl (Nat.le_of_ble_eq_true rfl) rfl rfl ?_
          refine S_goto 18 hX dL_law_948 rfl ?_
          rw [show (6 : Int32) = nI 6 from rfl, nI_add]
          exact ih (i + 6) _ _ γ μ S (by omega) (by omega) hM hMm hR hQ ok
        · refine S_tableOut 945 hX dL_law_33 (Or.inr (by decide)) rfl ?_
          refine S_iinc (q := 948) [_, _, _, _] hX dL_law_945 rfl (ii_6 _) rfl (Nat.le_of_ble_eq_true rfl) rfl rfl ?_
          refine S_goto 18 hX dL_law_948 rfl ?_
          rw [show (6 : Int32) = nI 6 from rfl, nI_add]
          exact ih (i + 6) _ _ γ μ S (by omega) (by omega) hM hMm hR hQ ok
