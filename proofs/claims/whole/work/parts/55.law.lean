theorem and31 (x : Int32) : ∃ j, j < 32 ∧ x &&& 31 = nI j := by
  refine ⟨(x &&& 31).toBitVec.toNat, ?_, ?_⟩
  · rw [Int32.toBitVec_and, BitVec.toNat_and]
    exact Nat.and_lt_two_pow _ (show (31 : Int32).toBitVec.toNat < 2 ^ 5 by decide)
  · apply Int32.toBitVec_inj.mp
    show _ = BitVec.ofNat 32 (x &&& 31).toBitVec.toNat
    rw [BitVec.ofNat_toNat, BitVec.setWidth_eq]

theorem lg_same (x : Int64) : lg_cmp x x = 0 := by unfold lg_cmp; simp
theorem law_loop {nm0 : String} {X : CX} {Γ : Gm} {P : PO} {b N q : Nat} {xs : Nat → Int32} (hX : Ok X Γ ("FanTalkLaw", nm0, cL_law, 4, some .boolean, room_1)) (hs : Scr X Γ b N xs) (hN : N ≤ 384) (hP : ∀ v σ' sz', v = some (.int 1) → P v σ' sz') : ∀ (fl i : Nat) (σ : Sg) (sz : Nat) (γ μ : MF) (S : ST), i ≤ N → N - i < fl → FK σ q γ → MM σ (q + 179) μ → FR γ S → MR μ S → StOk S → G X Γ P 188 5367 18 [some (.ref b), some (.ref q), some (.ref (q + 179)), some (.int (nI i))] [] σ sz := by
  intro fl
  induction fl with
    | zero => intro i σ sz γ μ S h1 h2; omega
    | succ fl ih =>
      intro i σ sz γ μ S hi hfu hM hMm hR hQ ok
      refine S_iload_n (q := 19) hX dL_law_18 rfl rfl ?_
      refine S_aload_n (q := 20) hX dL_law_19 rfl rfl ?_
      refine S_sclen (q := 21) hX hs dL_law_20 rfl ?_
      refine S_bipush (q := 23) (v := 6) hX dL_law_21 bp_6 rfl ?_
      refine S_isub (q := 24) hX dL_law_23 rfl ?_
      refine S_icmp_gt (q := 27) 951 hX dL_law_24 rfl rfl (fun c24 => ?_) (fun c24 => ?_)
      · refine S_iconst (q := 952) (v := 1) hX dL_law_951 ic_1 rfl ?_
        refine S_xret hX dL_law_952 (Nat.le_of_ble_eq_true rfl) (Nat.le_of_ble_eq_true rfl) rfl ?_
        refine hP _ _ _ ?_
        exact rfl
      · have hle : i + 6 ≤ N := by
          refine Classical.byContradiction fun w => c24 ?_
          rw [lt_i, Int32.toInt_sub, nI_toInt (by omega), nI_toInt (by omega), show ((6 : Int32)).toInt = 6 by decide, Int.bmod_eq_of_le (by omega) (by omega)]
          omega
        refine S_aload_n (q := 28) hX dL_law_27 rfl rfl ?_
        refine S_iload_n (q := 29) hX dL_law_28 rfl rfl ?_
        refine S_scld (q := 30) hX hs dL_law_29 ?hi_1 rfl ?_
        case hi_1 => first | exact vp_in_nI (by omega) (by omega) | (rw [show (1 : Int32) = nI 1 from rfl, nI_add]; exact vp_in_nI (by omega) (by omega)) | (rw [show (2 : Int32) = nI 2 from rfl, nI_add]; exact vp_in_nI (by omega) (by omega)) | (rw [show (3 : Int32) = nI 3 from rfl, nI_add]; exact vp_in_nI (by omega) (by omega)) | (rw [show (4 : Int32) = nI 4 from rfl, nI_add]; exact vp_in_nI (by omega) (by omega)) | (rw [show (5 : Int32) = nI 5 from rfl, nI_add]; exact vp_in_nI (by omega) (by omega))
        refine S_bipush (q := 32) (v := 31) hX dL_law_30 bp_31 rfl ?_
        refine S_iand (q := 33) hX dL_law_32 rfl ?_
        obtain ⟨j, hj, ej⟩ := and31 (xs (nI i).toNatClampNeg)
        rw [ej]
        rcases (show j = 0 ∨ j = 1 ∨ j = 2 ∨ j = 3 ∨ j = 4 ∨ j = 5 ∨ j = 6 ∨ j = 7 ∨ j = 8 ∨ j = 9 ∨ j = 10 ∨ j = 11 ∨ j = 12 ∨ j = 13 ∨ j = 14 ∨ j = 15 ∨ j = 16 ∨ j = 17 ∨ j = 18 ∨ j = 19 ∨ j = 20 ∨ j = 21 ∨ j = 22 ∨ j = 23 ∨ j = 24 ∨ j = 25 ∨ j = 26 ∨ j = 27 ∨ j = 28 ∨ j = 29 ∨ j = 30 ∨ j = 31 by omega) with rfl | rfl | rfl | rfl | rfl | rfl | rfl | rfl | rfl | rfl | rfl | rfl | rfl | rfl | rfl | rfl | rfl | rfl | rfl | rfl | rfl | rfl | rfl | rfl | rfl | rfl | rfl | rfl | rfl | rfl | rfl | rfl
        · refine S_tableIn (off := 127) 160 hX dL_law_33 (by decide) (by decide) rfl rfl ?_
          refine S_aload_n (q := 161) hX dL_law_160 rfl rfl ?_
          refine S_callV (ci := 11) (C := "FanTalk") (T := TX11) (N := 11) (q := 164) 188 5367 hX (c_X11_code q γ S) rfl ?hs_2 rfl u_319 u_320 u_321 u_1 u_322 ⟨by decide, by decide, rfl⟩ ⟨Nat.le_of_ble_eq_true rfl, Nat.le_of_ble_eq_true rfl⟩ ⟨Nat.le_of_ble_eq_true rfl, Nat.le_of_ble_eq_true rfl⟩ (Nat.le_of_ble_eq_true rfl) dL_law_161 ?hp_2 rfl rfl rfl ?_
          case hs_2 => exact ⟨_, FK.c0 hM⟩
          case hp_2 => exact ⟨hM, hR, ok⟩
          rintro v σ sz1 ⟨γ1, hM, hF1, rfl, hR1, rfl⟩
          have hMm := hMm.fr hF1 (by omega)
          refine S_aload_n (q := 165) hX dL_law_164 rfl rfl ?_
          refine S_callV (ci := 12) (C := "FanTalkModel") (T := TX12) (N := 17) (q := 168) 188 5367 hX (c_X12_code (q + 179) μ S) rfl ?hs_3 rfl u_834 u_835 u_836 u_12 u_837 ⟨by decide, by decide, rfl⟩ ⟨Nat.le_of_ble_eq_true rfl, Nat.le_of_ble_eq_true rfl⟩ ⟨Nat.le_of_ble_eq_true rfl, Nat.le_of_ble_eq_true rfl⟩ (Nat.le_of_ble_eq_true rfl) dL_law_165 ?hp_3 rfl rfl rfl ?_
          case hs_3 => exact MM.isO hMm
          case hp_3 => exact ⟨hMm, hQ, ok⟩
          rintro v σ sz1 ⟨μ1, hMm, hF2, rfl, hQ1, rfl⟩
          have hM := hM.fr hF2 (by omega)
          refine S_icmp_eq (q := 171) 945 hX dL_law_168 rfl rfl (fun c168 => ?_) (fun c168 => absurd rfl c168)
          refine S_iinc (q := 948) [_, _, _, _] hX dL_law_945 rfl (ii_6 _) rfl (Nat.le_of_ble_eq_true rfl) rfl rfl ?_
          refine S_goto 18 hX dL_law_948 rfl ?_
          rw [show (6 : Int32) = nI 6 from rfl, nI_add]
          exact ih (i + 6) _ _ γ1 μ1 _ (by omega) (by omega) hM hMm hR1 hQ1 (ok_code ok)
        · refine S_tableIn (off := 140) 173 hX dL_law_33 (by decide) (by decide) rfl rfl ?_
          refine S_aload_n (q := 174) hX dL_law_173 rfl rfl ?_
          refine S_aload_n (q := 175) hX dL_law_174 rfl rfl ?_
          refine S_iload_n (q := 176) hX dL_law_175 rfl rfl ?_
          refine S_iconst (q := 177) (v := 1) hX dL_law_176 ic_1 rfl ?_
          refine S_iadd (q := 178) hX dL_law_177 rfl ?_
          refine S_scld (q := 179) hX hs dL_law_178 ?hi_4 rfl ?_
          case hi_4 => first | exact vp_in_nI (by omega) (by omega) | (rw [show (1 : Int32) = nI 1 from rfl, nI_add]; exact vp_in_nI (by omega) (by omega)) | (rw [show (2 : Int32) = nI 2 from rfl, nI_add]; exact vp_in_nI (by omega) (by omega)) | (rw [show (3 : Int32) = nI 3 from rfl, nI_add]; exact vp_in_nI (by omega) (by omega)) | (rw [show (4 : Int32) = nI 4 from rfl, nI_add]; exact vp_in_nI (by omega) (by omega)) | (rw [show (5 : Int32) = nI 5 from rfl, nI_add]; exact vp_in_nI (by omega) (by omega))
          refine S_aload_n (q := 180) hX dL_law_179 rfl rfl ?_
          refine S_iload_n (q := 181) hX dL_law_180 rfl rfl ?_
          refine S_iconst (q := 182) (v := 2) hX dL_law_181 ic_2 rfl ?_
          refine S_iadd (q := 183) hX dL_law_182 rfl ?_
          refine S_scld (q := 184) hX hs dL_law_183 ?hi_5 rfl ?_
          case hi_5 => first | exact vp_in_nI (by omega) (by omega) | (rw [show (1 : Int32) = nI 1 from rfl, nI_add]; exact vp_in_nI (by omega) (by omega)) | (rw [show (2 : Int32) = nI 2 from rfl, nI_add]; exact vp_in_nI (by omega) (by omega)) | (rw [show (3 : Int32) = nI 3 from rfl, nI_add]; exact vp_in_nI (by omega) (by omega)) | (rw [show (4 : Int32) = nI 4 from rfl, nI_add]; exact vp_in_nI (by omega) (by omega)) | (rw [show (5 : Int32) = nI 5 from rfl, nI_add]; exact vp_in_nI (by omega) (by omega))
          refine S_aload_n (q := 185) hX dL_law_184 rfl rfl ?_
          refine S_iload_n (q := 186) hX dL_law_185 rfl rfl ?_
          refine S_iconst (q := 187) (v := 3) hX dL_law_186 ic_3 rfl ?_
          refine S_iadd (q := 188) hX dL_law_187 rfl ?_
          refine S_scld (q := 189) hX hs dL_law_188 ?hi_6 rfl ?_
          case hi_6 => first | exact vp_in_nI (by omega) (by omega) | (rw [show (1 : Int32) = nI 1 from rfl, nI_add]; exact vp_in_nI (by omega) (by omega)) | (rw [show (2 : Int32) = nI 2 from rfl, nI_add]; exact vp_in_nI (by omega) (by omega)) | (rw [show (3 : Int32) = nI 3 from rfl, nI_add]; exact vp_in_nI (by omega) (by omega)) | (rw [show (4 : Int32) = nI 4 from rfl, nI_add]; exact vp_in_nI (by omega) (by omega)) | (rw [show (5 : Int32) = nI 5 from rfl, nI_add]; exact vp_in_nI (by omega) (by omega))
          refine S_callV (ci := 11) (C := "FanTalk") (T := TX11) (N := 11) (q := 192) 188 5367 hX (c_X11_entry q γ S _ _ _) rfl ?hs_7 rfl u_331 u_332 u_333 u_1 u_334 ⟨by decide, by decide, rfl⟩ ⟨Nat.le_of_ble_eq_true rfl, Nat.le_of_ble_eq_true rfl⟩ ⟨Nat.le_of_ble_eq_true rfl, Nat.le_of_ble_eq_true rfl⟩ (Nat.le_of_ble_eq_true rfl) dL_law_189 ?hp_7 rfl rfl rfl ?_
          case hs_7 => exact ⟨_, FK.c0 hM⟩
          case hp_7 => exact ⟨hM, hR, ok⟩
          rintro v σ sz1 ⟨γ1, hM, hF1, rfl, hR1, rfl⟩
          have hMm := hMm.fr hF1 (by omega)
          refine S_aload_n (q := 193) hX dL_law_192 rfl rfl ?_
          refine S_aload_n (q := 194) hX dL_law_193 rfl rfl ?_
          refine S_iload_n (q := 195) hX dL_law_194 rfl rfl ?_
          refine S_iconst (q := 196) (v := 1) hX dL_law_195 ic_1 rfl ?_
          refine S_iadd (q := 197) hX dL_law_196 rfl ?_
          refine S_scld (q := 198) hX hs dL_law_197 ?hi_8 rfl ?_
          case hi_8 => first | exact vp_in_nI (by omega) (by omega) | (rw [show (1 : Int32) = nI 1 from rfl, nI_add]; exact vp_in_nI (by omega) (by omega)) | (rw [show (2 : Int32) = nI 2 from rfl, nI_add]; exact vp_in_nI (by omega) (by omega)) | (rw [show (3 : Int32) = nI 3 from rfl, nI_add]; exact vp_in_nI (by omega) (by omega)) | (rw [show (4 : Int32) = nI 4 from rfl, nI_add]; exact vp_in_nI (by omega) (by omega)) | (rw [show (5 : Int32) = nI 5 from rfl, nI_add]; exact vp_in_nI (by omega) (by omega))
          refine S_aload_n (q := 199) hX dL_law_198 rfl rfl ?_
          refine S_iload_n (q := 200) hX dL_law_199 rfl rfl ?_
          refine S_iconst (q := 201) (v := 2) hX dL_law_200 ic_2 rfl ?_
          refine S_iadd (q := 202) hX dL_law_201 rfl ?_
          refine S_scld (q := 203) hX hs dL_law_202 ?hi_9 rfl ?_
          case hi_9 => first | exact vp_in_nI (by omega) (by omega) | (rw [show (1 : Int32) = nI 1 from rfl, nI_add]; exact vp_in_nI (by omega) (by omega)) | (rw [show (2 : Int32) = nI 2 from rfl, nI_add]; exact vp_in_nI (by omega) (by omega)) | (rw [show (3 : Int32) = nI 3 from rfl, nI_add]; exact vp_in_nI (by omega) (by omega)) | (rw [show (4 : Int32) = nI 4 from rfl, nI_add]; exact vp_in_nI (by omega) (by omega)) | (rw [show (5 : Int32) = nI 5 from rfl, nI_add]; exact vp_in_nI (by omega) (by omega))
          refine S_aload_n (q := 204) hX dL_law_203 rfl rfl ?_
          refine S_iload_n (q := 205) hX dL_law_204 rfl rfl ?_
          refine S_iconst (q := 206) (v := 3) hX dL_law_205 ic_3 rfl ?_
          refine S_iadd (q := 207) hX dL_law_206 rfl ?_
          refine S_scld (q := 208) hX hs dL_law_207 ?hi_10 rfl ?_
          case hi_10 => first | exact vp_in_nI (by omega) (by omega) | (rw [show (1 : Int32) = nI 1 from rfl, nI_add]; exact vp_in_nI (by omega) (by omega)) | (rw [show (2 : Int32) = nI 2 from rfl, nI_add]; exact vp_in_nI (by omega) (by omega)) | (rw [show (3 : Int32) = nI 3 from rfl, nI_add]; exact vp_in_nI (by omega) (by omega)) | (rw [show (4 : Int32) = nI 4 from rfl, nI_add]; exact vp_in_nI (by omega) (by omega)) | (rw [show (5 : Int32) = nI 5 from rfl, nI_add]; exact vp_in_nI (by omega) (by omega))
          refine S_callV (ci := 12) (C := "FanTalkModel") (T := TX12) (N := 17) (q := 211) 188 5367 hX (c_X12_entry (q + 179) μ S _ _ _) rfl ?hs_11 rfl u_850 u_851 u_852 u_12 u_853 ⟨by decide, by decide, rfl⟩ ⟨Nat.le_of_ble_eq_true rfl, Nat.le_of_ble_eq_true rfl⟩ ⟨Nat.le_of_ble_eq_true rfl, Nat.le_of_ble_eq_true rfl⟩ (Nat.le_of_ble_eq_true rfl) dL_law_208 ?hp_11 rfl rfl rfl ?_
          case hs_11 => exact MM.isO hMm
          case hp_11 => exact ⟨hMm, hQ, ok⟩
          rintro v σ sz1 ⟨μ1, hMm, hF2, rfl, hQ1, rfl⟩
          have hM := hM.fr hF2 (by omega)
          refine S_icmp_eq (q := 214) 945 hX dL_law_211 rfl rfl (fun c211 => ?_) (fun c211 => absurd rfl c211)
          refine S_iinc (q := 948) [_, _, _, _] hX dL_law_945 rfl (ii_6 _) rfl (Nat.le_of_ble_eq_true rfl) rfl rfl ?_
          refine S_goto 18 hX dL_law_948 rfl ?_
          rw [show (6 : Int32) = nI 6 from rfl, nI_add]
          exact ih (i + 6) _ _ γ1 μ1 _ (by omega) (by omega) hM hMm hR1 hQ1 (ok_entry ok)
        · refine S_tableIn (off := 183) 216 hX dL_law_33 (by decide) (by decide) rfl rfl ?_
          refine S_aload_n (q := 217) hX dL_law_216 rfl rfl ?_
          refine S_aload_n (q := 218) hX dL_law_217 rfl rfl ?_
          refine S_iload_n (q := 219) hX dL_law_218 rfl rfl ?_
          refine S_iconst (q := 220) (v := 1) hX dL_law_219 ic_1 rfl ?_
          refine S_iadd (q := 221) hX dL_law_220 rfl ?_
          refine S_scld (q := 222) hX hs dL_law_221 ?hi_12 rfl ?_
          case hi_12 => first | exact vp_in_nI (by omega) (by omega) | (rw [show (1 : Int32) = nI 1 from rfl, nI_add]; exact vp_in_nI (by omega) (by omega)) | (rw [show (2 : Int32) = nI 2 from rfl, nI_add]; exact vp_in_nI (by omega) (by omega)) | (rw [show (3 : Int32) = nI 3 from rfl, nI_add]; exact vp_in_nI (by omega) (by omega)) | (rw [show (4 : Int32) = nI 4 from rfl, nI_add]; exact vp_in_nI (by omega) (by omega)) | (rw [show (5 : Int32) = nI 5 from rfl, nI_add]; exact vp_in_nI (by omega) (by omega))
          refine S_aload_n (q := 223) hX dL_law_222 rfl rfl ?_
          refine S_iload_n (q := 224) hX dL_law_223 rfl rfl ?_
          refine S_iconst (q := 225) (v := 2) hX dL_law_224 ic_2 rfl ?_
          refine S_iadd (q := 226) hX dL_law_225 rfl ?_
          refine S_scld (q := 227) hX hs dL_law_226 ?hi_13 rfl ?_
          case hi_13 => first | exact vp_in_nI (by omega) (by omega) | (rw [show (1 : Int32) = nI 1 from rfl, nI_add]; exact vp_in_nI (by omega) (by omega)) | (rw [show (2 : Int32) = nI 2 from rfl, nI_add]; exact vp_in_nI (by omega) (by omega)) | (rw [show (3 : Int32) = nI 3 from rfl, nI_add]; exact vp_in_nI (by omega) (by omega)) | (rw [show (4 : Int32) = nI 4 from rfl, nI_add]; exact vp_in_nI (by omega) (by omega)) | (rw [show (5 : Int32) = nI 5 from rfl, nI_add]; exact vp_in_nI (by omega) (by omega))
          refine S_aload_n (q := 228) hX dL_law_227 rfl rfl ?_
          refine S_iload_n (q := 229) hX dL_law_228 rfl rfl ?_
          refine S_iconst (q := 230) (v := 3) hX dL_law_229 ic_3 rfl ?_
          refine S_iadd (q := 231) hX dL_law_230 rfl ?_
          refine S_scld (q := 232) hX hs dL_law_231 ?hi_14 rfl ?_
          case hi_14 => first | exact vp_in_nI (by omega) (by omega) | (rw [show (1 : Int32) = nI 1 from rfl, nI_add]; exact vp_in_nI (by omega) (by omega)) | (rw [show (2 : Int32) = nI 2 from rfl, nI_add]; exact vp_in_nI (by omega) (by omega)) | (rw [show (3 : Int32) = nI 3 from rfl, nI_add]; exact vp_in_nI (by omega) (by omega)) | (rw [show (4 : Int32) = nI 4 from rfl, nI_add]; exact vp_in_nI (by omega) (by omega)) | (rw [show (5 : Int32) = nI 5 from rfl, nI_add]; exact vp_in_nI (by omega) (by omega))
          refine S_callV (ci := 11) (C := "FanTalk") (T := TX11) (N := 11) (q := 235) 188 5367 hX (c_X11_told q γ S _ _ _) rfl ?hs_15 rfl u_357 u_358 u_359 u_1 u_360 ⟨by decide, by decide, rfl⟩ ⟨Nat.le_of_ble_eq_true rfl, Nat.le_of_ble_eq_true rfl⟩ ⟨Nat.le_of_ble_eq_true rfl, Nat.le_of_ble_eq_true rfl⟩ (Nat.le_of_ble_eq_true rfl) dL_law_232 ?hp_15 rfl rfl rfl ?_
          case hs_15 => exact ⟨_, FK.c0 hM⟩
          case hp_15 => exact ⟨hM, hR, ok⟩
          rintro v σ sz1 ⟨γ1, hM, hF1, rfl, hR1, rfl⟩
          have hMm := hMm.fr hF1 (by omega)
          refine S_aload_n (q := 236) hX dL_law_235 rfl rfl ?_
          refine S_aload_n (q := 237) hX dL_law_236 rfl rfl ?_
          refine S_iload_n (q := 238) hX dL_law_237 rfl rfl ?_
          refine S_iconst (q := 239) (v := 1) hX dL_law_238 ic_1 rfl ?_
          refine S_iadd (q := 240) hX dL_law_239 rfl ?_
          refine S_scld (q := 241) hX hs dL_law_240 ?hi_16 rfl ?_
          case hi_16 => first | exact vp_in_nI (by omega) (by omega) | (rw [show (1 : Int32) = nI 1 from rfl, nI_add]; exact vp_in_nI (by omega) (by omega)) | (rw [show (2 : Int32) = nI 2 from rfl, nI_add]; exact vp_in_nI (by omega) (by omega)) | (rw [show (3 : Int32) = nI 3 from rfl, nI_add]; exact vp_in_nI (by omega) (by omega)) | (rw [show (4 : Int32) = nI 4 from rfl, nI_add]; exact vp_in_nI (by omega) (by omega)) | (rw [show (5 : Int32) = nI 5 from rfl, nI_add]; exact vp_in_nI (by omega) (by omega))
          refine S_aload_n (q := 242) hX dL_law_241 rfl rfl ?_
          refine S_iload_n (q := 243) hX dL_law_242 rfl rfl ?_
          refine S_iconst (q := 244) (v := 2) hX dL_law_243 ic_2 rfl ?_
          refine S_iadd (q := 245) hX dL_law_244 rfl ?_
          refine S_scld (q := 246) hX hs dL_law_245 ?hi_17 rfl ?_
          case hi_17 => first | exact vp_in_nI (by omega) (by omega) | (rw [show (1 : Int32) = nI 1 from rfl, nI_add]; exact vp_in_nI (by omega) (by omega)) | (rw [show (2 : Int32) = nI 2 from rfl, nI_add]; exact vp_in_nI (by omega) (by omega)) | (rw [show (3 : Int32) = nI 3 from rfl, nI_add]; exact vp_in_nI (by omega) (by omega)) | (rw [show (4 : Int32) = nI 4 from rfl, nI_add]; exact vp_in_nI (by omega) (by omega)) | (rw [show (5 : Int32) = nI 5 from rfl, nI_add]; exact vp_in_nI (by omega) (by omega))
          refine S_aload_n (q := 247) hX dL_law_246 rfl rfl ?_
          refine S_iload_n (q := 248) hX dL_law_247 rfl rfl ?_
          refine S_iconst (q := 249) (v := 3) hX dL_law_248 ic_3 rfl ?_
          refine S_iadd (q := 250) hX dL_law_249 rfl ?_
          refine S_scld (q := 251) hX hs dL_law_250 ?hi_18 rfl ?_
          case hi_18 => first | exact vp_in_nI (by omega) (by omega) | (rw [show (1 : Int32) = nI 1 from rfl, nI_add]; exact vp_in_nI (by omega) (by omega)) | (rw [show (2 : Int32) = nI 2 from rfl, nI_add]; exact vp_in_nI (by omega) (by omega)) | (rw [show (3 : Int32) = nI 3 from rfl, nI_add]; exact vp_in_nI (by omega) (by omega)) | (rw [show (4 : Int32) = nI 4 from rfl, nI_add]; exact vp_in_nI (by omega) (by omega)) | (rw [show (5 : Int32) = nI 5 from rfl, nI_add]; exact vp_in_nI (by omega) (by omega))
          refine S_callV (ci := 12) (C := "FanTalkModel") (T := TX12) (N := 17) (q := 254) 188 5367 hX (c_X12_told (q + 179) μ S _ _ _) rfl ?hs_19 rfl u_888 u_889 u_890 u_12 u_891 ⟨by decide, by decide, rfl⟩ ⟨Nat.le_of_ble_eq_true rfl, Nat.le_of_ble_eq_true rfl⟩ ⟨Nat.le_of_ble_eq_true rfl, Nat.le_of_ble_eq_true rfl⟩ (Nat.le_of_ble_eq_true rfl) dL_law_251 ?hp_19 rfl rfl rfl ?_
          case hs_19 => exact MM.isO hMm
          case hp_19 => exact ⟨hMm, hQ, ok⟩
          rintro v σ sz1 ⟨μ1, hMm, hF2, rfl, hQ1, rfl⟩
          have hM := hM.fr hF2 (by omega)
          refine S_icmp_eq (q := 257) 945 hX dL_law_254 rfl rfl (fun c254 => ?_) (fun c254 => absurd rfl c254)
          refine S_iinc (q := 948) [_, _, _, _] hX dL_law_945 rfl (ii_6 _) rfl (Nat.le_of_ble_eq_true rfl) rfl rfl ?_
          refine S_goto 18 hX dL_law_948 rfl ?_
          rw [show (6 : Int32) = nI 6 from rfl, nI_add]
          exact ih (i + 6) _ _ γ1 μ1 _ (by omega) (by omega) hM hMm hR1 hQ1 (ok_told ok)
        · refine S_tableIn (off := 226) 259 hX dL_law_33 (by decide) (by decide) rfl rfl ?_
          refine S_aload_n (q := 260) hX dL_law_259 rfl rfl ?_
          refine S_aload_n (q := 261) hX dL_law_260 rfl rfl ?_
          refine S_iload_n (q := 262) hX dL_law_261 rfl rfl ?_
          refine S_iconst (q := 263) (v := 1) hX dL_law_262 ic_1 rfl ?_
          refine S_iadd (q := 264) hX dL_law_263 rfl ?_
          refine S_scld (q := 265) hX hs dL_law_264 ?hi_20 rfl ?_
          case hi_20 => first | exact vp_in_nI (by omega) (by omega) | (rw [show (1 : Int32) = nI 1 from rfl, nI_add]; exact vp_in_nI (by omega) (by omega)) | (rw [show (2 : Int32) = nI 2 from rfl, nI_add]; exact vp_in_nI (by omega) (by omega)) | (rw [show (3 : Int32) = nI 3 from rfl, nI_add]; exact vp_in_nI (by omega) (by omega)) | (rw [show (4 : Int32) = nI 4 from rfl, nI_add]; exact vp_in_nI (by omega) (by omega)) | (rw [show (5 : Int32) = nI 5 from rfl, nI_add]; exact vp_in_nI (by omega) (by omega))
          refine S_callV (ci := 11) (C := "FanTalk") (T := TX11) (N := 11) (q := 268) 188 5367 hX (c_X11_draughts q γ S _) rfl ?hs_21 rfl u_361 u_362 u_363 u_1 u_364 ⟨by decide, by decide, rfl⟩ ⟨Nat.le_of_ble_eq_true rfl, Nat.le_of_ble_eq_true rfl⟩ ⟨Nat.le_of_ble_eq_true rfl, Nat.le_of_ble_eq_true rfl⟩ (Nat.le_of_ble_eq_true rfl) dL_law_265 ?hp_21 rfl rfl rfl ?_
          case hs_21 => exact ⟨_, FK.c0 hM⟩
          case hp_21 => exact ⟨hM, hR, ok⟩
          rintro v σ sz1 ⟨γ1, hM, hF1, rfl, hR1, rfl⟩
          have hMm := hMm.fr hF1 (by omega)
          refine S_aload_n (q := 269) hX dL_law_268 rfl rfl ?_
          refine S_aload_n (q := 270) hX dL_law_269 rfl rfl ?_
          refine S_iload_n (q := 271) hX dL_law_270 rfl rfl ?_
          refine S_iconst (q := 272) (v := 1) hX dL_law_271 ic_1 rfl ?_
          refine S_iadd (q := 273) hX dL_law_272 rfl ?_
          refine S_scld (q := 274) hX hs dL_law_273 ?hi_22 rfl ?_
          case hi_22 => first | exact vp_in_nI (by omega) (by omega) | (rw [show (1 : Int32) = nI 1 from rfl, nI_add]; exact vp_in_nI (by omega) (by omega)) | (rw [show (2 : Int32) = nI 2 from rfl, nI_add]; exact vp_in_nI (by omega) (by omega)) | (rw [show (3 : Int32) = nI 3 from rfl, nI_add]; exact vp_in_nI (by omega) (by omega)) | (rw [show (4 : Int32) = nI 4 from rfl, nI_add]; exact vp_in_nI (by omega) (by omega)) | (rw [show (5 : Int32) = nI 5 from rfl, nI_add]; exact vp_in_nI (by omega) (by omega))
          refine S_callV (ci := 12) (C := "FanTalkModel") (T := TX12) (N := 17) (q := 277) 188 5367 hX (c_X12_draughts (q + 179) μ S _) rfl ?hs_23 rfl u_896 u_897 u_898 u_12 u_899 ⟨by decide, by decide, rfl⟩ ⟨Nat.le_of_ble_eq_true rfl, Nat.le_of_ble_eq_true rfl⟩ ⟨Nat.le_of_ble_eq_true rfl, Nat.le_of_ble_eq_true rfl⟩ (Nat.le_of_ble_eq_true rfl) dL_law_274 ?hp_23 rfl rfl rfl ?_
          case hs_23 => exact MM.isO hMm
          case hp_23 => exact ⟨hMm, hQ, ok⟩
          rintro v σ sz1 ⟨μ1, hMm, hF2, rfl, hQ1, rfl⟩
          have hM := hM.fr hF2 (by omega)
          refine S_icmp_eq (q := 280) 945 hX dL_law_277 rfl rfl (fun c277 => ?_) (fun c277 => absurd rfl c277)
          refine S_iinc (q := 948) [_, _, _, _] hX dL_law_945 rfl (ii_6 _) rfl (Nat.le_of_ble_eq_true rfl) rfl rfl ?_
          refine S_goto 18 hX dL_law_948 rfl ?_
          rw [show (6 : Int32) = nI 6 from rfl, nI_add]
          exact ih (i + 6) _ _ γ1 μ1 _ (by omega) (by omega) hM hMm hR1 hQ1 (ok_draughts ok)
        · refine S_tableIn (off := 249) 282 hX dL_law_33 (by decide) (by decide) rfl rfl ?_
          refine S_aload_n (q := 283) hX dL_law_282 rfl rfl ?_
          refine S_aload_n (q := 284) hX dL_law_283 rfl rfl ?_
          refine S_iload_n (q := 285) hX dL_law_284 rfl rfl ?_
          refine S_iconst (q := 286) (v := 1) hX dL_law_285 ic_1 rfl ?_
          refine S_iadd (q := 287) hX dL_law_286 rfl ?_
          refine S_scld (q := 288) hX hs dL_law_287 ?hi_24 rfl ?_
          case hi_24 => first | exact vp_in_nI (by omega) (by omega) | (rw [show (1 : Int32) = nI 1 from rfl, nI_add]; exact vp_in_nI (by omega) (by omega)) | (rw [show (2 : Int32) = nI 2 from rfl, nI_add]; exact vp_in_nI (by omega) (by omega)) | (rw [show (3 : Int32) = nI 3 from rfl, nI_add]; exact vp_in_nI (by omega) (by omega)) | (rw [show (4 : Int32) = nI 4 from rfl, nI_add]; exact vp_in_nI (by omega) (by omega)) | (rw [show (5 : Int32) = nI 5 from rfl, nI_add]; exact vp_in_nI (by omega) (by omega))
          refine S_i2l (q := 289) hX dL_law_288 rfl ?_
          refine S_bipush (q := 291) (v := 32) hX dL_law_289 bp_32 rfl ?_
          refine S_lshl (q := 292) hX dL_law_291 rfl ?_
          refine S_aload_n (q := 293) hX dL_law_292 rfl rfl ?_
          refine S_iload_n (q := 294) hX dL_law_293 rfl rfl ?_
          refine S_iconst (q := 295) (v := 2) hX dL_law_294 ic_2 rfl ?_
          refine S_iadd (q := 296) hX dL_law_295 rfl ?_
          refine S_scld (q := 297) hX hs dL_law_296 ?hi_25 rfl ?_
          case hi_25 => first | exact vp_in_nI (by omega) (by omega) | (rw [show (1 : Int32) = nI 1 from rfl, nI_add]; exact vp_in_nI (by omega) (by omega)) | (rw [show (2 : Int32) = nI 2 from rfl, nI_add]; exact vp_in_nI (by omega) (by omega)) | (rw [show (3 : Int32) = nI 3 from rfl, nI_add]; exact vp_in_nI (by omega) (by omega)) | (rw [show (4 : Int32) = nI 4 from rfl, nI_add]; exact vp_in_nI (by omega) (by omega)) | (rw [show (5 : Int32) = nI 5 from rfl, nI_add]; exact vp_in_nI (by omega) (by omega))
          refine S_i2l (q := 298) hX dL_law_297 rfl ?_
          refine S_ldc2 (q := 301) hX u_1103 dL_law_298 rfl ?_
          refine S_land (q := 302) hX dL_law_301 rfl ?_
          refine S_lor (q := 303) hX dL_law_302 rfl ?_
          refine S_aload_n (q := 304) hX dL_law_303 rfl rfl ?_
          refine S_iload_n (q := 305) hX dL_law_304 rfl rfl ?_
          refine S_iconst (q := 306) (v := 3) hX dL_law_305 ic_3 rfl ?_
          refine S_iadd (q := 307) hX dL_law_306 rfl ?_
          refine S_scld (q := 308) hX hs dL_law_307 ?hi_26 rfl ?_
          case hi_26 => first | exact vp_in_nI (by omega) (by omega) | (rw [show (1 : Int32) = nI 1 from rfl, nI_add]; exact vp_in_nI (by omega) (by omega)) | (rw [show (2 : Int32) = nI 2 from rfl, nI_add]; exact vp_in_nI (by omega) (by omega)) | (rw [show (3 : Int32) = nI 3 from rfl, nI_add]; exact vp_in_nI (by omega) (by omega)) | (rw [show (4 : Int32) = nI 4 from rfl, nI_add]; exact vp_in_nI (by omega) (by omega)) | (rw [show (5 : Int32) = nI 5 from rfl, nI_add]; exact vp_in_nI (by omega) (by omega))
          refine S_callV (ci := 11) (C := "FanTalk") (T := TX11) (N := 11) (q := 311) 188 5367 hX (c_X11_type q γ S _ _) rfl ?hs_27 rfl u_365 u_366 u_367 u_1 u_368 ⟨by decide, by decide, rfl⟩ ⟨Nat.le_of_ble_eq_true rfl, Nat.le_of_ble_eq_true rfl⟩ ⟨Nat.le_of_ble_eq_true rfl, Nat.le_of_ble_eq_true rfl⟩ (Nat.le_of_ble_eq_true rfl) dL_law_308 ?hp_27 rfl rfl rfl ?_
          case hs_27 => exact ⟨_, FK.c0 hM⟩
          case hp_27 => exact ⟨hM, hR, ok⟩
          rintro v σ sz1 ⟨γ1, hM, hF1, rfl, hR1, rfl⟩
          have hMm := hMm.fr hF1 (by omega)
          refine S_aload_n (q := 312) hX dL_law_311 rfl rfl ?_
          refine S_aload_n (q := 313) hX dL_law_312 rfl rfl ?_
          refine S_iload_n (q := 314) hX dL_law_313 rfl rfl ?_
          refine S_iconst (q := 315) (v := 1) hX dL_law_314 ic_1 rfl ?_
          refine S_iadd (q := 316) hX dL_law_315 rfl ?_
          refine S_scld (q := 317) hX hs dL_law_316 ?hi_28 rfl ?_
          case hi_28 => first | exact vp_in_nI (by omega) (by omega) | (rw [show (1 : Int32) = nI 1 from rfl, nI_add]; exact vp_in_nI (by omega) (by omega)) | (rw [show (2 : Int32) = nI 2 from rfl, nI_add]; exact vp_in_nI (by omega) (by omega)) | (rw [show (3 : Int32) = nI 3 from rfl, nI_add]; exact vp_in_nI (by omega) (by omega)) | (rw [show (4 : Int32) = nI 4 from rfl, nI_add]; exact vp_in_nI (by omega) (by omega)) | (rw [show (5 : Int32) = nI 5 from rfl, nI_add]; exact vp_in_nI (by omega) (by omega))
          refine S_i2l (q := 318) hX dL_law_317 rfl ?_
          refine S_bipush (q := 320) (v := 32) hX dL_law_318 bp_32 rfl ?_
          refine S_lshl (q := 321) hX dL_law_320 rfl ?_
          refine S_aload_n (q := 322) hX dL_law_321 rfl rfl ?_
          refine S_iload_n (q := 323) hX dL_law_322 rfl rfl ?_
          refine S_iconst (q := 324) (v := 2) hX dL_law_323 ic_2 rfl ?_
          refine S_iadd (q := 325) hX dL_law_324 rfl ?_
          refine S_scld (q := 326) hX hs dL_law_325 ?hi_29 rfl ?_
          case hi_29 => first | exact vp_in_nI (by omega) (by omega) | (rw [show (1 : Int32) = nI 1 from rfl, nI_add]; exact vp_in_nI (by omega) (by omega)) | (rw [show (2 : Int32) = nI 2 from rfl, nI_add]; exact vp_in_nI (by omega) (by omega)) | (rw [show (3 : Int32) = nI 3 from rfl, nI_add]; exact vp_in_nI (by omega) (by omega)) | (rw [show (4 : Int32) = nI 4 from rfl, nI_add]; exact vp_in_nI (by omega) (by omega)) | (rw [show (5 : Int32) = nI 5 from rfl, nI_add]; exact vp_in_nI (by omega) (by omega))
          refine S_i2l (q := 327) hX dL_law_326 rfl ?_
          refine S_ldc2 (q := 330) hX u_1103 dL_law_327 rfl ?_
          refine S_land (q := 331) hX dL_law_330 rfl ?_
          refine S_lor (q := 332) hX dL_law_331 rfl ?_
          refine S_aload_n (q := 333) hX dL_law_332 rfl rfl ?_
          refine S_iload_n (q := 334) hX dL_law_333 rfl rfl ?_
          refine S_iconst (q := 335) (v := 3) hX dL_law_334 ic_3 rfl ?_
          refine S_iadd (q := 336) hX dL_law_335 rfl ?_
          refine S_scld (q := 337) hX hs dL_law_336 ?hi_30 rfl ?_
          case hi_30 => first | exact vp_in_nI (by omega) (by omega) | (rw [show (1 : Int32) = nI 1 from rfl, nI_add]; exact vp_in_nI (by omega) (by omega)) | (rw [show (2 : Int32) = nI 2 from rfl, nI_add]; exact vp_in_nI (by omega) (by omega)) | (rw [show (3 : Int32) = nI 3 from rfl, nI_add]; exact vp_in_nI (by omega) (by omega)) | (rw [show (4 : Int32) = nI 4 from rfl, nI_add]; exact vp_in_nI (by omega) (by omega)) | (rw [show (5 : Int32) = nI 5 from rfl, nI_add]; exact vp_in_nI (by omega) (by omega))
          refine S_callV (ci := 12) (C := "FanTalkModel") (T := TX12) (N := 17) (q := 340) 188 5367 hX (c_X12_type (q + 179) μ S _ _) rfl ?hs_31 rfl u_900 u_901 u_902 u_12 u_903 ⟨by decide, by decide, rfl⟩ ⟨Nat.le_of_ble_eq_true rfl, Nat.le_of_ble_eq_true rfl⟩ ⟨Nat.le_of_ble_eq_true rfl, Nat.le_of_ble_eq_true rfl⟩ (Nat.le_of_ble_eq_true rfl) dL_law_337 ?hp_31 rfl rfl rfl ?_
          case hs_31 => exact MM.isO hMm
          case hp_31 => exact ⟨hMm, hQ, ok⟩
          rintro v σ sz1 ⟨μ1, hMm, hF2, rfl, hQ1, rfl⟩
          have hM := hM.fr hF2 (by omega)
          refine S_icmp_eq (q := 343) 945 hX dL_law_340 rfl rfl (fun c340 => ?_) (fun c340 => absurd rfl c340)
          refine S_iinc (q := 948) [_, _, _, _] hX dL_law_945 rfl (ii_6 _) rfl (Nat.le_of_ble_eq_true rfl) rfl rfl ?_
          refine S_goto 18 hX dL_law_948 rfl ?_
          rw [show (6 : Int32) = nI 6 from rfl, nI_add]
          exact ih (i + 6) _ _ γ1 μ1 _ (by omega) (by omega) hM hMm hR1 hQ1 (ok_type ok)
        · refine S_tableIn (off := 312) 345 hX dL_law_33 (by decide) (by decide) rfl rfl ?_
          refine S_aload_n (q := 346) hX dL_law_345 rfl rfl ?_
          refine S_callV (ci := 11) (C := "FanTalk") (T := TX11) (N := 11) (q := 349) 188 5367 hX (c_X11_clear q γ S) rfl ?hs_32 rfl u_373 u_374 u_375 u_1 u_376 ⟨by decide, by decide, rfl⟩ ⟨Nat.le_of_ble_eq_true rfl, Nat.le_of_ble_eq_true rfl⟩ ⟨Nat.le_of_ble_eq_true rfl, Nat.le_of_ble_eq_true rfl⟩ (Nat.le_of_ble_eq_true rfl) dL_law_346 ?hp_32 rfl rfl rfl ?_
          case hs_32 => exact ⟨_, FK.c0 hM⟩
          case hp_32 => exact ⟨hM, hR, ok⟩
          rintro v σ sz1 ⟨γ1, hM, hF1, rfl, hR1, rfl⟩
          have hMm := hMm.fr hF1 (by omega)
          refine S_aload_n (q := 350) hX dL_law_349 rfl rfl ?_
          refine S_callV (ci := 12) (C := "FanTalkModel") (T := TX12) (N := 17) (q := 353) 188 5367 hX (c_X12_clear (q + 179) μ S) rfl ?hs_33 rfl u_905 u_906 u_907 u_12 u_908 ⟨by decide, by decide, rfl⟩ ⟨Nat.le_of_ble_eq_true rfl, Nat.le_of_ble_eq_true rfl⟩ ⟨Nat.le_of_ble_eq_true rfl, Nat.le_of_ble_eq_true rfl⟩ (Nat.le_of_ble_eq_true rfl) dL_law_350 ?hp_33 rfl rfl rfl ?_
          case hs_33 => exact MM.isO hMm
          case hp_33 => exact ⟨hMm, hQ, ok⟩
          rintro v σ sz1 ⟨μ1, hMm, hF2, rfl, hQ1, rfl⟩
          have hM := hM.fr hF2 (by omega)
          refine S_icmp_eq (q := 356) 945 hX dL_law_353 rfl rfl (fun c353 => ?_) (fun c353 => absurd rfl c353)
          refine S_iinc (q := 948) [_, _, _, _] hX dL_law_945 rfl (ii_6 _) rfl (Nat.le_of_ble_eq_true rfl) rfl rfl ?_
          refine S_goto 18 hX dL_law_948 rfl ?_
          rw [show (6 : Int32) = nI 6 from rfl, nI_add]
          exact ih (i + 6) _ _ γ1 μ1 _ (by omega) (by omega) hM hMm hR1 hQ1 (ok_clear ok)
        · refine S_tableIn (off := 325) 358 hX dL_law_33 (by decide) (by decide) rfl rfl ?_
          refine S_aload_n (q := 359) hX dL_law_358 rfl rfl ?_
          refine S_callV (ci := 11) (C := "FanTalk") (T := TX11) (N := 11) (q := 362) 188 5367 hX (c_X11_read q γ S) rfl ?hs_34 rfl u_377 u_378 u_379 u_1 u_380 ⟨by decide, by decide, rfl⟩ ⟨Nat.le_of_ble_eq_true rfl, Nat.le_of_ble_eq_true rfl⟩ ⟨Nat.le_of_ble_eq_true rfl, Nat.le_of_ble_eq_true rfl⟩ (Nat.le_of_ble_eq_true rfl) dL_law_359 ?hp_34 rfl rfl rfl ?_
          case hs_34 => exact ⟨_, FK.c0 hM⟩
          case hp_34 => exact ⟨hM, hR, ok⟩
          rintro v σ sz1 ⟨γ1, hM, hF1, rfl, hR1, rfl⟩
          have hMm := hMm.fr hF1 (by omega)
          refine S_aload_n (q := 363) hX dL_law_362 rfl rfl ?_
          refine S_callV (ci := 12) (C := "FanTalkModel") (T := TX12) (N := 17) (q := 366) 188 5367 hX (c_X12_read (q + 179) μ S) rfl ?hs_35 rfl u_909 u_910 u_911 u_12 u_912 ⟨by decide, by decide, rfl⟩ ⟨Nat.le_of_ble_eq_true rfl, Nat.le_of_ble_eq_true rfl⟩ ⟨Nat.le_of_ble_eq_true rfl, Nat.le_of_ble_eq_true rfl⟩ (Nat.le_of_ble_eq_true rfl) dL_law_363 ?hp_35 rfl rfl rfl ?_
          case hs_35 => exact MM.isO hMm
          case hp_35 => exact ⟨hMm, hQ, ok⟩
          rintro v σ sz1 ⟨μ1, hMm, hF2, rfl, hQ1, rfl⟩
          have hM := hM.fr hF2 (by omega)
          refine S_icmp_eq (q := 369) 945 hX dL_law_366 rfl rfl (fun c366 => ?_) (fun c366 => absurd rfl c366)
          refine S_iinc (q := 948) [_, _, _, _] hX dL_law_945 rfl (ii_6 _) rfl (Nat.le_of_ble_eq_true rfl) rfl rfl ?_
          refine S_goto 18 hX dL_law_948 rfl ?_
          rw [show (6 : Int32) = nI 6 from rfl, nI_add]
          exact ih (i + 6) _ _ γ1 μ1 _ (by omega) (by omega) hM hMm hR1 hQ1 (ok_read ok)
        · refine S_tableIn (off := 338) 371 hX dL_law_33 (by decide) (by decide) rfl rfl ?_
          refine S_aload_n (q := 372) hX dL_law_371 rfl rfl ?_
          refine S_aload_n (q := 373) hX dL_law_372 rfl rfl ?_
          refine S_iload_n (q := 374) hX dL_law_373 rfl rfl ?_
          refine S_iconst (q := 375) (v := 1) hX dL_law_374 ic_1 rfl ?_
          refine S_iadd (q := 376) hX dL_law_375 rfl ?_
          refine S_scld (q := 377) hX hs dL_law_376 ?hi_36 rfl ?_
          case hi_36 => first | exact vp_in_nI (by omega) (by omega) | (rw [show (1 : Int32) = nI 1 from rfl, nI_add]; exact vp_in_nI (by omega) (by omega)) | (rw [show (2 : Int32) = nI 2 from rfl, nI_add]; exact vp_in_nI (by omega) (by omega)) | (rw [show (3 : Int32) = nI 3 from rfl, nI_add]; exact vp_in_nI (by omega) (by omega)) | (rw [show (4 : Int32) = nI 4 from rfl, nI_add]; exact vp_in_nI (by omega) (by omega)) | (rw [show (5 : Int32) = nI 5 from rfl, nI_add]; exact vp_in_nI (by omega) (by omega))
          refine S_callV (ci := 11) (C := "FanTalk") (T := TX11) (N := 11) (q := 380) 188 5367 hX (c_X11_say q γ S _) rfl ?hs_37 rfl u_489 u_490 u_491 u_1 u_492 ⟨by decide, by decide, rfl⟩ ⟨Nat.le_of_ble_eq_true rfl, Nat.le_of_ble_eq_true rfl⟩ ⟨Nat.le_of_ble_eq_true rfl, Nat.le_of_ble_eq_true rfl⟩ (Nat.le_of_ble_eq_true rfl) dL_law_377 ?hp_37 rfl rfl rfl ?_
          case hs_37 => exact ⟨_, FK.c0 hM⟩
          case hp_37 => exact ⟨hM, hR, ok⟩
          rintro v σ sz1 ⟨γ1, hM, hF1, rfl, hR1, rfl⟩
          have hMm := hMm.fr hF1 (by omega)
          refine S_aload_n (q := 381) hX dL_law_380 rfl rfl ?_
          refine S_aload_n (q := 382) hX dL_law_381 rfl rfl ?_
          refine S_iload_n (q := 383) hX dL_law_382 rfl rfl ?_
          refine S_iconst (q := 384) (v := 1) hX dL_law_383 ic_1 rfl ?_
          refine S_iadd (q := 385) hX dL_law_384 rfl ?_
          refine S_scld (q := 386) hX hs dL_law_385 ?hi_38 rfl ?_
          case hi_38 => first | exact vp_in_nI (by omega) (by omega) | (rw [show (1 : Int32) = nI 1 from rfl, nI_add]; exact vp_in_nI (by omega) (by omega)) | (rw [show (2 : Int32) = nI 2 from rfl, nI_add]; exact vp_in_nI (by omega) (by omega)) | (rw [show (3 : Int32) = nI 3 from rfl, nI_add]; exact vp_in_nI (by omega) (by omega)) | (rw [show (4 : Int32) = nI 4 from rfl, nI_add]; exact vp_in_nI (by omega) (by omega)) | (rw [show (5 : Int32) = nI 5 from rfl, nI_add]; exact vp_in_nI (by omega) (by omega))
          refine S_callV (ci := 12) (C := "FanTalkModel") (T := TX12) (N := 17) (q := 389) 188 5367 hX (c_X12_say (q + 179) μ S _) rfl ?hs_39 rfl u_944 u_945 u_946 u_12 u_947 ⟨by decide, by decide, rfl⟩ ⟨Nat.le_of_ble_eq_true rfl, Nat.le_of_ble_eq_true rfl⟩ ⟨Nat.le_of_ble_eq_true rfl, Nat.le_of_ble_eq_true rfl⟩ (Nat.le_of_ble_eq_true rfl) dL_law_386 ?hp_39 rfl rfl rfl ?_
          case hs_39 => exact MM.isO hMm
          case hp_39 => exact ⟨hMm, hQ, ok⟩
          rintro v σ sz1 ⟨μ1, hMm, hF2, rfl, hQ1, rfl⟩
          have hM := hM.fr hF2 (by omega)
          refine S_icmp_eq (q := 392) 945 hX dL_law_389 rfl rfl (fun c389 => ?_) (fun c389 => absurd rfl c389)
          refine S_iinc (q := 948) [_, _, _, _] hX dL_law_945 rfl (ii_6 _) rfl (Nat.le_of_ble_eq_true rfl) rfl rfl ?_
          refine S_goto 18 hX dL_law_948 rfl ?_
          rw [show (6 : Int32) = nI 6 from rfl, nI_add]
          exact ih (i + 6) _ _ γ1 μ1 _ (by omega) (by omega) hM hMm hR1 hQ1 (ok_say ok)
        · refine S_tableIn (off := 361) 394 hX dL_law_33 (by decide) (by decide) rfl rfl ?_
          refine S_aload_n (q := 395) hX dL_law_394 rfl rfl ?_
          refine S_aload_n (q := 396) hX dL_law_395 rfl rfl ?_
          refine S_iload_n (q := 397) hX dL_law_396 rfl rfl ?_
          refine S_iconst (q := 398) (v := 1) hX dL_law_397 ic_1 rfl ?_
          refine S_iadd (q := 399) hX dL_law_398 rfl ?_
          refine S_scld (q := 400) hX hs dL_law_399 ?hi_40 rfl ?_
          case hi_40 => first | exact vp_in_nI (by omega) (by omega) | (rw [show (1 : Int32) = nI 1 from rfl, nI_add]; exact vp_in_nI (by omega) (by omega)) | (rw [show (2 : Int32) = nI 2 from rfl, nI_add]; exact vp_in_nI (by omega) (by omega)) | (rw [show (3 : Int32) = nI 3 from rfl, nI_add]; exact vp_in_nI (by omega) (by omega)) | (rw [show (4 : Int32) = nI 4 from rfl, nI_add]; exact vp_in_nI (by omega) (by omega)) | (rw [show (5 : Int32) = nI 5 from rfl, nI_add]; exact vp_in_nI (by omega) (by omega))
          refine S_callV (ci := 11) (C := "FanTalk") (T := TX11) (N := 11) (q := 403) 188 5367 hX (c_X11_seen q γ S _) rfl ?hs_41 rfl u_503 u_504 u_505 u_1 u_506 ⟨by decide, by decide, rfl⟩ ⟨Nat.le_of_ble_eq_true rfl, Nat.le_of_ble_eq_true rfl⟩ ⟨Nat.le_of_ble_eq_true rfl, Nat.le_of_ble_eq_true rfl⟩ (Nat.le_of_ble_eq_true rfl) dL_law_400 ?hp_41 rfl rfl rfl ?_
          case hs_41 => exact ⟨_, FK.c0 hM⟩
          case hp_41 => exact ⟨hM, hR, ok⟩
          rintro v σ sz1 ⟨γ1, hM, hF1, rfl, hR1, rfl⟩
          have hMm := hMm.fr hF1 (by omega)
          refine S_aload_n (q := 404) hX dL_law_403 rfl rfl ?_
          refine S_aload_n (q := 405) hX dL_law_404 rfl rfl ?_
          refine S_iload_n (q := 406) hX dL_law_405 rfl rfl ?_
          refine S_iconst (q := 407) (v := 1) hX dL_law_406 ic_1 rfl ?_
          refine S_iadd (q := 408) hX dL_law_407 rfl ?_
          refine S_scld (q := 409) hX hs dL_law_408 ?hi_42 rfl ?_
          case hi_42 => first | exact vp_in_nI (by omega) (by omega) | (rw [show (1 : Int32) = nI 1 from rfl, nI_add]; exact vp_in_nI (by omega) (by omega)) | (rw [show (2 : Int32) = nI 2 from rfl, nI_add]; exact vp_in_nI (by omega) (by omega)) | (rw [show (3 : Int32) = nI 3 from rfl, nI_add]; exact vp_in_nI (by omega) (by omega)) | (rw [show (4 : Int32) = nI 4 from rfl, nI_add]; exact vp_in_nI (by omega) (by omega)) | (rw [show (5 : Int32) = nI 5 from rfl, nI_add]; exact vp_in_nI (by omega) (by omega))
          refine S_callV (ci := 12) (C := "FanTalkModel") (T := TX12) (N := 17) (q := 412) 188 5367 hX (c_X12_seen (q + 179) μ S _) rfl ?hs_43 rfl u_954 u_955 u_956 u_12 u_957 ⟨by decide, by decide, rfl⟩ ⟨Nat.le_of_ble_eq_true rfl, Nat.le_of_ble_eq_true rfl⟩ ⟨Nat.le_of_ble_eq_true rfl, Nat.le_of_ble_eq_true rfl⟩ (Nat.le_of_ble_eq_true rfl) dL_law_409 ?hp_43 rfl rfl rfl ?_
          case hs_43 => exact MM.isO hMm
          case hp_43 => exact ⟨hMm, hQ, ok⟩
          rintro v σ sz1 ⟨μ1, hMm, hF2, rfl, hQ1, rfl⟩
          have hM := hM.fr hF2 (by omega)
          refine S_icmp_eq (q := 415) 945 hX dL_law_412 rfl rfl (fun c412 => ?_) (fun c412 => absurd rfl c412)
          refine S_iinc (q := 948) [_, _, _, _] hX dL_law_945 rfl (ii_6 _) rfl (Nat.le_of_ble_eq_true rfl) rfl rfl ?_
          refine S_goto 18 hX dL_law_948 rfl ?_
          rw [show (6 : Int32) = nI 6 from rfl, nI_add]
          exact ih (i + 6) _ _ γ1 μ1 _ (by omega) (by omega) hM hMm hR1 hQ1 (ok_seen ok)
        · refine S_tableIn (off := 384) 417 hX dL_law_33 (by decide) (by decide) rfl rfl ?_
          refine S_aload_n (q := 418) hX dL_law_417 rfl rfl ?_
          refine S_aload_n (q := 419) hX dL_law_418 rfl rfl ?_
          refine S_iload_n (q := 420) hX dL_law_419 rfl rfl ?_
          refine S_iconst (q := 421) (v := 1) hX dL_law_420 ic_1 rfl ?_
          refine S_iadd (q := 422) hX dL_law_421 rfl ?_
          refine S_scld (q := 423) hX hs dL_law_422 ?hi_44 rfl ?_
          case hi_44 => first | exact vp_in_nI (by omega) (by omega) | (rw [show (1 : Int32) = nI 1 from rfl, nI_add]; exact vp_in_nI (by omega) (by omega)) | (rw [show (2 : Int32) = nI 2 from rfl, nI_add]; exact vp_in_nI (by omega) (by omega)) | (rw [show (3 : Int32) = nI 3 from rfl, nI_add]; exact vp_in_nI (by omega) (by omega)) | (rw [show (4 : Int32) = nI 4 from rfl, nI_add]; exact vp_in_nI (by omega) (by omega)) | (rw [show (5 : Int32) = nI 5 from rfl, nI_add]; exact vp_in_nI (by omega) (by omega))
          refine S_aload_n (q := 424) hX dL_law_423 rfl rfl ?_
          refine S_iload_n (q := 425) hX dL_law_424 rfl rfl ?_
          refine S_iconst (q := 426) (v := 2) hX dL_law_425 ic_2 rfl ?_
          refine S_iadd (q := 427) hX dL_law_426 rfl ?_
          refine S_scld (q := 428) hX hs dL_law_427 ?hi_45 rfl ?_
          case hi_45 => first | exact vp_in_nI (by omega) (by omega) | (rw [show (1 : Int32) = nI 1 from rfl, nI_add]; exact vp_in_nI (by omega) (by omega)) | (rw [show (2 : Int32) = nI 2 from rfl, nI_add]; exact vp_in_nI (by omega) (by omega)) | (rw [show (3 : Int32) = nI 3 from rfl, nI_add]; exact vp_in_nI (by omega) (by omega)) | (rw [show (4 : Int32) = nI 4 from rfl, nI_add]; exact vp_in_nI (by omega) (by omega)) | (rw [show (5 : Int32) = nI 5 from rfl, nI_add]; exact vp_in_nI (by omega) (by omega))
          refine S_aload_n (q := 429) hX dL_law_428 rfl rfl ?_
          refine S_iload_n (q := 430) hX dL_law_429 rfl rfl ?_
          refine S_iconst (q := 431) (v := 3) hX dL_law_430 ic_3 rfl ?_
          refine S_iadd (q := 432) hX dL_law_431 rfl ?_
          refine S_scld (q := 433) hX hs dL_law_432 ?hi_46 rfl ?_
          case hi_46 => first | exact vp_in_nI (by omega) (by omega) | (rw [show (1 : Int32) = nI 1 from rfl, nI_add]; exact vp_in_nI (by omega) (by omega)) | (rw [show (2 : Int32) = nI 2 from rfl, nI_add]; exact vp_in_nI (by omega) (by omega)) | (rw [show (3 : Int32) = nI 3 from rfl, nI_add]; exact vp_in_nI (by omega) (by omega)) | (rw [show (4 : Int32) = nI 4 from rfl, nI_add]; exact vp_in_nI (by omega) (by omega)) | (rw [show (5 : Int32) = nI 5 from rfl, nI_add]; exact vp_in_nI (by omega) (by omega))
          refine S_callV (ci := 11) (C := "FanTalk") (T := TX11) (N := 11) (q := 436) 188 5367 hX (c_X11_reads q γ S _ _ _) rfl ?hs_47 rfl u_514 u_515 u_516 u_1 u_517 ⟨by decide, by decide, rfl⟩ ⟨Nat.le_of_ble_eq_true rfl, Nat.le_of_ble_eq_true rfl⟩ ⟨Nat.le_of_ble_eq_true rfl, Nat.le_of_ble_eq_true rfl⟩ (Nat.le_of_ble_eq_true rfl) dL_law_433 ?hp_47 rfl rfl rfl ?_
          case hs_47 => exact ⟨_, FK.c0 hM⟩
          case hp_47 => exact ⟨hM, hR, ok⟩
          rintro v σ sz1 ⟨γ1, hM, hF1, rfl, hR1, rfl⟩
          have hMm := hMm.fr hF1 (by omega)
          refine S_aload_n (q := 437) hX dL_law_436 rfl rfl ?_
          refine S_aload_n (q := 438) hX dL_law_437 rfl rfl ?_
          refine S_iload_n (q := 439) hX dL_law_438 rfl rfl ?_
          refine S_iconst (q := 440) (v := 1) hX dL_law_439 ic_1 rfl ?_
          refine S_iadd (q := 441) hX dL_law_440 rfl ?_
          refine S_scld (q := 442) hX hs dL_law_441 ?hi_48 rfl ?_
          case hi_48 => first | exact vp_in_nI (by omega) (by omega) | (rw [show (1 : Int32) = nI 1 from rfl, nI_add]; exact vp_in_nI (by omega) (by omega)) | (rw [show (2 : Int32) = nI 2 from rfl, nI_add]; exact vp_in_nI (by omega) (by omega)) | (rw [show (3 : Int32) = nI 3 from rfl, nI_add]; exact vp_in_nI (by omega) (by omega)) | (rw [show (4 : Int32) = nI 4 from rfl, nI_add]; exact vp_in_nI (by omega) (by omega)) | (rw [show (5 : Int32) = nI 5 from rfl, nI_add]; exact vp_in_nI (by omega) (by omega))
          refine S_aload_n (q := 443) hX dL_law_442 rfl rfl ?_
          refine S_iload_n (q := 444) hX dL_law_443 rfl rfl ?_
          refine S_iconst (q := 445) (v := 2) hX dL_law_444 ic_2 rfl ?_
          refine S_iadd (q := 446) hX dL_law_445 rfl ?_
          refine S_scld (q := 447) hX hs dL_law_446 ?hi_49 rfl ?_
          case hi_49 => first | exact vp_in_nI (by omega) (by omega) | (rw [show (1 : Int32) = nI 1 from rfl, nI_add]; exact vp_in_nI (by omega) (by omega)) | (rw [show (2 : Int32) = nI 2 from rfl, nI_add]; exact vp_in_nI (by omega) (by omega)) | (rw [show (3 : Int32) = nI 3 from rfl, nI_add]; exact vp_in_nI (by omega) (by omega)) | (rw [show (4 : Int32) = nI 4 from rfl, nI_add]; exact vp_in_nI (by omega) (by omega)) | (rw [show (5 : Int32) = nI 5 from rfl, nI_add]; exact vp_in_nI (by omega) (by omega))
          refine S_aload_n (q := 448) hX dL_law_447 rfl rfl ?_
          refine S_iload_n (q := 449) hX dL_law_448 rfl rfl ?_
          refine S_iconst (q := 450) (v := 3) hX dL_law_449 ic_3 rfl ?_
          refine S_iadd (q := 451) hX dL_law_450 rfl ?_
          refine S_scld (q := 452) hX hs dL_law_451 ?hi_50 rfl ?_
          case hi_50 => first | exact vp_in_nI (by omega) (by omega) | (rw [show (1 : Int32) = nI 1 from rfl, nI_add]; exact vp_in_nI (by omega) (by omega)) | (rw [show (2 : Int32) = nI 2 from rfl, nI_add]; exact vp_in_nI (by omega) (by omega)) | (rw [show (3 : Int32) = nI 3 from rfl, nI_add]; exact vp_in_nI (by omega) (by omega)) | (rw [show (4 : Int32) = nI 4 from rfl, nI_add]; exact vp_in_nI (by omega) (by omega)) | (rw [show (5 : Int32) = nI 5 from rfl, nI_add]; exact vp_in_nI (by omega) (by omega))
          refine S_callV (ci := 12) (C := "FanTalkModel") (T := TX12) (N := 17) (q := 455) 188 5367 hX (c_X12_reads (q + 179) μ S _ _ _) rfl ?hs_51 rfl u_965 u_966 u_967 u_12 u_968 ⟨by decide, by decide, rfl⟩ ⟨Nat.le_of_ble_eq_true rfl, Nat.le_of_ble_eq_true rfl⟩ ⟨Nat.le_of_ble_eq_true rfl, Nat.le_of_ble_eq_true rfl⟩ (Nat.le_of_ble_eq_true rfl) dL_law_452 ?hp_51 rfl rfl rfl ?_
          case hs_51 => exact MM.isO hMm
          case hp_51 => exact ⟨hMm, hQ, ok⟩
          rintro v σ sz1 ⟨μ1, hMm, hF2, rfl, hQ1, rfl⟩
          have hM := hM.fr hF2 (by omega)
          refine S_icmp_eq (q := 458) 945 hX dL_law_455 rfl rfl (fun c455 => ?_) (fun c455 => absurd rfl c455)
          refine S_iinc (q := 948) [_, _, _, _] hX dL_law_945 rfl (ii_6 _) rfl (Nat.le_of_ble_eq_true rfl) rfl rfl ?_
          refine S_goto 18 hX dL_law_948 rfl ?_
          rw [show (6 : Int32) = nI 6 from rfl, nI_add]
          exact ih (i + 6) _ _ γ1 μ1 _ (by omega) (by omega) hM hMm hR1 hQ1 (ok_reads ok)
        · refine S_tableIn (off := 427) 460 hX dL_law_33 (by decide) (by decide) rfl rfl ?_
          refine S_aload_n (q := 461) hX dL_law_460 rfl rfl ?_
          refine S_aload_n (q := 462) hX dL_law_461 rfl rfl ?_
          refine S_iload_n (q := 463) hX dL_law_462 rfl rfl ?_
          refine S_iconst (q := 464) (v := 1) hX dL_law_463 ic_1 rfl ?_
          refine S_iadd (q := 465) hX dL_law_464 rfl ?_
          refine S_scld (q := 466) hX hs dL_law_465 ?hi_52 rfl ?_
          case hi_52 => first | exact vp_in_nI (by omega) (by omega) | (rw [show (1 : Int32) = nI 1 from rfl, nI_add]; exact vp_in_nI (by omega) (by omega)) | (rw [show (2 : Int32) = nI 2 from rfl, nI_add]; exact vp_in_nI (by omega) (by omega)) | (rw [show (3 : Int32) = nI 3 from rfl, nI_add]; exact vp_in_nI (by omega) (by omega)) | (rw [show (4 : Int32) = nI 4 from rfl, nI_add]; exact vp_in_nI (by omega) (by omega)) | (rw [show (5 : Int32) = nI 5 from rfl, nI_add]; exact vp_in_nI (by omega) (by omega))
          refine S_aload_n (q := 467) hX dL_law_466 rfl rfl ?_
          refine S_iload_n (q := 468) hX dL_law_467 rfl rfl ?_
          refine S_iconst (q := 469) (v := 2) hX dL_law_468 ic_2 rfl ?_
          refine S_iadd (q := 470) hX dL_law_469 rfl ?_
          refine S_scld (q := 471) hX hs dL_law_470 ?hi_53 rfl ?_
          case hi_53 => first | exact vp_in_nI (by omega) (by omega) | (rw [show (1 : Int32) = nI 1 from rfl, nI_add]; exact vp_in_nI (by omega) (by omega)) | (rw [show (2 : Int32) = nI 2 from rfl, nI_add]; exact vp_in_nI (by omega) (by omega)) | (rw [show (3 : Int32) = nI 3 from rfl, nI_add]; exact vp_in_nI (by omega) (by omega)) | (rw [show (4 : Int32) = nI 4 from rfl, nI_add]; exact vp_in_nI (by omega) (by omega)) | (rw [show (5 : Int32) = nI 5 from rfl, nI_add]; exact vp_in_nI (by omega) (by omega))
          refine S_aload_n (q := 472) hX dL_law_471 rfl rfl ?_
          refine S_iload_n (q := 473) hX dL_law_472 rfl rfl ?_
          refine S_iconst (q := 474) (v := 3) hX dL_law_473 ic_3 rfl ?_
          refine S_iadd (q := 475) hX dL_law_474 rfl ?_
          refine S_scld (q := 476) hX hs dL_law_475 ?hi_54 rfl ?_
          case hi_54 => first | exact vp_in_nI (by omega) (by omega) | (rw [show (1 : Int32) = nI 1 from rfl, nI_add]; exact vp_in_nI (by omega) (by omega)) | (rw [show (2 : Int32) = nI 2 from rfl, nI_add]; exact vp_in_nI (by omega) (by omega)) | (rw [show (3 : Int32) = nI 3 from rfl, nI_add]; exact vp_in_nI (by omega) (by omega)) | (rw [show (4 : Int32) = nI 4 from rfl, nI_add]; exact vp_in_nI (by omega) (by omega)) | (rw [show (5 : Int32) = nI 5 from rfl, nI_add]; exact vp_in_nI (by omega) (by omega))
          refine S_aload_n (q := 477) hX dL_law_476 rfl rfl ?_
          refine S_iload_n (q := 478) hX dL_law_477 rfl rfl ?_
          refine S_iconst (q := 479) (v := 4) hX dL_law_478 ic_4 rfl ?_
          refine S_iadd (q := 480) hX dL_law_479 rfl ?_
          refine S_scld (q := 481) hX hs dL_law_480 ?hi_55 rfl ?_
          case hi_55 => first | exact vp_in_nI (by omega) (by omega) | (rw [show (1 : Int32) = nI 1 from rfl, nI_add]; exact vp_in_nI (by omega) (by omega)) | (rw [show (2 : Int32) = nI 2 from rfl, nI_add]; exact vp_in_nI (by omega) (by omega)) | (rw [show (3 : Int32) = nI 3 from rfl, nI_add]; exact vp_in_nI (by omega) (by omega)) | (rw [show (4 : Int32) = nI 4 from rfl, nI_add]; exact vp_in_nI (by omega) (by omega)) | (rw [show (5 : Int32) = nI 5 from rfl, nI_add]; exact vp_in_nI (by omega) (by omega))
          refine S_callV (ci := 11) (C := "FanTalk") (T := TX11) (N := 11) (q := 484) 188 5367 hX (c_X11_otherwise q γ S _ _ _ _) rfl ?hs_56 rfl u_589 u_590 u_591 u_1 u_592 ⟨by decide, by decide, rfl⟩ ⟨Nat.le_of_ble_eq_true rfl, Nat.le_of_ble_eq_true rfl⟩ ⟨Nat.le_of_ble_eq_true rfl, Nat.le_of_ble_eq_true rfl⟩ (Nat.le_of_ble_eq_true rfl) dL_law_481 ?hp_56 rfl rfl rfl ?_
          case hs_56 => exact ⟨_, FK.c0 hM⟩
          case hp_56 => exact ⟨hM, hR, ok⟩
          rintro v σ sz1 ⟨γ1, hM, hF1, rfl, hR1, rfl⟩
          have hMm := hMm.fr hF1 (by omega)
          refine S_aload_n (q := 485) hX dL_law_484 rfl rfl ?_
          refine S_aload_n (q := 486) hX dL_law_485 rfl rfl ?_
          refine S_iload_n (q := 487) hX dL_law_486 rfl rfl ?_
          refine S_iconst (q := 488) (v := 1) hX dL_law_487 ic_1 rfl ?_
          refine S_iadd (q := 489) hX dL_law_488 rfl ?_
          refine S_scld (q := 490) hX hs dL_law_489 ?hi_57 rfl ?_
          case hi_57 => first | exact vp_in_nI (by omega) (by omega) | (rw [show (1 : Int32) = nI 1 from rfl, nI_add]; exact vp_in_nI (by omega) (by omega)) | (rw [show (2 : Int32) = nI 2 from rfl, nI_add]; exact vp_in_nI (by omega) (by omega)) | (rw [show (3 : Int32) = nI 3 from rfl, nI_add]; exact vp_in_nI (by omega) (by omega)) | (rw [show (4 : Int32) = nI 4 from rfl, nI_add]; exact vp_in_nI (by omega) (by omega)) | (rw [show (5 : Int32) = nI 5 from rfl, nI_add]; exact vp_in_nI (by omega) (by omega))
          refine S_aload_n (q := 491) hX dL_law_490 rfl rfl ?_
          refine S_iload_n (q := 492) hX dL_law_491 rfl rfl ?_
          refine S_iconst (q := 493) (v := 2) hX dL_law_492 ic_2 rfl ?_
          refine S_iadd (q := 494) hX dL_law_493 rfl ?_
          refine S_scld (q := 495) hX hs dL_law_494 ?hi_58 rfl ?_
          case hi_58 => first | exact vp_in_nI (by omega) (by omega) | (rw [show (1 : Int32) = nI 1 from rfl, nI_add]; exact vp_in_nI (by omega) (by omega)) | (rw [show (2 : Int32) = nI 2 from rfl, nI_add]; exact vp_in_nI (by omega) (by omega)) | (rw [show (3 : Int32) = nI 3 from rfl, nI_add]; exact vp_in_nI (by omega) (by omega)) | (rw [show (4 : Int32) = nI 4 from rfl, nI_add]; exact vp_in_nI (by omega) (by omega)) | (rw [show (5 : Int32) = nI 5 from rfl, nI_add]; exact vp_in_nI (by omega) (by omega))
          refine S_aload_n (q := 496) hX dL_law_495 rfl rfl ?_
          refine S_iload_n (q := 497) hX dL_law_496 rfl rfl ?_
          refine S_iconst (q := 498) (v := 3) hX dL_law_497 ic_3 rfl ?_
          refine S_iadd (q := 499) hX dL_law_498 rfl ?_
          refine S_scld (q := 500) hX hs dL_law_499 ?hi_59 rfl ?_
          case hi_59 => first | exact vp_in_nI (by omega) (by omega) | (rw [show (1 : Int32) = nI 1 from rfl, nI_add]; exact vp_in_nI (by omega) (by omega)) | (rw [show (2 : Int32) = nI 2 from rfl, nI_add]; exact vp_in_nI (by omega) (by omega)) | (rw [show (3 : Int32) = nI 3 from rfl, nI_add]; exact vp_in_nI (by omega) (by omega)) | (rw [show (4 : Int32) = nI 4 from rfl, nI_add]; exact vp_in_nI (by omega) (by omega)) | (rw [show (5 : Int32) = nI 5 from rfl, nI_add]; exact vp_in_nI (by omega) (by omega))
          refine S_aload_n (q := 501) hX dL_law_500 rfl rfl ?_
          refine S_iload_n (q := 502) hX dL_law_501 rfl rfl ?_
          refine S_iconst (q := 503) (v := 4) hX dL_law_502 ic_4 rfl ?_
          refine S_iadd (q := 504) hX dL_law_503 rfl ?_
          refine S_scld (q := 505) hX hs dL_law_504 ?hi_60 rfl ?_
          case hi_60 => first | exact vp_in_nI (by omega) (by omega) | (rw [show (1 : Int32) = nI 1 from rfl, nI_add]; exact vp_in_nI (by omega) (by omega)) | (rw [show (2 : Int32) = nI 2 from rfl, nI_add]; exact vp_in_nI (by omega) (by omega)) | (rw [show (3 : Int32) = nI 3 from rfl, nI_add]; exact vp_in_nI (by omega) (by omega)) | (rw [show (4 : Int32) = nI 4 from rfl, nI_add]; exact vp_in_nI (by omega) (by omega)) | (rw [show (5 : Int32) = nI 5 from rfl, nI_add]; exact vp_in_nI (by omega) (by omega))
          refine S_callV (ci := 12) (C := "FanTalkModel") (T := TX12) (N := 17) (q := 508) 188 5367 hX (c_X12_otherwise (q + 179) μ S _ _ _ _) rfl ?hs_61 rfl u_987 u_988 u_989 u_12 u_990 ⟨by decide, by decide, rfl⟩ ⟨Nat.le_of_ble_eq_true rfl, Nat.le_of_ble_eq_true rfl⟩ ⟨Nat.le_of_ble_eq_true rfl, Nat.le_of_ble_eq_true rfl⟩ (Nat.le_of_ble_eq_true rfl) dL_law_505 ?hp_61 rfl rfl rfl ?_
          case hs_61 => exact MM.isO hMm
          case hp_61 => exact ⟨hMm, hQ, ok⟩
          rintro v σ sz1 ⟨μ1, hMm, hF2, rfl, hQ1, rfl⟩
          have hM := hM.fr hF2 (by omega)
          refine S_icmp_eq (q := 511) 945 hX dL_law_508 rfl rfl (fun c508 => ?_) (fun c508 => absurd rfl c508)
          refine S_iinc (q := 948) [_, _, _, _] hX dL_law_945 rfl (ii_6 _) rfl (Nat.le_of_ble_eq_true rfl) rfl rfl ?_
          refine S_goto 18 hX dL_law_948 rfl ?_
          rw [show (6 : Int32) = nI 6 from rfl, nI_add]
          exact ih (i + 6) _ _ γ1 μ1 _ (by omega) (by omega) hM hMm hR1 hQ1 (ok_otherwise ok)
        · refine S_tableIn (off := 480) 513 hX dL_law_33 (by decide) (by decide) rfl rfl ?_
          refine S_aload_n (q := 514) hX dL_law_513 rfl rfl ?_
          refine S_aload_n (q := 515) hX dL_law_514 rfl rfl ?_
          refine S_iload_n (q := 516) hX dL_law_515 rfl rfl ?_
          refine S_iconst (q := 517) (v := 1) hX dL_law_516 ic_1 rfl ?_
          refine S_iadd (q := 518) hX dL_law_517 rfl ?_
          refine S_scld (q := 519) hX hs dL_law_518 ?hi_62 rfl ?_
          case hi_62 => first | exact vp_in_nI (by omega) (by omega) | (rw [show (1 : Int32) = nI 1 from rfl, nI_add]; exact vp_in_nI (by omega) (by omega)) | (rw [show (2 : Int32) = nI 2 from rfl, nI_add]; exact vp_in_nI (by omega) (by omega)) | (rw [show (3 : Int32) = nI 3 from rfl, nI_add]; exact vp_in_nI (by omega) (by omega)) | (rw [show (4 : Int32) = nI 4 from rfl, nI_add]; exact vp_in_nI (by omega) (by omega)) | (rw [show (5 : Int32) = nI 5 from rfl, nI_add]; exact vp_in_nI (by omega) (by omega))
          refine S_callV (ci := 11) (C := "FanTalk") (T := TX11) (N := 11) (q := 522) 188 5367 hX (c_X11_utter q γ S _) rfl ?hs_63 rfl u_594 u_595 u_596 u_1 u_597 ⟨by decide, by decide, rfl⟩ ⟨Nat.le_of_ble_eq_true rfl, Nat.le_of_ble_eq_true rfl⟩ ⟨Nat.le_of_ble_eq_true rfl, Nat.le_of_ble_eq_true rfl⟩ (Nat.le_of_ble_eq_true rfl) dL_law_519 ?hp_63 rfl rfl rfl ?_
          case hs_63 => exact ⟨_, FK.c0 hM⟩
          case hp_63 => exact ⟨hM, hR, ok⟩
          rintro v σ sz1 ⟨γ1, hM, hF1, rfl, hR1, rfl⟩
          have hMm := hMm.fr hF1 (by omega)
          refine S_aload_n (q := 523) hX dL_law_522 rfl rfl ?_
          refine S_aload_n (q := 524) hX dL_law_523 rfl rfl ?_
          refine S_iload_n (q := 525) hX dL_law_524 rfl rfl ?_
          refine S_iconst (q := 526) (v := 1) hX dL_law_525 ic_1 rfl ?_
          refine S_iadd (q := 527) hX dL_law_526 rfl ?_
          refine S_scld (q := 528) hX hs dL_law_527 ?hi_64 rfl ?_
          case hi_64 => first | exact vp_in_nI (by omega) (by omega) | (rw [show (1 : Int32) = nI 1 from rfl, nI_add]; exact vp_in_nI (by omega) (by omega)) | (rw [show (2 : Int32) = nI 2 from rfl, nI_add]; exact vp_in_nI (by omega) (by omega)) | (rw [show (3 : Int32) = nI 3 from rfl, nI_add]; exact vp_in_nI (by omega) (by omega)) | (rw [show (4 : Int32) = nI 4 from rfl, nI_add]; exact vp_in_nI (by omega) (by omega)) | (rw [show (5 : Int32) = nI 5 from rfl, nI_add]; exact vp_in_nI (by omega) (by omega))
          refine S_callV (ci := 12) (C := "FanTalkModel") (T := TX12) (N := 17) (q := 531) 188 5367 hX (c_X12_utter (q + 179) μ S _) rfl ?hs_65 rfl u_991 u_992 u_993 u_12 u_994 ⟨by decide, by decide, rfl⟩ ⟨Nat.le_of_ble_eq_true rfl, Nat.le_of_ble_eq_true rfl⟩ ⟨Nat.le_of_ble_eq_true rfl, Nat.le_of_ble_eq_true rfl⟩ (Nat.le_of_ble_eq_true rfl) dL_law_528 ?hp_65 rfl rfl rfl ?_
          case hs_65 => exact MM.isO hMm
          case hp_65 => exact ⟨hMm, hQ, ok⟩
          rintro v σ sz1 ⟨μ1, hMm, hF2, rfl, hQ1, rfl⟩
          have hM := hM.fr hF2 (by omega)
          refine S_icmp_eq (q := 534) 945 hX dL_law_531 rfl rfl (fun c531 => ?_) (fun c531 => absurd rfl c531)
          refine S_iinc (q := 948) [_, _, _, _] hX dL_law_945 rfl (ii_6 _) rfl (Nat.le_of_ble_eq_true rfl) rfl rfl ?_
          refine S_goto 18 hX dL_law_948 rfl ?_
          rw [show (6 : Int32) = nI 6 from rfl, nI_add]
          exact ih (i + 6) _ _ γ1 μ1 _ (by omega) (by omega) hM hMm hR1 hQ1 (ok_utter ok)
        · refine S_tableIn (off := 503) 536 hX dL_law_33 (by decide) (by decide) rfl rfl ?_
          refine S_aload_n (q := 537) hX dL_law_536 rfl rfl ?_
          refine S_aload_n (q := 538) hX dL_law_537 rfl rfl ?_
          refine S_iload_n (q := 539) hX dL_law_538 rfl rfl ?_
          refine S_iconst (q := 540) (v := 1) hX dL_law_539 ic_1 rfl ?_
          refine S_iadd (q := 541) hX dL_law_540 rfl ?_
          refine S_scld (q := 542) hX hs dL_law_541 ?hi_66 rfl ?_
          case hi_66 => first | exact vp_in_nI (by omega) (by omega) | (rw [show (1 : Int32) = nI 1 from rfl, nI_add]; exact vp_in_nI (by omega) (by omega)) | (rw [show (2 : Int32) = nI 2 from rfl, nI_add]; exact vp_in_nI (by omega) (by omega)) | (rw [show (3 : Int32) = nI 3 from rfl, nI_add]; exact vp_in_nI (by omega) (by omega)) | (rw [show (4 : Int32) = nI 4 from rfl, nI_add]; exact vp_in_nI (by omega) (by omega)) | (rw [show (5 : Int32) = nI 5 from rfl, nI_add]; exact vp_in_nI (by omega) (by omega))
          refine S_callV (ci := 11) (C := "FanTalk") (T := TX11) (N := 11) (q := 545) 188 5367 hX (c_X11_uses q γ S _) rfl ?hs_67 rfl u_612 u_613 u_614 u_1 u_615 ⟨by decide, by decide, rfl⟩ ⟨Nat.le_of_ble_eq_true rfl, Nat.le_of_ble_eq_true rfl⟩ ⟨Nat.le_of_ble_eq_true rfl, Nat.le_of_ble_eq_true rfl⟩ (Nat.le_of_ble_eq_true rfl) dL_law_542 ?hp_67 rfl rfl rfl ?_
          case hs_67 => exact ⟨_, FK.c0 hM⟩
          case hp_67 => exact ⟨hM, hR, ok⟩
          rintro v σ sz1 ⟨γ1, hM, hF1, rfl, hR1, rfl⟩
          have hMm := hMm.fr hF1 (by omega)
          refine S_aload_n (q := 546) hX dL_law_545 rfl rfl ?_
          refine S_aload_n (q := 547) hX dL_law_546 rfl rfl ?_
          refine S_iload_n (q := 548) hX dL_law_547 rfl rfl ?_
          refine S_iconst (q := 549) (v := 1) hX dL_law_548 ic_1 rfl ?_
          refine S_iadd (q := 550) hX dL_law_549 rfl ?_
          refine S_scld (q := 551) hX hs dL_law_550 ?hi_68 rfl ?_
          case hi_68 => first | exact vp_in_nI (by omega) (by omega) | (rw [show (1 : Int32) = nI 1 from rfl, nI_add]; exact vp_in_nI (by omega) (by omega)) | (rw [show (2 : Int32) = nI 2 from rfl, nI_add]; exact vp_in_nI (by omega) (by omega)) | (rw [show (3 : Int32) = nI 3 from rfl, nI_add]; exact vp_in_nI (by omega) (by omega)) | (rw [show (4 : Int32) = nI 4 from rfl, nI_add]; exact vp_in_nI (by omega) (by omega)) | (rw [show (5 : Int32) = nI 5 from rfl, nI_add]; exact vp_in_nI (by omega) (by omega))
          refine S_callV (ci := 12) (C := "FanTalkModel") (T := TX12) (N := 17) (q := 554) 188 5367 hX (c_X12_uses (q + 179) μ S _) rfl ?hs_69 rfl u_999 u_1000 u_1001 u_12 u_1002 ⟨by decide, by decide, rfl⟩ ⟨Nat.le_of_ble_eq_true rfl, Nat.le_of_ble_eq_true rfl⟩ ⟨Nat.le_of_ble_eq_true rfl, Nat.le_of_ble_eq_true rfl⟩ (Nat.le_of_ble_eq_true rfl) dL_law_551 ?hp_69 rfl rfl rfl ?_
          case hs_69 => exact MM.isO hMm
          case hp_69 => exact ⟨hMm, hQ, ok⟩
          rintro v σ sz1 ⟨μ1, hMm, hF2, rfl, hQ1, rfl⟩
          have hM := hM.fr hF2 (by omega)
          refine S_icmp_eq (q := 557) 945 hX dL_law_554 rfl rfl (fun c554 => ?_) (fun c554 => absurd rfl c554)
          refine S_iinc (q := 948) [_, _, _, _] hX dL_law_945 rfl (ii_6 _) rfl (Nat.le_of_ble_eq_true rfl) rfl rfl ?_
          refine S_goto 18 hX dL_law_948 rfl ?_
          rw [show (6 : Int32) = nI 6 from rfl, nI_add]
          exact ih (i + 6) _ _ γ1 μ1 _ (by omega) (by omega) hM hMm hR1 hQ1 (ok_uses ok)
        · refine S_tableIn (off := 526) 559 hX dL_law_33 (by decide) (by decide) rfl rfl ?_
          refine S_aload_n (q := 560) hX dL_law_559 rfl rfl ?_
          refine S_callV (ci := 11) (C := "FanTalk") (T := TX11) (N := 11) (q := 563) 188 5367 hX (c_X11_year q γ S) rfl ?hs_70 rfl u_616 u_617 u_618 u_1 u_619 ⟨by decide, by decide, rfl⟩ ⟨Nat.le_of_ble_eq_true rfl, Nat.le_of_ble_eq_true rfl⟩ ⟨Nat.le_of_ble_eq_true rfl, Nat.le_of_ble_eq_true rfl⟩ (Nat.le_of_ble_eq_true rfl) dL_law_560 ?hp_70 rfl rfl rfl ?_
          case hs_70 => exact ⟨_, FK.c0 hM⟩
          case hp_70 => exact ⟨hM, hR, ok⟩
          rintro v σ sz1 ⟨γ1, hM, hF1, rfl, hR1, rfl⟩
          have hMm := hMm.fr hF1 (by omega)
          refine S_aload_n (q := 564) hX dL_law_563 rfl rfl ?_
          refine S_callV (ci := 12) (C := "FanTalkModel") (T := TX12) (N := 17) (q := 567) 188 5367 hX (c_X12_year (q + 179) μ S) rfl ?hs_71 rfl u_1003 u_1004 u_1005 u_12 u_1006 ⟨by decide, by decide, rfl⟩ ⟨Nat.le_of_ble_eq_true rfl, Nat.le_of_ble_eq_true rfl⟩ ⟨Nat.le_of_ble_eq_true rfl, Nat.le_of_ble_eq_true rfl⟩ (Nat.le_of_ble_eq_true rfl) dL_law_564 ?hp_71 rfl rfl rfl ?_
          case hs_71 => exact MM.isO hMm
          case hp_71 => exact ⟨hMm, hQ, ok⟩
          rintro v σ sz1 ⟨μ1, hMm, hF2, rfl, hQ1, rfl⟩
          have hM := hM.fr hF2 (by omega)
          refine S_icmp_eq (q := 570) 945 hX dL_law_567 rfl rfl (fun c567 => ?_) (fun c567 => absurd rfl c567)
          refine S_iinc (q := 948) [_, _, _, _] hX dL_law_945 rfl (ii_6 _) rfl (Nat.le_of_ble_eq_true rfl) rfl rfl ?_
          refine S_goto 18 hX dL_law_948 rfl ?_
          rw [show (6 : Int32) = nI 6 from rfl, nI_add]
          exact ih (i + 6) _ _ γ1 μ1 _ (by omega) (by omega) hM hMm hR1 hQ1 (ok_year ok)
        · refine S_tableIn (off := 539) 572 hX dL_law_33 (by decide) (by decide) rfl rfl ?_
          refine S_aload_n (q := 573) hX dL_law_572 rfl rfl ?_
          refine S_callV (ci := 11) (C := "FanTalk") (T := TX11) (N := 11) (q := 576) 188 5367 hX (c_X11_undo q γ S) rfl ?hs_72 rfl u_628 u_629 u_630 u_1 u_631 ⟨by decide, by decide, rfl⟩ ⟨Nat.le_of_ble_eq_true rfl, Nat.le_of_ble_eq_true rfl⟩ ⟨Nat.le_of_ble_eq_true rfl, Nat.le_of_ble_eq_true rfl⟩ (Nat.le_of_ble_eq_true rfl) dL_law_573 ?hp_72 rfl rfl rfl ?_
          case hs_72 => exact ⟨_, FK.c0 hM⟩
          case hp_72 => exact ⟨hM, hR, ok⟩
          rintro v σ sz1 ⟨γ1, hM, hF1, rfl, hR1, rfl⟩
          have hMm := hMm.fr hF1 (by omega)
          refine S_aload_n (q := 577) hX dL_law_576 rfl rfl ?_
          refine S_callV (ci := 12) (C := "FanTalkModel") (T := TX12) (N := 17) (q := 580) 188 5367 hX (c_X12_undo (q + 179) μ S) rfl ?hs_73 rfl u_1007 u_1008 u_1009 u_12 u_1010 ⟨by decide, by decide, rfl⟩ ⟨Nat.le_of_ble_eq_true rfl, Nat.le_of_ble_eq_true rfl⟩ ⟨Nat.le_of_ble_eq_true rfl, Nat.le_of_ble_eq_true rfl⟩ (Nat.le_of_ble_eq_true rfl) dL_law_577 ?hp_73 rfl rfl rfl ?_
          case hs_73 => exact MM.isO hMm
          case hp_73 => exact ⟨hMm, hQ, ok⟩
          rintro v σ sz1 ⟨μ1, hMm, hF2, rfl, hQ1, rfl⟩
          have hM := hM.fr hF2 (by omega)
          refine S_icmp_eq (q := 583) 945 hX dL_law_580 rfl rfl (fun c580 => ?_) (fun c580 => absurd rfl c580)
          refine S_iinc (q := 948) [_, _, _, _] hX dL_law_945 rfl (ii_6 _) rfl (Nat.le_of_ble_eq_true rfl) rfl rfl ?_
          refine S_goto 18 hX dL_law_948 rfl ?_
          rw [show (6 : Int32) = nI 6 from rfl, nI_add]
          exact ih (i + 6) _ _ γ1 μ1 _ (by omega) (by omega) hM hMm hR1 hQ1 (ok_undo ok)
        · refine S_tableIn (off := 552) 585 hX dL_law_33 (by decide) (by decide) rfl rfl ?_
          refine S_aload_n (q := 586) hX dL_law_585 rfl rfl ?_
          refine S_aload_n (q := 587) hX dL_law_586 rfl rfl ?_
          refine S_iload_n (q := 588) hX dL_law_587 rfl rfl ?_
          refine S_iconst (q := 589) (v := 1) hX dL_law_588 ic_1 rfl ?_
          refine S_iadd (q := 590) hX dL_law_589 rfl ?_
          refine S_scld (q := 591) hX hs dL_law_590 ?hi_74 rfl ?_
          case hi_74 => first | exact vp_in_nI (by omega) (by omega) | (rw [show (1 : Int32) = nI 1 from rfl, nI_add]; exact vp_in_nI (by omega) (by omega)) | (rw [show (2 : Int32) = nI 2 from rfl, nI_add]; exact vp_in_nI (by omega) (by omega)) | (rw [show (3 : Int32) = nI 3 from rfl, nI_add]; exact vp_in_nI (by omega) (by omega)) | (rw [show (4 : Int32) = nI 4 from rfl, nI_add]; exact vp_in_nI (by omega) (by omega)) | (rw [show (5 : Int32) = nI 5 from rfl, nI_add]; exact vp_in_nI (by omega) (by omega))
          refine S_callV (ci := 11) (C := "FanTalk") (T := TX11) (N := 11) (q := 594) 188 5367 hX (c_X11_want q γ S _) rfl ?hs_75 rfl u_636 u_637 u_638 u_1 u_639 ⟨by decide, by decide, rfl⟩ ⟨Nat.le_of_ble_eq_true rfl, Nat.le_of_ble_eq_true rfl⟩ ⟨Nat.le_of_ble_eq_true rfl, Nat.le_of_ble_eq_true rfl⟩ (Nat.le_of_ble_eq_true rfl) dL_law_591 ?hp_75 rfl rfl rfl ?_
          case hs_75 => exact ⟨_, FK.c0 hM⟩
          case hp_75 => exact ⟨hM, hR, ok⟩
          rintro v σ sz1 ⟨γ1, hM, hF1, rfl, hR1, rfl⟩
          have hMm := hMm.fr hF1 (by omega)
          refine S_aload_n (q := 595) hX dL_law_594 rfl rfl ?_
          refine S_aload_n (q := 596) hX dL_law_595 rfl rfl ?_
          refine S_iload_n (q := 597) hX dL_law_596 rfl rfl ?_
          refine S_iconst (q := 598) (v := 1) hX dL_law_597 ic_1 rfl ?_
          refine S_iadd (q := 599) hX dL_law_598 rfl ?_
          refine S_scld (q := 600) hX hs dL_law_599 ?hi_76 rfl ?_
          case hi_76 => first | exact vp_in_nI (by omega) (by omega) | (rw [show (1 : Int32) = nI 1 from rfl, nI_add]; exact vp_in_nI (by omega) (by omega)) | (rw [show (2 : Int32) = nI 2 from rfl, nI_add]; exact vp_in_nI (by omega) (by omega)) | (rw [show (3 : Int32) = nI 3 from rfl, nI_add]; exact vp_in_nI (by omega) (by omega)) | (rw [show (4 : Int32) = nI 4 from rfl, nI_add]; exact vp_in_nI (by omega) (by omega)) | (rw [show (5 : Int32) = nI 5 from rfl, nI_add]; exact vp_in_nI (by omega) (by omega))
          refine S_callV (ci := 12) (C := "FanTalkModel") (T := TX12) (N := 17) (q := 603) 188 5367 hX (c_X12_want (q + 179) μ S _) rfl ?hs_77 rfl u_1011 u_1012 u_1013 u_12 u_1014 ⟨by decide, by decide, rfl⟩ ⟨Nat.le_of_ble_eq_true rfl, Nat.le_of_ble_eq_true rfl⟩ ⟨Nat.le_of_ble_eq_true rfl, Nat.le_of_ble_eq_true rfl⟩ (Nat.le_of_ble_eq_true rfl) dL_law_600 ?hp_77 rfl rfl rfl ?_
          case hs_77 => exact MM.isO hMm
          case hp_77 => exact ⟨hMm, hQ, ok⟩
          rintro v σ sz1 ⟨μ1, hMm, hF2, rfl, hQ1, rfl⟩
          have hM := hM.fr hF2 (by omega)
          refine S_icmp_eq (q := 606) 945 hX dL_law_603 rfl rfl (fun c603 => ?_) (fun c603 => absurd rfl c603)
          refine S_iinc (q := 948) [_, _, _, _] hX dL_law_945 rfl (ii_6 _) rfl (Nat.le_of_ble_eq_true rfl) rfl rfl ?_
          refine S_goto 18 hX dL_law_948 rfl ?_
          rw [show (6 : Int32) = nI 6 from rfl, nI_add]
          exact ih (i + 6) _ _ γ1 μ1 _ (by omega) (by omega) hM hMm hR1 hQ1 (ok_want ok)
        · refine S_tableIn (off := 575) 608 hX dL_law_33 (by decide) (by decide) rfl rfl ?_
          refine S_aload_n (q := 609) hX dL_law_608 rfl rfl ?_
          refine S_callV (ci := 11) (C := "FanTalk") (T := TX11) (N := 11) (q := 612) 188 5367 hX (c_X11_forget q γ S) rfl ?hs_78 rfl u_640 u_641 u_642 u_1 u_643 ⟨by decide, by decide, rfl⟩ ⟨Nat.le_of_ble_eq_true rfl, Nat.le_of_ble_eq_true rfl⟩ ⟨Nat.le_of_ble_eq_true rfl, Nat.le_of_ble_eq_true rfl⟩ (Nat.le_of_ble_eq_true rfl) dL_law_609 ?hp_78 rfl rfl rfl ?_
          case hs_78 => exact ⟨_, FK.c0 hM⟩
          case hp_78 => exact ⟨hM, hR, ok⟩
          rintro v σ sz1 ⟨γ1, hM, hF1, rfl, hR1, rfl⟩
          have hMm := hMm.fr hF1 (by omega)
          refine S_aload_n (q := 613) hX dL_law_612 rfl rfl ?_
          refine S_callV (ci := 12) (C := "FanTalkModel") (T := TX12) (N := 17) (q := 616) 188 5367 hX (c_X12_forget (q + 179) μ S) rfl ?hs_79 rfl u_1015 u_1016 u_1017 u_12 u_1018 ⟨by decide, by decide, rfl⟩ ⟨Nat.le_of_ble_eq_true rfl, Nat.le_of_ble_eq_true rfl⟩ ⟨Nat.le_of_ble_eq_true rfl, Nat.le_of_ble_eq_true rfl⟩ (Nat.le_of_ble_eq_true rfl) dL_law_613 ?hp_79 rfl rfl rfl ?_
          case hs_79 => exact MM.isO hMm
          case hp_79 => exact ⟨hMm, hQ, ok⟩
          rintro v σ sz1 ⟨μ1, hMm, hF2, rfl, hQ1, rfl⟩
          have hM := hM.fr hF2 (by omega)
          refine S_icmp_eq (q := 619) 945 hX dL_law_616 rfl rfl (fun c616 => ?_) (fun c616 => absurd rfl c616)
          refine S_iinc (q := 948) [_, _, _, _] hX dL_law_945 rfl (ii_6 _) rfl (Nat.le_of_ble_eq_true rfl) rfl rfl ?_
          refine S_goto 18 hX dL_law_948 rfl ?_
          rw [show (6 : Int32) = nI 6 from rfl, nI_add]
          exact ih (i + 6) _ _ γ1 μ1 _ (by omega) (by omega) hM hMm hR1 hQ1 (ok_forget ok)
        · refine S_tableIn (off := 588) 621 hX dL_law_33 (by decide) (by decide) rfl rfl ?_
          refine S_aload_n (q := 622) hX dL_law_621 rfl rfl ?_
          refine S_aload_n (q := 623) hX dL_law_622 rfl rfl ?_
          refine S_iload_n (q := 624) hX dL_law_623 rfl rfl ?_
          refine S_iconst (q := 625) (v := 1) hX dL_law_624 ic_1 rfl ?_
          refine S_iadd (q := 626) hX dL_law_625 rfl ?_
          refine S_scld (q := 627) hX hs dL_law_626 ?hi_80 rfl ?_
          case hi_80 => first | exact vp_in_nI (by omega) (by omega) | (rw [show (1 : Int32) = nI 1 from rfl, nI_add]; exact vp_in_nI (by omega) (by omega)) | (rw [show (2 : Int32) = nI 2 from rfl, nI_add]; exact vp_in_nI (by omega) (by omega)) | (rw [show (3 : Int32) = nI 3 from rfl, nI_add]; exact vp_in_nI (by omega) (by omega)) | (rw [show (4 : Int32) = nI 4 from rfl, nI_add]; exact vp_in_nI (by omega) (by omega)) | (rw [show (5 : Int32) = nI 5 from rfl, nI_add]; exact vp_in_nI (by omega) (by omega))
          refine S_aload_n (q := 628) hX dL_law_627 rfl rfl ?_
          refine S_iload_n (q := 629) hX dL_law_628 rfl rfl ?_
          refine S_iconst (q := 630) (v := 2) hX dL_law_629 ic_2 rfl ?_
          refine S_iadd (q := 631) hX dL_law_630 rfl ?_
          refine S_scld (q := 632) hX hs dL_law_631 ?hi_81 rfl ?_
          case hi_81 => first | exact vp_in_nI (by omega) (by omega) | (rw [show (1 : Int32) = nI 1 from rfl, nI_add]; exact vp_in_nI (by omega) (by omega)) | (rw [show (2 : Int32) = nI 2 from rfl, nI_add]; exact vp_in_nI (by omega) (by omega)) | (rw [show (3 : Int32) = nI 3 from rfl, nI_add]; exact vp_in_nI (by omega) (by omega)) | (rw [show (4 : Int32) = nI 4 from rfl, nI_add]; exact vp_in_nI (by omega) (by omega)) | (rw [show (5 : Int32) = nI 5 from rfl, nI_add]; exact vp_in_nI (by omega) (by omega))
          refine S_aload_n (q := 633) hX dL_law_632 rfl rfl ?_
          refine S_iload_n (q := 634) hX dL_law_633 rfl rfl ?_
          refine S_iconst (q := 635) (v := 3) hX dL_law_634 ic_3 rfl ?_
          refine S_iadd (q := 636) hX dL_law_635 rfl ?_
          refine S_scld (q := 637) hX hs dL_law_636 ?hi_82 rfl ?_
          case hi_82 => first | exact vp_in_nI (by omega) (by omega) | (rw [show (1 : Int32) = nI 1 from rfl, nI_add]; exact vp_in_nI (by omega) (by omega)) | (rw [show (2 : Int32) = nI 2 from rfl, nI_add]; exact vp_in_nI (by omega) (by omega)) | (rw [show (3 : Int32) = nI 3 from rfl, nI_add]; exact vp_in_nI (by omega) (by omega)) | (rw [show (4 : Int32) = nI 4 from rfl, nI_add]; exact vp_in_nI (by omega) (by omega)) | (rw [show (5 : Int32) = nI 5 from rfl, nI_add]; exact vp_in_nI (by omega) (by omega))
          refine S_callV (ci := 11) (C := "FanTalk") (T := TX11) (N := 11) (q := 640) 188 5367 hX (c_X11_hide q γ S _ _ _) rfl ?hs_83 rfl u_644 u_645 u_646 u_1 u_647 ⟨by decide, by decide, rfl⟩ ⟨Nat.le_of_ble_eq_true rfl, Nat.le_of_ble_eq_true rfl⟩ ⟨Nat.le_of_ble_eq_true rfl, Nat.le_of_ble_eq_true rfl⟩ (Nat.le_of_ble_eq_true rfl) dL_law_637 ?hp_83 rfl rfl rfl ?_
          case hs_83 => exact ⟨_, FK.c0 hM⟩
          case hp_83 => exact ⟨hM, hR, ok⟩
          rintro v σ sz1 ⟨γ1, hM, hF1, ⟨r1, rfl, hr1⟩, rfl⟩
          have hMm := hMm.fr hF1 (by omega)
          refine S_aload_n (q := 641) hX dL_law_640 rfl rfl ?_
          refine S_aload_n (q := 642) hX dL_law_641 rfl rfl ?_
          refine S_iload_n (q := 643) hX dL_law_642 rfl rfl ?_
          refine S_iconst (q := 644) (v := 1) hX dL_law_643 ic_1 rfl ?_
          refine S_iadd (q := 645) hX dL_law_644 rfl ?_
          refine S_scld (q := 646) hX hs dL_law_645 ?hi_84 rfl ?_
          case hi_84 => first | exact vp_in_nI (by omega) (by omega) | (rw [show (1 : Int32) = nI 1 from rfl, nI_add]; exact vp_in_nI (by omega) (by omega)) | (rw [show (2 : Int32) = nI 2 from rfl, nI_add]; exact vp_in_nI (by omega) (by omega)) | (rw [show (3 : Int32) = nI 3 from rfl, nI_add]; exact vp_in_nI (by omega) (by omega)) | (rw [show (4 : Int32) = nI 4 from rfl, nI_add]; exact vp_in_nI (by omega) (by omega)) | (rw [show (5 : Int32) = nI 5 from rfl, nI_add]; exact vp_in_nI (by omega) (by omega))
          refine S_aload_n (q := 647) hX dL_law_646 rfl rfl ?_
          refine S_iload_n (q := 648) hX dL_law_647 rfl rfl ?_
          refine S_iconst (q := 649) (v := 2) hX dL_law_648 ic_2 rfl ?_
          refine S_iadd (q := 650) hX dL_law_649 rfl ?_
          refine S_scld (q := 651) hX hs dL_law_650 ?hi_85 rfl ?_
          case hi_85 => first | exact vp_in_nI (by omega) (by omega) | (rw [show (1 : Int32) = nI 1 from rfl, nI_add]; exact vp_in_nI (by omega) (by omega)) | (rw [show (2 : Int32) = nI 2 from rfl, nI_add]; exact vp_in_nI (by omega) (by omega)) | (rw [show (3 : Int32) = nI 3 from rfl, nI_add]; exact vp_in_nI (by omega) (by omega)) | (rw [show (4 : Int32) = nI 4 from rfl, nI_add]; exact vp_in_nI (by omega) (by omega)) | (rw [show (5 : Int32) = nI 5 from rfl, nI_add]; exact vp_in_nI (by omega) (by omega))
          refine S_aload_n (q := 652) hX dL_law_651 rfl rfl ?_
          refine S_iload_n (q := 653) hX dL_law_652 rfl rfl ?_
          refine S_iconst (q := 654) (v := 3) hX dL_law_653 ic_3 rfl ?_
          refine S_iadd (q := 655) hX dL_law_654 rfl ?_
          refine S_scld (q := 656) hX hs dL_law_655 ?hi_86 rfl ?_
          case hi_86 => first | exact vp_in_nI (by omega) (by omega) | (rw [show (1 : Int32) = nI 1 from rfl, nI_add]; exact vp_in_nI (by omega) (by omega)) | (rw [show (2 : Int32) = nI 2 from rfl, nI_add]; exact vp_in_nI (by omega) (by omega)) | (rw [show (3 : Int32) = nI 3 from rfl, nI_add]; exact vp_in_nI (by omega) (by omega)) | (rw [show (4 : Int32) = nI 4 from rfl, nI_add]; exact vp_in_nI (by omega) (by omega)) | (rw [show (5 : Int32) = nI 5 from rfl, nI_add]; exact vp_in_nI (by omega) (by omega))
          refine S_callV (ci := 12) (C := "FanTalkModel") (T := TX12) (N := 17) (q := 659) 188 5367 hX (c_X12_hide (q + 179) μ S _ _ _) rfl ?hs_87 rfl u_1019 u_1020 u_1021 u_12 u_1022 ⟨by decide, by decide, rfl⟩ ⟨Nat.le_of_ble_eq_true rfl, Nat.le_of_ble_eq_true rfl⟩ ⟨Nat.le_of_ble_eq_true rfl, Nat.le_of_ble_eq_true rfl⟩ (Nat.le_of_ble_eq_true rfl) dL_law_656 ?hp_87 rfl rfl rfl ?_
          case hs_87 => exact MM.isO hMm
          case hp_87 => exact ⟨hMm, hQ, ok⟩
          rintro v σ sz1 ⟨μ1, hMm, hF2, ⟨r2, rfl, hr2⟩, rfl⟩
          have hM := hM.fr hF2 (by omega)
          have he : r1 = r2 ∧ ∃ S', FR γ1 S' ∧ MR μ1 S' ∧ StOk S' := by
            rcases hr1 with ⟨b1, e1, f1⟩ | ⟨b1, e1, f1⟩
            · rcases hr2 with ⟨b2, e2, f2⟩ | ⟨b2, e2, f2⟩
              · exact ⟨e1.trans e2.symm, _, f1, f2, rfS_ok ok _⟩
              · exact absurd b1 b2
            · rcases hr2 with ⟨b2, e2, f2⟩ | ⟨b2, e2, f2⟩
              · exact absurd b2 b1
              · exact ⟨HideR_one e1 e2, S, f1, f2, ok⟩
          obtain ⟨rfl, S', hR1, hQ1, ok1⟩ := he
          refine S_icmp_eq (q := 662) 945 hX dL_law_659 rfl rfl (fun c659 => ?_) (fun c659 => absurd rfl c659)
          refine S_iinc (q := 948) [_, _, _, _] hX dL_law_945 rfl (ii_6 _) rfl (Nat.le_of_ble_eq_true rfl) rfl rfl ?_
          refine S_goto 18 hX dL_law_948 rfl ?_
          rw [show (6 : Int32) = nI 6 from rfl, nI_add]
          exact ih (i + 6) _ _ γ1 μ1 _ (by omega) (by omega) hM hMm hR1 hQ1 ok1
        · refine S_tableIn (off := 631) 664 hX dL_law_33 (by decide) (by decide) rfl rfl ?_
          refine S_aload_n (q := 665) hX dL_law_664 rfl rfl ?_
          refine S_aload_n (q := 666) hX dL_law_665 rfl rfl ?_
          refine S_iload_n (q := 667) hX dL_law_666 rfl rfl ?_
          refine S_iconst (q := 668) (v := 1) hX dL_law_667 ic_1 rfl ?_
          refine S_iadd (q := 669) hX dL_law_668 rfl ?_
          refine S_scld (q := 670) hX hs dL_law_669 ?hi_88 rfl ?_
          case hi_88 => first | exact vp_in_nI (by omega) (by omega) | (rw [show (1 : Int32) = nI 1 from rfl, nI_add]; exact vp_in_nI (by omega) (by omega)) | (rw [show (2 : Int32) = nI 2 from rfl, nI_add]; exact vp_in_nI (by omega) (by omega)) | (rw [show (3 : Int32) = nI 3 from rfl, nI_add]; exact vp_in_nI (by omega) (by omega)) | (rw [show (4 : Int32) = nI 4 from rfl, nI_add]; exact vp_in_nI (by omega) (by omega)) | (rw [show (5 : Int32) = nI 5 from rfl, nI_add]; exact vp_in_nI (by omega) (by omega))
          refine S_aload_n (q := 671) hX dL_law_670 rfl rfl ?_
          refine S_iload_n (q := 672) hX dL_law_671 rfl rfl ?_
          refine S_iconst (q := 673) (v := 2) hX dL_law_672 ic_2 rfl ?_
          refine S_iadd (q := 674) hX dL_law_673 rfl ?_
          refine S_scld (q := 675) hX hs dL_law_674 ?hi_89 rfl ?_
          case hi_89 => first | exact vp_in_nI (by omega) (by omega) | (rw [show (1 : Int32) = nI 1 from rfl, nI_add]; exact vp_in_nI (by omega) (by omega)) | (rw [show (2 : Int32) = nI 2 from rfl, nI_add]; exact vp_in_nI (by omega) (by omega)) | (rw [show (3 : Int32) = nI 3 from rfl, nI_add]; exact vp_in_nI (by omega) (by omega)) | (rw [show (4 : Int32) = nI 4 from rfl, nI_add]; exact vp_in_nI (by omega) (by omega)) | (rw [show (5 : Int32) = nI 5 from rfl, nI_add]; exact vp_in_nI (by omega) (by omega))
          refine S_aload_n (q := 676) hX dL_law_675 rfl rfl ?_
          refine S_iload_n (q := 677) hX dL_law_676 rfl rfl ?_
          refine S_iconst (q := 678) (v := 3) hX dL_law_677 ic_3 rfl ?_
          refine S_iadd (q := 679) hX dL_law_678 rfl ?_
          refine S_scld (q := 680) hX hs dL_law_679 ?hi_90 rfl ?_
          case hi_90 => first | exact vp_in_nI (by omega) (by omega) | (rw [show (1 : Int32) = nI 1 from rfl, nI_add]; exact vp_in_nI (by omega) (by omega)) | (rw [show (2 : Int32) = nI 2 from rfl, nI_add]; exact vp_in_nI (by omega) (by omega)) | (rw [show (3 : Int32) = nI 3 from rfl, nI_add]; exact vp_in_nI (by omega) (by omega)) | (rw [show (4 : Int32) = nI 4 from rfl, nI_add]; exact vp_in_nI (by omega) (by omega)) | (rw [show (5 : Int32) = nI 5 from rfl, nI_add]; exact vp_in_nI (by omega) (by omega))
          refine S_callV (ci := 11) (C := "FanTalk") (T := TX11) (N := 11) (q := 683) 188 5367 hX (c_X11_save q γ S _ _ _) rfl ?hs_91 rfl u_683 u_684 u_685 u_1 u_686 ⟨by decide, by decide, rfl⟩ ⟨Nat.le_of_ble_eq_true rfl, Nat.le_of_ble_eq_true rfl⟩ ⟨Nat.le_of_ble_eq_true rfl, Nat.le_of_ble_eq_true rfl⟩ (Nat.le_of_ble_eq_true rfl) dL_law_680 ?hp_91 rfl rfl rfl ?_
          case hs_91 => exact ⟨_, FK.c0 hM⟩
          case hp_91 => exact ⟨hM, hR, ok⟩
          rintro v σ sz1 ⟨γ1, hM, hF1, ⟨r1, rfl, hr1⟩, rfl⟩
          have hMm := hMm.fr hF1 (by omega)
          refine S_aload_n (q := 684) hX dL_law_683 rfl rfl ?_
          refine S_aload_n (q := 685) hX dL_law_684 rfl rfl ?_
          refine S_iload_n (q := 686) hX dL_law_685 rfl rfl ?_
          refine S_iconst (q := 687) (v := 1) hX dL_law_686 ic_1 rfl ?_
          refine S_iadd (q := 688) hX dL_law_687 rfl ?_
          refine S_scld (q := 689) hX hs dL_law_688 ?hi_92 rfl ?_
          case hi_92 => first | exact vp_in_nI (by omega) (by omega) | (rw [show (1 : Int32) = nI 1 from rfl, nI_add]; exact vp_in_nI (by omega) (by omega)) | (rw [show (2 : Int32) = nI 2 from rfl, nI_add]; exact vp_in_nI (by omega) (by omega)) | (rw [show (3 : Int32) = nI 3 from rfl, nI_add]; exact vp_in_nI (by omega) (by omega)) | (rw [show (4 : Int32) = nI 4 from rfl, nI_add]; exact vp_in_nI (by omega) (by omega)) | (rw [show (5 : Int32) = nI 5 from rfl, nI_add]; exact vp_in_nI (by omega) (by omega))
          refine S_aload_n (q := 690) hX dL_law_689 rfl rfl ?_
          refine S_iload_n (q := 691) hX dL_law_690 rfl rfl ?_
          refine S_iconst (q := 692) (v := 2) hX dL_law_691 ic_2 rfl ?_
          refine S_iadd (q := 693) hX dL_law_692 rfl ?_
          refine S_scld (q := 694) hX hs dL_law_693 ?hi_93 rfl ?_
          case hi_93 => first | exact vp_in_nI (by omega) (by omega) | (rw [show (1 : Int32) = nI 1 from rfl, nI_add]; exact vp_in_nI (by omega) (by omega)) | (rw [show (2 : Int32) = nI 2 from rfl, nI_add]; exact vp_in_nI (by omega) (by omega)) | (rw [show (3 : Int32) = nI 3 from rfl, nI_add]; exact vp_in_nI (by omega) (by omega)) | (rw [show (4 : Int32) = nI 4 from rfl, nI_add]; exact vp_in_nI (by omega) (by omega)) | (rw [show (5 : Int32) = nI 5 from rfl, nI_add]; exact vp_in_nI (by omega) (by omega))
          refine S_aload_n (q := 695) hX dL_law_694 rfl rfl ?_
          refine S_iload_n (q := 696) hX dL_law_695 rfl rfl ?_
          refine S_iconst (q := 697) (v := 3) hX dL_law_696 ic_3 rfl ?_
          refine S_iadd (q := 698) hX dL_law_697 rfl ?_
          refine S_scld (q := 699) hX hs dL_law_698 ?hi_94 rfl ?_
          case hi_94 => first | exact vp_in_nI (by omega) (by omega) | (rw [show (1 : Int32) = nI 1 from rfl, nI_add]; exact vp_in_nI (by omega) (by omega)) | (rw [show (2 : Int32) = nI 2 from rfl, nI_add]; exact vp_in_nI (by omega) (by omega)) | (rw [show (3 : Int32) = nI 3 from rfl, nI_add]; exact vp_in_nI (by omega) (by omega)) | (rw [show (4 : Int32) = nI 4 from rfl, nI_add]; exact vp_in_nI (by omega) (by omega)) | (rw [show (5 : Int32) = nI 5 from rfl, nI_add]; exact vp_in_nI (by omega) (by omega))
          refine S_callV (ci := 12) (C := "FanTalkModel") (T := TX12) (N := 17) (q := 702) 188 5367 hX (c_X12_save (q + 179) μ S _ _ _) rfl ?hs_95 rfl u_1039 u_1040 u_1041 u_12 u_1042 ⟨by decide, by decide, rfl⟩ ⟨Nat.le_of_ble_eq_true rfl, Nat.le_of_ble_eq_true rfl⟩ ⟨Nat.le_of_ble_eq_true rfl, Nat.le_of_ble_eq_true rfl⟩ (Nat.le_of_ble_eq_true rfl) dL_law_699 ?hp_95 rfl rfl rfl ?_
          case hs_95 => exact MM.isO hMm
          case hp_95 => exact ⟨hMm, hQ, ok⟩
          rintro v σ sz1 ⟨μ1, hMm, hF2, ⟨r2, rfl, hr2⟩, rfl⟩
          have hM := hM.fr hF2 (by omega)
          have he : r1 = r2 ∧ ∃ S', FR γ1 S' ∧ MR μ1 S' ∧ StOk S' := by
            rcases hr1 with ⟨b1, e1, f1⟩ | ⟨b1, z1, e1, f1⟩ | ⟨b1, z1, e1, f1⟩
            · rcases hr2 with ⟨b2, e2, f2⟩ | ⟨b2, z2, e2, f2⟩ | ⟨b2, z2, e2, f2⟩
              · exact ⟨e1.trans e2.symm, _, f1, f2, rfS_ok ok _⟩
              · exact absurd b1 b2
              · exact absurd b1 b2
            · rcases hr2 with ⟨b2, e2, f2⟩ | ⟨b2, z2, e2, f2⟩ | ⟨b2, z2, e2, f2⟩
              · exact absurd b2 b1
              · exact ⟨e1.trans e2.symm, _, f1, f2, rfS_ok ok _⟩
              · exact absurd z1 z2
            · rcases hr2 with ⟨b2, e2, f2⟩ | ⟨b2, z2, e2, f2⟩ | ⟨b2, z2, e2, f2⟩
              · exact absurd b2 b1
              · exact absurd z2 z1
              · exact ⟨SaveR_one e1 e2, S, f1, f2, ok⟩
          obtain ⟨rfl, S', hR1, hQ1, ok1⟩ := he
          refine S_icmp_eq (q := 705) 945 hX dL_law_702 rfl rfl (fun c702 => ?_) (fun c702 => absurd rfl c702)
          refine S_iinc (q := 948) [_, _, _, _] hX dL_law_945 rfl (ii_6 _) rfl (Nat.le_of_ble_eq_true rfl) rfl rfl ?_
          refine S_goto 18 hX dL_law_948 rfl ?_
          rw [show (6 : Int32) = nI 6 from rfl, nI_add]
          exact ih (i + 6) _ _ γ1 μ1 _ (by omega) (by omega) hM hMm hR1 hQ1 ok1
        · refine S_tableIn (off := 674) 707 hX dL_law_33 (by decide) (by decide) rfl rfl ?_
          refine S_aload_n (q := 708) hX dL_law_707 rfl rfl ?_
          refine S_aload_n (q := 709) hX dL_law_708 rfl rfl ?_
          refine S_iload_n (q := 710) hX dL_law_709 rfl rfl ?_
          refine S_iconst (q := 711) (v := 1) hX dL_law_710 ic_1 rfl ?_
          refine S_iadd (q := 712) hX dL_law_711 rfl ?_
          refine S_scld (q := 713) hX hs dL_law_712 ?hi_96 rfl ?_
          case hi_96 => first | exact vp_in_nI (by omega) (by omega) | (rw [show (1 : Int32) = nI 1 from rfl, nI_add]; exact vp_in_nI (by omega) (by omega)) | (rw [show (2 : Int32) = nI 2 from rfl, nI_add]; exact vp_in_nI (by omega) (by omega)) | (rw [show (3 : Int32) = nI 3 from rfl, nI_add]; exact vp_in_nI (by omega) (by omega)) | (rw [show (4 : Int32) = nI 4 from rfl, nI_add]; exact vp_in_nI (by omega) (by omega)) | (rw [show (5 : Int32) = nI 5 from rfl, nI_add]; exact vp_in_nI (by omega) (by omega))
          refine S_callV (ci := 11) (C := "FanTalk") (T := TX11) (N := 11) (q := 716) 188 5367 hX (c_X11_safe q γ S _) rfl ?hs_97 rfl u_695 u_696 u_697 u_1 u_698 ⟨by decide, by decide, rfl⟩ ⟨Nat.le_of_ble_eq_true rfl, Nat.le_of_ble_eq_true rfl⟩ ⟨Nat.le_of_ble_eq_true rfl, Nat.le_of_ble_eq_true rfl⟩ (Nat.le_of_ble_eq_true rfl) dL_law_713 ?hp_97 rfl rfl rfl ?_
          case hs_97 => exact ⟨_, FK.c0 hM⟩
          case hp_97 => exact ⟨hM, hR, ok⟩
          rintro v σ sz1 ⟨γ1, hM, hF1, rfl, hR1, rfl⟩
          have hMm := hMm.fr hF1 (by omega)
          refine S_aload_n (q := 717) hX dL_law_716 rfl rfl ?_
          refine S_aload_n (q := 718) hX dL_law_717 rfl rfl ?_
          refine S_iload_n (q := 719) hX dL_law_718 rfl rfl ?_
          refine S_iconst (q := 720) (v := 1) hX dL_law_719 ic_1 rfl ?_
          refine S_iadd (q := 721) hX dL_law_720 rfl ?_
          refine S_scld (q := 722) hX hs dL_law_721 ?hi_98 rfl ?_
          case hi_98 => first | exact vp_in_nI (by omega) (by omega) | (rw [show (1 : Int32) = nI 1 from rfl, nI_add]; exact vp_in_nI (by omega) (by omega)) | (rw [show (2 : Int32) = nI 2 from rfl, nI_add]; exact vp_in_nI (by omega) (by omega)) | (rw [show (3 : Int32) = nI 3 from rfl, nI_add]; exact vp_in_nI (by omega) (by omega)) | (rw [show (4 : Int32) = nI 4 from rfl, nI_add]; exact vp_in_nI (by omega) (by omega)) | (rw [show (5 : Int32) = nI 5 from rfl, nI_add]; exact vp_in_nI (by omega) (by omega))
          refine S_callV (ci := 12) (C := "FanTalkModel") (T := TX12) (N := 17) (q := 725) 188 5367 hX (c_X12_safe (q + 179) μ S _) rfl ?hs_99 rfl u_1051 u_1052 u_1053 u_12 u_1054 ⟨by decide, by decide, rfl⟩ ⟨Nat.le_of_ble_eq_true rfl, Nat.le_of_ble_eq_true rfl⟩ ⟨Nat.le_of_ble_eq_true rfl, Nat.le_of_ble_eq_true rfl⟩ (Nat.le_of_ble_eq_true rfl) dL_law_722 ?hp_99 rfl rfl rfl ?_
          case hs_99 => exact MM.isO hMm
          case hp_99 => exact ⟨hMm, hQ, ok⟩
          rintro v σ sz1 ⟨μ1, hMm, hF2, rfl, hQ1, rfl⟩
          have hM := hM.fr hF2 (by omega)
          refine S_icmp_eq (q := 728) 945 hX dL_law_725 rfl rfl (fun c725 => ?_) (fun c725 => absurd rfl c725)
          refine S_iinc (q := 948) [_, _, _, _] hX dL_law_945 rfl (ii_6 _) rfl (Nat.le_of_ble_eq_true rfl) rfl rfl ?_
          refine S_goto 18 hX dL_law_948 rfl ?_
          rw [show (6 : Int32) = nI 6 from rfl, nI_add]
          exact ih (i + 6) _ _ γ1 μ1 _ (by omega) (by omega) hM hMm hR1 hQ1 (ok_safe ok)
        · refine S_tableIn (off := 697) 730 hX dL_law_33 (by decide) (by decide) rfl rfl ?_
          refine S_aload_n (q := 731) hX dL_law_730 rfl rfl ?_
          refine S_aload_n (q := 732) hX dL_law_731 rfl rfl ?_
          refine S_iload_n (q := 733) hX dL_law_732 rfl rfl ?_
          refine S_iconst (q := 734) (v := 1) hX dL_law_733 ic_1 rfl ?_
          refine S_iadd (q := 735) hX dL_law_734 rfl ?_
          refine S_scld (q := 736) hX hs dL_law_735 ?hi_100 rfl ?_
          case hi_100 => first | exact vp_in_nI (by omega) (by omega) | (rw [show (1 : Int32) = nI 1 from rfl, nI_add]; exact vp_in_nI (by omega) (by omega)) | (rw [show (2 : Int32) = nI 2 from rfl, nI_add]; exact vp_in_nI (by omega) (by omega)) | (rw [show (3 : Int32) = nI 3 from rfl, nI_add]; exact vp_in_nI (by omega) (by omega)) | (rw [show (4 : Int32) = nI 4 from rfl, nI_add]; exact vp_in_nI (by omega) (by omega)) | (rw [show (5 : Int32) = nI 5 from rfl, nI_add]; exact vp_in_nI (by omega) (by omega))
          refine S_aload_n (q := 737) hX dL_law_736 rfl rfl ?_
          refine S_iload_n (q := 738) hX dL_law_737 rfl rfl ?_
          refine S_iconst (q := 739) (v := 2) hX dL_law_738 ic_2 rfl ?_
          refine S_iadd (q := 740) hX dL_law_739 rfl ?_
          refine S_scld (q := 741) hX hs dL_law_740 ?hi_101 rfl ?_
          case hi_101 => first | exact vp_in_nI (by omega) (by omega) | (rw [show (1 : Int32) = nI 1 from rfl, nI_add]; exact vp_in_nI (by omega) (by omega)) | (rw [show (2 : Int32) = nI 2 from rfl, nI_add]; exact vp_in_nI (by omega) (by omega)) | (rw [show (3 : Int32) = nI 3 from rfl, nI_add]; exact vp_in_nI (by omega) (by omega)) | (rw [show (4 : Int32) = nI 4 from rfl, nI_add]; exact vp_in_nI (by omega) (by omega)) | (rw [show (5 : Int32) = nI 5 from rfl, nI_add]; exact vp_in_nI (by omega) (by omega))
          refine S_callV (ci := 11) (C := "FanTalk") (T := TX11) (N := 11) (q := 744) 188 5367 hX (c_X11_fact q γ S _ _) rfl ?hs_102 rfl u_712 u_713 u_714 u_1 u_715 ⟨by decide, by decide, rfl⟩ ⟨Nat.le_of_ble_eq_true rfl, Nat.le_of_ble_eq_true rfl⟩ ⟨Nat.le_of_ble_eq_true rfl, Nat.le_of_ble_eq_true rfl⟩ (Nat.le_of_ble_eq_true rfl) dL_law_741 ?hp_102 rfl rfl rfl ?_
          case hs_102 => exact ⟨_, FK.c0 hM⟩
          case hp_102 => exact ⟨hM, hR, ok⟩
          rintro v σ sz1 ⟨γ1, hM, hF1, rfl, hR1, rfl⟩
          have hMm := hMm.fr hF1 (by omega)
          refine S_aload_n (q := 745) hX dL_law_744 rfl rfl ?_
          refine S_aload_n (q := 746) hX dL_law_745 rfl rfl ?_
          refine S_iload_n (q := 747) hX dL_law_746 rfl rfl ?_
          refine S_iconst (q := 748) (v := 1) hX dL_law_747 ic_1 rfl ?_
          refine S_iadd (q := 749) hX dL_law_748 rfl ?_
          refine S_scld (q := 750) hX hs dL_law_749 ?hi_103 rfl ?_
          case hi_103 => first | exact vp_in_nI (by omega) (by omega) | (rw [show (1 : Int32) = nI 1 from rfl, nI_add]; exact vp_in_nI (by omega) (by omega)) | (rw [show (2 : Int32) = nI 2 from rfl, nI_add]; exact vp_in_nI (by omega) (by omega)) | (rw [show (3 : Int32) = nI 3 from rfl, nI_add]; exact vp_in_nI (by omega) (by omega)) | (rw [show (4 : Int32) = nI 4 from rfl, nI_add]; exact vp_in_nI (by omega) (by omega)) | (rw [show (5 : Int32) = nI 5 from rfl, nI_add]; exact vp_in_nI (by omega) (by omega))
          refine S_aload_n (q := 751) hX dL_law_750 rfl rfl ?_
          refine S_iload_n (q := 752) hX dL_law_751 rfl rfl ?_
          refine S_iconst (q := 753) (v := 2) hX dL_law_752 ic_2 rfl ?_
          refine S_iadd (q := 754) hX dL_law_753 rfl ?_
          refine S_scld (q := 755) hX hs dL_law_754 ?hi_104 rfl ?_
          case hi_104 => first | exact vp_in_nI (by omega) (by omega) | (rw [show (1 : Int32) = nI 1 from rfl, nI_add]; exact vp_in_nI (by omega) (by omega)) | (rw [show (2 : Int32) = nI 2 from rfl, nI_add]; exact vp_in_nI (by omega) (by omega)) | (rw [show (3 : Int32) = nI 3 from rfl, nI_add]; exact vp_in_nI (by omega) (by omega)) | (rw [show (4 : Int32) = nI 4 from rfl, nI_add]; exact vp_in_nI (by omega) (by omega)) | (rw [show (5 : Int32) = nI 5 from rfl, nI_add]; exact vp_in_nI (by omega) (by omega))
          refine S_callV (ci := 12) (C := "FanTalkModel") (T := TX12) (N := 17) (q := 758) 188 5367 hX (c_X12_fact (q + 179) μ S _ _) rfl ?hs_105 rfl u_1055 u_1056 u_1057 u_12 u_1058 ⟨by decide, by decide, rfl⟩ ⟨Nat.le_of_ble_eq_true rfl, Nat.le_of_ble_eq_true rfl⟩ ⟨Nat.le_of_ble_eq_true rfl, Nat.le_of_ble_eq_true rfl⟩ (Nat.le_of_ble_eq_true rfl) dL_law_755 ?hp_105 rfl rfl rfl ?_
          case hs_105 => exact MM.isO hMm
          case hp_105 => exact ⟨hMm, hQ, ok⟩
          rintro v σ sz1 ⟨μ1, hMm, hF2, rfl, hQ1, rfl⟩
          have hM := hM.fr hF2 (by omega)
          refine S_icmp_eq (q := 761) 945 hX dL_law_758 rfl rfl (fun c758 => ?_) (fun c758 => absurd rfl c758)
          refine S_iinc (q := 948) [_, _, _, _] hX dL_law_945 rfl (ii_6 _) rfl (Nat.le_of_ble_eq_true rfl) rfl rfl ?_
          refine S_goto 18 hX dL_law_948 rfl ?_
          rw [show (6 : Int32) = nI 6 from rfl, nI_add]
          exact ih (i + 6) _ _ γ1 μ1 _ (by omega) (by omega) hM hMm hR1 hQ1 (ok_fact ok)
        · refine S_tableIn (off := 730) 763 hX dL_law_33 (by decide) (by decide) rfl rfl ?_
          refine S_aload_n (q := 764) hX dL_law_763 rfl rfl ?_
          refine S_callV (ci := 11) (C := "FanTalk") (T := TX11) (N := 11) (q := 767) 188 5367 hX (c_X11_mayBe q γ S) rfl ?hs_106 rfl u_716 u_717 u_718 u_1 u_719 ⟨by decide, by decide, rfl⟩ ⟨Nat.le_of_ble_eq_true rfl, Nat.le_of_ble_eq_true rfl⟩ ⟨Nat.le_of_ble_eq_true rfl, Nat.le_of_ble_eq_true rfl⟩ (Nat.le_of_ble_eq_true rfl) dL_law_764 ?hp_106 rfl rfl rfl ?_
          case hs_106 => exact ⟨_, FK.c0 hM⟩
          case hp_106 => exact ⟨hM, hR, ok⟩
          rintro v σ sz1 ⟨γ1, hM, hF1, rfl, hR1, rfl⟩
          have hMm := hMm.fr hF1 (by omega)
          refine S_aload_n (q := 768) hX dL_law_767 rfl rfl ?_
          refine S_callV (ci := 12) (C := "FanTalkModel") (T := TX12) (N := 17) (q := 771) 188 5367 hX (c_X12_mayBe (q + 179) μ S) rfl ?hs_107 rfl u_1059 u_1060 u_1061 u_12 u_1062 ⟨by decide, by decide, rfl⟩ ⟨Nat.le_of_ble_eq_true rfl, Nat.le_of_ble_eq_true rfl⟩ ⟨Nat.le_of_ble_eq_true rfl, Nat.le_of_ble_eq_true rfl⟩ (Nat.le_of_ble_eq_true rfl) dL_law_768 ?hp_107 rfl rfl rfl ?_
          case hs_107 => exact MM.isO hMm
          case hp_107 => exact ⟨hMm, hQ, ok⟩
          rintro v σ sz1 ⟨μ1, hMm, hF2, rfl, hQ1, rfl⟩
          have hM := hM.fr hF2 (by omega)
          refine S_icmp_eq (q := 774) 945 hX dL_law_771 rfl rfl (fun c771 => ?_) (fun c771 => absurd rfl c771)
          refine S_iinc (q := 948) [_, _, _, _] hX dL_law_945 rfl (ii_6 _) rfl (Nat.le_of_ble_eq_true rfl) rfl rfl ?_
          refine S_goto 18 hX dL_law_948 rfl ?_
          rw [show (6 : Int32) = nI 6 from rfl, nI_add]
          exact ih (i + 6) _ _ γ1 μ1 _ (by omega) (by omega) hM hMm hR1 hQ1 (ok_mayBe ok)
        · refine S_tableIn (off := 743) 776 hX dL_law_33 (by decide) (by decide) rfl rfl ?_
          refine S_aload_n (q := 777) hX dL_law_776 rfl rfl ?_
          refine S_aload_n (q := 778) hX dL_law_777 rfl rfl ?_
          refine S_iload_n (q := 779) hX dL_law_778 rfl rfl ?_
          refine S_iconst (q := 780) (v := 1) hX dL_law_779 ic_1 rfl ?_
          refine S_iadd (q := 781) hX dL_law_780 rfl ?_
          refine S_scld (q := 782) hX hs dL_law_781 ?hi_108 rfl ?_
          case hi_108 => first | exact vp_in_nI (by omega) (by omega) | (rw [show (1 : Int32) = nI 1 from rfl, nI_add]; exact vp_in_nI (by omega) (by omega)) | (rw [show (2 : Int32) = nI 2 from rfl, nI_add]; exact vp_in_nI (by omega) (by omega)) | (rw [show (3 : Int32) = nI 3 from rfl, nI_add]; exact vp_in_nI (by omega) (by omega)) | (rw [show (4 : Int32) = nI 4 from rfl, nI_add]; exact vp_in_nI (by omega) (by omega)) | (rw [show (5 : Int32) = nI 5 from rfl, nI_add]; exact vp_in_nI (by omega) (by omega))
          refine S_aload_n (q := 783) hX dL_law_782 rfl rfl ?_
          refine S_iload_n (q := 784) hX dL_law_783 rfl rfl ?_
          refine S_iconst (q := 785) (v := 2) hX dL_law_784 ic_2 rfl ?_
          refine S_iadd (q := 786) hX dL_law_785 rfl ?_
          refine S_scld (q := 787) hX hs dL_law_786 ?hi_109 rfl ?_
          case hi_109 => first | exact vp_in_nI (by omega) (by omega) | (rw [show (1 : Int32) = nI 1 from rfl, nI_add]; exact vp_in_nI (by omega) (by omega)) | (rw [show (2 : Int32) = nI 2 from rfl, nI_add]; exact vp_in_nI (by omega) (by omega)) | (rw [show (3 : Int32) = nI 3 from rfl, nI_add]; exact vp_in_nI (by omega) (by omega)) | (rw [show (4 : Int32) = nI 4 from rfl, nI_add]; exact vp_in_nI (by omega) (by omega)) | (rw [show (5 : Int32) = nI 5 from rfl, nI_add]; exact vp_in_nI (by omega) (by omega))
          refine S_aload_n (q := 788) hX dL_law_787 rfl rfl ?_
          refine S_iload_n (q := 789) hX dL_law_788 rfl rfl ?_
          refine S_iconst (q := 790) (v := 3) hX dL_law_789 ic_3 rfl ?_
          refine S_iadd (q := 791) hX dL_law_790 rfl ?_
          refine S_scld (q := 792) hX hs dL_law_791 ?hi_110 rfl ?_
          case hi_110 => first | exact vp_in_nI (by omega) (by omega) | (rw [show (1 : Int32) = nI 1 from rfl, nI_add]; exact vp_in_nI (by omega) (by omega)) | (rw [show (2 : Int32) = nI 2 from rfl, nI_add]; exact vp_in_nI (by omega) (by omega)) | (rw [show (3 : Int32) = nI 3 from rfl, nI_add]; exact vp_in_nI (by omega) (by omega)) | (rw [show (4 : Int32) = nI 4 from rfl, nI_add]; exact vp_in_nI (by omega) (by omega)) | (rw [show (5 : Int32) = nI 5 from rfl, nI_add]; exact vp_in_nI (by omega) (by omega))
          refine S_aload_n (q := 793) hX dL_law_792 rfl rfl ?_
          refine S_iload_n (q := 794) hX dL_law_793 rfl rfl ?_
          refine S_iconst (q := 795) (v := 4) hX dL_law_794 ic_4 rfl ?_
          refine S_iadd (q := 796) hX dL_law_795 rfl ?_
          refine S_scld (q := 797) hX hs dL_law_796 ?hi_111 rfl ?_
          case hi_111 => first | exact vp_in_nI (by omega) (by omega) | (rw [show (1 : Int32) = nI 1 from rfl, nI_add]; exact vp_in_nI (by omega) (by omega)) | (rw [show (2 : Int32) = nI 2 from rfl, nI_add]; exact vp_in_nI (by omega) (by omega)) | (rw [show (3 : Int32) = nI 3 from rfl, nI_add]; exact vp_in_nI (by omega) (by omega)) | (rw [show (4 : Int32) = nI 4 from rfl, nI_add]; exact vp_in_nI (by omega) (by omega)) | (rw [show (5 : Int32) = nI 5 from rfl, nI_add]; exact vp_in_nI (by omega) (by omega))
          refine S_aload_n (q := 798) hX dL_law_797 rfl rfl ?_
          refine S_iload_n (q := 799) hX dL_law_798 rfl rfl ?_
          refine S_iconst (q := 800) (v := 5) hX dL_law_799 ic_5 rfl ?_
          refine S_iadd (q := 801) hX dL_law_800 rfl ?_
          refine S_scld (q := 802) hX hs dL_law_801 ?hi_112 rfl ?_
          case hi_112 => first | exact vp_in_nI (by omega) (by omega) | (rw [show (1 : Int32) = nI 1 from rfl, nI_add]; exact vp_in_nI (by omega) (by omega)) | (rw [show (2 : Int32) = nI 2 from rfl, nI_add]; exact vp_in_nI (by omega) (by omega)) | (rw [show (3 : Int32) = nI 3 from rfl, nI_add]; exact vp_in_nI (by omega) (by omega)) | (rw [show (4 : Int32) = nI 4 from rfl, nI_add]; exact vp_in_nI (by omega) (by omega)) | (rw [show (5 : Int32) = nI 5 from rfl, nI_add]; exact vp_in_nI (by omega) (by omega))
          refine S_callV (ci := 11) (C := "FanTalk") (T := TX11) (N := 11) (q := 805) 188 5367 hX (c_X11_heat q γ S _ _ _ _ _) rfl ?hs_113 rfl u_724 u_725 u_726 u_1 u_727 ⟨by decide, by decide, rfl⟩ ⟨Nat.le_of_ble_eq_true rfl, Nat.le_of_ble_eq_true rfl⟩ ⟨Nat.le_of_ble_eq_true rfl, Nat.le_of_ble_eq_true rfl⟩ (Nat.le_of_ble_eq_true rfl) dL_law_802 ?hp_113 rfl rfl rfl ?_
          case hs_113 => exact ⟨_, FK.c0 hM⟩
          case hp_113 => exact ⟨hM, hR, ok⟩
          rintro v σ sz1 ⟨γ1, hM, hF1, rfl, hR1, rfl⟩
          have hMm := hMm.fr hF1 (by omega)
          refine S_aload_n (q := 806) hX dL_law_805 rfl rfl ?_
          refine S_aload_n (q := 807) hX dL_law_806 rfl rfl ?_
          refine S_iload_n (q := 808) hX dL_law_807 rfl rfl ?_
          refine S_iconst (q := 809) (v := 1) hX dL_law_808 ic_1 rfl ?_
          refine S_iadd (q := 810) hX dL_law_809 rfl ?_
          refine S_scld (q := 811) hX hs dL_law_810 ?hi_114 rfl ?_
          case hi_114 => first | exact vp_in_nI (by omega) (by omega) | (rw [show (1 : Int32) = nI 1 from rfl, nI_add]; exact vp_in_nI (by omega) (by omega)) | (rw [show (2 : Int32) = nI 2 from rfl, nI_add]; exact vp_in_nI (by omega) (by omega)) | (rw [show (3 : Int32) = nI 3 from rfl, nI_add]; exact vp_in_nI (by omega) (by omega)) | (rw [show (4 : Int32) = nI 4 from rfl, nI_add]; exact vp_in_nI (by omega) (by omega)) | (rw [show (5 : Int32) = nI 5 from rfl, nI_add]; exact vp_in_nI (by omega) (by omega))
          refine S_aload_n (q := 812) hX dL_law_811 rfl rfl ?_
          refine S_iload_n (q := 813) hX dL_law_812 rfl rfl ?_
          refine S_iconst (q := 814) (v := 2) hX dL_law_813 ic_2 rfl ?_
          refine S_iadd (q := 815) hX dL_law_814 rfl ?_
          refine S_scld (q := 816) hX hs dL_law_815 ?hi_115 rfl ?_
          case hi_115 => first | exact vp_in_nI (by omega) (by omega) | (rw [show (1 : Int32) = nI 1 from rfl, nI_add]; exact vp_in_nI (by omega) (by omega)) | (rw [show (2 : Int32) = nI 2 from rfl, nI_add]; exact vp_in_nI (by omega) (by omega)) | (rw [show (3 : Int32) = nI 3 from rfl, nI_add]; exact vp_in_nI (by omega) (by omega)) | (rw [show (4 : Int32) = nI 4 from rfl, nI_add]; exact vp_in_nI (by omega) (by omega)) | (rw [show (5 : Int32) = nI 5 from rfl, nI_add]; exact vp_in_nI (by omega) (by omega))
          refine S_aload_n (q := 817) hX dL_law_816 rfl rfl ?_
          refine S_iload_n (q := 818) hX dL_law_817 rfl rfl ?_
          refine S_iconst (q := 819) (v := 3) hX dL_law_818 ic_3 rfl ?_
          refine S_iadd (q := 820) hX dL_law_819 rfl ?_
          refine S_scld (q := 821) hX hs dL_law_820 ?hi_116 rfl ?_
          case hi_116 => first | exact vp_in_nI (by omega) (by omega) | (rw [show (1 : Int32) = nI 1 from rfl, nI_add]; exact vp_in_nI (by omega) (by omega)) | (rw [show (2 : Int32) = nI 2 from rfl, nI_add]; exact vp_in_nI (by omega) (by omega)) | (rw [show (3 : Int32) = nI 3 from rfl, nI_add]; exact vp_in_nI (by omega) (by omega)) | (rw [show (4 : Int32) = nI 4 from rfl, nI_add]; exact vp_in_nI (by omega) (by omega)) | (rw [show (5 : Int32) = nI 5 from rfl, nI_add]; exact vp_in_nI (by omega) (by omega))
          refine S_aload_n (q := 822) hX dL_law_821 rfl rfl ?_
          refine S_iload_n (q := 823) hX dL_law_822 rfl rfl ?_
          refine S_iconst (q := 824) (v := 4) hX dL_law_823 ic_4 rfl ?_
          refine S_iadd (q := 825) hX dL_law_824 rfl ?_
          refine S_scld (q := 826) hX hs dL_law_825 ?hi_117 rfl ?_
          case hi_117 => first | exact vp_in_nI (by omega) (by omega) | (rw [show (1 : Int32) = nI 1 from rfl, nI_add]; exact vp_in_nI (by omega) (by omega)) | (rw [show (2 : Int32) = nI 2 from rfl, nI_add]; exact vp_in_nI (by omega) (by omega)) | (rw [show (3 : Int32) = nI 3 from rfl, nI_add]; exact vp_in_nI (by omega) (by omega)) | (rw [show (4 : Int32) = nI 4 from rfl, nI_add]; exact vp_in_nI (by omega) (by omega)) | (rw [show (5 : Int32) = nI 5 from rfl, nI_add]; exact vp_in_nI (by omega) (by omega))
          refine S_aload_n (q := 827) hX dL_law_826 rfl rfl ?_
          refine S_iload_n (q := 828) hX dL_law_827 rfl rfl ?_
          refine S_iconst (q := 829) (v := 5) hX dL_law_828 ic_5 rfl ?_
          refine S_iadd (q := 830) hX dL_law_829 rfl ?_
          refine S_scld (q := 831) hX hs dL_law_830 ?hi_118 rfl ?_
          case hi_118 => first | exact vp_in_nI (by omega) (by omega) | (rw [show (1 : Int32) = nI 1 from rfl, nI_add]; exact vp_in_nI (by omega) (by omega)) | (rw [show (2 : Int32) = nI 2 from rfl, nI_add]; exact vp_in_nI (by omega) (by omega)) | (rw [show (3 : Int32) = nI 3 from rfl, nI_add]; exact vp_in_nI (by omega) (by omega)) | (rw [show (4 : Int32) = nI 4 from rfl, nI_add]; exact vp_in_nI (by omega) (by omega)) | (rw [show (5 : Int32) = nI 5 from rfl, nI_add]; exact vp_in_nI (by omega) (by omega))
          refine S_callV (ci := 12) (C := "FanTalkModel") (T := TX12) (N := 17) (q := 834) 188 5367 hX (c_X12_heat (q + 179) μ S _ _ _ _ _) rfl ?hs_119 rfl u_1063 u_1064 u_1065 u_12 u_1066 ⟨by decide, by decide, rfl⟩ ⟨Nat.le_of_ble_eq_true rfl, Nat.le_of_ble_eq_true rfl⟩ ⟨Nat.le_of_ble_eq_true rfl, Nat.le_of_ble_eq_true rfl⟩ (Nat.le_of_ble_eq_true rfl) dL_law_831 ?hp_119 rfl rfl rfl ?_
          case hs_119 => exact MM.isO hMm
          case hp_119 => exact ⟨hMm, hQ, ok⟩
          rintro v σ sz1 ⟨μ1, hMm, hF2, rfl, hQ1, rfl⟩
          have hM := hM.fr hF2 (by omega)
          refine S_icmp_eq (q := 837) 945 hX dL_law_834 rfl rfl (fun c834 => ?_) (fun c834 => absurd rfl c834)
          refine S_iinc (q := 948) [_, _, _, _] hX dL_law_945 rfl (ii_6 _) rfl (Nat.le_of_ble_eq_true rfl) rfl rfl ?_
          refine S_goto 18 hX dL_law_948 rfl ?_
          rw [show (6 : Int32) = nI 6 from rfl, nI_add]
          exact ih (i + 6) _ _ γ1 μ1 _ (by omega) (by omega) hM hMm hR1 hQ1 (ok_heat ok)
        · refine S_tableIn (off := 806) 839 hX dL_law_33 (by decide) (by decide) rfl rfl ?_
          refine S_aload_n (q := 840) hX dL_law_839 rfl rfl ?_
          refine S_aload_n (q := 841) hX dL_law_840 rfl rfl ?_
          refine S_iload_n (q := 842) hX dL_law_841 rfl rfl ?_
          refine S_iconst (q := 843) (v := 1) hX dL_law_842 ic_1 rfl ?_
          refine S_iadd (q := 844) hX dL_law_843 rfl ?_
          refine S_scld (q := 845) hX hs dL_law_844 ?hi_120 rfl ?_
          case hi_120 => first | exact vp_in_nI (by omega) (by omega) | (rw [show (1 : Int32) = nI 1 from rfl, nI_add]; exact vp_in_nI (by omega) (by omega)) | (rw [show (2 : Int32) = nI 2 from rfl, nI_add]; exact vp_in_nI (by omega) (by omega)) | (rw [show (3 : Int32) = nI 3 from rfl, nI_add]; exact vp_in_nI (by omega) (by omega)) | (rw [show (4 : Int32) = nI 4 from rfl, nI_add]; exact vp_in_nI (by omega) (by omega)) | (rw [show (5 : Int32) = nI 5 from rfl, nI_add]; exact vp_in_nI (by omega) (by omega))
          refine S_callV (ci := 11) (C := "FanTalk") (T := TX11) (N := 11) (q := 848) 188 5367 hX (c_X11_image q γ S _) rfl ?hs_121 rfl u_734 u_735 u_736 u_1 u_737 ⟨by decide, by decide, rfl⟩ ⟨Nat.le_of_ble_eq_true rfl, Nat.le_of_ble_eq_true rfl⟩ ⟨Nat.le_of_ble_eq_true rfl, Nat.le_of_ble_eq_true rfl⟩ (Nat.le_of_ble_eq_true rfl) dL_law_845 ?hp_121 rfl rfl rfl ?_
          case hs_121 => exact ⟨_, FK.c0 hM⟩
          case hp_121 => exact ⟨hM, hR, ok⟩
          rintro v σ sz1 ⟨γ1, hM, hF1, rfl, hR1, rfl⟩
          have hMm := hMm.fr hF1 (by omega)
          refine S_aload_n (q := 849) hX dL_law_848 rfl rfl ?_
          refine S_aload_n (q := 850) hX dL_law_849 rfl rfl ?_
          refine S_iload_n (q := 851) hX dL_law_850 rfl rfl ?_
          refine S_iconst (q := 852) (v := 1) hX dL_law_851 ic_1 rfl ?_
          refine S_iadd (q := 853) hX dL_law_852 rfl ?_
          refine S_scld (q := 854) hX hs dL_law_853 ?hi_122 rfl ?_
          case hi_122 => first | exact vp_in_nI (by omega) (by omega) | (rw [show (1 : Int32) = nI 1 from rfl, nI_add]; exact vp_in_nI (by omega) (by omega)) | (rw [show (2 : Int32) = nI 2 from rfl, nI_add]; exact vp_in_nI (by omega) (by omega)) | (rw [show (3 : Int32) = nI 3 from rfl, nI_add]; exact vp_in_nI (by omega) (by omega)) | (rw [show (4 : Int32) = nI 4 from rfl, nI_add]; exact vp_in_nI (by omega) (by omega)) | (rw [show (5 : Int32) = nI 5 from rfl, nI_add]; exact vp_in_nI (by omega) (by omega))
          refine S_callV (ci := 12) (C := "FanTalkModel") (T := TX12) (N := 17) (q := 857) 188 5367 hX (c_X12_image (q + 179) μ S _) rfl ?hs_123 rfl u_1073 u_1074 u_1075 u_12 u_1076 ⟨by decide, by decide, rfl⟩ ⟨Nat.le_of_ble_eq_true rfl, Nat.le_of_ble_eq_true rfl⟩ ⟨Nat.le_of_ble_eq_true rfl, Nat.le_of_ble_eq_true rfl⟩ (Nat.le_of_ble_eq_true rfl) dL_law_854 ?hp_123 rfl rfl rfl ?_
          case hs_123 => exact MM.isO hMm
          case hp_123 => exact ⟨hMm, hQ, ok⟩
          rintro v σ sz1 ⟨μ1, hMm, hF2, rfl, hQ1, rfl⟩
          have hM := hM.fr hF2 (by omega)
          refine S_icmp_eq (q := 860) 945 hX dL_law_857 rfl rfl (fun c857 => ?_) (fun c857 => absurd rfl c857)
          refine S_iinc (q := 948) [_, _, _, _] hX dL_law_945 rfl (ii_6 _) rfl (Nat.le_of_ble_eq_true rfl) rfl rfl ?_
          refine S_goto 18 hX dL_law_948 rfl ?_
          rw [show (6 : Int32) = nI 6 from rfl, nI_add]
          exact ih (i + 6) _ _ γ1 μ1 _ (by omega) (by omega) hM hMm hR1 hQ1 (ok_image ok)
        · refine S_tableIn (off := 829) 862 hX dL_law_33 (by decide) (by decide) rfl rfl ?_
          refine S_aload_n (q := 863) hX dL_law_862 rfl rfl ?_
          refine S_aload_n (q := 864) hX dL_law_863 rfl rfl ?_
          refine S_iload_n (q := 865) hX dL_law_864 rfl rfl ?_
          refine S_iconst (q := 866) (v := 1) hX dL_law_865 ic_1 rfl ?_
          refine S_iadd (q := 867) hX dL_law_866 rfl ?_
          refine S_scld (q := 868) hX hs dL_law_867 ?hi_124 rfl ?_
          case hi_124 => first | exact vp_in_nI (by omega) (by omega) | (rw [show (1 : Int32) = nI 1 from rfl, nI_add]; exact vp_in_nI (by omega) (by omega)) | (rw [show (2 : Int32) = nI 2 from rfl, nI_add]; exact vp_in_nI (by omega) (by omega)) | (rw [show (3 : Int32) = nI 3 from rfl, nI_add]; exact vp_in_nI (by omega) (by omega)) | (rw [show (4 : Int32) = nI 4 from rfl, nI_add]; exact vp_in_nI (by omega) (by omega)) | (rw [show (5 : Int32) = nI 5 from rfl, nI_add]; exact vp_in_nI (by omega) (by omega))
          refine S_callV (ci := 11) (C := "FanTalk") (T := TX11) (N := 11) (q := 871) 188 5367 hX (c_X11_from q γ S _) rfl ?hs_125 rfl u_748 u_749 u_750 u_1 u_751 ⟨by decide, by decide, rfl⟩ ⟨Nat.le_of_ble_eq_true rfl, Nat.le_of_ble_eq_true rfl⟩ ⟨Nat.le_of_ble_eq_true rfl, Nat.le_of_ble_eq_true rfl⟩ (Nat.le_of_ble_eq_true rfl) dL_law_868 ?hp_125 rfl rfl rfl ?_
          case hs_125 => exact ⟨_, FK.c0 hM⟩
          case hp_125 => exact ⟨hM, hR, ok⟩
          rintro v σ sz1 ⟨γ1, hM, hF1, rfl, hR1, rfl⟩
          have hMm := hMm.fr hF1 (by omega)
          refine S_aload_n (q := 872) hX dL_law_871 rfl rfl ?_
          refine S_aload_n (q := 873) hX dL_law_872 rfl rfl ?_
          refine S_iload_n (q := 874) hX dL_law_873 rfl rfl ?_
          refine S_iconst (q := 875) (v := 1) hX dL_law_874 ic_1 rfl ?_
          refine S_iadd (q := 876) hX dL_law_875 rfl ?_
          refine S_scld (q := 877) hX hs dL_law_876 ?hi_126 rfl ?_
          case hi_126 => first | exact vp_in_nI (by omega) (by omega) | (rw [show (1 : Int32) = nI 1 from rfl, nI_add]; exact vp_in_nI (by omega) (by omega)) | (rw [show (2 : Int32) = nI 2 from rfl, nI_add]; exact vp_in_nI (by omega) (by omega)) | (rw [show (3 : Int32) = nI 3 from rfl, nI_add]; exact vp_in_nI (by omega) (by omega)) | (rw [show (4 : Int32) = nI 4 from rfl, nI_add]; exact vp_in_nI (by omega) (by omega)) | (rw [show (5 : Int32) = nI 5 from rfl, nI_add]; exact vp_in_nI (by omega) (by omega))
          refine S_callV (ci := 12) (C := "FanTalkModel") (T := TX12) (N := 17) (q := 880) 188 5367 hX (c_X12_from (q + 179) μ S _) rfl ?hs_127 rfl u_1077 u_1078 u_1079 u_12 u_1080 ⟨by decide, by decide, rfl⟩ ⟨Nat.le_of_ble_eq_true rfl, Nat.le_of_ble_eq_true rfl⟩ ⟨Nat.le_of_ble_eq_true rfl, Nat.le_of_ble_eq_true rfl⟩ (Nat.le_of_ble_eq_true rfl) dL_law_877 ?hp_127 rfl rfl rfl ?_
          case hs_127 => exact MM.isO hMm
          case hp_127 => exact ⟨hMm, hQ, ok⟩
          rintro v σ sz1 ⟨μ1, hMm, hF2, rfl, hQ1, rfl⟩
          have hM := hM.fr hF2 (by omega)
          refine S_icmp_eq (q := 883) 945 hX dL_law_880 rfl rfl (fun c880 => ?_) (fun c880 => absurd rfl c880)
          refine S_iinc (q := 948) [_, _, _, _] hX dL_law_945 rfl (ii_6 _) rfl (Nat.le_of_ble_eq_true rfl) rfl rfl ?_
          refine S_goto 18 hX dL_law_948 rfl ?_
          rw [show (6 : Int32) = nI 6 from rfl, nI_add]
          exact ih (i + 6) _ _ γ1 μ1 _ (by omega) (by omega) hM hMm hR1 hQ1 (ok_from ok)
        · refine S_tableIn (off := 852) 885 hX dL_law_33 (by decide) (by decide) rfl rfl ?_
          refine S_aload_n (q := 886) hX dL_law_885 rfl rfl ?_
          refine S_aload_n (q := 887) hX dL_law_886 rfl rfl ?_
          refine S_iload_n (q := 888) hX dL_law_887 rfl rfl ?_
          refine S_iconst (q := 889) (v := 1) hX dL_law_888 ic_1 rfl ?_
          refine S_iadd (q := 890) hX dL_law_889 rfl ?_
          refine S_scld (q := 891) hX hs dL_law_890 ?hi_128 rfl ?_
          case hi_128 => first | exact vp_in_nI (by omega) (by omega) | (rw [show (1 : Int32) = nI 1 from rfl, nI_add]; exact vp_in_nI (by omega) (by omega)) | (rw [show (2 : Int32) = nI 2 from rfl, nI_add]; exact vp_in_nI (by omega) (by omega)) | (rw [show (3 : Int32) = nI 3 from rfl, nI_add]; exact vp_in_nI (by omega) (by omega)) | (rw [show (4 : Int32) = nI 4 from rfl, nI_add]; exact vp_in_nI (by omega) (by omega)) | (rw [show (5 : Int32) = nI 5 from rfl, nI_add]; exact vp_in_nI (by omega) (by omega))
          refine S_callV (ci := 11) (C := "FanTalk") (T := TX11) (N := 11) (q := 894) 188 5367 hX (c_X11_status q γ S _) rfl ?hs_129 rfl u_752 u_753 u_754 u_1 u_755 ⟨by decide, by decide, rfl⟩ ⟨Nat.le_of_ble_eq_true rfl, Nat.le_of_ble_eq_true rfl⟩ ⟨Nat.le_of_ble_eq_true rfl, Nat.le_of_ble_eq_true rfl⟩ (Nat.le_of_ble_eq_true rfl) dL_law_891 ?hp_129 rfl rfl rfl ?_
          case hs_129 => exact ⟨_, FK.c0 hM⟩
          case hp_129 => exact ⟨hM, hR, ok⟩
          rintro v σ sz1 ⟨γ1, hM, hF1, rfl, hR1, rfl⟩
          have hMm := hMm.fr hF1 (by omega)
          refine S_aload_n (q := 895) hX dL_law_894 rfl rfl ?_
          refine S_aload_n (q := 896) hX dL_law_895 rfl rfl ?_
          refine S_iload_n (q := 897) hX dL_law_896 rfl rfl ?_
          refine S_iconst (q := 898) (v := 1) hX dL_law_897 ic_1 rfl ?_
          refine S_iadd (q := 899) hX dL_law_898 rfl ?_
          refine S_scld (q := 900) hX hs dL_law_899 ?hi_130 rfl ?_
          case hi_130 => first | exact vp_in_nI (by omega) (by omega) | (rw [show (1 : Int32) = nI 1 from rfl, nI_add]; exact vp_in_nI (by omega) (by omega)) | (rw [show (2 : Int32) = nI 2 from rfl, nI_add]; exact vp_in_nI (by omega) (by omega)) | (rw [show (3 : Int32) = nI 3 from rfl, nI_add]; exact vp_in_nI (by omega) (by omega)) | (rw [show (4 : Int32) = nI 4 from rfl, nI_add]; exact vp_in_nI (by omega) (by omega)) | (rw [show (5 : Int32) = nI 5 from rfl, nI_add]; exact vp_in_nI (by omega) (by omega))
          refine S_callV (ci := 12) (C := "FanTalkModel") (T := TX12) (N := 17) (q := 903) 188 5367 hX (c_X12_status (q + 179) μ S _) rfl ?hs_131 rfl u_1081 u_1082 u_1083 u_12 u_1084 ⟨by decide, by decide, rfl⟩ ⟨Nat.le_of_ble_eq_true rfl, Nat.le_of_ble_eq_true rfl⟩ ⟨Nat.le_of_ble_eq_true rfl, Nat.le_of_ble_eq_true rfl⟩ (Nat.le_of_ble_eq_true rfl) dL_law_900 ?hp_131 rfl rfl rfl ?_
          case hs_131 => exact MM.isO hMm
          case hp_131 => exact ⟨hMm, hQ, ok⟩
          rintro v σ sz1 ⟨μ1, hMm, hF2, rfl, hQ1, rfl⟩
          have hM := hM.fr hF2 (by omega)
          refine S_icmp_eq (q := 906) 945 hX dL_law_903 rfl rfl (fun c903 => ?_) (fun c903 => absurd rfl c903)
          refine S_iinc (q := 948) [_, _, _, _] hX dL_law_945 rfl (ii_6 _) rfl (Nat.le_of_ble_eq_true rfl) rfl rfl ?_
          refine S_goto 18 hX dL_law_948 rfl ?_
          rw [show (6 : Int32) = nI 6 from rfl, nI_add]
          exact ih (i + 6) _ _ γ1 μ1 _ (by omega) (by omega) hM hMm hR1 hQ1 (ok_status ok)
        · refine S_tableIn (off := 875) 908 hX dL_law_33 (by decide) (by decide) rfl rfl ?_
          refine S_aload_n (q := 909) hX dL_law_908 rfl rfl ?_
          refine S_aload_n (q := 910) hX dL_law_909 rfl rfl ?_
          refine S_iload_n (q := 911) hX dL_law_910 rfl rfl ?_
          refine S_iconst (q := 912) (v := 1) hX dL_law_911 ic_1 rfl ?_
          refine S_iadd (q := 913) hX dL_law_912 rfl ?_
          refine S_scld (q := 914) hX hs dL_law_913 ?hi_132 rfl ?_
          case hi_132 => first | exact vp_in_nI (by omega) (by omega) | (rw [show (1 : Int32) = nI 1 from rfl, nI_add]; exact vp_in_nI (by omega) (by omega)) | (rw [show (2 : Int32) = nI 2 from rfl, nI_add]; exact vp_in_nI (by omega) (by omega)) | (rw [show (3 : Int32) = nI 3 from rfl, nI_add]; exact vp_in_nI (by omega) (by omega)) | (rw [show (4 : Int32) = nI 4 from rfl, nI_add]; exact vp_in_nI (by omega) (by omega)) | (rw [show (5 : Int32) = nI 5 from rfl, nI_add]; exact vp_in_nI (by omega) (by omega))
          refine S_callV (ci := 11) (C := "FanTalk") (T := TX11) (N := 11) (q := 917) 188 5367 hX (c_X11_count q γ S _) rfl ?hs_133 rfl u_756 u_757 u_758 u_1 u_759 ⟨by decide, by decide, rfl⟩ ⟨Nat.le_of_ble_eq_true rfl, Nat.le_of_ble_eq_true rfl⟩ ⟨Nat.le_of_ble_eq_true rfl, Nat.le_of_ble_eq_true rfl⟩ (Nat.le_of_ble_eq_true rfl) dL_law_914 ?hp_133 rfl rfl rfl ?_
          case hs_133 => exact ⟨_, FK.c0 hM⟩
          case hp_133 => exact ⟨hM, hR, ok⟩
          rintro v σ sz1 ⟨γ1, hM, hF1, rfl, hR1, rfl⟩
          have hMm := hMm.fr hF1 (by omega)
          refine S_aload_n (q := 918) hX dL_law_917 rfl rfl ?_
          refine S_aload_n (q := 919) hX dL_law_918 rfl rfl ?_
          refine S_iload_n (q := 920) hX dL_law_919 rfl rfl ?_
          refine S_iconst (q := 921) (v := 1) hX dL_law_920 ic_1 rfl ?_
          refine S_iadd (q := 922) hX dL_law_921 rfl ?_
          refine S_scld (q := 923) hX hs dL_law_922 ?hi_134 rfl ?_
          case hi_134 => first | exact vp_in_nI (by omega) (by omega) | (rw [show (1 : Int32) = nI 1 from rfl, nI_add]; exact vp_in_nI (by omega) (by omega)) | (rw [show (2 : Int32) = nI 2 from rfl, nI_add]; exact vp_in_nI (by omega) (by omega)) | (rw [show (3 : Int32) = nI 3 from rfl, nI_add]; exact vp_in_nI (by omega) (by omega)) | (rw [show (4 : Int32) = nI 4 from rfl, nI_add]; exact vp_in_nI (by omega) (by omega)) | (rw [show (5 : Int32) = nI 5 from rfl, nI_add]; exact vp_in_nI (by omega) (by omega))
          refine S_callV (ci := 12) (C := "FanTalkModel") (T := TX12) (N := 17) (q := 926) 188 5367 hX (c_X12_count (q + 179) μ S _) rfl ?hs_135 rfl u_1085 u_1086 u_1087 u_12 u_1088 ⟨by decide, by decide, rfl⟩ ⟨Nat.le_of_ble_eq_true rfl, Nat.le_of_ble_eq_true rfl⟩ ⟨Nat.le_of_ble_eq_true rfl, Nat.le_of_ble_eq_true rfl⟩ (Nat.le_of_ble_eq_true rfl) dL_law_923 ?hp_135 rfl rfl rfl ?_
          case hs_135 => exact MM.isO hMm
          case hp_135 => exact ⟨hMm, hQ, ok⟩
          rintro v σ sz1 ⟨μ1, hMm, hF2, rfl, hQ1, rfl⟩
          have hM := hM.fr hF2 (by omega)
          refine S_icmp_eq (q := 929) 945 hX dL_law_926 rfl rfl (fun c926 => ?_) (fun c926 => absurd rfl c926)
          refine S_iinc (q := 948) [_, _, _, _] hX dL_law_945 rfl (ii_6 _) rfl (Nat.le_of_ble_eq_true rfl) rfl rfl ?_
          refine S_goto 18 hX dL_law_948 rfl ?_
          rw [show (6 : Int32) = nI 6 from rfl, nI_add]
          exact ih (i + 6) _ _ γ1 μ1 _ (by omega) (by omega) hM hMm hR1 hQ1 (ok_count ok)
        · refine S_tableIn (off := 898) 931 hX dL_law_33 (by decide) (by decide) rfl rfl ?_
          refine S_aload_n (q := 932) hX dL_law_931 rfl rfl ?_
          refine S_callV (ci := 11) (C := "FanTalk") (T := TX11) (N := 11) (q := 935) 188 5367 hX (c_X11_digest q γ S) rfl ?hs_136 rfl u_765 u_766 u_767 u_1 u_768 ⟨by decide, by decide, rfl⟩ ⟨Nat.le_of_ble_eq_true rfl, Nat.le_of_ble_eq_true rfl⟩ ⟨Nat.le_of_ble_eq_true rfl, Nat.le_of_ble_eq_true rfl⟩ (Nat.le_of_ble_eq_true rfl) dL_law_932 ?hp_136 rfl rfl rfl ?_
          case hs_136 => exact ⟨_, FK.c0 hM⟩
          case hp_136 => exact ⟨hM, hR, ok⟩
          rintro v σ sz1 ⟨γ1, hM, hF1, rfl, hR1, rfl⟩
          have hMm := hMm.fr hF1 (by omega)
          refine S_aload_n (q := 936) hX dL_law_935 rfl rfl ?_
          refine S_callV (ci := 12) (C := "FanTalkModel") (T := TX12) (N := 17) (q := 939) 188 5367 hX (c_X12_digest (q + 179) μ S) rfl ?hs_137 rfl u_1097 u_1098 u_1099 u_12 u_1100 ⟨by decide, by decide, rfl⟩ ⟨Nat.le_of_ble_eq_true rfl, Nat.le_of_ble_eq_true rfl⟩ ⟨Nat.le_of_ble_eq_true rfl, Nat.le_of_ble_eq_true rfl⟩ (Nat.le_of_ble_eq_true rfl) dL_law_936 ?hp_137 rfl rfl rfl ?_
          case hs_137 => exact MM.isO hMm
          case hp_137 => exact ⟨hMm, hQ, ok⟩
          rintro v σ sz1 ⟨μ1, hMm, hF2, rfl, hQ1, rfl⟩
          have hM := hM.fr hF2 (by omega)
          refine S_lcmp (q := 940) hX dL_law_939 rfl ?_
          refine S_if_eq (q := 943) 945 hX dL_law_940 rfl rfl (fun c940 => ?_) (fun c940 => absurd (lg_same _) c940)
          refine S_iinc (q := 948) [_, _, _, _] hX dL_law_945 rfl (ii_6 _) rfl (Nat.le_of_ble_eq_true rfl) rfl rfl ?_
          refine S_goto 18 hX dL_law_948 rfl ?_
          rw [show (6 : Int32) = nI 6 from rfl, nI_add]
          exact ih (i + 6) _ _ γ1 μ1 _ (by omega) (by omega) hM hMm hR1 hQ1 (ok_digest ok)
        · refine S_tableOut 945 hX dL_law_33 (Or.inr (by decide)) rfl ?_
          refine S_iinc (q := 948) [_, _, _, _] hX dL_law_945 rfl (ii_6 _) rfl (Nat.le_of_ble_eq_true rfl) rfl rfl ?_
          refine S_goto 18 hX dL_law_948 rfl ?_
          rw [show (6 : Int32) = nI 6 from rfl, nI_add]
          exact ih (i + 6) _ _ γ μ S (by omega) (by omega) hM hMm hR hQ ok
        · refine S_tableOut 945 hX dL_law_33 (Or.inr (by decide)) rfl ?_
          refine S_iinc (q := 948) [_, _, _, _] hX dL_law_945 rfl (ii_6 _) rfl (Nat.le_of_ble_eq_true rfl) rfl rfl ?_
          refine S_goto 18 hX dL_law_948 rfl ?_
          rw [show (6 : Int32) = nI 6 from rfl, nI_add]
          exact ih (i + 6) _ _ γ μ S (by omega) (by omega) hM hMm hR hQ ok
        · refine S_tableOut 945 hX dL_law_33 (Or.inr (by decide)) rfl ?_
          refine S_iinc (q := 948) [_, _, _, _] hX dL_law_945 rfl (ii_6 _) rfl (Nat.le_of_ble_eq_true rfl) rfl rfl ?_
          refine S_goto 18 hX dL_law_948 rfl ?_
          rw [show (6 : Int32) = nI 6 from rfl, nI_add]
          exact ih (i + 6) _ _ γ μ S (by omega) (by omega) hM hMm hR hQ ok
        · refine S_tableOut 945 hX dL_law_33 (Or.inr (by decide)) rfl ?_
          refine S_iinc (q := 948) [_, _, _, _] hX dL_law_945 rfl (ii_6 _) rfl (Nat.le_of_ble_eq_true rfl) rfl rfl ?_
          refine S_goto 18 hX dL_law_948 rfl ?_
          rw [show (6 : Int32) = nI 6 from rfl, nI_add]
          exact ih (i + 6) _ _ γ μ S (by omega) (by omega) hM hMm hR hQ ok
