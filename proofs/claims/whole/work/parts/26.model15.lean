/-! the reference: digest -/
abbrev dg1 (S : ST) : Nat → Int64 := fun k => (nI (cntS S k)).toInt64
abbrev dg3 (S : ST) : Nat → Int64 := fun k => (nI (S.1.1.2.2 k)).toInt64
abbrev dg4 (S : ST) : Nat → Int64 := fun k => (nI (stN S.1.2.2.2.1 (ln S.1.2.2.2.1) k)).toInt64
abbrev dg5 (S : ST) : Nat → Int64 := fun k => (nI (S.1.2.2.2.2.1.2 k)).toInt64
abbrev dgP (f : Nat → Nat × Nat) (k : Nat) : Nat := if k % 2 = 0 then (f (k / 2)).1 else (f (k / 2)).2
abbrev dg6 (S : ST) : Nat → Int64 := fun k => (nI (dgP S.1.2.2.2.2.2.2 k)).toInt64
theorem sp_dg (S : ST) : (sp_digest S).1 = dgF (dg6 S) (2 * S.1.2.2.2.2.2.1) (dgF (dg5 S) S.1.2.2.2.2.1.1 (dgF (dg4 S) (ln S.1.2.2.2.1) (dgF (dg3 S) 10 (dgC S.1.1.2.1 S.1.1.1 (dgF (dg1 S) 8 811))))) := rfl
theorem dgP_at {f : Nat → Nat × Nat} {g : Nat → Int32} {o n : Nat} (h : ∀ k, k < n → g (o + 2 * k) = nI (f k).1 ∧ g (o + 2 * k + 1) = nI (f k).2) {k : Nat} (hk : k < 2 * n) : g (o + k) = nI (dgP f k) := by
  unfold dgP
  by_cases hp : k % 2 = 0
  · rw [if_pos hp, ← (h (k / 2) (by omega)).1]
    congr 1
    omega
  · rw [if_neg hp, ← (h (k / 2) (by omega)).2]
    congr 1
    omega
theorem dgF_s (F : Nat → Int64) (k : Nat) (h : Int64) {x : Int64} (e : x = F k) : 31 * dgF F k h + x = dgF F (k + 1) h := by rw [e]; rfl
/-- one code's numbers: how many entries, then rows and words -/
abbrev dgE (C : CodT) : Nat → Int64 := fun j => (nI (if j = 0 then C.1 else dgP C.2 (j - 1))).toInt64
theorem dgE_all (f : Nat → CodT) (c : Nat) (h : Int64) : dgF (dgE (f c)) (1 + 2 * (f c).1) (dgC f c h) = dgC f (c + 1) h := by
  rw [show 1 + 2 * (f c).1 = 2 * (f c).1 + 1 by omega, dgF_succ]
  rfl

theorem c_X12_digest (m : Nat) (μ : MF) (S : ST) : CT_X12_digest [.ref m] (fun Γ σ sz => MM σ m μ ∧ MR μ S ∧ StOk S) (fun Γ σ sz v σ' sz' => ∃ μ', MM σ' m μ' ∧ Fr m (m + 9) σ σ' ∧ v = some (.long (sp_digest S).1) ∧ MR μ' (sp_digest S).2 ∧ sz' = sz) := by
  refine CT.mkP rfl (Nat.le_of_ble_eq_true rfl) [_, _, _, _, _] rfl ?_
  intro X Γ σ sz P hX hpre hsz hP
  obtain ⟨hM, hR, ok⟩ := hpre
  have hF : Fr m (m + 9) σ σ := Fr.rf
  have h0 := hR.1
  have hC0 := hR.2.1.1
  obtain ⟨q0, q1, q2, q3, q4, q5, q6, q7, q8, q9⟩ := id hR.2.1
  obtain ⟨o1, o2, o3, o4, o5, o6, o7, o8, o9, o10⟩ := id ok.1
  obtain ⟨σ0, eσ0⟩ : ∃ z, z = σ := ⟨σ, rfl⟩
  rw [← eσ0] at hP
  have hF : Fr m (m + 9) σ0 σ := by rw [eσ0]; exact Fr.rf
  obtain ⟨μ0, eμ0⟩ : ∃ z, z = μ := ⟨μ, rfl⟩
  have hs : scr μ0 μ := by rw [eμ0]; exact scr.rf
  have hR0 := hR
  rw [← eμ0] at hR0
  have hsy := sy_lt ok
  have hl6 := ln_6 S.1.2.2.2.1
  have l197 : ∀ (H : Int64), dgF (dg6 S) (2 * S.1.2.2.2.2.2.1) H = (sp_digest S).1 → ∀ (fl : Nat) (k : Nat) (x1 : Int64) (x3 : Int32) (x4 : Option Value) (σ : Sg) (μ : MF), x1 = dgF (dg6 S) k H → x3 = nI k → k ≤ 2 * S.1.2.2.2.2.2.1 → scr μ0 μ → MM σ m μ → Fr m (m + 9) σ0 σ → 2 * S.1.2.2.2.2.2.1 - k < fl → G X Γ P 0 0 197 [some (.ref m), some (.long x1), none, some (.int x3), x4] [] σ sz := by
    intro H hH fl
    induction fl with
      | zero => intro k _ _ _ σ μ _ _ _ _ _ _ hfu; exact absurd hfu (Nat.not_lt_zero _)
      | succ fl ih =>
        rintro k _ _ x4 σ μ rfl rfl hk hs hM hF hfu
        have hRm := hR0.scr hs
        have h0 := hRm.1
        refine S_iload_n (q := 198) hX dX12_digest_197 rfl rfl ?_
        refine S_iconst (q := 199) (v := 2) hX dX12_digest_198 ic_2 rfl ?_
        refine S_aload_n (q := 200) hX dX12_digest_199 rfl rfl ?_
        refine S_iconst (q := 201) (v := 4) hX dX12_digest_200 ic_4 rfl ?_
        refine S_callV (ci := 12) (C := "FanTalkModel") (T := TX12) (N := 17) (q := 204) 0 0 hX (c_X12_get _ μ _ 0 (4) (by first | rfl | (simp only [i0, i1, i2, i3, i4, i5, i6, i7, i8, i9, i10, i11, i12, i17, i20, i24, i26, i27, i31, i32, i36, i48, i57, i59, i60, i61, i63, i64, i87, i96, i97, i99, i122, i148, i250, i255, i305, i453, i999, i1359, i1812, pk_mul, nI_add]; done) | (simp only [i0, i1, i2, i3, i4, i5, i6, i7, i8, i9, i10, i11, i12, i17, i20, i24, i26, i27, i31, i32, i36, i48, i57, i59, i60, i61, i63, i64, i87, i96, i97, i99, i122, i148, i250, i255, i305, i453, i999, i1359, i1812, pk_mul, nI_add]; congr 1; omega))) rfl ?hs_1 rfl u_838 u_840 us_26 u_12 u_841 ⟨by decide, by decide, rfl⟩ ⟨Nat.le_of_ble_eq_true rfl, Nat.le_of_ble_eq_true rfl⟩ ⟨Nat.le_of_ble_eq_true rfl, Nat.le_of_ble_eq_true rfl⟩ (Nat.le_of_ble_eq_true rfl) dX12_digest_201 ?hp_1 rfl rfl rfl ?_
        case hs_1 => first | with_reducible assumption | exact ⟨_, by with_reducible assumption⟩ | exact MM.isO hM
        case hp_1 => exact ⟨hM, h0, by omega⟩
        rintro v σ1 sz1 ⟨rfl, rfl, rfl⟩
        rw [show μ 1 (0 + 4) = nI S.1.2.2.2.2.2.1 from hRm.2.1.2.2.2.2.1]
        refine S_imul (q := 205) hX dX12_digest_204 rfl ?_
        refine S_top (y := nI (2 * S.1.2.2.2.2.2.1)) (by first | rfl | (simp only [i0, i1, i2, i3, i4, i5, i6, i7, i8, i9, i10, i11, i12, i17, i20, i24, i26, i27, i31, i32, i36, i48, i57, i59, i60, i61, i63, i64, i87, i96, i97, i99, i122, i148, i250, i255, i305, i453, i999, i1359, i1812, pk_mul, nI_add]; done) | (simp only [i0, i1, i2, i3, i4, i5, i6, i7, i8, i9, i10, i11, i12, i17, i20, i24, i26, i27, i31, i32, i36, i48, i57, i59, i60, i61, i63, i64, i87, i96, i97, i99, i122, i148, i250, i255, i305, i453, i999, i1359, i1812, pk_mul, nI_add]; congr 1; omega)) ?_
        refine S_icmp_ge (q := 208) 230 hX dX12_digest_205 rfl rfl (fun c205 => ?_) (fun c205 => ?_)
        · have hge : k = 2 * S.1.2.2.2.2.2.1 := by rw [nI_leI (by omega) (by omega)] at c205; omega
          refine S_lload_n (q := 231) hX dX12_digest_230 rfl rfl ?_
          refine S_lret hX dX12_digest_231 (Nat.zero_le _) (Nat.zero_le _) ?_
          refine hP _ _ _ ?_
          subst hge
          rw [hH]
          exact ⟨_, hM, hF, rfl, hRm, rfl⟩
        · have hlt : k < 2 * S.1.2.2.2.2.2.1 := by rw [nI_leI (by omega) (by omega)] at c205; omega
          refine S_ldc2 (q := 211) hX u_1102 dX12_digest_208 rfl ?_
          refine S_lload_n (q := 212) hX dX12_digest_211 rfl rfl ?_
          refine S_lmul (q := 213) hX dX12_digest_212 rfl ?_
          refine S_aload_n (q := 214) hX dX12_digest_213 rfl rfl ?_
          refine S_bipush (q := 216) (v := 10) hX dX12_digest_214 bp_10 rfl ?_
          refine S_iload_n (q := 217) hX dX12_digest_216 rfl rfl ?_
          refine S_iadd (q := 218) hX dX12_digest_217 rfl ?_
          refine S_callV (ci := 12) (C := "FanTalkModel") (T := TX12) (N := 17) (q := 221) 0 0 hX (c_X12_get _ μ _ 0 (10 + k) (by first | rfl | (simp only [i0, i1, i2, i3, i4, i5, i6, i7, i8, i9, i10, i11, i12, i17, i20, i24, i26, i27, i31, i32, i36, i48, i57, i59, i60, i61, i63, i64, i87, i96, i97, i99, i122, i148, i250, i255, i305, i453, i999, i1359, i1812, pk_mul, nI_add]; done) | (simp only [i0, i1, i2, i3, i4, i5, i6, i7, i8, i9, i10, i11, i12, i17, i20, i24, i26, i27, i31, i32, i36, i48, i57, i59, i60, i61, i63, i64, i87, i96, i97, i99, i122, i148, i250, i255, i305, i453, i999, i1359, i1812, pk_mul, nI_add]; congr 1; omega))) rfl ?hs_2 rfl u_838 u_840 us_26 u_12 u_841 ⟨by decide, by decide, rfl⟩ ⟨Nat.le_of_ble_eq_true rfl, Nat.le_of_ble_eq_true rfl⟩ ⟨Nat.le_of_ble_eq_true rfl, Nat.le_of_ble_eq_true rfl⟩ (Nat.le_of_ble_eq_true rfl) dX12_digest_218 ?hp_2 rfl rfl rfl ?_
          case hs_2 => first | with_reducible assumption | exact ⟨_, by with_reducible assumption⟩ | exact MM.isO hM
          case hp_2 => exact ⟨hM, h0, by omega⟩
          rintro v σ1 sz1 ⟨rfl, rfl, rfl⟩
          refine S_i2l (q := 222) hX dX12_digest_221 rfl ?_
          refine S_ladd (q := 223) hX dX12_digest_222 rfl ?_
          refine S_lstore_n (q := 224) [_, _, _, _, _] hX dX12_digest_223 rfl (Nat.le_of_ble_eq_true rfl) rfl rfl ?_
          refine S_iinc (q := 227) [_, _, _, _, _] hX dX12_digest_224 rfl (ii_1 _) rfl (Nat.le_of_ble_eq_true rfl) rfl rfl ?_
          refine S_goto 197 hX dX12_digest_227 rfl ?_
          exact ih (k + 1) _ _ _ _ _ (dgF_s (dg6 S) k H (congrArg Int32.toInt64 (by rw [← Nat.add_assoc]; exact dgP_at (f := S.1.2.2.2.2.2.2) (g := μ 1) (o := 0 + 10) (n := S.1.2.2.2.2.2.1) (fun e he => ⟨by rw [Nat.add_assoc]; exact (hRm.2.1.2.2.2.2.2.2.2.1 e he).1, by rw [show 0 + 10 + 2 * e + 1 = 0 + (10 + 2 * e + 1) by omega]; exact (hRm.2.1.2.2.2.2.2.2.2.1 e he).2⟩) hlt))) (nI_1 _) hlt hs hM hF (by omega)
  have l164 : ∀ (H : Int64), dgF (dg6 S) (2 * S.1.2.2.2.2.2.1) (dgF (dg5 S) S.1.2.2.2.2.1.1 H) = (sp_digest S).1 → ∀ (fl : Nat) (k : Nat) (x1 : Int64) (x3 : Int32) (x4 : Option Value) (σ : Sg) (μ : MF), x1 = dgF (dg5 S) k H → x3 = nI k → k ≤ S.1.2.2.2.2.1.1 → scr μ0 μ → MM σ m μ → Fr m (m + 9) σ0 σ → S.1.2.2.2.2.1.1 - k < fl → G X Γ P 0 0 164 [some (.ref m), some (.long x1), none, some (.int x3), x4] [] σ sz := by
    intro H hH fl
    induction fl with
      | zero => intro k _ _ _ σ μ _ _ _ _ _ _ hfu; exact absurd hfu (Nat.not_lt_zero _)
      | succ fl ih =>
        rintro k _ _ x4 σ μ rfl rfl hk hs hM hF hfu
        have hRm := hR0.scr hs
        have h0 := hRm.1
        refine S_iload_n (q := 165) hX dX12_digest_164 rfl rfl ?_
        refine S_aload_n (q := 166) hX dX12_digest_165 rfl rfl ?_
        refine S_iconst (q := 167) (v := 3) hX dX12_digest_166 ic_3 rfl ?_
        refine S_callV (ci := 12) (C := "FanTalkModel") (T := TX12) (N := 17) (q := 170) 0 0 hX (c_X12_get _ μ _ 0 (3) (by first | rfl | (simp only [i0, i1, i2, i3, i4, i5, i6, i7, i8, i9, i10, i11, i12, i17, i20, i24, i26, i27, i31, i32, i36, i48, i57, i59, i60, i61, i63, i64, i87, i96, i97, i99, i122, i148, i250, i255, i305, i453, i999, i1359, i1812, pk_mul, nI_add]; done) | (simp only [i0, i1, i2, i3, i4, i5, i6, i7, i8, i9, i10, i11, i12, i17, i20, i24, i26, i27, i31, i32, i36, i48, i57, i59, i60, i61, i63, i64, i87, i96, i97, i99, i122, i148, i250, i255, i305, i453, i999, i1359, i1812, pk_mul, nI_add]; congr 1; omega))) rfl ?hs_3 rfl u_838 u_840 us_26 u_12 u_841 ⟨by decide, by decide, rfl⟩ ⟨Nat.le_of_ble_eq_true rfl, Nat.le_of_ble_eq_true rfl⟩ ⟨Nat.le_of_ble_eq_true rfl, Nat.le_of_ble_eq_true rfl⟩ (Nat.le_of_ble_eq_true rfl) dX12_digest_167 ?hp_3 rfl rfl rfl ?_
        case hs_3 => first | with_reducible assumption | exact ⟨_, by with_reducible assumption⟩ | exact MM.isO hM
        case hp_3 => exact ⟨hM, h0, by omega⟩
        rintro v σ1 sz1 ⟨rfl, rfl, rfl⟩
        rw [show μ 1 (0 + 3) = nI S.1.2.2.2.2.1.1 from hRm.2.1.2.2.2.1]
        refine S_icmp_ge (q := 173) 195 hX dX12_digest_170 rfl rfl (fun c170 => ?_) (fun c170 => ?_)
        · have hge : k = S.1.2.2.2.2.1.1 := by rw [nI_leI (by omega) (by omega)] at c170; omega
          refine S_iconst (q := 196) (v := 0) hX dX12_digest_195 ic_0 rfl ?_
          refine S_istore_n (q := 197) [_, _, _, _, _] hX dX12_digest_196 rfl (Nat.le_of_ble_eq_true rfl) rfl rfl ?_
          exact l197 _ (by subst hge; exact hH) 17 0 _ _ _ _ _ rfl rfl (Nat.zero_le _) hs hM hF (by omega)
        · have hlt : k < S.1.2.2.2.2.1.1 := by rw [nI_leI (by omega) (by omega)] at c170; omega
          refine S_ldc2 (q := 176) hX u_1102 dX12_digest_173 rfl ?_
          refine S_lload_n (q := 177) hX dX12_digest_176 rfl rfl ?_
          refine S_lmul (q := 178) hX dX12_digest_177 rfl ?_
          refine S_aload_n (q := 179) hX dX12_digest_178 rfl rfl ?_
          refine S_bipush (q := 181) (v := 6) hX dX12_digest_179 bp_6 rfl ?_
          refine S_iload_n (q := 182) hX dX12_digest_181 rfl rfl ?_
          refine S_iadd (q := 183) hX dX12_digest_182 rfl ?_
          refine S_callV (ci := 12) (C := "FanTalkModel") (T := TX12) (N := 17) (q := 186) 0 0 hX (c_X12_get _ μ _ 0 (6 + k) (by first | rfl | (simp only [i0, i1, i2, i3, i4, i5, i6, i7, i8, i9, i10, i11, i12, i17, i20, i24, i26, i27, i31, i32, i36, i48, i57, i59, i60, i61, i63, i64, i87, i96, i97, i99, i122, i148, i250, i255, i305, i453, i999, i1359, i1812, pk_mul, nI_add]; done) | (simp only [i0, i1, i2, i3, i4, i5, i6, i7, i8, i9, i10, i11, i12, i17, i20, i24, i26, i27, i31, i32, i36, i48, i57, i59, i60, i61, i63, i64, i87, i96, i97, i99, i122, i148, i250, i255, i305, i453, i999, i1359, i1812, pk_mul, nI_add]; congr 1; omega))) rfl ?hs_4 rfl u_838 u_840 us_26 u_12 u_841 ⟨by decide, by decide, rfl⟩ ⟨Nat.le_of_ble_eq_true rfl, Nat.le_of_ble_eq_true rfl⟩ ⟨Nat.le_of_ble_eq_true rfl, Nat.le_of_ble_eq_true rfl⟩ (Nat.le_of_ble_eq_true rfl) dX12_digest_183 ?hp_4 rfl rfl rfl ?_
          case hs_4 => first | with_reducible assumption | exact ⟨_, by with_reducible assumption⟩ | exact MM.isO hM
          case hp_4 => exact ⟨hM, h0, by omega⟩
          rintro v σ1 sz1 ⟨rfl, rfl, rfl⟩
          refine S_i2l (q := 187) hX dX12_digest_186 rfl ?_
          refine S_ladd (q := 188) hX dX12_digest_187 rfl ?_
          refine S_lstore_n (q := 189) [_, _, _, _, _] hX dX12_digest_188 rfl (Nat.le_of_ble_eq_true rfl) rfl rfl ?_
          refine S_iinc (q := 192) [_, _, _, _, _] hX dX12_digest_189 rfl (ii_1 _) rfl (Nat.le_of_ble_eq_true rfl) rfl rfl ?_
          refine S_goto 164 hX dX12_digest_192 rfl ?_
          exact ih (k + 1) _ _ _ _ _ (dgF_s (dg5 S) k H (congrArg Int32.toInt64 (hRm.2.1.2.2.2.2.2.2.1 k hlt))) (nI_1 _) hlt hs hM hF (by omega)
  have l134 : ∀ (H : Int64), dgF (dg6 S) (2 * S.1.2.2.2.2.2.1) (dgF (dg5 S) S.1.2.2.2.2.1.1 (dgF (dg4 S) (ln S.1.2.2.2.1) H)) = (sp_digest S).1 → ∀ (fl : Nat) (k : Nat) (x1 : Int64) (x3 : Int32) (x4 : Option Value) (σ : Sg) (μ : MF), x1 = dgF (dg4 S) k H → x3 = nI k → k ≤ ln S.1.2.2.2.1 → μ 0 7 = nI (ln S.1.2.2.2.1) → (∀ i, i < ln S.1.2.2.2.1 → μ 5 i = nI (stN S.1.2.2.2.1 (ln S.1.2.2.2.1) i)) → scr μ0 μ → MM σ m μ → Fr m (m + 9) σ0 σ → ln S.1.2.2.2.1 - k < fl → G X Γ P 0 0 134 [some (.ref m), some (.long x1), none, some (.int x3), x4] [] σ sz := by
    intro H hH fl
    induction fl with
      | zero => intro k _ _ _ σ μ _ _ _ _ _ _ _ _ hfu; exact absurd hfu (Nat.not_lt_zero _)
      | succ fl ih =>
        rintro k _ _ x4 σ μ rfl rfl hk h7 hmk hs hM hF hfu
        have hRm := hR0.scr hs
        have h0 := hRm.1
        refine S_iload_n (q := 135) hX dX12_digest_134 rfl rfl ?_
        refine S_aload_n (q := 136) hX dX12_digest_135 rfl rfl ?_
        refine S_getf (fs := ?fs_5) (v := ?v_5) (q := 139) hX u_794 fo_X12_beats dX12_digest_136 ?hs_5 ?hv_5 rfl ?_
        case hs_5 => with_reducible first | exact MM.c0 hM | exact MM.c1 hM | exact MM.c5 hM | exact MM.c6 hM | exact MM.c7 hM | exact MM.c3 hM | exact MM.c4 hM | exact MM.c8 hM | exact MM.c2 hM
        case hv_5 => rfl
        refine S_icmp_ge (q := 142) 162 hX dX12_digest_139 rfl rfl (fun c139 => ?_) (fun c139 => ?_)
        · have hge : k = ln S.1.2.2.2.1 := by rw [h7] at c139; rw [nI_leI (by omega) (by omega)] at c139; omega
          refine S_iconst (q := 163) (v := 0) hX dX12_digest_162 ic_0 rfl ?_
          refine S_istore_n (q := 164) [_, _, _, _, _] hX dX12_digest_163 rfl (Nat.le_of_ble_eq_true rfl) rfl rfl ?_
          exact l164 _ (by subst hge; exact hH) 5 0 _ _ _ _ _ rfl rfl (Nat.zero_le _) hs hM hF (by omega)
        · have hlt : k < ln S.1.2.2.2.1 := by rw [h7] at c139; rw [nI_leI (by omega) (by omega)] at c139; omega
          refine S_ldc2 (q := 145) hX u_1102 dX12_digest_142 rfl ?_
          refine S_lload_n (q := 146) hX dX12_digest_145 rfl rfl ?_
          refine S_lmul (q := 147) hX dX12_digest_146 rfl ?_
          refine S_aload_n (q := 148) hX dX12_digest_147 rfl rfl ?_
          refine S_getf (fs := ?fs_6) (v := ?v_6) (q := 151) hX u_793 fo_X12_made dX12_digest_148 ?hs_6 ?hv_6 rfl ?_
          case hs_6 => with_reducible first | exact MM.c0 hM | exact MM.c1 hM | exact MM.c5 hM | exact MM.c6 hM | exact MM.c7 hM | exact MM.c3 hM | exact MM.c4 hM | exact MM.c8 hM | exact MM.c2 hM
          case hv_6 => rfl
          refine S_iload_n (q := 152) hX dX12_digest_151 rfl rfl ?_
          refine S_iald (N := ?n_7) (f := ?f_7) (q := 153) hX dX12_digest_152 ?hs_7 ?hi_7 rfl ?_
          case hs_7 => with_reducible first | exact MM.c0 hM | exact MM.c1 hM | exact MM.c5 hM | exact MM.c6 hM | exact MM.c7 hM | exact MM.c3 hM | exact MM.c4 hM | exact MM.c8 hM | exact MM.c2 hM
          case hi_7 => exact vp_in_nI (by omega) (by decide)
          refine S_i2l (q := 154) hX dX12_digest_153 rfl ?_
          refine S_ladd (q := 155) hX dX12_digest_154 rfl ?_
          refine S_lstore_n (q := 156) [_, _, _, _, _] hX dX12_digest_155 rfl (Nat.le_of_ble_eq_true rfl) rfl rfl ?_
          refine S_iinc (q := 159) [_, _, _, _, _] hX dX12_digest_156 rfl (ii_1 _) rfl (Nat.le_of_ble_eq_true rfl) rfl rfl ?_
          refine S_goto 134 hX dX12_digest_159 rfl ?_
          exact ih (k + 1) _ _ _ _ _ (dgF_s (dg4 S) k H (by rw [nI_clamp (by omega)]; exact congrArg Int32.toInt64 (hmk k hlt))) (nI_1 _) hlt h7 hmk hs hM hF (by omega)
  have l95 : ∀ (H : Int64), dgF (dg6 S) (2 * S.1.2.2.2.2.2.1) (dgF (dg5 S) S.1.2.2.2.2.1.1 (dgF (dg4 S) (ln S.1.2.2.2.1) (dgF (dg3 S) 10 H))) = (sp_digest S).1 → ∀ (fl : Nat) (k : Nat) (x1 : Int64) (x3 : Int32) (x4 : Option Value) (σ : Sg) (μ : MF), x1 = dgF (dg3 S) k H → x3 = nI k → k ≤ 10 → scr μ0 μ → MM σ m μ → Fr m (m + 9) σ0 σ → 10 - k < fl → G X Γ P 0 0 95 [some (.ref m), some (.long x1), none, some (.int x3), x4] [] σ sz := by
    intro H hH fl
    induction fl with
      | zero => intro k _ _ _ σ μ _ _ _ _ _ _ hfu; exact absurd hfu (Nat.not_lt_zero _)
      | succ fl ih =>
        rintro k _ _ x4 σ μ rfl rfl hk hs hM hF hfu
        have hRm := hR0.scr hs
        have h0 := hRm.1
        refine S_iload_n (q := 96) hX dX12_digest_95 rfl rfl ?_
        refine S_bipush (q := 98) (v := 10) hX dX12_digest_96 bp_10 rfl ?_
        refine S_icmp_ge (q := 101) 123 hX dX12_digest_98 rfl rfl (fun c98 => ?_) (fun c98 => ?_)
        · have hge : k = 10 := by rw [i10] at c98; rw [nI_leI (by omega) (by omega)] at c98; omega
          refine S_aload_n (q := 124) hX dX12_digest_123 rfl rfl ?_
          refine S_aload_n (q := 125) hX dX12_digest_124 rfl rfl ?_
          refine S_iconst (q := 126) (v := 2) hX dX12_digest_125 ic_2 rfl ?_
          refine S_callV (ci := 12) (C := "FanTalkModel") (T := TX12) (N := 17) (q := 129) 0 0 hX (c_X12_get _ μ _ 0 (2) (by first | rfl | (simp only [i0, i1, i2, i3, i4, i5, i6, i7, i8, i9, i10, i11, i12, i17, i20, i24, i26, i27, i31, i32, i36, i48, i57, i59, i60, i61, i63, i64, i87, i96, i97, i99, i122, i148, i250, i255, i305, i453, i999, i1359, i1812, pk_mul, nI_add]; done) | (simp only [i0, i1, i2, i3, i4, i5, i6, i7, i8, i9, i10, i11, i12, i17, i20, i24, i26, i27, i31, i32, i36, i48, i57, i59, i60, i61, i63, i64, i87, i96, i97, i99, i122, i148, i250, i255, i305, i453, i999, i1359, i1812, pk_mul, nI_add]; congr 1; omega))) rfl ?hs_8 rfl u_838 u_840 us_26 u_12 u_841 ⟨by decide, by decide, rfl⟩ ⟨Nat.le_of_ble_eq_true rfl, Nat.le_of_ble_eq_true rfl⟩ ⟨Nat.le_of_ble_eq_true rfl, Nat.le_of_ble_eq_true rfl⟩ (Nat.le_of_ble_eq_true rfl) dX12_digest_126 ?hp_8 rfl rfl rfl ?_
          case hs_8 => first | with_reducible assumption | exact ⟨_, by with_reducible assumption⟩ | exact MM.isO hM
          case hp_8 => exact ⟨hM, h0, by omega⟩
          rintro v σ1 sz1 ⟨rfl, rfl, rfl⟩
          rw [show μ 1 (0 + 2) = nI S.1.2.2.2.1 from hRm.2.1.2.2.1]
          refine S_callV (ci := 12) (C := "FanTalkModel") (T := TX12) (N := 17) (q := 132) 0 0 hX (c_X12_make _ μ _ S.1.2.2.2.1 rfl) rfl ?hs_9 rfl u_958 u_960 us_44 u_12 u_961 ⟨by decide, by decide, rfl⟩ ⟨Nat.le_of_ble_eq_true rfl, Nat.le_of_ble_eq_true rfl⟩ ⟨Nat.le_of_ble_eq_true rfl, Nat.le_of_ble_eq_true rfl⟩ (Nat.le_of_ble_eq_true rfl) dX12_digest_129 ?hp_9 rfl rfl rfl ?_
          case hs_9 => first | with_reducible assumption | exact ⟨_, by with_reducible assumption⟩ | exact MM.isO hM
          case hp_9 => exact ⟨hM, hsy⟩
          rintro v σ sz1 ⟨μ1, hM, hF1, rfl, ⟨g, e1, hg⟩, rfl⟩
          have hF := hF.trans hF1
          refine S_iconst (q := 133) (v := 0) hX dX12_digest_132 ic_0 rfl ?_
          refine S_istore_n (q := 134) [_, _, _, _, _] hX dX12_digest_133 rfl (Nat.le_of_ble_eq_true rfl) rfl rfl ?_
          exact l134 _ (by subst hge; exact hH) 7 0 _ _ _ _ μ1 rfl rfl (Nat.zero_le _) (by rw [e1, m1_ne (by decide), m2_at, if_pos ⟨rfl, rfl⟩]) (fun i hi => by rw [e1, m1_eq]; exact hg i hi) (hs.trans (scr.make e1)) hM hF (by omega)
        · have hlt : k < 10 := by rw [i10] at c98; rw [nI_leI (by omega) (by omega)] at c98; omega
          refine S_ldc2 (q := 104) hX u_1102 dX12_digest_101 rfl ?_
          refine S_lload_n (q := 105) hX dX12_digest_104 rfl rfl ?_
          refine S_lmul (q := 106) hX dX12_digest_105 rfl ?_
          refine S_aload_n (q := 107) hX dX12_digest_106 rfl rfl ?_
          refine S_bipush (q := 109) (v := 26) hX dX12_digest_107 bp_26 rfl ?_
          refine S_iload_n (q := 110) hX dX12_digest_109 rfl rfl ?_
          refine S_iadd (q := 111) hX dX12_digest_110 rfl ?_
          refine S_callV (ci := 12) (C := "FanTalkModel") (T := TX12) (N := 17) (q := 114) 0 0 hX (c_X12_get _ μ _ 0 (26 + k) (by first | rfl | (simp only [i0, i1, i2, i3, i4, i5, i6, i7, i8, i9, i10, i11, i12, i17, i20, i24, i26, i27, i31, i32, i36, i48, i57, i59, i60, i61, i63, i64, i87, i96, i97, i99, i122, i148, i250, i255, i305, i453, i999, i1359, i1812, pk_mul, nI_add]; done) | (simp only [i0, i1, i2, i3, i4, i5, i6, i7, i8, i9, i10, i11, i12, i17, i20, i24, i26, i27, i31, i32, i36, i48, i57, i59, i60, i61, i63, i64, i87, i96, i97, i99, i122, i148, i250, i255, i305, i453, i999, i1359, i1812, pk_mul, nI_add]; congr 1; omega))) rfl ?hs_10 rfl u_838 u_840 us_26 u_12 u_841 ⟨by decide, by decide, rfl⟩ ⟨Nat.le_of_ble_eq_true rfl, Nat.le_of_ble_eq_true rfl⟩ ⟨Nat.le_of_ble_eq_true rfl, Nat.le_of_ble_eq_true rfl⟩ (Nat.le_of_ble_eq_true rfl) dX12_digest_111 ?hp_10 rfl rfl rfl ?_
          case hs_10 => first | with_reducible assumption | exact ⟨_, by with_reducible assumption⟩ | exact MM.isO hM
          case hp_10 => exact ⟨hM, h0, by omega⟩
          rintro v σ1 sz1 ⟨rfl, rfl, rfl⟩
          refine S_i2l (q := 115) hX dX12_digest_114 rfl ?_
          refine S_ladd (q := 116) hX dX12_digest_115 rfl ?_
          refine S_lstore_n (q := 117) [_, _, _, _, _] hX dX12_digest_116 rfl (Nat.le_of_ble_eq_true rfl) rfl rfl ?_
          refine S_iinc (q := 120) [_, _, _, _, _] hX dX12_digest_117 rfl (ii_1 _) rfl (Nat.le_of_ble_eq_true rfl) rfl rfl ?_
          refine S_goto 95 hX dX12_digest_120 rfl ?_
          exact ih (k + 1) _ _ _ _ _ (dgF_s (dg3 S) k H (by rw [← Nat.add_assoc]; exact congrArg Int32.toInt64 (hRm.2.1.2.2.2.2.2.2.2.2.1.1 k hlt))) (nI_1 _) hlt hs hM hF (by omega)
  have l33 : ∀ (H : Int64), dgF (dg6 S) (2 * S.1.2.2.2.2.2.1) (dgF (dg5 S) S.1.2.2.2.2.1.1 (dgF (dg4 S) (ln S.1.2.2.2.1) (dgF (dg3 S) 10 (dgC S.1.1.2.1 S.1.1.1 H)))) = (sp_digest S).1 → ∀ (fl : Nat) (k : Nat) (x1 : Int64) (x3 : Int32) (x4 : Option Value) (σ : Sg) (μ : MF), x1 = dgC S.1.1.2.1 k H → x3 = nI k → k ≤ S.1.1.1 → scr μ0 μ → MM σ m μ → Fr m (m + 9) σ0 σ → S.1.1.1 - k < fl → G X Γ P 0 0 33 [some (.ref m), some (.long x1), none, some (.int x3), x4] [] σ sz := by
    intro H hH fl
    induction fl with
      | zero => intro k _ _ _ σ μ _ _ _ _ _ _ hfu; exact absurd hfu (Nat.not_lt_zero _)
      | succ fl ih =>
        rintro k _ _ x4 σ μ rfl rfl hk hs hM hF hfu
        have hRm := hR0.scr hs
        have h0 := hRm.1
        have l45 : k < S.1.1.1 → ∀ (fl2 : Nat) (j : Nat) (x1 : Int64) (x4 : Int32) (σ : Sg) (μ : MF), x1 = dgF (dgE (S.1.1.2.1 k)) j (dgC S.1.1.2.1 k H) → x4 = nI j → j ≤ 1 + 2 * (S.1.1.2.1 k).1 → scr μ0 μ → MM σ m μ → Fr m (m + 9) σ0 σ → 1 + 2 * (S.1.1.2.1 k).1 - j < fl2 → G X Γ P 0 0 45 [some (.ref m), some (.long x1), none, some (.int (nI k)), some (.int x4)] [] σ sz := by
          intro hlt fl2
          have hcx := (ok.1.2.1.2.1 k hlt).1
          induction fl2 with
            | zero => intro j _ _ σ μ _ _ _ _ _ _ hfu2; exact absurd hfu2 (Nat.not_lt_zero _)
            | succ fl2 ih2 =>
              rintro j _ _ σ μ rfl rfl hj hs hM hF hfu2
              have hRm := hR0.scr hs
              have h0 := hRm.1
              have hcc := hRm.2.1.code hlt
              refine S_iload (q := 47) hX dX12_digest_45 rfl rfl ?_
              refine S_iconst (q := 48) (v := 1) hX dX12_digest_47 ic_1 rfl ?_
              refine S_iconst (q := 49) (v := 2) hX dX12_digest_48 ic_2 rfl ?_
              refine S_aload_n (q := 50) hX dX12_digest_49 rfl rfl ?_
              refine S_iload_n (q := 51) hX dX12_digest_50 rfl rfl ?_
              refine S_callV (ci := 12) (C := "FanTalkModel") (T := TX12) (N := 17) (q := 54) 0 0 hX (c_X12_entriesOf _ μ _ 0 k rfl) rfl ?hs_11 rfl u_872 u_874 us_32 u_12 u_875 ⟨by decide, by decide, rfl⟩ ⟨Nat.le_of_ble_eq_true rfl, Nat.le_of_ble_eq_true rfl⟩ ⟨Nat.le_of_ble_eq_true rfl, Nat.le_of_ble_eq_true rfl⟩ (Nat.le_of_ble_eq_true rfl) dX12_digest_51 ?hp_11 rfl rfl rfl ?_
              case hs_11 => first | with_reducible assumption | exact ⟨_, by with_reducible assumption⟩ | exact MM.isO hM
              case hp_11 => exact ⟨hM, h0, by have := ok.1.1; omega⟩
              rintro v σ1 sz1 ⟨rfl, rfl, rfl⟩
              rw [hcc.1]
              refine S_imul (q := 55) hX dX12_digest_54 rfl ?_
              refine S_iadd (q := 56) hX dX12_digest_55 rfl ?_
              refine S_top (y := nI (1 + 2 * (S.1.1.2.1 k).1)) (by first | rfl | (simp only [i0, i1, i2, i3, i4, i5, i6, i7, i8, i9, i10, i11, i12, i17, i20, i24, i26, i27, i31, i32, i36, i48, i57, i59, i60, i61, i63, i64, i87, i96, i97, i99, i122, i148, i250, i255, i305, i453, i999, i1359, i1812, pk_mul, nI_add]; done) | (simp only [i0, i1, i2, i3, i4, i5, i6, i7, i8, i9, i10, i11, i12, i17, i20, i24, i26, i27, i31, i32, i36, i48, i57, i59, i60, i61, i63, i64, i87, i96, i97, i99, i122, i148, i250, i255, i305, i453, i999, i1359, i1812, pk_mul, nI_add]; congr 1; omega)) ?_
              refine S_icmp_ge (q := 59) 87 hX dX12_digest_56 rfl rfl (fun c56 => ?_) (fun c56 => ?_)
              · have hgj : j = 1 + 2 * (S.1.1.2.1 k).1 := by rw [nI_leI (by omega) (by omega)] at c56; omega
                refine S_iinc (q := 90) [_, _, _, _, _] hX dX12_digest_87 rfl (ii_1 _) rfl (Nat.le_of_ble_eq_true rfl) rfl rfl ?_
                refine S_goto 33 hX dX12_digest_90 rfl ?_
                subst hgj
                exact ih (k + 1) _ _ _ _ _ (dgE_all S.1.1.2.1 k H) (nI_1 _) hlt hs hM hF (by omega)
              · have hjl : j < 1 + 2 * (S.1.1.2.1 k).1 := by rw [nI_leI (by omega) (by omega)] at c56; omega
                refine S_ldc2 (q := 62) hX u_1102 dX12_digest_59 rfl ?_
                refine S_lload_n (q := 63) hX dX12_digest_62 rfl rfl ?_
                refine S_lmul (q := 64) hX dX12_digest_63 rfl ?_
                refine S_aload_n (q := 65) hX dX12_digest_64 rfl rfl ?_
                refine S_bipush (q := 67) (v := 36) hX dX12_digest_65 bp_36 rfl ?_
                refine S_bipush (q := 69) (v := 17) hX dX12_digest_67 bp_17 rfl ?_
                refine S_iload_n (q := 70) hX dX12_digest_69 rfl rfl ?_
                refine S_imul (q := 71) hX dX12_digest_70 rfl ?_
                refine S_iadd (q := 72) hX dX12_digest_71 rfl ?_
                refine S_iload (q := 74) hX dX12_digest_72 rfl rfl ?_
                refine S_iadd (q := 75) hX dX12_digest_74 rfl ?_
                refine S_callV (ci := 12) (C := "FanTalkModel") (T := TX12) (N := 17) (q := 78) 0 0 hX (c_X12_get _ μ _ 0 (36 + 17 * k + j) (by first | rfl | (simp only [i0, i1, i2, i3, i4, i5, i6, i7, i8, i9, i10, i11, i12, i17, i20, i24, i26, i27, i31, i32, i36, i48, i57, i59, i60, i61, i63, i64, i87, i96, i97, i99, i122, i148, i250, i255, i305, i453, i999, i1359, i1812, pk_mul, nI_add]; done) | (simp only [i0, i1, i2, i3, i4, i5, i6, i7, i8, i9, i10, i11, i12, i17, i20, i24, i26, i27, i31, i32, i36, i48, i57, i59, i60, i61, i63, i64, i87, i96, i97, i99, i122, i148, i250, i255, i305, i453, i999, i1359, i1812, pk_mul, nI_add]; congr 1; omega))) rfl ?hs_12 rfl u_838 u_840 us_26 u_12 u_841 ⟨by decide, by decide, rfl⟩ ⟨Nat.le_of_ble_eq_true rfl, Nat.le_of_ble_eq_true rfl⟩ ⟨Nat.le_of_ble_eq_true rfl, Nat.le_of_ble_eq_true rfl⟩ (Nat.le_of_ble_eq_true rfl) dX12_digest_75 ?hp_12 rfl rfl rfl ?_
                case hs_12 => first | with_reducible assumption | exact ⟨_, by with_reducible assumption⟩ | exact MM.isO hM
                case hp_12 => exact ⟨hM, h0, by have := ok.1.1; omega⟩
                rintro v σ1 sz1 ⟨rfl, rfl, rfl⟩
                refine S_i2l (q := 79) hX dX12_digest_78 rfl ?_
                refine S_ladd (q := 80) hX dX12_digest_79 rfl ?_
                refine S_lstore_n (q := 81) [_, _, _, _, _] hX dX12_digest_80 rfl (Nat.le_of_ble_eq_true rfl) rfl rfl ?_
                refine S_iinc (q := 84) [_, _, _, _, _] hX dX12_digest_81 rfl (ii_1 _) rfl (Nat.le_of_ble_eq_true rfl) rfl rfl ?_
                refine S_goto 45 hX dX12_digest_84 rfl ?_
                refine ih2 (j + 1) _ _ _ _ (dgF_s (dgE (S.1.1.2.1 k)) j _ ?_) (nI_1 _) hjl hs hM hF (by omega)
                refine congrArg Int32.toInt64 ?_
                by_cases hj0 : j = 0
                · rw [if_pos hj0, hj0]; exact hcc.1
                · rw [if_neg hj0]
                  have hd := dgP_at (f := (S.1.1.2.1 k).2) (g := μ 1) (o := 0 + (36 + 17 * k + 1)) (n := (S.1.1.2.1 k).1) (fun e he => ⟨by rw [Nat.add_assoc]; exact (hcc.2 e he).1, by rw [show 0 + (36 + 17 * k + 1) + 2 * e + 1 = 0 + (36 + 17 * k + 2 + 2 * e) by omega]; exact (hcc.2 e he).2⟩) (k := j - 1) (by omega)
                  rw [show 0 + (36 + 17 * k + j) = 0 + (36 + 17 * k + 1) + (j - 1) by omega]
                  exact hd
        refine S_iload_n (q := 34) hX dX12_digest_33 rfl rfl ?_
        refine S_aload_n (q := 35) hX dX12_digest_34 rfl rfl ?_
        refine S_iconst (q := 36) (v := 0) hX dX12_digest_35 ic_0 rfl ?_
        refine S_callV (ci := 12) (C := "FanTalkModel") (T := TX12) (N := 17) (q := 39) 0 0 hX (c_X12_get _ μ _ 0 (0) (by first | rfl | (simp only [i0, i1, i2, i3, i4, i5, i6, i7, i8, i9, i10, i11, i12, i17, i20, i24, i26, i27, i31, i32, i36, i48, i57, i59, i60, i61, i63, i64, i87, i96, i97, i99, i122, i148, i250, i255, i305, i453, i999, i1359, i1812, pk_mul, nI_add]; done) | (simp only [i0, i1, i2, i3, i4, i5, i6, i7, i8, i9, i10, i11, i12, i17, i20, i24, i26, i27, i31, i32, i36, i48, i57, i59, i60, i61, i63, i64, i87, i96, i97, i99, i122, i148, i250, i255, i305, i453, i999, i1359, i1812, pk_mul, nI_add]; congr 1; omega))) rfl ?hs_13 rfl u_838 u_840 us_26 u_12 u_841 ⟨by decide, by decide, rfl⟩ ⟨Nat.le_of_ble_eq_true rfl, Nat.le_of_ble_eq_true rfl⟩ ⟨Nat.le_of_ble_eq_true rfl, Nat.le_of_ble_eq_true rfl⟩ (Nat.le_of_ble_eq_true rfl) dX12_digest_36 ?hp_13 rfl rfl rfl ?_
        case hs_13 => first | with_reducible assumption | exact ⟨_, by with_reducible assumption⟩ | exact MM.isO hM
        case hp_13 => exact ⟨hM, h0, by omega⟩
        rintro v σ1 sz1 ⟨rfl, rfl, rfl⟩
        rw [show μ 1 (0 + 0) = nI S.1.1.1 from hRm.2.1.1]
        refine S_icmp_ge (q := 42) 93 hX dX12_digest_39 rfl rfl (fun c39 => ?_) (fun c39 => ?_)
        · have hge : k = S.1.1.1 := by rw [nI_leI (by omega) (by omega)] at c39; omega
          refine S_iconst (q := 94) (v := 0) hX dX12_digest_93 ic_0 rfl ?_
          refine S_istore_n (q := 95) [_, _, _, _, _] hX dX12_digest_94 rfl (Nat.le_of_ble_eq_true rfl) rfl rfl ?_
          exact l95 _ (by subst hge; exact hH) 11 0 _ _ _ _ _ rfl rfl (Nat.zero_le _) hs hM hF (by omega)
        · have hlt : k < S.1.1.1 := by rw [nI_leI (by omega) (by omega)] at c39; omega
          refine S_iconst (q := 43) (v := 0) hX dX12_digest_42 ic_0 rfl ?_
          refine S_istore (q := 45) [_, _, _, _, _] hX dX12_digest_43 rfl (Nat.le_of_ble_eq_true rfl) rfl rfl ?_
          exact l45 hlt 18 0 _ _ _ _ rfl rfl (Nat.zero_le _) hs hM hF (by have := (ok.1.2.1.2.1 k hlt).1; omega)
  have l6 : ∀ (H : Int64), dgF (dg6 S) (2 * S.1.2.2.2.2.2.1) (dgF (dg5 S) S.1.2.2.2.2.1.1 (dgF (dg4 S) (ln S.1.2.2.2.1) (dgF (dg3 S) 10 (dgC S.1.1.2.1 S.1.1.1 (dgF (dg1 S) 8 H))))) = (sp_digest S).1 → ∀ (fl : Nat) (k : Nat) (x1 : Int64) (x3 : Int32) (x4 : Option Value) (σ : Sg) (μ : MF), x1 = dgF (dg1 S) k H → x3 = nI k → k ≤ 8 → scr μ0 μ → MM σ m μ → Fr m (m + 9) σ0 σ → 8 - k < fl → G X Γ P 0 0 6 [some (.ref m), some (.long x1), none, some (.int x3), x4] [] σ sz := by
    intro H hH fl
    induction fl with
      | zero => intro k _ _ _ σ μ _ _ _ _ _ _ hfu; exact absurd hfu (Nat.not_lt_zero _)
      | succ fl ih =>
        rintro k _ _ x4 σ μ rfl rfl hk hs hM hF hfu
        have hRm := hR0.scr hs
        have h0 := hRm.1
        refine S_iload_n (q := 7) hX dX12_digest_6 rfl rfl ?_
        refine S_bipush (q := 9) (v := 8) hX dX12_digest_7 bp_8 rfl ?_
        refine S_icmp_ge (q := 12) 31 hX dX12_digest_9 rfl rfl (fun c9 => ?_) (fun c9 => ?_)
        · have hge : k = 8 := by rw [show (8 : Int32) = nI 8 from rfl] at c9; rw [nI_leI (by omega) (by omega)] at c9; omega
          refine S_iconst (q := 32) (v := 0) hX dX12_digest_31 ic_0 rfl ?_
          refine S_istore_n (q := 33) [_, _, _, _, _] hX dX12_digest_32 rfl (Nat.le_of_ble_eq_true rfl) rfl rfl ?_
          exact l33 _ (by subst hge; exact hH) 4 0 _ _ _ _ _ rfl rfl (Nat.zero_le _) hs hM hF (by omega)
        · have hlt : k < 8 := by rw [show (8 : Int32) = nI 8 from rfl] at c9; rw [nI_leI (by omega) (by omega)] at c9; omega
          refine S_ldc2 (q := 15) hX u_1102 dX12_digest_12 rfl ?_
          refine S_lload_n (q := 16) hX dX12_digest_15 rfl rfl ?_
          refine S_lmul (q := 17) hX dX12_digest_16 rfl ?_
          refine S_aload_n (q := 18) hX dX12_digest_17 rfl rfl ?_
          refine S_iload_n (q := 19) hX dX12_digest_18 rfl rfl ?_
          refine S_callV (ci := 12) (C := "FanTalkModel") (T := TX12) (N := 17) (q := 22) 0 0 hX (c_X12_counted _ μ S _ k rfl) rfl ?hs_14 rfl u_1089 u_1091 us_55 u_12 u_1092 ⟨by decide, by decide, rfl⟩ ⟨Nat.le_of_ble_eq_true rfl, Nat.le_of_ble_eq_true rfl⟩ ⟨Nat.le_of_ble_eq_true rfl, Nat.le_of_ble_eq_true rfl⟩ (Nat.le_of_ble_eq_true rfl) dX12_digest_19 ?hp_14 rfl rfl rfl ?_
          case hs_14 => first | with_reducible assumption | exact ⟨_, by with_reducible assumption⟩ | exact MM.isO hM
          case hp_14 => exact ⟨hM, hRm, ok, hlt⟩
          rintro v σ1 sz1 ⟨rfl, rfl, rfl⟩
          refine S_i2l (q := 23) hX dX12_digest_22 rfl ?_
          refine S_ladd (q := 24) hX dX12_digest_23 rfl ?_
          refine S_lstore_n (q := 25) [_, _, _, _, _] hX dX12_digest_24 rfl (Nat.le_of_ble_eq_true rfl) rfl rfl ?_
          refine S_iinc (q := 28) [_, _, _, _, _] hX dX12_digest_25 rfl (ii_1 _) rfl (Nat.le_of_ble_eq_true rfl) rfl rfl ?_
          refine S_goto 6 hX dX12_digest_28 rfl ?_
          exact ih (k + 1) _ _ _ _ _ (dgF_s (dg1 S) k H rfl) (nI_1 _) hlt hs hM hF (by omega)
  refine S_ldc2 (q := 3) hX u_1101 dX12_digest_0 rfl ?_
  refine S_lstore_n (q := 4) [_, _, _, _, _] hX dX12_digest_3 rfl (Nat.le_of_ble_eq_true rfl) rfl rfl ?_
  refine S_iconst (q := 5) (v := 0) hX dX12_digest_4 ic_0 rfl ?_
  refine S_istore_n (q := 6) [_, _, _, _, _] hX dX12_digest_5 rfl (Nat.le_of_ble_eq_true rfl) rfl rfl ?_
  exact l6 811 (sp_dg S).symm 9 0 _ _ _ _ _ rfl rfl (Nat.zero_le _) hs hM hF (by omega)
