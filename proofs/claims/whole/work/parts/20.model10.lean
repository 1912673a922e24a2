/-! the reference: year, digest -/
theorem yrI_le (u : Nat → Nat) (es : Nat → Nat × Nat) : ∀ e, (yrI u es e).1 ≤ e := by
  intro e
  induction e with
  | zero => exact Nat.le_refl 0
  | succ e ih =>
    rw [yrI]
    split
    · show (yrI u es e).1 + 1 ≤ e + 1
      omega
    · omega
theorem yrI_hi (u : Nat → Nat) (es : Nat → Nat × Nat) : ∀ e k, (yrI u es e).1 ≤ k → (yrI u es e).2 k = es k := by
  intro e
  induction e with
  | zero => intro k _; rfl
  | succ e ih =>
    intro k hk
    rw [yrI] at hk ⊢
    by_cases h : 0 < u (es e).2
    · rw [if_pos h] at hk ⊢
      have hk : (yrI u es e).1 + 1 ≤ k := hk
      show fu (yrI u es e).2 (yrI u es e).1 (es e) k = es k
      rw [fu_ne (by omega)]
      exact ih k (by omega)
    · rw [if_neg h] at hk ⊢
      exact ih k hk
theorem yrI_in (u : Nat → Nat) (es : Nat → Nat × Nat) : ∀ e k, k < (yrI u es e).1 → ∃ j, j < e ∧ (yrI u es e).2 k = es j := by
  intro e
  induction e with
  | zero => intro k hk; exact absurd hk (Nat.not_lt_zero _)
  | succ e ih =>
    intro k hk
    rw [yrI] at hk ⊢
    by_cases h : 0 < u (es e).2
    · rw [if_pos h] at hk ⊢
      have hk : k < (yrI u es e).1 + 1 := hk
      show ∃ j, j < e + 1 ∧ fu (yrI u es e).2 (yrI u es e).1 (es e) k = es j
      by_cases hke : k = (yrI u es e).1
      · rw [hke, fu_eq]; exact ⟨e, by omega, rfl⟩
      · rw [fu_ne hke]
        obtain ⟨j, h1, h2⟩ := ih k (by omega)
        exact ⟨j, by omega, h2⟩
    · rw [if_neg h] at hk ⊢
      obtain ⟨j, h1, h2⟩ := ih k hk
      exact ⟨j, by omega, h2⟩
theorem yrI_ok {u : Nat → Nat} {C : CodT} (h : CodOk C) {e : Nat} (he : e ≤ C.1) : CodOk (yrI u C.2 e) := by
  refine ⟨Nat.le_trans (yrI_le u C.2 e) (Nat.le_trans he h.1), fun k hk => ?_⟩
  obtain ⟨j, h1, h2⟩ := yrI_in u C.2 e k hk
  rw [h2]
  exact h.2 j (by omega)
theorem yrI_t {u : Nat → Nat} {es : Nat → Nat × Nat} {e : Nat} (h : 0 < u (es e).2) : yrI u es (e + 1) = ((yrI u es e).1 + 1, fu (yrI u es e).2 (yrI u es e).1 (es e)) := by rw [yrI, if_pos h]
theorem yrI_f {u : Nat → Nat} {es : Nat → Nat × Nat} {e : Nat} (h : ¬ 0 < u (es e).2) : yrI u es (e + 1) = yrI u es e := by rw [yrI, if_neg h]
theorem sumE_le {f g : Nat → CodT} (h : ∀ c, (g c).1 ≤ (f c).1) : ∀ n, sumE g n ≤ sumE f n := by
  intro n
  induction n with
  | zero => exact Nat.le_refl 0
  | succ n ih => have := h n; show sumE g n + (g n).1 ≤ sumE f n + (f n).1; omega
theorem sumE_24 {f : Nat → CodT} {n : Nat} (h : ∀ c, c < n → (f c).1 ≤ 8) : sumE f n ≤ 8 * n := by
  induction n with
  | zero => exact Nat.le_refl 0
  | succ n ih => have h1 := ih (fun c hc => h c (by omega)); have h2 := h n (by omega); show sumE f n + (f n).1 ≤ 8 * (n + 1); omega
theorem dgF_succ (F : Nat → Int64) : ∀ (k : Nat) (h : Int64), dgF F (k + 1) h = dgF (fun j => F (j + 1)) k (31 * h + F 0) := by
  intro k
  induction k with
  | zero => intro h; rfl
  | succ k ih => intro h; show 31 * dgF F (k + 1) h + F (k + 1) = 31 * dgF (fun j => F (j + 1)) k (31 * h + F 0) + F (k + 1); rw [ih]
/-- the codes in a year, c of them done -/
def ycs (u : Nat → Nat) (f : Nat → CodT) (c : Nat) : Nat → CodT := fun k => if k < c then yrC u (f k) else f k
theorem ycs_0 (u : Nat → Nat) (f : Nat → CodT) : ycs u f 0 = f := by funext k; unfold ycs; rw [if_neg (Nat.not_lt_zero _)]
theorem ycs_s (u : Nat → Nat) (f : Nat → CodT) (c : Nat) : fu (ycs u f c) c (yrC u (f c)) = ycs u f (c + 1) := by
  funext k
  unfold fu ycs
  by_cases h : k = c
  · subst h
    rw [if_pos rfl, if_pos (Nat.lt_succ_self _)]
  · rw [if_neg h]
    by_cases h2 : k < c
    · rw [if_pos h2, if_pos (by omega)]
    · rw [if_neg h2, if_neg (by omega)]
theorem ycs_ok {u : Nat → Nat} {f : Nat → CodT} {n c : Nat} (h : ∀ k, k < n → CodOk (f k)) : ∀ k, k < n → CodOk (ycs u f c k) := by
  intro k hk
  unfold ycs
  split
  · exact yrI_ok (h k hk) (Nat.le_refl _)
  · exact h k hk

theorem fufu {α : Type} (f : Nat → α) (k : Nat) (a b : α) : fu (fu f k a) k b = fu f k b := by
  funext j
  unfold fu
  by_cases h : j = k
  · rw [if_pos h, if_pos h]
  · rw [if_neg h, if_neg h, if_neg h]
theorem c_X12_year (m : Nat) (μ : MF) (S : ST) : CT_X12_year [.ref m] (fun Γ σ sz => MM σ m μ ∧ MR μ S ∧ StOk S) (fun Γ σ sz v σ' sz' => ∃ μ', MM σ' m μ' ∧ Fr m (m + 9) σ σ' ∧ v = some (.int (sp_year S).1) ∧ MR μ' (sp_year S).2 ∧ sz' = sz) := by
  refine CT.mkP rfl (Nat.le_of_ble_eq_true rfl) [_, _, _, _, _, _] rfl ?_
  intro X Γ σ sz P hX hpre hsz hP
  obtain ⟨hM, hR, ok⟩ := hpre
  have hF : Fr m (m + 9) σ σ := Fr.rf
  have h0 := hR.1
  have hC0 := hR.2.1.1
  obtain ⟨q0, q1, q2, q3, q4, q5, q6, q7, q8, q9⟩ := id hR.2.1
  obtain ⟨o1, o2, o3, o4, o5, o6, o7, o8, o9, o10⟩ := id ok.1
  obtain ⟨σ0, eσ0⟩ : ∃ z, z = σ := ⟨σ, rfl⟩
  rw [← eσ0] at hP
  have hF : Fr m (m + 9) σ0 σ := by rw [eσ0]; exact Fr.rf
  have okk := kS_ok ok
  have loop3 : ∀ (fl : Nat) (x : Nat) (σ : Sg) (xg xx : Int32) (μc μb : MF), xg = nI (sumE S.1.1.2.1 S.1.1.1 - sumE (fun c => yrC S.1.1.2.2 (S.1.1.2.1 c)) S.1.1.1) → MR μc (stC (kS S) ((S.1.1.1, ycs S.1.1.2.2 S.1.1.2.1 S.1.1.1, S.1.1.2.2), psh S.1.2.1 S.1.1, S.1.2.2)) → (∀ j, j ≠ 1 → μb j = μc j) → (∀ i, μb 1 i = if 26 ≤ i ∧ i < 26 + x then 0 else μc 1 i) → xx = nI x → x ≤ 10 → 10 - x < fl → MM σ m μb → Fr m (m + 9) σ0 σ → G X Γ P 0 0 99 [some (.ref m), some (.int xg), some (.int xx), none, none, none] [] σ sz := by
    intro fl
    induction fl with
    | zero =>
      rintro x σ _ _ μc μb rfl hRc hb1 hb2 rfl hk hfu hM hF
      exact absurd hfu (Nat.not_lt_zero _)
    | succ fl ih =>
      rintro x σ _ _ μc μb rfl hRc hb1 hb2 rfl hk hfu hM hF
      have h0 : μb 0 0 = nI 0 := by rw [hb1 0 (by decide)]; exact hRc.1
      refine S_iload_n (q := 100) hX dX12_year_99 rfl rfl ?_
      refine S_bipush (q := 102) (v := 10) hX dX12_year_100 bp_10 rfl ?_
      refine S_icmp_ge (q := 105) 120 hX dX12_year_102 rfl rfl (fun c102 => ?_) (fun c102 => ?_)
      · have hge : x = 10 := by rw [i10, nI_leI (by omega) (by omega)] at c102; omega
        subst hge
        refine S_iload_n (q := 121) hX dX12_year_120 rfl rfl ?_
        refine S_iret hX dX12_year_121 (Nat.zero_le _) (Nat.zero_le _) ?_
        refine hP _ _ _ ?_
        refine ⟨_, hM, hF, rfl, ?_, rfl⟩
        have okY : StOk (stC (kS S) ((S.1.1.1, ycs S.1.1.2.2 S.1.1.2.1 S.1.1.1, S.1.1.2.2), psh S.1.2.1 S.1.1, S.1.2.2)) := ⟨⟨o1, ⟨rfl, ycs_ok o2.2.1, o2.2.2⟩, okk.1.2.2.1, okk.1.2.2.2.1, o5, o6, o7, o8, o9, o10⟩, okk.2⟩
        refine hRc.now okY hb1 (fun i h1 h2 => by rw [hb2, if_neg (by omega)]) ?_
        have g : ∀ i, ¬ (26 ≤ i ∧ i < 36) → μb 1 i = μc 1 i := fun i h1 => by rw [hb2, if_neg (by omega)]
        obtain ⟨q0, q1, q2, q3, q4, q5, q6, q7, q8, q9⟩ := id hRc.2.1
        refine hRc.2.1.up okY.1 ((g _ (by omega)).trans q0) ((g _ (by omega)).trans q1) ((g _ (by omega)).trans q2) ((g _ (by omega)).trans q3) ((g _ (by omega)).trans q4) ((g _ (by omega)).trans q5) (Or.inl ⟨rfl, fun i h1 h2 => g _ (by omega)⟩) (Or.inl ⟨rfl, fun i h1 h2 => g _ (by omega)⟩) (Or.inr ⟨fun x hx => by rw [hb2, if_pos (by omega)]; rfl, fun c hc => ?_⟩) (Or.inl ⟨rfl, fun i h1 h2 => g _ (by omega)⟩)
        have hc : c < S.1.1.1 := hc
        have h9 := q8.2 c hc
        have h8 := (o2.2.1 c hc).1
        rw [show (stC (kS S) ((S.1.1.1, ycs S.1.1.2.2 S.1.1.2.1 S.1.1.1, S.1.1.2.2), psh S.1.2.1 S.1.1, S.1.2.2)).1.1.2.1 c = yrC S.1.1.2.2 (S.1.1.2.1 c) from if_pos hc] at h9
        exact ⟨(g _ (by omega)).trans h9.1, fun e he => ⟨(g _ (by omega)).trans (h9.2 e he).1, (g _ (by omega)).trans (h9.2 e he).2⟩⟩
      · have hlt : x < 10 := by rw [i10, nI_leI (by omega) (by omega)] at c102; omega
        refine S_aload_n (q := 106) hX dX12_year_105 rfl rfl ?_
        refine S_bipush (q := 108) (v := 26) hX dX12_year_106 bp_26 rfl ?_
        refine S_iload_n (q := 109) hX dX12_year_108 rfl rfl ?_
        refine S_iadd (q := 110) hX dX12_year_109 rfl ?_
        refine S_iconst (q := 111) (v := 0) hX dX12_year_110 ic_0 rfl ?_
        refine S_callV (ci := 12) (C := "FanTalkModel") (T := TX12) (N := 17) (q := 114) 0 0 hX (c_X12_set _ μb _ _ 0 (26 + x) (by first | rfl | (simp only [i0, i1, i2, i3, i4, i5, i6, i7, i8, i9, i10, i11, i12, i17, i20, i24, i26, i27, i31, i32, i36, i48, i57, i59, i60, i61, i63, i64, i87, i96, i97, i99, i122, i148, i250, i255, i305, i453, i999, i1359, i1812, pk_mul, nI_add]; done) | (simp only [i0, i1, i2, i3, i4, i5, i6, i7, i8, i9, i10, i11, i12, i17, i20, i24, i26, i27, i31, i32, i36, i48, i57, i59, i60, i61, i63, i64, i87, i96, i97, i99, i122, i148, i250, i255, i305, i453, i999, i1359, i1812, pk_mul, nI_add]; congr 1; omega))) rfl ?hs_1 rfl u_846 u_848 us_28 u_12 u_849 ⟨by decide, by decide, rfl⟩ ⟨Nat.le_of_ble_eq_true rfl, Nat.le_of_ble_eq_true rfl⟩ ⟨Nat.le_of_ble_eq_true rfl, Nat.le_of_ble_eq_true rfl⟩ (Nat.le_of_ble_eq_true rfl) dX12_year_111 ?hp_1 rfl rfl rfl ?_
        case hs_1 => first | with_reducible assumption | exact ⟨_, by with_reducible assumption⟩ | exact MM.isO hM
        case hp_1 => exact ⟨hM, h0, by omega⟩
        rintro v σ sz1 ⟨μ1, hM, hF1, rfl, e1, rfl⟩
        have hF := hF.trans hF1
        have h0 : μ1 0 0 = nI 0 := by rw [e1, m2_o (by decide)]; exact h0
        refine S_iinc (q := 117) [_, _, _, _, _, _] hX dX12_year_114 rfl (ii_1 _) rfl (Nat.le_of_ble_eq_true rfl) rfl rfl ?_
        refine S_goto 99 hX dX12_year_117 rfl ?_
        refine ih (x + 1) σ _ _ μc μ1 rfl hRc (fun j hj => by rw [e1, m2_o hj]; exact hb1 j hj) (fun i => ?_) (nI_1 _) (by omega) (by omega) hM hF
        rw [e1, m2_11]
        by_cases hi : i = 0 + (26 + x)
        · rw [if_pos hi, if_pos (by omega)]
        · rw [if_neg hi, hb2]
          by_cases h2 : 26 ≤ i ∧ i < 26 + x
          · rw [if_pos h2, if_pos (by omega)]
          · rw [if_neg h2, if_neg (by omega)]
  have loop1 : ∀ (fl : Nat) (c : Nat) (σ : Sg) (xg xc : Int32) (μk : MF), xg = nI (sumE S.1.1.2.1 c - sumE (fun c => yrC S.1.1.2.2 (S.1.1.2.1 c)) c) → xc = nI c → c ≤ S.1.1.1 → MM σ m μk → Fr m (m + 9) σ0 σ → MR μk (stC (kS S) ((S.1.1.1, (ycs S.1.1.2.2 S.1.1.2.1 c), S.1.1.2.2), psh S.1.2.1 S.1.1, S.1.2.2)) → S.1.1.1 - c < fl → G X Γ P 0 0 8 [some (.ref m), some (.int xg), some (.int xc), none, none, none] [] σ sz := by
    intro fl
    induction fl with
    | zero =>
      rintro c σ _ _ μk rfl rfl hc hM hF hRk hfu
      exact absurd hfu (Nat.not_lt_zero _)
    | succ fl ih =>
      rintro c σ _ _ μk rfl rfl hc hM hF hRk hfu
      have h0 := hRk.1
      have hn3 := o1
      have iho := ih
      have inner : ∀ (fl2 : Nat) (e : Nat) (σ : Sg) (xg xe : Int32) (μk : MF), c < S.1.1.1 → xg = nI (sumE S.1.1.2.1 c - sumE (fun c => yrC S.1.1.2.2 (S.1.1.2.1 c)) c + (e - (yrI S.1.1.2.2 (S.1.1.2.1 c).2 e).1)) → xe = nI e → e ≤ (S.1.1.2.1 c).1 → MM σ m μk → Fr m (m + 9) σ0 σ → MR μk (stC (kS S) ((S.1.1.1, fu (ycs S.1.1.2.2 S.1.1.2.1 c) c (yrI S.1.1.2.2 (S.1.1.2.1 c).2 e), S.1.1.2.2), psh S.1.2.1 S.1.1, S.1.2.2)) → (∀ k, k < (S.1.1.2.1 c).1 → μk 1 (0 + (36 + 17 * c + 1 + 2 * k)) = nI ((yrI S.1.1.2.2 (S.1.1.2.1 c).2 (e)).2 k).1 ∧ μk 1 (0 + (36 + 17 * c + 2 + 2 * k)) = nI ((yrI S.1.1.2.2 (S.1.1.2.1 c).2 (e)).2 k).2) → (S.1.1.2.1 c).1 - e < fl2 → G X Γ P 0 0 38 [some (.ref m), some (.int xg), some (.int (nI c)), some (.int (nI (S.1.1.2.1 c).1)), some (.int xe), none] [] σ sz := by
        intro fl2
        induction fl2 with
        | zero =>
          rintro e σ _ _ μk hcn rfl rfl he hM hF hRe hXX hfu2
          exact absurd hfu2 (Nat.not_lt_zero _)
        | succ fl2 ih =>
          rintro e σ _ _ μk hcn rfl rfl he hM hF hRe hXX hfu2
          have h0 := hRe.1
          have hok := o2.2.1 c hcn
          have h8 := hok.1
          have hyl := yrI_le S.1.1.2.2 (S.1.1.2.1 c).2 e
          have hyl2 := yrI_le S.1.1.2.2 (S.1.1.2.1 c).2 (S.1.1.2.1 c).1
          have hsl := sumE_le (f := S.1.1.2.1) (g := fun c => yrC S.1.1.2.2 (S.1.1.2.1 c)) (fun c => yrI_le _ _ _) c
          have hs24 := sumE_24 (f := S.1.1.2.1) (n := c) (fun k hk => (o2.2.1 k (by omega)).1)
          have okE : StOk (stC (kS S) ((S.1.1.1, fu (ycs S.1.1.2.2 S.1.1.2.1 c) c (yrI S.1.1.2.2 (S.1.1.2.1 c).2 e), S.1.1.2.2), psh S.1.2.1 S.1.1, S.1.2.2)) := ⟨⟨o1, ⟨rfl, fun k hk => (by
              show CodOk (fu (ycs S.1.1.2.2 S.1.1.2.1 c) c (yrI S.1.1.2.2 (S.1.1.2.1 c).2 e) k)
              by_cases hkc : k = c
              · rw [hkc, fu_eq]; exact yrI_ok hok he
              · rw [fu_ne hkc]; exact ycs_ok o2.2.1 k hk), o2.2.2⟩, okk.1.2.2.1, okk.1.2.2.2.1, o5, o6, o7, o8, o9, o10⟩, okk.2⟩
          refine S_iload (q := 40) hX dX12_year_38 rfl rfl ?_
          refine S_iload_n (q := 41) hX dX12_year_40 rfl rfl ?_
          refine S_icmp_ge (q := 44) 91 hX dX12_year_41 rfl rfl (fun c41 => ?_) (fun c41 => ?_)
          · have hge : e = (S.1.1.2.1 c).1 := by rw [nI_leI (by omega) (by omega)] at c41; omega
            subst hge
            refine S_iinc (q := 94) [_, _, _, _, _, _] hX dX12_year_91 rfl (ii_1 _) rfl (Nat.le_of_ble_eq_true rfl) rfl rfl ?_
            refine S_goto 8 hX dX12_year_94 rfl ?_
            have hR2 : MR μk (stC (kS S) ((S.1.1.1, ycs S.1.1.2.2 S.1.1.2.1 (c + 1), S.1.1.2.2), psh S.1.2.1 S.1.1, S.1.2.2)) := by
              have := hRe
              rw [show fu (ycs S.1.1.2.2 S.1.1.2.1 c) c (yrI S.1.1.2.2 (S.1.1.2.1 c).2 (S.1.1.2.1 c).1) = ycs S.1.1.2.2 S.1.1.2.1 (c + 1) from ycs_s _ _ _] at this
              exact this
            refine S_wk [true, true, true, false, false, false] ?_
            refine iho (c + 1) _ _ _ μk ?_ (nI_1 _) (by omega) hM hF hR2 (by omega)
            congr 1
            show _ = (sumE S.1.1.2.1 c + (S.1.1.2.1 c).1) - (sumE (fun c => yrC S.1.1.2.2 (S.1.1.2.1 c)) c + (yrC S.1.1.2.2 (S.1.1.2.1 c)).1)
            show _ = (sumE S.1.1.2.1 c + (S.1.1.2.1 c).1) - (sumE (fun c => yrC S.1.1.2.2 (S.1.1.2.1 c)) c + (yrI S.1.1.2.2 (S.1.1.2.1 c).2 (S.1.1.2.1 c).1).1)
            omega
          · have hlt : e < (S.1.1.2.1 c).1 := by rw [nI_leI (by omega) (by omega)] at c41; omega
            have hXe := hXX e hlt
            rw [yrI_hi _ _ e e hyl] at hXe
            refine S_aload_n (q := 45) hX dX12_year_44 rfl rfl ?_
            refine S_iload_n (q := 46) hX dX12_year_45 rfl rfl ?_
            refine S_iload (q := 48) hX dX12_year_46 rfl rfl ?_
            refine S_callV (ci := 12) (C := "FanTalkModel") (T := TX12) (N := 17) (q := 51) 0 0 hX (c_X12_wordOf _ μk _ _ 0 c e rfl rfl) rfl ?hs_2 rfl u_892 u_894 us_36 u_12 u_895 ⟨by decide, by decide, rfl⟩ ⟨Nat.le_of_ble_eq_true rfl, Nat.le_of_ble_eq_true rfl⟩ ⟨Nat.le_of_ble_eq_true rfl, Nat.le_of_ble_eq_true rfl⟩ (Nat.le_of_ble_eq_true rfl) dX12_year_48 ?hp_2 rfl rfl rfl ?_
            case hs_2 => first | with_reducible assumption | exact ⟨_, by with_reducible assumption⟩ | exact MM.isO hM
            case hp_2 => exact ⟨hM, h0, by omega⟩
            rintro v σ1 sz1 ⟨rfl, rfl, rfl⟩
            rw [hXe.2]
            have hw9 := (hok.2 e hlt).2.2.2
            refine S_istore (q := 53) [_, _, _, _, _, _] hX dX12_year_51 rfl (Nat.le_of_ble_eq_true rfl) rfl rfl ?_
            refine S_aload_n (q := 54) hX dX12_year_53 rfl rfl ?_
            refine S_bipush (q := 56) (v := 26) hX dX12_year_54 bp_26 rfl ?_
            refine S_iload (q := 58) hX dX12_year_56 rfl rfl ?_
            refine S_iadd (q := 59) hX dX12_year_58 rfl ?_
            refine S_callV (ci := 12) (C := "FanTalkModel") (T := TX12) (N := 17) (q := 62) 0 0 hX (c_X12_get _ μk _ 0 (26 + ((S.1.1.2.1 c).2 e).2) (by first | rfl | (simp only [i0, i1, i2, i3, i4, i5, i6, i7, i8, i9, i10, i11, i12, i17, i20, i24, i26, i27, i31, i32, i36, i48, i57, i59, i60, i61, i63, i64, i87, i96, i97, i99, i122, i148, i250, i255, i305, i453, i999, i1359, i1812, pk_mul, nI_add]; done) | (simp only [i0, i1, i2, i3, i4, i5, i6, i7, i8, i9, i10, i11, i12, i17, i20, i24, i26, i27, i31, i32, i36, i48, i57, i59, i60, i61, i63, i64, i87, i96, i97, i99, i122, i148, i250, i255, i305, i453, i999, i1359, i1812, pk_mul, nI_add]; congr 1; omega))) rfl ?hs_3 rfl u_838 u_840 us_26 u_12 u_841 ⟨by decide, by decide, rfl⟩ ⟨Nat.le_of_ble_eq_true rfl, Nat.le_of_ble_eq_true rfl⟩ ⟨Nat.le_of_ble_eq_true rfl, Nat.le_of_ble_eq_true rfl⟩ (Nat.le_of_ble_eq_true rfl) dX12_year_59 ?hp_3 rfl rfl rfl ?_
            case hs_3 => first | with_reducible assumption | exact ⟨_, by with_reducible assumption⟩ | exact MM.isO hM
            case hp_3 => exact ⟨hM, h0, by omega⟩
            rintro v σ1 sz1 ⟨rfl, rfl, rfl⟩
            rw [show 0 + (26 + ((S.1.1.2.1 c).2 e).2) = 0 + 26 + ((S.1.1.2.1 c).2 e).2 by omega, show μk 1 (0 + 26 + ((S.1.1.2.1 c).2 e).2) = nI (S.1.1.2.2 ((S.1.1.2.1 c).2 e).2) from hRe.2.1.2.2.2.2.2.2.2.2.1.1 _ hw9]
            refine S_if_le (q := 65) 82 hX dX12_year_62 rfl rfl (fun c62 => ?_) (fun c62 => ?_)
            · have hu : ¬ 0 < S.1.1.2.2 ((S.1.1.2.1 c).2 e).2 := fun z => by rw [le_i, toI0, nI_toInt (by have := o2.2.2 _ hw9; omega)] at c62; omega
              refine S_iinc (q := 85) [_, _, _, _, _, _] hX dX12_year_82 rfl (ii_1 _) rfl (Nat.le_of_ble_eq_true rfl) rfl rfl ?_
              refine S_iinc (q := 88) [_, _, _, _, _, _] hX dX12_year_85 rfl (ii_1 _) rfl (Nat.le_of_ble_eq_true rfl) rfl rfl ?_
              refine S_goto 38 hX dX12_year_88 rfl ?_
              have hch := yrI_f (u := S.1.1.2.2) (es := (S.1.1.2.1 c).2) (e := e) hu
              refine S_wk [true, true, true, true, true, false] ?_
              refine ih (e + 1) _ _ _ μk hcn ?_ (nI_1 _) hlt hM hF (by rw [hch]; exact hRe) (by rw [hch]; exact hXX) (by omega)
              rw [hch, i1, nI_add]
              congr 1
              omega
            · have hu : 0 < S.1.1.2.2 ((S.1.1.2.1 c).2 e).2 := by
                rcases Nat.eq_zero_or_pos (S.1.1.2.2 ((S.1.1.2.1 c).2 e).2) with q | q
                · exact absurd (by rw [q]; decide) c62
                · exact q
              refine S_aload_n (q := 66) hX dX12_year_65 rfl rfl ?_
              refine S_iload_n (q := 67) hX dX12_year_66 rfl rfl ?_
              refine S_iload (q := 69) hX dX12_year_67 rfl rfl ?_
              refine S_aload_n (q := 70) hX dX12_year_69 rfl rfl ?_
              refine S_iload_n (q := 71) hX dX12_year_70 rfl rfl ?_
              refine S_iload (q := 73) hX dX12_year_71 rfl rfl ?_
              refine S_callV (ci := 12) (C := "FanTalkModel") (T := TX12) (N := 17) (q := 76) 0 0 hX (c_X12_rowOf _ μk _ _ 0 c e rfl rfl) rfl ?hs_4 rfl u_876 u_878 us_33 u_12 u_879 ⟨by decide, by decide, rfl⟩ ⟨Nat.le_of_ble_eq_true rfl, Nat.le_of_ble_eq_true rfl⟩ ⟨Nat.le_of_ble_eq_true rfl, Nat.le_of_ble_eq_true rfl⟩ (Nat.le_of_ble_eq_true rfl) dX12_year_73 ?hp_4 rfl rfl rfl ?_
              case hs_4 => first | with_reducible assumption | exact ⟨_, by with_reducible assumption⟩ | exact MM.isO hM
              case hp_4 => exact ⟨hM, h0, by omega⟩
              rintro v σ1 sz1 ⟨rfl, rfl, rfl⟩
              rw [hXe.1]
              refine S_callV (ci := 12) (C := "FanTalkModel") (T := TX12) (N := 17) (q := 79) 0 0 hX (c_X12_addEntry _ μk _ _ _ 0 c (yrI S.1.1.2.2 (S.1.1.2.1 c).2 e).1 rfl) rfl ?hs_5 rfl u_884 u_886 us_35 u_12 u_887 ⟨by decide, by decide, rfl⟩ ⟨Nat.le_of_ble_eq_true rfl, Nat.le_of_ble_eq_true rfl⟩ ⟨Nat.le_of_ble_eq_true rfl, Nat.le_of_ble_eq_true rfl⟩ (Nat.le_of_ble_eq_true rfl) dX12_year_76 ?hp_5 rfl rfl rfl ?_
              case hs_5 => first | with_reducible assumption | exact ⟨_, by with_reducible assumption⟩ | exact MM.isO hM
              case hp_5 =>
                refine ⟨hM, h0, by omega, ?_⟩
                have := hRe.2.1.code hcn
                have h9 := this.1
                rw [show (stC (kS S) ((S.1.1.1, fu (ycs S.1.1.2.2 S.1.1.2.1 c) c (yrI S.1.1.2.2 (S.1.1.2.1 c).2 e), S.1.1.2.2), psh S.1.2.1 S.1.1, S.1.2.2)).1.1.2.1 c = yrI S.1.1.2.2 (S.1.1.2.1 c).2 e from fu_eq _ _ _] at h9
                exact h9
              rintro v σ sz1 ⟨μ1, hM, hF1, rfl, e1, rfl⟩
              have hF := hF.trans hF1
              have hXn : ∀ k, k < (S.1.1.2.1 c).1 → μ1 1 (0 + (36 + 17 * c + 1 + 2 * k)) = nI (fu (yrI S.1.1.2.2 (S.1.1.2.1 c).2 e).2 (yrI S.1.1.2.2 (S.1.1.2.1 c).2 e).1 ((S.1.1.2.1 c).2 e) k).1 ∧ μ1 1 (0 + (36 + 17 * c + 2 + 2 * k)) = nI (fu (yrI S.1.1.2.2 (S.1.1.2.1 c).2 e).2 (yrI S.1.1.2.2 (S.1.1.2.1 c).2 e).1 ((S.1.1.2.1 c).2 e) k).2 := fun k hk => by
                by_cases hka : k = (yrI S.1.1.2.2 (S.1.1.2.1 c).2 e).1
                · rw [hka, fu_eq, e1, addE_r, addE_w]; exact ⟨rfl, rfl⟩
                · rw [fu_ne hka, e1, addE_n (by omega) (by omega) (by omega), addE_n (by omega) (by omega) (by omega)]; exact hXX k hk
              refine S_goto 85 hX dX12_year_79 rfl ?_
              refine S_iinc (q := 88) [_, _, _, _, _, _] hX dX12_year_85 rfl (ii_1 _) rfl (Nat.le_of_ble_eq_true rfl) rfl rfl ?_
              refine S_goto 38 hX dX12_year_88 rfl ?_
              have hch := yrI_t (u := S.1.1.2.2) (es := (S.1.1.2.1 c).2) (e := e) hu
              have hM1 : MR μ1 (stC (kS S) ((S.1.1.1, fu (ycs S.1.1.2.2 S.1.1.2.1 c) c (yrI S.1.1.2.2 (S.1.1.2.1 c).2 (e + 1)), S.1.1.2.2), psh S.1.2.1 S.1.1, S.1.2.2)) := by
                rw [hch]
                refine hRe.now okE (fun j hj => by rw [e1, addE_o hj]) (fun i h1 h2 => by rw [e1, addE_n (by omega) (by omega) (by omega)]) ?_
                have g : ∀ i, i ≠ 0 + (36 + 17 * c) → i ≠ 0 + (36 + 17 * c + 1 + 2 * (yrI S.1.1.2.2 (S.1.1.2.1 c).2 e).1) → i ≠ 0 + (36 + 17 * c + 2 + 2 * (yrI S.1.1.2.2 (S.1.1.2.1 c).2 e).1) → μ1 1 i = μk 1 i := fun i h1 h2 h3 => by rw [e1, addE_n h1 h2 h3]
                obtain ⟨q0, q1, q2, q3, q4, q5, q6, q7, q8, q9⟩ := id hRe.2.1
                refine hRe.2.1.up okE.1 ((g _ (by omega) (by omega) (by omega)).trans q0) ((g _ (by omega) (by omega) (by omega)).trans q1) ((g _ (by omega) (by omega) (by omega)).trans q2) ((g _ (by omega) (by omega) (by omega)).trans q3) ((g _ (by omega) (by omega) (by omega)).trans q4) ((g _ (by omega) (by omega) (by omega)).trans q5) (Or.inl ⟨rfl, fun i h1 h2 => g _ (by omega) (by omega) (by omega)⟩) (Or.inl ⟨rfl, fun i h1 h2 => g _ (by omega) (by omega) (by omega)⟩) (Or.inr ?_) (Or.inl ⟨rfl, fun i h1 h2 => g _ (by omega) (by omega) (by omega)⟩)
                have := q8.code (n := S.1.1.1) (c := c) (D := ((yrI S.1.1.2.2 (S.1.1.2.1 c).2 e).1 + 1, fu (yrI S.1.1.2.2 (S.1.1.2.1 c).2 e).2 (yrI S.1.1.2.2 (S.1.1.2.1 c).2 e).1 ((S.1.1.2.1 c).2 e))) (g := μ1 1) o1 (fun k hk => (okE.1.2.1.2.1 k hk).1) (by omega) (fun k hk => Or.inr hk) (fun i h1 h2 h3 => g i (by omega) (by omega) (by omega)) ?_ (fun k hk => ?_)
                · rw [show fu (stC (kS S) ((S.1.1.1, fu (ycs S.1.1.2.2 S.1.1.2.1 c) c (yrI S.1.1.2.2 (S.1.1.2.1 c).2 e), S.1.1.2.2), psh S.1.2.1 S.1.1, S.1.2.2)).1.1.2.1 c ((yrI S.1.1.2.2 (S.1.1.2.1 c).2 e).1 + 1, fu (yrI S.1.1.2.2 (S.1.1.2.1 c).2 e).2 (yrI S.1.1.2.2 (S.1.1.2.1 c).2 e).1 ((S.1.1.2.1 c).2 e)) = fu (ycs S.1.1.2.2 S.1.1.2.1 c) c ((yrI S.1.1.2.2 (S.1.1.2.1 c).2 e).1 + 1, fu (yrI S.1.1.2.2 (S.1.1.2.1 c).2 e).2 (yrI S.1.1.2.2 (S.1.1.2.1 c).2 e).1 ((S.1.1.2.1 c).2 e)) from fufu _ _ _ _] at this
                  exact this
                · rw [show 0 + 26 + (10 + 17 * c) = 0 + (36 + 17 * c) by omega, e1, addE_c]
                · have hk : k < (yrI S.1.1.2.2 (S.1.1.2.1 c).2 e).1 + 1 := hk
                  rw [show 0 + 26 + (10 + 17 * c + 1 + 2 * k) = 0 + (36 + 17 * c + 1 + 2 * k) by omega, show 0 + 26 + (10 + 17 * c + 2 + 2 * k) = 0 + (36 + 17 * c + 2 + 2 * k) by omega]
                  exact hXn k (by omega)
              refine S_wk [true, true, true, true, true, false] ?_
              refine ih (e + 1) _ _ _ μ1 hcn ?_ (nI_1 _) hlt hM hF hM1 (by rw [hch]; exact hXn) (by omega)
              rw [hch]
              congr 1
              show _ = sumE S.1.1.2.1 c - sumE (fun c => yrC S.1.1.2.2 (S.1.1.2.1 c)) c + (e + 1 - ((yrI S.1.1.2.2 (S.1.1.2.1 c).2 e).1 + 1))
              omega
      refine S_iload_n (q := 9) hX dX12_year_8 rfl rfl ?_
      refine S_aload_n (q := 10) hX dX12_year_9 rfl rfl ?_
      refine S_iconst (q := 11) (v := 0) hX dX12_year_10 ic_0 rfl ?_
      refine S_callV (ci := 12) (C := "FanTalkModel") (T := TX12) (N := 17) (q := 14) 0 0 hX (c_X12_get _ μk _ 0 (0) (by first | rfl | (simp only [i0, i1, i2, i3, i4, i5, i6, i7, i8, i9, i10, i11, i12, i17, i20, i24, i26, i27, i31, i32, i36, i48, i57, i59, i60, i61, i63, i64, i87, i96, i97, i99, i122, i148, i250, i255, i305, i453, i999, i1359, i1812, pk_mul, nI_add]; done) | (simp only [i0, i1, i2, i3, i4, i5, i6, i7, i8, i9, i10, i11, i12, i17, i20, i24, i26, i27, i31, i32, i36, i48, i57, i59, i60, i61, i63, i64, i87, i96, i97, i99, i122, i148, i250, i255, i305, i453, i999, i1359, i1812, pk_mul, nI_add]; congr 1; omega))) rfl ?hs_6 rfl u_838 u_840 us_26 u_12 u_841 ⟨by decide, by decide, rfl⟩ ⟨Nat.le_of_ble_eq_true rfl, Nat.le_of_ble_eq_true rfl⟩ ⟨Nat.le_of_ble_eq_true rfl, Nat.le_of_ble_eq_true rfl⟩ (Nat.le_of_ble_eq_true rfl) dX12_year_11 ?hp_6 rfl rfl rfl ?_
      case hs_6 => first | with_reducible assumption | exact ⟨_, by with_reducible assumption⟩ | exact MM.isO hM
      case hp_6 => exact ⟨hM, h0, by omega⟩
      rintro v σ1 sz1 ⟨rfl, rfl, rfl⟩
      rw [show μk 1 (0 + 0) = nI S.1.1.1 from hRk.2.1.1]
      refine S_icmp_ge (q := 17) 97 hX dX12_year_14 rfl rfl (fun c14 => ?_) (fun c14 => ?_)
      · have hge : c = S.1.1.1 := by rw [nI_leI (by omega) (by omega)] at c14; omega
        subst hge
        refine S_iconst (q := 98) (v := 0) hX dX12_year_97 ic_0 rfl ?_
        refine S_istore_n (q := 99) [_, _, _, _, _, _] hX dX12_year_98 rfl (Nat.le_of_ble_eq_true rfl) rfl rfl ?_
        refine S_wk [true, true, true, false, false, false] ?_
        exact loop3 11 0 σ1 _ _ μk μk rfl hRk (fun j hj => rfl) (fun i => by rw [if_neg (by omega)]) rfl (by omega) (by omega) hM hF
      · have hcn : c < S.1.1.1 := by rw [nI_leI (by omega) (by omega)] at c14; omega
        have hyc : (ycs S.1.1.2.2 S.1.1.2.1 c) c = S.1.1.2.1 c := by unfold ycs; rw [if_neg (Nat.lt_irrefl _)]
        have hcc : MCode (μk 1) 0 c (S.1.1.2.1 c) := by
          have h9 := hRk.2.1.code hcn
          rw [show (stC (kS S) ((S.1.1.1, (ycs S.1.1.2.2 S.1.1.2.1 c), S.1.1.2.2), psh S.1.2.1 S.1.1, S.1.2.2)).1.1.2.1 c = S.1.1.2.1 c from hyc] at h9
          exact h9
        refine S_aload_n (q := 18) hX dX12_year_17 rfl rfl ?_
        refine S_iload_n (q := 19) hX dX12_year_18 rfl rfl ?_
        refine S_callV (ci := 12) (C := "FanTalkModel") (T := TX12) (N := 17) (q := 22) 0 0 hX (c_X12_entriesOf _ μk _ 0 c rfl) rfl ?hs_7 rfl u_872 u_874 us_32 u_12 u_875 ⟨by decide, by decide, rfl⟩ ⟨Nat.le_of_ble_eq_true rfl, Nat.le_of_ble_eq_true rfl⟩ ⟨Nat.le_of_ble_eq_true rfl, Nat.le_of_ble_eq_true rfl⟩ (Nat.le_of_ble_eq_true rfl) dX12_year_19 ?hp_7 rfl rfl rfl ?_
        case hs_7 => first | with_reducible assumption | exact ⟨_, by with_reducible assumption⟩ | exact MM.isO hM
        case hp_7 => exact ⟨hM, h0, by omega⟩
        rintro v σ1 sz1 ⟨rfl, rfl, rfl⟩
        rw [hcc.1]
        refine S_istore_n (q := 23) [_, _, _, _, _, _] hX dX12_year_22 rfl (Nat.le_of_ble_eq_true rfl) rfl rfl ?_
        refine S_aload_n (q := 24) hX dX12_year_23 rfl rfl ?_
        refine S_bipush (q := 26) (v := 36) hX dX12_year_24 bp_36 rfl ?_
        refine S_bipush (q := 28) (v := 17) hX dX12_year_26 bp_17 rfl ?_
        refine S_iload_n (q := 29) hX dX12_year_28 rfl rfl ?_
        refine S_imul (q := 30) hX dX12_year_29 rfl ?_
        refine S_iadd (q := 31) hX dX12_year_30 rfl ?_
        refine S_iconst (q := 32) (v := 0) hX dX12_year_31 ic_0 rfl ?_
        refine S_callV (ci := 12) (C := "FanTalkModel") (T := TX12) (N := 17) (q := 35) 0 0 hX (c_X12_set _ μk _ _ 0 (36 + 17 * c) (by first | rfl | (simp only [i0, i1, i2, i3, i4, i5, i6, i7, i8, i9, i10, i11, i12, i17, i20, i24, i26, i27, i31, i32, i36, i48, i57, i59, i60, i61, i63, i64, i87, i96, i97, i99, i122, i148, i250, i255, i305, i453, i999, i1359, i1812, pk_mul, nI_add]; done) | (simp only [i0, i1, i2, i3, i4, i5, i6, i7, i8, i9, i10, i11, i12, i17, i20, i24, i26, i27, i31, i32, i36, i48, i57, i59, i60, i61, i63, i64, i87, i96, i97, i99, i122, i148, i250, i255, i305, i453, i999, i1359, i1812, pk_mul, nI_add]; congr 1; omega))) rfl ?hs_8 rfl u_846 u_848 us_28 u_12 u_849 ⟨by decide, by decide, rfl⟩ ⟨Nat.le_of_ble_eq_true rfl, Nat.le_of_ble_eq_true rfl⟩ ⟨Nat.le_of_ble_eq_true rfl, Nat.le_of_ble_eq_true rfl⟩ (Nat.le_of_ble_eq_true rfl) dX12_year_32 ?hp_8 rfl rfl rfl ?_
        case hs_8 => first | with_reducible assumption | exact ⟨_, by with_reducible assumption⟩ | exact MM.isO hM
        case hp_8 => exact ⟨hM, h0, by omega⟩
        rintro v σ sz1 ⟨μ1, hM, hF1, rfl, e1, rfl⟩
        have hF := hF.trans hF1
        have h0 : μ1 0 0 = nI 0 := by rw [e1, m2_o (by decide)]; exact h0
        refine S_iconst (q := 36) (v := 0) hX dX12_year_35 ic_0 rfl ?_
        refine S_istore (q := 38) [_, _, _, _, _, _] hX dX12_year_36 rfl (Nat.le_of_ble_eq_true rfl) rfl rfl ?_
        have hM1 : MR μ1 (stC (kS S) ((S.1.1.1, fu (ycs S.1.1.2.2 S.1.1.2.1 c) c (yrI S.1.1.2.2 (S.1.1.2.1 c).2 0), S.1.1.2.2), psh S.1.2.1 S.1.1, S.1.2.2)) := by
          have okY : StOk (stC (kS S) ((S.1.1.1, (ycs S.1.1.2.2 S.1.1.2.1 c), S.1.1.2.2), psh S.1.2.1 S.1.1, S.1.2.2)) := ⟨⟨o1, ⟨rfl, ycs_ok o2.2.1, o2.2.2⟩, okk.1.2.2.1, okk.1.2.2.2.1, o5, o6, o7, o8, o9, o10⟩, okk.2⟩
          refine hRk.now okY (fun j hj => by rw [e1, m2_o hj]) (fun i h1 h2 => by rw [e1, m2_n (by omega)]) ?_
          have g : ∀ i, i ≠ 0 + (36 + 17 * c) → μ1 1 i = μk 1 i := fun i h1 => by rw [e1, m2_n h1]
          obtain ⟨q0, q1, q2, q3, q4, q5, q6, q7, q8, q9⟩ := id hRk.2.1
          refine hRk.2.1.up okY.1 ((g _ (by omega)).trans q0) ((g _ (by omega)).trans q1) ((g _ (by omega)).trans q2) ((g _ (by omega)).trans q3) ((g _ (by omega)).trans q4) ((g _ (by omega)).trans q5) (Or.inl ⟨rfl, fun i h1 h2 => g _ (by omega)⟩) (Or.inl ⟨rfl, fun i h1 h2 => g _ (by omega)⟩) (Or.inr ?_) (Or.inl ⟨rfl, fun i h1 h2 => g _ (by omega)⟩)
          refine q8.code (n := S.1.1.1) (c := c) (D := (0, (S.1.1.2.1 c).2)) (g := μ1 1) o1 (fun k hk => (okY.1.2.1.2.1 k hk).1) (by omega) (fun k hk => Or.inr hk) (fun i h1 h2 h3 => g i (by omega)) ?_ (fun k hk => absurd hk (Nat.not_lt_zero _))
          rw [show 0 + 26 + (10 + 17 * c) = 0 + (36 + 17 * c) by omega, e1, m2_y]
          rfl
        refine S_wk [true, true, true, true, true, false] ?_
        exact inner ((S.1.1.2.1 c).1 + 1) 0 _ _ _ μ1 hcn (by congr 1) rfl (Nat.zero_le _) hM hF hM1 (fun k hk => by rw [e1, m2_n (by omega), m2_n (by omega)]; exact hcc.2 k hk) (by omega)
  refine S_aload_n (q := 1) hX dX12_year_0 rfl rfl ?_
  refine S_callV (ci := 12) (C := "FanTalkModel") (T := TX12) (N := 17) (q := 4) 0 0 hX (c_X12_know _ μ S) rfl ?hs_9 rfl u_995 u_997 us_48 u_12 u_998 ⟨by decide, by decide, rfl⟩ ⟨Nat.le_of_ble_eq_true rfl, Nat.le_of_ble_eq_true rfl⟩ ⟨Nat.le_of_ble_eq_true rfl, Nat.le_of_ble_eq_true rfl⟩ (Nat.le_of_ble_eq_true rfl) dX12_year_1 ?hp_9 rfl rfl rfl ?_
  case hs_9 => first | with_reducible assumption | exact ⟨_, by with_reducible assumption⟩ | exact MM.isO hM
  case hp_9 => exact ⟨hM, hR, ok⟩
  rintro v σ sz1 ⟨μ1, hM, hF1, rfl, ⟨hR1, _⟩, rfl⟩
  have hF := hF.trans hF1
  refine S_iconst (q := 5) (v := 0) hX dX12_year_4 ic_0 rfl ?_
  refine S_istore_n (q := 6) [_, _, _, _, _, _] hX dX12_year_5 rfl (Nat.le_of_ble_eq_true rfl) rfl rfl ?_
  refine S_iconst (q := 7) (v := 0) hX dX12_year_6 ic_0 rfl ?_
  refine S_istore_n (q := 8) [_, _, _, _, _, _] hX dX12_year_7 rfl (Nat.le_of_ble_eq_true rfl) rfl rfl ?_
  exact loop1 (S.1.1.1 + 1) 0 _ _ _ μ1 rfl rfl (Nat.zero_le _) hM hF (by rw [ycs_0]; exact hR1) (by omega)
