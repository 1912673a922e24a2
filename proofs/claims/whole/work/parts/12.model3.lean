/-! WHAT THE REFERENCE'S ROWS HOLD OF A STATE -/
/-- what may be undone lies so: uses, then codes -/
def MDd (f : Nat → Int32) (o : Nat) (B : BkT) : Prop := (∀ w, w < 10 → f (o + w) = nI (B.2.2 w)) ∧ ∀ c, c < B.1 → f (o + (10 + 17 * c)) = nI (B.2.1 c).1 ∧ ∀ e, e < (B.2.1 c).1 → f (o + (10 + 17 * c + 1 + 2 * e)) = nI ((B.2.1 c).2 e).1 ∧ f (o + (10 + 17 * c + 2 + 2 * e)) = nI ((B.2.1 c).2 e).2
def MCt (f : Nat → Int32) (b : Nat) (C : CtT) : Prop := f (b + 0) = nI C.1.1 ∧ f (b + 1) = nI C.2.2.1 ∧ f (b + 2) = nI C.2.2.2.1 ∧ f (b + 3) = nI C.2.2.2.2.1.1 ∧ f (b + 4) = nI C.2.2.2.2.2.1 ∧ f (b + 5) = nI C.2.1.1 ∧ (∀ k, k < C.2.2.2.2.1.1 → f (b + (6 + k)) = nI (C.2.2.2.2.1.2 k)) ∧ (∀ k, k < C.2.2.2.2.2.1 → f (b + (10 + 2 * k)) = nI (C.2.2.2.2.2.2 k).1 ∧ f (b + (10 + 2 * k + 1)) = nI (C.2.2.2.2.2.2 k).2) ∧ MDd f (b + 26) C.1 ∧ ∀ k, k < C.2.1.1 → MDd f (b + (87 + 61 * k)) (C.2.1.2 k)
def MR (μ : MF) (S : ST) : Prop := μ 0 0 = nI 0 ∧ MCt (μ 1) 0 S.1 ∧ (∀ i, i < 2 → μ 2 i = bi ((S.2.1 i).isSome = true) ∧ ∀ C, S.2.1 i = some C → MCt (μ 1) (453 * (1 + i)) C) ∧ (∀ i, i < 3 → μ 3 i = S.2.2.1 i) ∧ μ 0 1 = nI S.2.2.2.1 ∧ ∀ i, i < S.2.2.2.1 → μ 4 i = (nI (S.2.2.2.2 i)).toInt8.toInt32
theorem MDd.ext {f g : Nat → Int32} {o : Nat} {B : BkT} {n : Nat} (h : MDd f o B) (hn : B.1 ≤ 3) (hc : ∀ c, c < B.1 → (B.2.1 c).1 ≤ 8) (e : ∀ i, o ≤ i → i < o + 61 → g i = f i) : MDd g o B :=
  ⟨fun w hw => (e _ (by omega) (by omega)).trans (h.1 w hw), fun c hcc => ⟨(e _ (by omega) (by omega)).trans (h.2 c hcc).1, fun k hk => ⟨(e _ (by omega) (by have := hc c hcc; omega)).trans ((h.2 c hcc).2 k hk).1, (e _ (by omega) (by have := hc c hcc; omega)).trans ((h.2 c hcc).2 k hk).2⟩⟩⟩
theorem BkOk.le {n : Nat} {B : BkT} (h : BkOk n B) (hn : n ≤ 3) : B.1 ≤ 3 ∧ ∀ c, c < B.1 → (B.2.1 c).1 ≤ 8 := ⟨by rw [h.1]; exact hn, fun c hc => (h.2.1 c (by rw [← h.1]; exact hc)).1⟩
theorem MCt.ext {f g : Nat → Int32} {b : Nat} {C : CtT} (h : MCt f b C) (ok : CtOk C) (e : ∀ i, b ≤ i → i < b + 453 → g i = f i) : MCt g b C := by
  obtain ⟨o1, o2, o3, o4, o5, o6, o7, o8, o9, o10⟩ := ok
  obtain ⟨h0, h1, h2, h3, h4, h5, h6, h7, h8, h9⟩ := h
  refine ⟨(e _ (by omega) (by omega)).trans h0, (e _ (by omega) (by omega)).trans h1, (e _ (by omega) (by omega)).trans h2, (e _ (by omega) (by omega)).trans h3, (e _ (by omega) (by omega)).trans h4, (e _ (by omega) (by omega)).trans h5, fun k hk => (e _ (by omega) (by omega)).trans (h6 k hk), fun k hk => ⟨(e _ (by omega) (by omega)).trans (h7 k hk).1, (e _ (by omega) (by omega)).trans (h7 k hk).2⟩, h8.ext (n := 0) (o2.le o1).1 (o2.le o1).2 (fun i h1 h2 => e i (by omega) (by omega)), fun k hk => (h9 k hk).ext (n := 0) ((o4 k hk).le o1).1 ((o4 k hk).le o1).2 (fun i h1 h2 => e i (by omega) (by omega))⟩
theorem MCt.code {f : Nat → Int32} {b c : Nat} {C : CtT} (h : MCt f b C) (hc : c < C.1.1) : MCode f b c (C.1.2.1 c) := by
  have h1 := h.2.2.2.2.2.2.2.2.1.2 c hc
  refine ⟨by rw [show b + (36 + 17 * c) = b + 26 + (10 + 17 * c) by omega]; exact h1.1, fun e he => ⟨?_, ?_⟩⟩
  · rw [show b + (36 + 17 * c + 1 + 2 * e) = b + 26 + (10 + 17 * c + 1 + 2 * e) by omega]; exact (h1.2 e he).1
  · rw [show b + (36 + 17 * c + 2 + 2 * e) = b + 26 + (10 + 17 * c + 2 + 2 * e) by omega]; exact (h1.2 e he).2
/-- the court that is on has changed, nothing else -/
theorem MR.now {μ μ' : MF} {S : ST} {C : CtT} (h : MR μ S) (ok : StOk S) (e : ∀ j, j ≠ 1 → μ' j = μ j) (e1 : ∀ i, 453 ≤ i → i < 1359 → μ' 1 i = μ 1 i) (hC : MCt (μ' 1) 0 C) : MR μ' (stC S C) := by
  obtain ⟨h0, -, h2, h3, h4, h5⟩ := h
  refine ⟨by rw [e 0 (by decide)]; exact h0, hC, fun i hi => ⟨by rw [e 2 (by decide)]; exact (h2 i hi).1, fun D hD => ((h2 i hi).2 D hD).ext (ok.2.1 i hi D hD) (fun j h1 h2 => e1 j (by omega) (by omega))⟩, fun i hi => by rw [e 3 (by decide)]; exact h3 i hi, by rw [e 0 (by decide)]; exact h4, fun i hi => by rw [e 4 (by decide)]; exact h5 i hi⟩
theorem MR.rf {μ μ' : MF} {S : ST} {k : Nat} (h : MR μ S) (hk : k < 3) (e : μ' = m2 μ 3 k (μ 3 k + 1)) : MR μ' (rfS S k) := by
  subst e
  obtain ⟨h0, h1, h2, h3, h4, h5⟩ := h
  refine ⟨h0, h1, h2, fun i hi => ?_, h4, h5⟩
  show m2 μ 3 k (μ 3 k + 1) 3 i = upd S.2.2.1 k (S.2.2.1 k + 1) i
  rw [m2_at, h3 k hk]
  unfold upd
  by_cases hi2 : i = k
  · rw [if_pos ⟨rfl, hi2⟩, if_pos hi2]
  · rw [if_neg (fun z => hi2 z.2), if_neg hi2, h3 i hi]
theorem m2_11 (f : MF) (j k : Nat) (x : Int32) : m2 f 1 j x 1 k = if k = j then x else f 1 k := by
  rw [m2_at]
  by_cases h : k = j
  · rw [if_pos ⟨rfl, h⟩, if_pos h]
  · rw [if_neg (fun z => h z.2), if_neg h]
theorem m2_o {f : MF} {j k a : Nat} {x : Int32} (h : a ≠ j) : m2 f j k x a = f a := m1_ne h
/-- a store of the court at k, read at another place, at that place -/
theorem m2_n {f : MF} {j k : Nat} {x : Int32} (h : k ≠ j) : m2 f 1 j x 1 k = f 1 k := by rw [m2_11, if_neg h]
theorem m2_y (f : MF) (j : Nat) (x : Int32) : m2 f 1 j x 1 j = x := by rw [m2_11, if_pos rfl]
/-- a court with some of its parts made anew: the six numbers, and of wants, facts, codes, past each as it was or anew -/
theorem MCt.up {f g : Nat → Int32} {C C' : CtT} (h : MCt f 0 C) (ok : CtOk C) (e0 : g (0 + 0) = nI C'.1.1) (e1 : g (0 + 1) = nI C'.2.2.1) (e2 : g (0 + 2) = nI C'.2.2.2.1) (e3 : g (0 + 3) = nI C'.2.2.2.2.1.1) (e4 : g (0 + 4) = nI C'.2.2.2.2.2.1) (e5 : g (0 + 5) = nI C'.2.1.1)
    (W : (C'.2.2.2.2.1 = C.2.2.2.2.1 ∧ ∀ i, 6 ≤ i → i < 10 → g (0 + i) = f (0 + i)) ∨ ∀ k, k < C'.2.2.2.2.1.1 → g (0 + (6 + k)) = nI (C'.2.2.2.2.1.2 k))
    (F : (C'.2.2.2.2.2 = C.2.2.2.2.2 ∧ ∀ i, 10 ≤ i → i < 26 → g (0 + i) = f (0 + i)) ∨ ∀ k, k < C'.2.2.2.2.2.1 → g (0 + (10 + 2 * k)) = nI (C'.2.2.2.2.2.2 k).1 ∧ g (0 + (10 + 2 * k + 1)) = nI (C'.2.2.2.2.2.2 k).2)
    (D : (C'.1 = C.1 ∧ ∀ i, 26 ≤ i → i < 87 → g (0 + i) = f (0 + i)) ∨ MDd g (0 + 26) C'.1)
    (Q : (C'.2.1 = C.2.1 ∧ ∀ i, 87 ≤ i → i < 453 → g (0 + i) = f (0 + i)) ∨ ∀ k, k < C'.2.1.1 → MDd g (0 + (87 + 61 * k)) (C'.2.1.2 k)) : MCt g 0 C' := by
  obtain ⟨q0, q1, q2, q3, q4, q5, q6, q7, q8, q9⟩ := h
  obtain ⟨o1, o2, o3, o4, o5, o6, o7, o8, o9, o10⟩ := ok
  refine ⟨e0, e1, e2, e3, e4, e5, ?_, ?_, ?_, ?_⟩
  · rcases W with ⟨a, b⟩ | W
    · rw [a]
      exact fun k hk => (b _ (by omega) (by omega)).trans (q6 k hk)
    · exact W
  · rcases F with ⟨a, b⟩ | F
    · rw [a]
      exact fun k hk => ⟨(b _ (by omega) (by omega)).trans (q7 k hk).1, (b (10 + 2 * k + 1) (by omega) (by omega)).trans (q7 k hk).2⟩
    · exact F
  · rcases D with ⟨a, b⟩ | D
    · rw [a]
      exact q8.ext (n := 0) (o2.le o1).1 (o2.le o1).2 (fun i h1 h2 => by have := b i (by omega) (by omega); rw [Nat.zero_add] at this; exact this)
    · exact D
  · rcases Q with ⟨a, b⟩ | Q
    · rw [a]
      exact fun k hk => (q9 k hk).ext (n := 0) ((o4 k hk).le o1).1 ((o4 k hk).le o1).2 (fun i h1 h2 => by have := b i (by omega) (by omega); rw [Nat.zero_add] at this; exact this)
    · exact Q
/-- the codes' part, with one code made anew -/
theorem MDd.code {f g : Nat → Int32} {o n c : Nat} {B : BkT} {D : CodT} (h : MDd f o B) (hn : B.1 ≤ 3) (h8 : ∀ k, k < B.1 → (B.2.1 k).1 ≤ 8) (hc : c < 3) (hN : ∀ k, k < n → k = c ∨ k < B.1) (e : ∀ i, o ≤ i → i < o + 61 → (i < o + (10 + 17 * c) ∨ o + (10 + 17 * c + 17) ≤ i) → g i = f i) (h1 : g (o + (10 + 17 * c)) = nI D.1) (h2 : ∀ k, k < D.1 → g (o + (10 + 17 * c + 1 + 2 * k)) = nI (D.2 k).1 ∧ g (o + (10 + 17 * c + 2 + 2 * k)) = nI (D.2 k).2) : MDd g o (n, fu B.2.1 c D, B.2.2) := by
  refine ⟨fun w hw => (e _ (by omega) (by omega) (by omega)).trans (h.1 w hw), fun k hk => ?_⟩
  show g (o + (10 + 17 * k)) = nI (fu B.2.1 c D k).1 ∧ ∀ e, e < (fu B.2.1 c D k).1 → g (o + (10 + 17 * k + 1 + 2 * e)) = nI ((fu B.2.1 c D k).2 e).1 ∧ g (o + (10 + 17 * k + 2 + 2 * e)) = nI ((fu B.2.1 c D k).2 e).2
  by_cases hkc : k = c
  · subst hkc
    rw [fu_eq]
    exact ⟨h1, h2⟩
  · rw [fu_ne hkc]
    have hkB : k < B.1 := (hN k hk).resolve_left hkc
    have h9 := h8 k hkB
    exact ⟨(e _ (by omega) (by omega) (by omega)).trans (h.2 k hkB).1, fun j hj => ⟨(e _ (by omega) (by omega) (by omega)).trans ((h.2 k hkB).2 j hj).1, (e _ (by omega) (by omega) (by omega)).trans ((h.2 k hkB).2 j hj).2⟩⟩

theorem c_X12_isKind (x : Int32) : CT_X12_isKind [.int x] (fun Γ σ sz => True) (fun Γ σ sz v σ' sz' => v = some (.int (bi (inb x 0 4))) ∧ σ' = σ ∧ sz' = sz) := by
  refine CT.mkP rfl (Nat.le_of_ble_eq_true rfl) [_] rfl ?_
  intro X Γ σ sz P hX hpre hsz hP
  refine S_iload_n (q := 1) hX dX12_isKind_0 rfl rfl ?_
  refine S_iconst (q := 2) (v := 0) hX dX12_isKind_1 ic_0 rfl ?_
  refine S_iconst (q := 3) (v := 4) hX dX12_isKind_2 ic_4 rfl ?_
  refine S_callS (q := 6) 0 0 hX (c_X12_in _ _ _) rfl u_858 u_859 u_12 u_860 ⟨by decide, by decide, rfl⟩ ⟨Nat.le_of_ble_eq_true rfl, Nat.le_of_ble_eq_true rfl⟩ ⟨Nat.le_of_ble_eq_true rfl, Nat.le_of_ble_eq_true rfl⟩ (Nat.le_of_ble_eq_true rfl) dX12_isKind_3 ?hp_1 rfl rfl rfl ?_
  case hp_1 => trivial
  rintro v σ1 sz1 ⟨rfl, rfl, rfl⟩
  refine S_top (bi_congr (rg x 0 4 _ _ (by decide) (by decide))) ?_
  refine S_xret hX dX12_isKind_6 (Nat.zero_le _) (Nat.zero_le _) nb_bi ?_
  refine hP _ _ _ ?_
  exact ⟨rfl, rfl, rfl⟩
theorem c_X12_isLawful (x y : Int32) (a b : Nat) (hx : x = nI a) (hy : y = nI b) : CT_X12_isLawful [.int x, .int y] (fun Γ σ sz => a < 12 ∧ b < 12) (fun Γ σ sz v σ' sz' => v = some (.int (bi (lwS a b))) ∧ σ' = σ ∧ sz' = sz) := by
  refine CT.mkP rfl (Nat.le_of_ble_eq_true rfl) [_, _] rfl ?_
  intro X Γ σ sz P hX hpre hsz hP
  subst hx
  subst hy
  refine S_iload_n (q := 1) hX dX12_isLawful_0 rfl rfl ?_
  refine S_iconst (q := 2) (v := 2) hX dX12_isLawful_1 ic_2 rfl ?_
  refine S_idiv (q := 3) hX dX12_isLawful_2 (by decide) rfl ?_
  refine S_iload_n (q := 4) hX dX12_isLawful_3 rfl rfl ?_
  refine S_iconst (q := 5) (v := 2) hX dX12_isLawful_4 ic_2 rfl ?_
  refine S_idiv (q := 6) hX dX12_isLawful_5 (by decide) rfl ?_
  refine S_isub (q := 7) hX dX12_isLawful_6 rfl ?_
  refine S_iconst (q := 8) (v := (-1)) hX dX12_isLawful_7 ic_m1 rfl ?_
  refine S_iconst (q := 9) (v := 1) hX dX12_isLawful_8 ic_1 rfl ?_
  refine S_callS (q := 12) 0 0 hX (c_X12_in _ _ _) rfl u_858 u_859 u_12 u_860 ⟨by decide, by decide, rfl⟩ ⟨Nat.le_of_ble_eq_true rfl, Nat.le_of_ble_eq_true rfl⟩ ⟨Nat.le_of_ble_eq_true rfl, Nat.le_of_ble_eq_true rfl⟩ (Nat.le_of_ble_eq_true rfl) dX12_isLawful_9 ?hp_1 rfl rfl rfl ?_
  case hp_1 => trivial
  rintro v σ1 sz1 ⟨rfl, rfl, rfl⟩
  refine S_xret hX dX12_isLawful_12 (Nat.zero_le _) (Nat.zero_le _) nb_bi ?_
  refine hP _ _ _ ?_
  refine ⟨?_, rfl, rfl⟩
  refine congrArg (fun z => some (Value.int z)) (bi_congr ?_)
  rw [i2, pk_div (by omega) (by decide) (by decide), pk_div (by omega) (by decide) (by decide), pk_sub_toInt (by omega) (by omega), show ((-1 : Int32)).toInt = -1 by decide, show ((1 : Int32)).toInt = 1 by decide]
  omega
theorem c_X12_code (m : Nat) (μ : MF) (S : ST)  : CT_X12_code [.ref m] (fun Γ σ sz => MM σ m μ ∧ MR μ S ∧ StOk S) (fun Γ σ sz v σ' sz' => ∃ μ', MM σ' m μ' ∧ Fr m (m + 9) σ σ' ∧ v = some (.int (sp_code S).1) ∧ MR μ' (sp_code S).2 ∧ sz' = sz) := by
  refine CT.mkP rfl (Nat.le_of_ble_eq_true rfl) [_] rfl ?_
  intro X Γ σ sz P hX hpre hsz hP
  obtain ⟨hM, hR, ok⟩ := hpre
  have hF : Fr m (m + 9) σ σ := Fr.rf
  have h0 := hR.1
  have hC0 := hR.2.1.1
  obtain ⟨q0, q1, q2, q3, q4, q5, q6, q7, q8, q9⟩ := id hR.2.1
  obtain ⟨o1, o2, o3, o4, o5, o6, o7, o8, o9, o10⟩ := id ok.1
  refine S_aload_n (q := 1) hX dX12_code_0 rfl rfl ?_
  refine S_iconst (q := 2) (v := 0) hX dX12_code_1 ic_0 rfl ?_
  refine S_callV (ci := 12) (C := "FanTalkModel") (T := TX12) (N := 17) (q := 5) 0 0 hX (c_X12_get _ μ _ 0 (0) (by first | rfl | (simp only [i0, i1, i2, i3, i4, i5, i6, i7, i8, i9, i10, i11, i12, i17, i20, i24, i26, i27, i31, i32, i36, i48, i57, i59, i60, i61, i63, i64, i87, i96, i97, i99, i122, i148, i250, i255, i305, i453, i999, i1359, i1812, pk_mul, nI_add]; done) | (simp only [i0, i1, i2, i3, i4, i5, i6, i7, i8, i9, i10, i11, i12, i17, i20, i24, i26, i27, i31, i32, i36, i48, i57, i59, i60, i61, i63, i64, i87, i96, i97, i99, i122, i148, i250, i255, i305, i453, i999, i1359, i1812, pk_mul, nI_add]; congr 1; omega))) rfl ?hs_1 rfl u_838 u_840 us_26 u_12 u_841 ⟨by decide, by decide, rfl⟩ ⟨Nat.le_of_ble_eq_true rfl, Nat.le_of_ble_eq_true rfl⟩ ⟨Nat.le_of_ble_eq_true rfl, Nat.le_of_ble_eq_true rfl⟩ (Nat.le_of_ble_eq_true rfl) dX12_code_2 ?hp_1 rfl rfl rfl ?_
  case hs_1 => first | with_reducible assumption | exact ⟨_, by with_reducible assumption⟩ | exact MM.isO hM
  case hp_1 => exact ⟨hM, h0, by omega⟩
  rintro v σ1 sz1 ⟨rfl, rfl, rfl⟩
  rw [hC0]
  refine S_iconst (q := 6) (v := 3) hX dX12_code_5 ic_3 rfl ?_
  refine S_icmp_ne (q := 9) 14 hX dX12_code_6 rfl rfl (fun c6 => ?_) (fun c6 => ?_)
  · refine S_aload_n (q := 15) hX dX12_code_14 rfl rfl ?_
    refine S_bipush (q := 17) (v := 36) hX dX12_code_15 bp_36 rfl ?_
    refine S_bipush (q := 19) (v := 17) hX dX12_code_17 bp_17 rfl ?_
    refine S_aload_n (q := 20) hX dX12_code_19 rfl rfl ?_
    refine S_iconst (q := 21) (v := 0) hX dX12_code_20 ic_0 rfl ?_
    refine S_callV (ci := 12) (C := "FanTalkModel") (T := TX12) (N := 17) (q := 24) 0 0 hX (c_X12_get _ μ _ 0 (0) (by first | rfl | (simp only [i0, i1, i2, i3, i4, i5, i6, i7, i8, i9, i10, i11, i12, i17, i20, i24, i26, i27, i31, i32, i36, i48, i57, i59, i60, i61, i63, i64, i87, i96, i97, i99, i122, i148, i250, i255, i305, i453, i999, i1359, i1812, pk_mul, nI_add]; done) | (simp only [i0, i1, i2, i3, i4, i5, i6, i7, i8, i9, i10, i11, i12, i17, i20, i24, i26, i27, i31, i32, i36, i48, i57, i59, i60, i61, i63, i64, i87, i96, i97, i99, i122, i148, i250, i255, i305, i453, i999, i1359, i1812, pk_mul, nI_add]; congr 1; omega))) rfl ?hs_2 rfl u_838 u_840 us_26 u_12 u_841 ⟨by decide, by decide, rfl⟩ ⟨Nat.le_of_ble_eq_true rfl, Nat.le_of_ble_eq_true rfl⟩ ⟨Nat.le_of_ble_eq_true rfl, Nat.le_of_ble_eq_true rfl⟩ (Nat.le_of_ble_eq_true rfl) dX12_code_21 ?hp_2 rfl rfl rfl ?_
    case hs_2 => first | with_reducible assumption | exact ⟨_, by with_reducible assumption⟩ | exact MM.isO hM
    case hp_2 => exact ⟨hM, h0, by omega⟩
    rintro v σ1 sz1 ⟨rfl, rfl, rfl⟩
    rw [hC0]
    refine S_imul (q := 25) hX dX12_code_24 rfl ?_
    refine S_iadd (q := 26) hX dX12_code_25 rfl ?_
    refine S_iconst (q := 27) (v := 0) hX dX12_code_26 ic_0 rfl ?_
    refine S_callV (ci := 12) (C := "FanTalkModel") (T := TX12) (N := 17) (q := 30) 0 0 hX (c_X12_set _ μ _ _ 0 (36 + 17 * S.1.1.1) (by first | rfl | (simp only [i0, i1, i2, i3, i4, i5, i6, i7, i8, i9, i10, i11, i12, i17, i20, i24, i26, i27, i31, i32, i36, i48, i57, i59, i60, i61, i63, i64, i87, i96, i97, i99, i122, i148, i250, i255, i305, i453, i999, i1359, i1812, pk_mul, nI_add]; done) | (simp only [i0, i1, i2, i3, i4, i5, i6, i7, i8, i9, i10, i11, i12, i17, i20, i24, i26, i27, i31, i32, i36, i48, i57, i59, i60, i61, i63, i64, i87, i96, i97, i99, i122, i148, i250, i255, i305, i453, i999, i1359, i1812, pk_mul, nI_add]; congr 1; omega))) rfl ?hs_3 rfl u_846 u_848 us_28 u_12 u_849 ⟨by decide, by decide, rfl⟩ ⟨Nat.le_of_ble_eq_true rfl, Nat.le_of_ble_eq_true rfl⟩ ⟨Nat.le_of_ble_eq_true rfl, Nat.le_of_ble_eq_true rfl⟩ (Nat.le_of_ble_eq_true rfl) dX12_code_27 ?hp_3 rfl rfl rfl ?_
    case hs_3 => first | with_reducible assumption | exact ⟨_, by with_reducible assumption⟩ | exact MM.isO hM
    case hp_3 => exact ⟨hM, h0, by omega⟩
    rintro v σ sz1 ⟨μ1, hM, hF1, rfl, e1, rfl⟩
    have hF := hF.trans hF1
    have h0 : μ1 0 0 = nI 0 := by rw [e1, m2_o (by decide)]; exact h0
    refine S_aload_n (q := 31) hX dX12_code_30 rfl rfl ?_
    refine S_iconst (q := 32) (v := 0) hX dX12_code_31 ic_0 rfl ?_
    refine S_aload_n (q := 33) hX dX12_code_32 rfl rfl ?_
    refine S_iconst (q := 34) (v := 0) hX dX12_code_33 ic_0 rfl ?_
    refine S_callV (ci := 12) (C := "FanTalkModel") (T := TX12) (N := 17) (q := 37) 0 0 hX (c_X12_get _ μ1 _ 0 (0) (by first | rfl | (simp only [i0, i1, i2, i3, i4, i5, i6, i7, i8, i9, i10, i11, i12, i17, i20, i24, i26, i27, i31, i32, i36, i48, i57, i59, i60, i61, i63, i64, i87, i96, i97, i99, i122, i148, i250, i255, i305, i453, i999, i1359, i1812, pk_mul, nI_add]; done) | (simp only [i0, i1, i2, i3, i4, i5, i6, i7, i8, i9, i10, i11, i12, i17, i20, i24, i26, i27, i31, i32, i36, i48, i57, i59, i60, i61, i63, i64, i87, i96, i97, i99, i122, i148, i250, i255, i305, i453, i999, i1359, i1812, pk_mul, nI_add]; congr 1; omega))) rfl ?hs_4 rfl u_838 u_840 us_26 u_12 u_841 ⟨by decide, by decide, rfl⟩ ⟨Nat.le_of_ble_eq_true rfl, Nat.le_of_ble_eq_true rfl⟩ ⟨Nat.le_of_ble_eq_true rfl, Nat.le_of_ble_eq_true rfl⟩ (Nat.le_of_ble_eq_true rfl) dX12_code_34 ?hp_4 rfl rfl rfl ?_
    case hs_4 => first | with_reducible assumption | exact ⟨_, by with_reducible assumption⟩ | exact MM.isO hM
    case hp_4 => exact ⟨hM, h0, by omega⟩
    rintro v σ1 sz1 ⟨rfl, rfl, rfl⟩
    rw [e1, m2_n (by omega), hC0]
    refine S_iconst (q := 38) (v := 1) hX dX12_code_37 ic_1 rfl ?_
    refine S_iadd (q := 39) hX dX12_code_38 rfl ?_
    refine S_callV (ci := 12) (C := "FanTalkModel") (T := TX12) (N := 17) (q := 42) 0 0 hX (c_X12_set _ μ1 _ _ 0 (0) (by first | rfl | (simp only [i0, i1, i2, i3, i4, i5, i6, i7, i8, i9, i10, i11, i12, i17, i20, i24, i26, i27, i31, i32, i36, i48, i57, i59, i60, i61, i63, i64, i87, i96, i97, i99, i122, i148, i250, i255, i305, i453, i999, i1359, i1812, pk_mul, nI_add]; done) | (simp only [i0, i1, i2, i3, i4, i5, i6, i7, i8, i9, i10, i11, i12, i17, i20, i24, i26, i27, i31, i32, i36, i48, i57, i59, i60, i61, i63, i64, i87, i96, i97, i99, i122, i148, i250, i255, i305, i453, i999, i1359, i1812, pk_mul, nI_add]; congr 1; omega))) rfl ?hs_5 rfl u_846 u_848 us_28 u_12 u_849 ⟨by decide, by decide, rfl⟩ ⟨Nat.le_of_ble_eq_true rfl, Nat.le_of_ble_eq_true rfl⟩ ⟨Nat.le_of_ble_eq_true rfl, Nat.le_of_ble_eq_true rfl⟩ (Nat.le_of_ble_eq_true rfl) dX12_code_39 ?hp_5 rfl rfl rfl ?_
    case hs_5 => first | with_reducible assumption | exact ⟨_, by with_reducible assumption⟩ | exact MM.isO hM
    case hp_5 => exact ⟨hM, h0, by omega⟩
    rintro v σ sz1 ⟨μ2, hM, hF1, rfl, e2, rfl⟩
    have hF := hF.trans hF1
    have h0 : μ2 0 0 = nI 0 := by rw [e2, m2_o (by decide)]; exact h0
    refine S_aload_n (q := 43) hX dX12_code_42 rfl rfl ?_
    refine S_iconst (q := 44) (v := 5) hX dX12_code_43 ic_5 rfl ?_
    refine S_iconst (q := 45) (v := 0) hX dX12_code_44 ic_0 rfl ?_
    refine S_callV (ci := 12) (C := "FanTalkModel") (T := TX12) (N := 17) (q := 48) 0 0 hX (c_X12_set _ μ2 _ _ 0 (5) (by first | rfl | (simp only [i0, i1, i2, i3, i4, i5, i6, i7, i8, i9, i10, i11, i12, i17, i20, i24, i26, i27, i31, i32, i36, i48, i57, i59, i60, i61, i63, i64, i87, i96, i97, i99, i122, i148, i250, i255, i305, i453, i999, i1359, i1812, pk_mul, nI_add]; done) | (simp only [i0, i1, i2, i3, i4, i5, i6, i7, i8, i9, i10, i11, i12, i17, i20, i24, i26, i27, i31, i32, i36, i48, i57, i59, i60, i61, i63, i64, i87, i96, i97, i99, i122, i148, i250, i255, i305, i453, i999, i1359, i1812, pk_mul, nI_add]; congr 1; omega))) rfl ?hs_6 rfl u_846 u_848 us_28 u_12 u_849 ⟨by decide, by decide, rfl⟩ ⟨Nat.le_of_ble_eq_true rfl, Nat.le_of_ble_eq_true rfl⟩ ⟨Nat.le_of_ble_eq_true rfl, Nat.le_of_ble_eq_true rfl⟩ (Nat.le_of_ble_eq_true rfl) dX12_code_45 ?hp_6 rfl rfl rfl ?_
    case hs_6 => first | with_reducible assumption | exact ⟨_, by with_reducible assumption⟩ | exact MM.isO hM
    case hp_6 => exact ⟨hM, h0, by omega⟩
    rintro v σ sz1 ⟨μ3, hM, hF1, rfl, e3, rfl⟩
    have hF := hF.trans hF1
    have h0 : μ3 0 0 = nI 0 := by rw [e3, m2_o (by decide)]; exact h0
    refine S_aload_n (q := 49) hX dX12_code_48 rfl rfl ?_
    refine S_iconst (q := 50) (v := 0) hX dX12_code_49 ic_0 rfl ?_
    refine S_callV (ci := 12) (C := "FanTalkModel") (T := TX12) (N := 17) (q := 53) 0 0 hX (c_X12_get _ μ3 _ 0 (0) (by first | rfl | (simp only [i0, i1, i2, i3, i4, i5, i6, i7, i8, i9, i10, i11, i12, i17, i20, i24, i26, i27, i31, i32, i36, i48, i57, i59, i60, i61, i63, i64, i87, i96, i97, i99, i122, i148, i250, i255, i305, i453, i999, i1359, i1812, pk_mul, nI_add]; done) | (simp only [i0, i1, i2, i3, i4, i5, i6, i7, i8, i9, i10, i11, i12, i17, i20, i24, i26, i27, i31, i32, i36, i48, i57, i59, i60, i61, i63, i64, i87, i96, i97, i99, i122, i148, i250, i255, i305, i453, i999, i1359, i1812, pk_mul, nI_add]; congr 1; omega))) rfl ?hs_7 rfl u_838 u_840 us_26 u_12 u_841 ⟨by decide, by decide, rfl⟩ ⟨Nat.le_of_ble_eq_true rfl, Nat.le_of_ble_eq_true rfl⟩ ⟨Nat.le_of_ble_eq_true rfl, Nat.le_of_ble_eq_true rfl⟩ (Nat.le_of_ble_eq_true rfl) dX12_code_50 ?hp_7 rfl rfl rfl ?_
    case hs_7 => first | with_reducible assumption | exact ⟨_, by with_reducible assumption⟩ | exact MM.isO hM
    case hp_7 => exact ⟨hM, h0, by omega⟩
    rintro v σ1 sz1 ⟨rfl, rfl, rfl⟩
    refine S_iconst (q := 54) (v := 1) hX dX12_code_53 ic_1 rfl ?_
    refine S_isub (q := 55) hX dX12_code_54 rfl ?_
    refine S_iret hX dX12_code_55 (Nat.zero_le _) (Nat.zero_le _) ?_
    refine hP _ _ _ ?_
    have hn : S.1.1.1 < 3 := by
      have := ok.1.1
      rcases Nat.lt_or_ge S.1.1.1 3 with q | q
      · exact q
      · exact absurd (by rw [show S.1.1.1 = 3 by omega]; rfl) c6
    have hsp : sp_code S = (nI S.1.1.1, stC S (newB S.1 (S.1.1.1 + 1, fu S.1.1.2.1 S.1.1.1 (0, (S.1.1.2.1 S.1.1.1).2), S.1.1.2.2))) := by unfold sp_code; rw [if_neg (by omega)]
    rw [hsp]
    refine ⟨_, hM, hF, ?_, hR.now ok (fun j hj => by rw [e3, m2_o hj, e2, m2_o hj, e1, m2_o hj]) (fun i h1 h2 => by rw [e3, m2_n (by omega), e2, m2_n (by omega), e1, m2_n (by omega)]) ?_, rfl⟩
    · rw [e3, m2_n (by omega), e2, m2_y, i1, nI_add, pk_sub (by omega), Nat.add_sub_cancel]
    · have g : ∀ i, i ≠ 0 + (36 + 17 * S.1.1.1) → i ≠ 0 + 0 → i ≠ 0 + 5 → μ3 1 i = μ 1 i := fun i h1 h2 h3 => by rw [e3, m2_n h3, e2, m2_n h2, e1, m2_n h1]
      refine hR.2.1.up ok.1 (by rw [e3, m2_n (by omega), e2, m2_y, i1, nI_add]; rfl) ((g _ (by omega) (by omega) (by omega)).trans q1) ((g _ (by omega) (by omega) (by omega)).trans q2) ((g _ (by omega) (by omega) (by omega)).trans q3) ((g _ (by omega) (by omega) (by omega)).trans q4) (by rw [e3, m2_y]; rfl) (Or.inl ⟨rfl, fun i h1 h2 => g _ (by omega) (by omega) (by omega)⟩) (Or.inl ⟨rfl, fun i h1 h2 => g _ (by omega) (by omega) (by omega)⟩) (Or.inr ?_) (Or.inr fun k hk => absurd hk (Nat.not_lt_zero _))
      refine q8.code (o2.le o1).1 (o2.le o1).2 hn (fun k hk => by omega) (fun i h1 h2 h3 => g i (by omega) (by omega) (by omega)) ?_ (fun k hk => absurd hk (Nat.not_lt_zero _))
      rw [show 0 + 26 + (10 + 17 * S.1.1.1) = 0 + (36 + 17 * S.1.1.1) by omega, e3, m2_n (by omega), e2, m2_n (by omega), e1, m2_y]
      rfl
  · refine S_aload_n (q := 10) hX dX12_code_9 rfl rfl ?_
    refine S_callV (ci := 12) (C := "FanTalkModel") (T := TX12) (N := 17) (q := 13) 0 0 hX (c_X12_full _ μ) rfl ?hs_8 rfl u_842 u_844 us_27 u_12 u_845 ⟨by decide, by decide, rfl⟩ ⟨Nat.le_of_ble_eq_true rfl, Nat.le_of_ble_eq_true rfl⟩ ⟨Nat.le_of_ble_eq_true rfl, Nat.le_of_ble_eq_true rfl⟩ (Nat.le_of_ble_eq_true rfl) dX12_code_10 ?hp_8 rfl rfl rfl ?_
    case hs_8 => first | with_reducible assumption | exact ⟨_, by with_reducible assumption⟩ | exact MM.isO hM
    case hp_8 => exact hM
    rintro v σ sz1 ⟨μ9, hM, hF1, rfl, e9, rfl⟩
    have hF := hF.trans hF1
    refine S_iret hX dX12_code_13 (Nat.zero_le _) (Nat.zero_le _) ?_
    refine hP _ _ _ ?_
    have hsp : sp_code S = (-4, rfS S 2) := by unfold sp_code; rw [if_pos (nI_inj (by have := ok.1.1; omega) (by decide) c6)]
    rw [hsp]
    exact ⟨_, hM, hF, rfl, hR.rf (by decide) e9, rfl⟩
theorem c_X12_hasRow (m : Nat) (μ : MF) (x y : Int32) (b c r : Nat) (C : CodT) (hx : x = nI c) (hy : y = nI r) : CT_X12_hasRow [.ref m, .int x, .int y] (fun Γ σ sz => MM σ m μ ∧ μ 0 0 = nI b ∧ b + (36 + 17 * c + 17) < 1812 ∧ MCode (μ 1) b c C ∧ CodOk C ∧ r < 2147483648) (fun Γ σ sz v σ' sz' => v = some (.int (bi (hasR C r))) ∧ σ' = σ ∧ sz' = sz) := by
  refine CT.mkP rfl (Nat.le_of_ble_eq_true rfl) [_, _, _, _, _] rfl ?_
  intro X Γ σ sz P hX hpre hsz hP
  obtain ⟨hM, h0, hb, hC, hok, hr⟩ := hpre
  have hF : Fr m (m + 9) σ σ := Fr.rf
  subst hx
  subst hy
  have loop : ∀ (fu : Nat) (e : Nat) (xi xe : Int32), xi = bi (hasN C r e = true) → xe = nI e → e ≤ C.1 → C.1 - e < fu → G X Γ P 0 0 5 [some (.ref m), some (.int (nI c)), some (.int (nI r)), some (.int xi), some (.int xe)] [] σ sz := by
    intro fu
    induction fu with
    | zero =>
      rintro e _ _ rfl rfl he hfu
      exact absurd hfu (Nat.not_lt_zero _)
    | succ fu ih =>
      rintro e _ _ rfl rfl he hfu
      refine S_iload (q := 7) hX dX12_hasRow_5 rfl rfl ?_
      refine S_aload_n (q := 8) hX dX12_hasRow_7 rfl rfl ?_
      refine S_iload_n (q := 9) hX dX12_hasRow_8 rfl rfl ?_
      refine S_callV (ci := 12) (C := "FanTalkModel") (T := TX12) (N := 17) (q := 12) 0 0 hX (c_X12_entriesOf _ μ _ b c rfl) rfl ?hs_1 rfl u_872 u_874 us_32 u_12 u_875 ⟨by decide, by decide, rfl⟩ ⟨Nat.le_of_ble_eq_true rfl, Nat.le_of_ble_eq_true rfl⟩ ⟨Nat.le_of_ble_eq_true rfl, Nat.le_of_ble_eq_true rfl⟩ (Nat.le_of_ble_eq_true rfl) dX12_hasRow_9 ?hp_1 rfl rfl rfl ?_
      case hs_1 => first | with_reducible assumption | exact ⟨_, by with_reducible assumption⟩ | exact MM.isO hM
      case hp_1 => exact ⟨hM, h0, by omega⟩
      rintro v σ1 sz1 ⟨rfl, rfl, rfl⟩
      rw [hC.1]
      refine S_icmp_ge (q := 15) 42 hX dX12_hasRow_12 rfl rfl (fun c12 => ?_) (fun c12 => ?_)
      · refine S_iload_n (q := 43) hX dX12_hasRow_42 rfl rfl ?_
        refine S_xret hX dX12_hasRow_43 (Nat.zero_le _) (Nat.zero_le _) nb_bi ?_
        refine hP _ _ _ ?_
        have : e = C.1 := by rw [nI_leI (by have := hok.1; omega) (by have := hok.1; omega)] at c12; omega
        subst this
        exact ⟨rfl, rfl, rfl⟩
      · have hlt : e < C.1 := by rw [nI_leI (by have := hok.1; omega) (by have := hok.1; omega)] at c12; omega
        refine S_iload_n (q := 16) hX dX12_hasRow_15 rfl rfl ?_
        refine S_if_ne_b (q := 19) 30 hX dX12_hasRow_16 rfl rfl (fun c16 => ?_) (fun c16 => ?_)
        · refine S_iconst (q := 31) (v := 1) hX dX12_hasRow_30 ic_1 rfl ?_
          refine S_goto 35 hX dX12_hasRow_31 rfl ?_
          refine S_istore_n (q := 36) [_, _, _, _, _] hX dX12_hasRow_35 rfl (Nat.le_of_ble_eq_true rfl) rfl rfl ?_
          refine S_iinc (q := 39) [_, _, _, _, _] hX dX12_hasRow_36 rfl (ii_1 _) rfl (Nat.le_of_ble_eq_true rfl) rfl rfl ?_
          refine S_goto 5 hX dX12_hasRow_39 rfl ?_
          exact ih (e + 1) _ _ (bi_t (by unfold hasN; rw [c16]; rfl)).symm (nI_1 _) hlt (by omega)
        · refine S_aload_n (q := 20) hX dX12_hasRow_19 rfl rfl ?_
          refine S_iload_n (q := 21) hX dX12_hasRow_20 rfl rfl ?_
          refine S_iload (q := 23) hX dX12_hasRow_21 rfl rfl ?_
          refine S_callV (ci := 12) (C := "FanTalkModel") (T := TX12) (N := 17) (q := 26) 0 0 hX (c_X12_rowOf _ μ _ _ b c e rfl rfl) rfl ?hs_2 rfl u_876 u_878 us_33 u_12 u_879 ⟨by decide, by decide, rfl⟩ ⟨Nat.le_of_ble_eq_true rfl, Nat.le_of_ble_eq_true rfl⟩ ⟨Nat.le_of_ble_eq_true rfl, Nat.le_of_ble_eq_true rfl⟩ (Nat.le_of_ble_eq_true rfl) dX12_hasRow_23 ?hp_2 rfl rfl rfl ?_
          case hs_2 => first | with_reducible assumption | exact ⟨_, by with_reducible assumption⟩ | exact MM.isO hM
          case hp_2 => exact ⟨hM, h0, by have := hok.1; omega⟩
          rintro v σ1 sz1 ⟨rfl, rfl, rfl⟩
          rw [(hC.2 e hlt).1]
          refine S_iload_n (q := 27) hX dX12_hasRow_26 rfl rfl ?_
          refine S_icmp_ne (q := 30) 34 hX dX12_hasRow_27 rfl rfl (fun c27 => ?_) (fun c27 => ?_)
          · refine S_iconst (q := 35) (v := 0) hX dX12_hasRow_34 ic_0 rfl ?_
            refine S_istore_n (q := 36) [_, _, _, _, _] hX dX12_hasRow_35 rfl (Nat.le_of_ble_eq_true rfl) rfl rfl ?_
            refine S_iinc (q := 39) [_, _, _, _, _] hX dX12_hasRow_36 rfl (ii_1 _) rfl (Nat.le_of_ble_eq_true rfl) rfl rfl ?_
            refine S_goto 5 hX dX12_hasRow_39 rfl ?_
            exact ih (e + 1) _ _ (bi_f (fun z => by unfold hasN at z; rcases Bool.or_eq_true _ _ |>.mp z with q | q; exact c16 q; exact c27 (by rw [of_decide_eq_true q]))).symm (nI_1 _) hlt (by omega)
          · refine S_iconst (q := 31) (v := 1) hX dX12_hasRow_30 ic_1 rfl ?_
            refine S_goto 35 hX dX12_hasRow_31 rfl ?_
            refine S_istore_n (q := 36) [_, _, _, _, _] hX dX12_hasRow_35 rfl (Nat.le_of_ble_eq_true rfl) rfl rfl ?_
            refine S_iinc (q := 39) [_, _, _, _, _] hX dX12_hasRow_36 rfl (ii_1 _) rfl (Nat.le_of_ble_eq_true rfl) rfl rfl ?_
            refine S_goto 5 hX dX12_hasRow_39 rfl ?_
            exact ih (e + 1) _ _ (bi_t (by unfold hasN; rw [nI_inj (hok.2 e hlt).2.2.1 hr c27]; simp)).symm (nI_1 _) hlt (by omega)
  refine S_iconst (q := 1) (v := 0) hX dX12_hasRow_0 ic_0 rfl ?_
  refine S_istore_n (q := 2) [_, _, _, _, _] hX dX12_hasRow_1 rfl (Nat.le_of_ble_eq_true rfl) rfl rfl ?_
  refine S_iconst (q := 3) (v := 0) hX dX12_hasRow_2 ic_0 rfl ?_
  refine S_istore (q := 5) [_, _, _, _, _] hX dX12_hasRow_3 rfl (Nat.le_of_ble_eq_true rfl) rfl rfl ?_
  exact loop (C.1 + 1) 0 _ _ (bi_f (by unfold hasN; decide)).symm rfl (Nat.zero_le _) (by omega)
theorem c_X12_told (m : Nat) (μ : MF) (S : ST) (x y z : Int32) : CT_X12_told [.ref m, .int x, .int y, .int z] (fun Γ σ sz => MM σ m μ ∧ MR μ S ∧ StOk S) (fun Γ σ sz v σ' sz' => ∃ μ', MM σ' m μ' ∧ Fr m (m + 9) σ σ' ∧ v = some (.int (sp_told S x y z).1) ∧ MR μ' (sp_told S x y z).2 ∧ sz' = sz) := by
  refine CT.mkP rfl (Nat.le_of_ble_eq_true rfl) [_, _, _, _] rfl ?_
  intro X Γ σ sz P hX hpre hsz hP
  obtain ⟨hM, hR, ok⟩ := hpre
  have hF : Fr m (m + 9) σ σ := Fr.rf
  have h0 := hR.1
  have hC0 := hR.2.1.1
  obtain ⟨q0, q1, q2, q3, q4, q5, q6, q7, q8, q9⟩ := id hR.2.1
  obtain ⟨o1, o2, o3, o4, o5, o6, o7, o8, o9, o10⟩ := id ok.1
  refine S_aload_n (q := 1) hX dX12_told_0 rfl rfl ?_
  refine S_iload_n (q := 2) hX dX12_told_1 rfl rfl ?_
  refine S_callV (ci := 12) (C := "FanTalkModel") (T := TX12) (N := 17) (q := 5) 0 0 hX (c_X12_isCode _ μ _ 0 S.1.1.1) rfl ?hs_1 rfl u_854 u_856 us_29 u_12 u_857 ⟨by decide, by decide, rfl⟩ ⟨Nat.le_of_ble_eq_true rfl, Nat.le_of_ble_eq_true rfl⟩ ⟨Nat.le_of_ble_eq_true rfl, Nat.le_of_ble_eq_true rfl⟩ (Nat.le_of_ble_eq_true rfl) dX12_told_2 ?hp_1 rfl rfl rfl ?_
  case hs_1 => first | with_reducible assumption | exact ⟨_, by with_reducible assumption⟩ | exact MM.isO hM
  case hp_1 => exact ⟨hM, h0, by decide, hC0, ok.1.1⟩
  rintro v σ1 sz1 ⟨rfl, rfl, rfl⟩
  refine S_if_eq_b (q := 8) 32 hX dX12_told_5 rfl rfl (fun c5 => ?_) (fun c5 => ?_)
  · refine S_aload_n (q := 33) hX dX12_told_32 rfl rfl ?_
    refine S_callV (ci := 12) (C := "FanTalkModel") (T := TX12) (N := 17) (q := 36) 0 0 hX (c_X12_bad _ μ) rfl ?hs_2 rfl u_864 u_866 us_30 u_12 u_867 ⟨by decide, by decide, rfl⟩ ⟨Nat.le_of_ble_eq_true rfl, Nat.le_of_ble_eq_true rfl⟩ ⟨Nat.le_of_ble_eq_true rfl, Nat.le_of_ble_eq_true rfl⟩ (Nat.le_of_ble_eq_true rfl) dX12_told_33 ?hp_2 rfl rfl rfl ?_
    case hs_2 => first | with_reducible assumption | exact ⟨_, by with_reducible assumption⟩ | exact MM.isO hM
    case hp_2 => exact hM
    rintro v σ sz1 ⟨μ9, hM, hF1, rfl, e9, rfl⟩
    have hF := hF.trans hF1
    refine S_iret hX dX12_told_36 (Nat.zero_le _) (Nat.zero_le _) ?_
    refine hP _ _ _ ?_
    have hsp : sp_told S x y z = (-2, rfS S 0) := by unfold sp_told; rw [if_pos (Or.inl c5)]
    rw [hsp]
    exact ⟨_, hM, hF, rfl, hR.rf (by decide) e9, rfl⟩
  · have cx := okc.ex c5
    have hcc := hR.2.1.code cx.2.1
    have hok := o2.2.1 (tN x) cx.2.1
    refine S_iload_n (q := 9) hX dX12_told_8 rfl rfl ?_
    refine S_iconst (q := 10) (v := 0) hX dX12_told_9 ic_0 rfl ?_
    refine S_aload_n (q := 11) hX dX12_told_10 rfl rfl ?_
    refine S_iload_n (q := 12) hX dX12_told_11 rfl rfl ?_
    refine S_callV (ci := 12) (C := "FanTalkModel") (T := TX12) (N := 17) (q := 15) 0 0 hX (c_X12_entriesOf _ μ _ 0 (tN x) cx.1) rfl ?hs_3 rfl u_872 u_874 us_32 u_12 u_875 ⟨by decide, by decide, rfl⟩ ⟨Nat.le_of_ble_eq_true rfl, Nat.le_of_ble_eq_true rfl⟩ ⟨Nat.le_of_ble_eq_true rfl, Nat.le_of_ble_eq_true rfl⟩ (Nat.le_of_ble_eq_true rfl) dX12_told_12 ?hp_3 rfl rfl rfl ?_
    case hs_3 => first | with_reducible assumption | exact ⟨_, by with_reducible assumption⟩ | exact MM.isO hM
    case hp_3 => exact ⟨hM, h0, by omega⟩
    rintro v σ1 sz1 ⟨rfl, rfl, rfl⟩
    rw [hcc.1]
    refine S_iconst (q := 16) (v := 1) hX dX12_told_15 ic_1 rfl ?_
    refine S_isub (q := 17) hX dX12_told_16 rfl ?_
    refine S_callS (q := 20) 0 0 hX (c_X12_in _ _ _) rfl u_858 u_859 u_12 u_860 ⟨by decide, by decide, rfl⟩ ⟨Nat.le_of_ble_eq_true rfl, Nat.le_of_ble_eq_true rfl⟩ ⟨Nat.le_of_ble_eq_true rfl, Nat.le_of_ble_eq_true rfl⟩ (Nat.le_of_ble_eq_true rfl) dX12_told_17 ?hp_4 rfl rfl rfl ?_
    case hp_4 => trivial
    rintro v σ1 sz1 ⟨rfl, rfl, rfl⟩
    refine S_top (y := bi (okc y (S.1.1.2.1 (tN x)).1)) (bi_congr ?_) ?_
    · have h8 := hok.1
      rcases Nat.eq_zero_or_pos (S.1.1.2.1 (tN x)).1 with q | q
      · rw [q, show (nI 0 - 1).toInt = -1 by decide, toI0]; omega
      · rw [i1, pk_sub (by omega), nI_toInt (by omega), toI0]; omega
    refine S_if_eq_b (q := 23) 32 hX dX12_told_20 rfl rfl (fun c20 => ?_) (fun c20 => ?_)
    · refine S_aload_n (q := 33) hX dX12_told_32 rfl rfl ?_
      refine S_callV (ci := 12) (C := "FanTalkModel") (T := TX12) (N := 17) (q := 36) 0 0 hX (c_X12_bad _ μ) rfl ?hs_5 rfl u_864 u_866 us_30 u_12 u_867 ⟨by decide, by decide, rfl⟩ ⟨Nat.le_of_ble_eq_true rfl, Nat.le_of_ble_eq_true rfl⟩ ⟨Nat.le_of_ble_eq_true rfl, Nat.le_of_ble_eq_true rfl⟩ (Nat.le_of_ble_eq_true rfl) dX12_told_33 ?hp_5 rfl rfl rfl ?_
      case hs_5 => first | with_reducible assumption | exact ⟨_, by with_reducible assumption⟩ | exact MM.isO hM
      case hp_5 => exact hM
      rintro v σ sz1 ⟨μ9, hM, hF1, rfl, e9, rfl⟩
      have hF := hF.trans hF1
      refine S_iret hX dX12_told_36 (Nat.zero_le _) (Nat.zero_le _) ?_
      refine hP _ _ _ ?_
      have hsp : sp_told S x y z = (-2, rfS S 0) := by unfold sp_told; rw [if_pos (Or.inr (Or.inl c20))]
      rw [hsp]
      exact ⟨_, hM, hF, rfl, hR.rf (by decide) e9, rfl⟩
    · have cy := okc.ex c20
      refine S_iload_n (q := 24) hX dX12_told_23 rfl rfl ?_
      refine S_iconst (q := 25) (v := 0) hX dX12_told_24 ic_0 rfl ?_
      refine S_iconst (q := 26) (v := 1) hX dX12_told_25 ic_1 rfl ?_
      refine S_callS (q := 29) 0 0 hX (c_X12_in _ _ _) rfl u_858 u_859 u_12 u_860 ⟨by decide, by decide, rfl⟩ ⟨Nat.le_of_ble_eq_true rfl, Nat.le_of_ble_eq_true rfl⟩ ⟨Nat.le_of_ble_eq_true rfl, Nat.le_of_ble_eq_true rfl⟩ (Nat.le_of_ble_eq_true rfl) dX12_told_26 ?hp_6 rfl rfl rfl ?_
      case hp_6 => trivial
      rintro v σ1 sz1 ⟨rfl, rfl, rfl⟩
      refine S_top (bi_congr (rg z 0 1 _ _ (by decide) (by decide))) ?_
      refine S_if_ne_b (q := 32) 37 hX dX12_told_29 rfl rfl (fun c29 => ?_) (fun c29 => ?_)
      · refine S_iload_n (q := 38) hX dX12_told_37 rfl rfl ?_
        refine S_if_ne (q := 41) 50 hX dX12_told_38 rfl rfl (fun c38 => ?_) (fun c38 => ?_)
        · refine S_aload_n (q := 51) hX dX12_told_50 rfl rfl ?_
          refine S_iload_n (q := 52) hX dX12_told_51 rfl rfl ?_
          refine S_iload_n (q := 53) hX dX12_told_52 rfl rfl ?_
          refine S_callV (ci := 12) (C := "FanTalkModel") (T := TX12) (N := 17) (q := 56) 0 0 hX (c_X12_wordOf _ μ _ _ 0 (tN x) (tN y) cx.1 cy.1) rfl ?hs_7 rfl u_892 u_894 us_36 u_12 u_895 ⟨by decide, by decide, rfl⟩ ⟨Nat.le_of_ble_eq_true rfl, Nat.le_of_ble_eq_true rfl⟩ ⟨Nat.le_of_ble_eq_true rfl, Nat.le_of_ble_eq_true rfl⟩ (Nat.le_of_ble_eq_true rfl) dX12_told_53 ?hp_7 rfl rfl rfl ?_
          case hs_7 => first | with_reducible assumption | exact ⟨_, by with_reducible assumption⟩ | exact MM.isO hM
          case hp_7 => exact ⟨hM, h0, by have := hok.1; have := cy.2.1; omega⟩
          rintro v σ1 sz1 ⟨rfl, rfl, rfl⟩
          refine S_iret hX dX12_told_56 (Nat.zero_le _) (Nat.zero_le _) ?_
          refine hP _ _ _ ?_
          have hsp : sp_told S x y z = (nI ((S.1.1.2.1 (tN x)).2 (tN y)).2, S) := by unfold sp_told; rw [if_neg (by rintro (q | q | q) <;> contradiction), if_neg (fun q => c38 (eq_i.mpr (q.trans toI0.symm)))]
          rw [hsp]
          exact ⟨_, hM, hF, by rw [← (hcc.2 (tN y) cy.2.1).2], hR, rfl⟩
        · refine S_aload_n (q := 42) hX dX12_told_41 rfl rfl ?_
          refine S_iload_n (q := 43) hX dX12_told_42 rfl rfl ?_
          refine S_iload_n (q := 44) hX dX12_told_43 rfl rfl ?_
          refine S_callV (ci := 12) (C := "FanTalkModel") (T := TX12) (N := 17) (q := 47) 0 0 hX (c_X12_rowOf _ μ _ _ 0 (tN x) (tN y) cx.1 cy.1) rfl ?hs_8 rfl u_876 u_878 us_33 u_12 u_879 ⟨by decide, by decide, rfl⟩ ⟨Nat.le_of_ble_eq_true rfl, Nat.le_of_ble_eq_true rfl⟩ ⟨Nat.le_of_ble_eq_true rfl, Nat.le_of_ble_eq_true rfl⟩ (Nat.le_of_ble_eq_true rfl) dX12_told_44 ?hp_8 rfl rfl rfl ?_
          case hs_8 => first | with_reducible assumption | exact ⟨_, by with_reducible assumption⟩ | exact MM.isO hM
          case hp_8 => exact ⟨hM, h0, by have := hok.1; have := cy.2.1; omega⟩
          rintro v σ1 sz1 ⟨rfl, rfl, rfl⟩
          refine S_goto 56 hX dX12_told_47 rfl ?_
          refine S_iret hX dX12_told_56 (Nat.zero_le _) (Nat.zero_le _) ?_
          refine hP _ _ _ ?_
          have hsp : sp_told S x y z = (nI ((S.1.1.2.1 (tN x)).2 (tN y)).1, S) := by unfold sp_told; rw [if_neg (by rintro (q | q | q) <;> contradiction), if_pos ((eq_i.mp c38).trans toI0)]
          rw [hsp]
          exact ⟨_, hM, hF, by rw [← (hcc.2 (tN y) cy.2.1).1], hR, rfl⟩
      · refine S_aload_n (q := 33) hX dX12_told_32 rfl rfl ?_
        refine S_callV (ci := 12) (C := "FanTalkModel") (T := TX12) (N := 17) (q := 36) 0 0 hX (c_X12_bad _ μ) rfl ?hs_9 rfl u_864 u_866 us_30 u_12 u_867 ⟨by decide, by decide, rfl⟩ ⟨Nat.le_of_ble_eq_true rfl, Nat.le_of_ble_eq_true rfl⟩ ⟨Nat.le_of_ble_eq_true rfl, Nat.le_of_ble_eq_true rfl⟩ (Nat.le_of_ble_eq_true rfl) dX12_told_33 ?hp_9 rfl rfl rfl ?_
        case hs_9 => first | with_reducible assumption | exact ⟨_, by with_reducible assumption⟩ | exact MM.isO hM
        case hp_9 => exact hM
        rintro v σ sz1 ⟨μ9, hM, hF1, rfl, e9, rfl⟩
        have hF := hF.trans hF1
        refine S_iret hX dX12_told_36 (Nat.zero_le _) (Nat.zero_le _) ?_
        refine hP _ _ _ ?_
        have hsp : sp_told S x y z = (-2, rfS S 0) := by unfold sp_told; rw [if_pos (Or.inr (Or.inr c29))]
        rw [hsp]
        exact ⟨_, hM, hF, rfl, hR.rf (by decide) e9, rfl⟩
theorem c_X12_draughts (m : Nat) (μ : MF) (S : ST) (x : Int32) : CT_X12_draughts [.ref m, .int x] (fun Γ σ sz => MM σ m μ ∧ MR μ S ∧ StOk S) (fun Γ σ sz v σ' sz' => ∃ μ', MM σ' m μ' ∧ Fr m (m + 9) σ σ' ∧ v = some (.int (sp_draughts S x).1) ∧ MR μ' (sp_draughts S x).2 ∧ sz' = sz) := by
  refine CT.mkP rfl (Nat.le_of_ble_eq_true rfl) [_, _, _] rfl ?_
  intro X Γ σ sz P hX hpre hsz hP
  obtain ⟨hM, hR, ok⟩ := hpre
  have hF : Fr m (m + 9) σ σ := Fr.rf
  have h0 := hR.1
  have hC0 := hR.2.1.1
  obtain ⟨q0, q1, q2, q3, q4, q5, q6, q7, q8, q9⟩ := id hR.2.1
  obtain ⟨o1, o2, o3, o4, o5, o6, o7, o8, o9, o10⟩ := id ok.1
  refine S_iload_n (q := 1) hX dX12_draughts_0 rfl rfl ?_
  refine S_iconst (q := 2) (v := 0) hX dX12_draughts_1 ic_0 rfl ?_
  refine S_bipush (q := 4) (v := 63) hX dX12_draughts_2 bp_63 rfl ?_
  refine S_callS (q := 7) 0 0 hX (c_X12_in _ _ _) rfl u_858 u_859 u_12 u_860 ⟨by decide, by decide, rfl⟩ ⟨Nat.le_of_ble_eq_true rfl, Nat.le_of_ble_eq_true rfl⟩ ⟨Nat.le_of_ble_eq_true rfl, Nat.le_of_ble_eq_true rfl⟩ (Nat.le_of_ble_eq_true rfl) dX12_draughts_4 ?hp_1 rfl rfl rfl ?_
  case hp_1 => trivial
  rintro v σ1 sz1 ⟨rfl, rfl, rfl⟩
  refine S_top (bi_congr (rg x 0 63 _ _ (by decide) (by decide))) ?_
  refine S_if_ne_b (q := 10) 15 hX dX12_draughts_7 rfl rfl (fun c7 => ?_) (fun c7 => ?_)
  · refine S_aload_n (q := 16) hX dX12_draughts_15 rfl rfl ?_
    refine S_iconst (q := 17) (v := 1) hX dX12_draughts_16 ic_1 rfl ?_
    refine S_callV (ci := 12) (C := "FanTalkModel") (T := TX12) (N := 17) (q := 20) 0 0 hX (c_X12_get _ μ _ 0 (1) (by first | rfl | (simp only [i0, i1, i2, i3, i4, i5, i6, i7, i8, i9, i10, i11, i12, i17, i20, i24, i26, i27, i31, i32, i36, i48, i57, i59, i60, i61, i63, i64, i87, i96, i97, i99, i122, i148, i250, i255, i305, i453, i999, i1359, i1812, pk_mul, nI_add]; done) | (simp only [i0, i1, i2, i3, i4, i5, i6, i7, i8, i9, i10, i11, i12, i17, i20, i24, i26, i27, i31, i32, i36, i48, i57, i59, i60, i61, i63, i64, i87, i96, i97, i99, i122, i148, i250, i255, i305, i453, i999, i1359, i1812, pk_mul, nI_add]; congr 1; omega))) rfl ?hs_2 rfl u_838 u_840 us_26 u_12 u_841 ⟨by decide, by decide, rfl⟩ ⟨Nat.le_of_ble_eq_true rfl, Nat.le_of_ble_eq_true rfl⟩ ⟨Nat.le_of_ble_eq_true rfl, Nat.le_of_ble_eq_true rfl⟩ (Nat.le_of_ble_eq_true rfl) dX12_draughts_17 ?hp_2 rfl rfl rfl ?_
    case hs_2 => first | with_reducible assumption | exact ⟨_, by with_reducible assumption⟩ | exact MM.isO hM
    case hp_2 => exact ⟨hM, h0, by omega⟩
    rintro v σ1 sz1 ⟨rfl, rfl, rfl⟩
    refine S_istore_n (q := 21) [_, _, _] hX dX12_draughts_20 rfl (Nat.le_of_ble_eq_true rfl) rfl rfl ?_
    refine S_aload_n (q := 22) hX dX12_draughts_21 rfl rfl ?_
    refine S_iconst (q := 23) (v := 1) hX dX12_draughts_22 ic_1 rfl ?_
    refine S_iload_n (q := 24) hX dX12_draughts_23 rfl rfl ?_
    refine S_callV (ci := 12) (C := "FanTalkModel") (T := TX12) (N := 17) (q := 27) 0 0 hX (c_X12_set _ μ _ _ 0 (1) (by first | rfl | (simp only [i0, i1, i2, i3, i4, i5, i6, i7, i8, i9, i10, i11, i12, i17, i20, i24, i26, i27, i31, i32, i36, i48, i57, i59, i60, i61, i63, i64, i87, i96, i97, i99, i122, i148, i250, i255, i305, i453, i999, i1359, i1812, pk_mul, nI_add]; done) | (simp only [i0, i1, i2, i3, i4, i5, i6, i7, i8, i9, i10, i11, i12, i17, i20, i24, i26, i27, i31, i32, i36, i48, i57, i59, i60, i61, i63, i64, i87, i96, i97, i99, i122, i148, i250, i255, i305, i453, i999, i1359, i1812, pk_mul, nI_add]; congr 1; omega))) rfl ?hs_3 rfl u_846 u_848 us_28 u_12 u_849 ⟨by decide, by decide, rfl⟩ ⟨Nat.le_of_ble_eq_true rfl, Nat.le_of_ble_eq_true rfl⟩ ⟨Nat.le_of_ble_eq_true rfl, Nat.le_of_ble_eq_true rfl⟩ (Nat.le_of_ble_eq_true rfl) dX12_draughts_24 ?hp_3 rfl rfl rfl ?_
    case hs_3 => first | with_reducible assumption | exact ⟨_, by with_reducible assumption⟩ | exact MM.isO hM
    case hp_3 => exact ⟨hM, h0, by omega⟩
    rintro v σ sz1 ⟨μ1, hM, hF1, rfl, e1, rfl⟩
    have hF := hF.trans hF1
    have h0 : μ1 0 0 = nI 0 := by rw [e1, m2_o (by decide)]; exact h0
    refine S_iload_n (q := 28) hX dX12_draughts_27 rfl rfl ?_
    refine S_iret hX dX12_draughts_28 (Nat.zero_le _) (Nat.zero_le _) ?_
    refine hP _ _ _ ?_
    have cx := tN_ex c7.1
    have hsp : sp_draughts S x = (nI S.1.2.2.1, stC S (S.1.1, S.1.2.1, tN x, S.1.2.2.2)) := by unfold sp_draughts; rw [if_neg (fun z => z c7)]
    rw [hsp]
    refine ⟨_, hM, hF, by rw [q1], hR.now ok (fun j hj => by rw [e1, m2_o hj]) (fun i h1 h2 => by rw [e1, m2_n (by omega)]) ?_, rfl⟩
    have g : ∀ i, i ≠ 0 + 1 → μ1 1 i = μ 1 i := fun i h1 => by rw [e1, m2_n h1]
    exact hR.2.1.up ok.1 ((g _ (by omega)).trans q0) (by rw [e1, m2_y]; exact cx.1) ((g _ (by omega)).trans q2) ((g _ (by omega)).trans q3) ((g _ (by omega)).trans q4) ((g _ (by omega)).trans q5) (Or.inl ⟨rfl, fun i h1 h2 => g _ (by omega)⟩) (Or.inl ⟨rfl, fun i h1 h2 => g _ (by omega)⟩) (Or.inl ⟨rfl, fun i h1 h2 => g _ (by omega)⟩) (Or.inl ⟨rfl, fun i h1 h2 => g _ (by omega)⟩)
  · refine S_aload_n (q := 11) hX dX12_draughts_10 rfl rfl ?_
    refine S_callV (ci := 12) (C := "FanTalkModel") (T := TX12) (N := 17) (q := 14) 0 0 hX (c_X12_bad _ μ) rfl ?hs_4 rfl u_864 u_866 us_30 u_12 u_867 ⟨by decide, by decide, rfl⟩ ⟨Nat.le_of_ble_eq_true rfl, Nat.le_of_ble_eq_true rfl⟩ ⟨Nat.le_of_ble_eq_true rfl, Nat.le_of_ble_eq_true rfl⟩ (Nat.le_of_ble_eq_true rfl) dX12_draughts_11 ?hp_4 rfl rfl rfl ?_
    case hs_4 => first | with_reducible assumption | exact ⟨_, by with_reducible assumption⟩ | exact MM.isO hM
    case hp_4 => exact hM
    rintro v σ sz1 ⟨μ9, hM, hF1, rfl, e9, rfl⟩
    have hF := hF.trans hF1
    refine S_iret hX dX12_draughts_14 (Nat.zero_le _) (Nat.zero_le _) ?_
    refine hP _ _ _ ?_
    have hsp : sp_draughts S x = (-2, rfS S 0) := by unfold sp_draughts; rw [if_pos c7]
    rw [hsp]
    exact ⟨_, hM, hF, rfl, hR.rf (by decide) e9, rfl⟩
theorem c_X12_clear (m : Nat) (μ : MF) (S : ST) : CT_X12_clear [.ref m] (fun Γ σ sz => MM σ m μ ∧ MR μ S ∧ StOk S) (fun Γ σ sz v σ' sz' => ∃ μ', MM σ' m μ' ∧ Fr m (m + 9) σ σ' ∧ v = some (.int (sp_clear S).1) ∧ MR μ' (sp_clear S).2 ∧ sz' = sz) := by
  refine CT.mkP rfl (Nat.le_of_ble_eq_true rfl) [_, _] rfl ?_
  intro X Γ σ sz P hX hpre hsz hP
  obtain ⟨hM, hR, ok⟩ := hpre
  have hF : Fr m (m + 9) σ σ := Fr.rf
  have h0 := hR.1
  have hC0 := hR.2.1.1
  obtain ⟨q0, q1, q2, q3, q4, q5, q6, q7, q8, q9⟩ := id hR.2.1
  obtain ⟨o1, o2, o3, o4, o5, o6, o7, o8, o9, o10⟩ := id ok.1
  refine S_aload_n (q := 1) hX dX12_clear_0 rfl rfl ?_
  refine S_getf (fs := ?fs_1) (v := ?v_1) (q := 4) hX u_787 fo_X12_typed dX12_clear_1 ?hs_1 ?hv_1 rfl ?_
  case hs_1 => with_reducible first | exact MM.c0 hM | exact MM.c1 hM | exact MM.c5 hM | exact MM.c6 hM | exact MM.c7 hM | exact MM.c3 hM | exact MM.c4 hM | exact MM.c8 hM | exact MM.c2 hM
  case hv_1 => rfl
  refine S_istore_n (q := 5) [_, _] hX dX12_clear_4 rfl (Nat.le_of_ble_eq_true rfl) rfl rfl ?_
  refine S_aload_n (q := 6) hX dX12_clear_5 rfl rfl ?_
  refine S_iconst (q := 7) (v := 0) hX dX12_clear_6 ic_0 rfl ?_
  refine S_nm (fun x7 hx7 => ?_)
  refine S_putf (fs := ?fs_2) (q := 10) hX u_787 fo_X12_typed rfl rfl ?hl_2 dX12_clear_7 ?hs_2 rfl ?_
  case hs_2 => with_reducible first | exact MM.c0 hM | exact MM.c1 hM | exact MM.c5 hM | exact MM.c6 hM | exact MM.c7 hM | exact MM.c3 hM | exact MM.c4 hM | exact MM.c8 hM | exact MM.c2 hM
  case hl_2 => exact Nat.le_of_ble_eq_true rfl
  refine S_stu (q0 := m) (j := 0) (i := 1) hM hF (by decide) rfl (fun σ μ7 e7 hM hF => ?_)
  subst hx7
  refine S_iload_n (q := 11) hX dX12_clear_10 rfl rfl ?_
  refine S_iret hX dX12_clear_11 (Nat.zero_le _) (Nat.zero_le _) ?_
  refine hP _ _ _ ?_
  refine ⟨_, hM, hF, by rw [hR.2.2.2.2.1]; rfl, ?_, rfl⟩
  obtain ⟨r0, r1, r2, r3, r4, r5⟩ := hR
  exact ⟨by rw [e7, m2_at, if_neg (by decide)]; exact r0, by rw [e7, m2_o (by decide)]; exact r1, by rw [e7]; exact r2, by rw [e7]; exact r3, by rw [e7, m2_at, if_pos ⟨rfl, rfl⟩]; rfl, fun i hi => absurd hi (Nat.not_lt_zero _)⟩
theorem c_X12_uses (m : Nat) (μ : MF) (S : ST) (x : Int32) : CT_X12_uses [.ref m, .int x] (fun Γ σ sz => MM σ m μ ∧ MR μ S ∧ StOk S) (fun Γ σ sz v σ' sz' => ∃ μ', MM σ' m μ' ∧ Fr m (m + 9) σ σ' ∧ v = some (.int (sp_uses S x).1) ∧ MR μ' (sp_uses S x).2 ∧ sz' = sz) := by
  refine CT.mkP rfl (Nat.le_of_ble_eq_true rfl) [_, _] rfl ?_
  intro X Γ σ sz P hX hpre hsz hP
  obtain ⟨hM, hR, ok⟩ := hpre
  have hF : Fr m (m + 9) σ σ := Fr.rf
  have h0 := hR.1
  have hC0 := hR.2.1.1
  obtain ⟨q0, q1, q2, q3, q4, q5, q6, q7, q8, q9⟩ := id hR.2.1
  obtain ⟨o1, o2, o3, o4, o5, o6, o7, o8, o9, o10⟩ := id ok.1
  refine S_iload_n (q := 1) hX dX12_uses_0 rfl rfl ?_
  refine S_iconst (q := 2) (v := 0) hX dX12_uses_1 ic_0 rfl ?_
  refine S_bipush (q := 4) (v := 9) hX dX12_uses_2 bp_9 rfl ?_
  refine S_callS (q := 7) 0 0 hX (c_X12_in _ _ _) rfl u_858 u_859 u_12 u_860 ⟨by decide, by decide, rfl⟩ ⟨Nat.le_of_ble_eq_true rfl, Nat.le_of_ble_eq_true rfl⟩ ⟨Nat.le_of_ble_eq_true rfl, Nat.le_of_ble_eq_true rfl⟩ (Nat.le_of_ble_eq_true rfl) dX12_uses_4 ?hp_1 rfl rfl rfl ?_
  case hp_1 => trivial
  rintro v σ1 sz1 ⟨rfl, rfl, rfl⟩
  refine S_top (bi_congr (rg x 0 9 _ _ (by decide) (by decide))) ?_
  refine S_if_eq_b (q := 10) 21 hX dX12_uses_7 rfl rfl (fun c7 => ?_) (fun c7 => ?_)
  · refine S_aload_n (q := 22) hX dX12_uses_21 rfl rfl ?_
    refine S_callV (ci := 12) (C := "FanTalkModel") (T := TX12) (N := 17) (q := 25) 0 0 hX (c_X12_bad _ μ) rfl ?hs_2 rfl u_864 u_866 us_30 u_12 u_867 ⟨by decide, by decide, rfl⟩ ⟨Nat.le_of_ble_eq_true rfl, Nat.le_of_ble_eq_true rfl⟩ ⟨Nat.le_of_ble_eq_true rfl, Nat.le_of_ble_eq_true rfl⟩ (Nat.le_of_ble_eq_true rfl) dX12_uses_22 ?hp_2 rfl rfl rfl ?_
    case hs_2 => first | with_reducible assumption | exact ⟨_, by with_reducible assumption⟩ | exact MM.isO hM
    case hp_2 => exact hM
    rintro v σ sz1 ⟨μ9, hM, hF1, rfl, e9, rfl⟩
    have hF := hF.trans hF1
    refine S_iret hX dX12_uses_25 (Nat.zero_le _) (Nat.zero_le _) ?_
    refine hP _ _ _ ?_
    have hsp : sp_uses S x = (-2, rfS S 0) := by unfold sp_uses; rw [if_pos c7]
    rw [hsp]
    exact ⟨_, hM, hF, rfl, hR.rf (by decide) e9, rfl⟩
  · refine S_aload_n (q := 11) hX dX12_uses_10 rfl rfl ?_
    refine S_bipush (q := 13) (v := 26) hX dX12_uses_11 bp_26 rfl ?_
    refine S_iload_n (q := 14) hX dX12_uses_13 rfl rfl ?_
    refine S_iadd (q := 15) hX dX12_uses_14 rfl ?_
    refine S_callV (ci := 12) (C := "FanTalkModel") (T := TX12) (N := 17) (q := 18) 0 0 hX (c_X12_get _ μ _ 0 (26 + tN x) ((congrArg (26 + ·) (tN_ex c7.1).1).trans (nI_add _ _))) rfl ?hs_3 rfl u_838 u_840 us_26 u_12 u_841 ⟨by decide, by decide, rfl⟩ ⟨Nat.le_of_ble_eq_true rfl, Nat.le_of_ble_eq_true rfl⟩ ⟨Nat.le_of_ble_eq_true rfl, Nat.le_of_ble_eq_true rfl⟩ (Nat.le_of_ble_eq_true rfl) dX12_uses_15 ?hp_3 rfl rfl rfl ?_
    case hs_3 => first | with_reducible assumption | exact ⟨_, by with_reducible assumption⟩ | exact MM.isO hM
    case hp_3 => exact ⟨hM, h0, by have := c7.2; have := (tN_ex c7.1).2.2; omega⟩
    rintro v σ1 sz1 ⟨rfl, rfl, rfl⟩
    refine S_goto 25 hX dX12_uses_18 rfl ?_
    refine S_iret hX dX12_uses_25 (Nat.zero_le _) (Nat.zero_le _) ?_
    refine hP _ _ _ ?_
    have hsp : sp_uses S x = (nI (S.1.1.2.2 (tN x)), S) := by unfold sp_uses; rw [if_neg (fun z => z c7)]
    rw [hsp]
    have hw := q8.1 (tN x) (by have := c7.2; have := (tN_ex c7.1).2.2; omega)
    exact ⟨_, hM, hF, by rw [show 0 + (26 + tN x) = 0 + 26 + tN x by omega, hw], hR, rfl⟩
theorem c_X12_want (m : Nat) (μ : MF) (S : ST) (x : Int32) : CT_X12_want [.ref m, .int x] (fun Γ σ sz => MM σ m μ ∧ MR μ S ∧ StOk S) (fun Γ σ sz v σ' sz' => ∃ μ', MM σ' m μ' ∧ Fr m (m + 9) σ σ' ∧ v = some (.int (sp_want S x).1) ∧ MR μ' (sp_want S x).2 ∧ sz' = sz) := by
  refine CT.mkP rfl (Nat.le_of_ble_eq_true rfl) [_, _] rfl ?_
  intro X Γ σ sz P hX hpre hsz hP
  obtain ⟨hM, hR, ok⟩ := hpre
  have hF : Fr m (m + 9) σ σ := Fr.rf
  have h0 := hR.1
  have hC0 := hR.2.1.1
  obtain ⟨q0, q1, q2, q3, q4, q5, q6, q7, q8, q9⟩ := id hR.2.1
  obtain ⟨o1, o2, o3, o4, o5, o6, o7, o8, o9, o10⟩ := id ok.1
  refine S_iload_n (q := 1) hX dX12_want_0 rfl rfl ?_
  refine S_iconst (q := 2) (v := 0) hX dX12_want_1 ic_0 rfl ?_
  refine S_bipush (q := 4) (v := 9) hX dX12_want_2 bp_9 rfl ?_
  refine S_callS (q := 7) 0 0 hX (c_X12_in _ _ _) rfl u_858 u_859 u_12 u_860 ⟨by decide, by decide, rfl⟩ ⟨Nat.le_of_ble_eq_true rfl, Nat.le_of_ble_eq_true rfl⟩ ⟨Nat.le_of_ble_eq_true rfl, Nat.le_of_ble_eq_true rfl⟩ (Nat.le_of_ble_eq_true rfl) dX12_want_4 ?hp_1 rfl rfl rfl ?_
  case hp_1 => trivial
  rintro v σ1 sz1 ⟨rfl, rfl, rfl⟩
  refine S_top (bi_congr (rg x 0 9 _ _ (by decide) (by decide))) ?_
  refine S_if_ne_b (q := 10) 15 hX dX12_want_7 rfl rfl (fun c7 => ?_) (fun c7 => ?_)
  · refine S_aload_n (q := 16) hX dX12_want_15 rfl rfl ?_
    refine S_iconst (q := 17) (v := 3) hX dX12_want_16 ic_3 rfl ?_
    refine S_callV (ci := 12) (C := "FanTalkModel") (T := TX12) (N := 17) (q := 20) 0 0 hX (c_X12_get _ μ _ 0 (3) (by first | rfl | (simp only [i0, i1, i2, i3, i4, i5, i6, i7, i8, i9, i10, i11, i12, i17, i20, i24, i26, i27, i31, i32, i36, i48, i57, i59, i60, i61, i63, i64, i87, i96, i97, i99, i122, i148, i250, i255, i305, i453, i999, i1359, i1812, pk_mul, nI_add]; done) | (simp only [i0, i1, i2, i3, i4, i5, i6, i7, i8, i9, i10, i11, i12, i17, i20, i24, i26, i27, i31, i32, i36, i48, i57, i59, i60, i61, i63, i64, i87, i96, i97, i99, i122, i148, i250, i255, i305, i453, i999, i1359, i1812, pk_mul, nI_add]; congr 1; omega))) rfl ?hs_2 rfl u_838 u_840 us_26 u_12 u_841 ⟨by decide, by decide, rfl⟩ ⟨Nat.le_of_ble_eq_true rfl, Nat.le_of_ble_eq_true rfl⟩ ⟨Nat.le_of_ble_eq_true rfl, Nat.le_of_ble_eq_true rfl⟩ (Nat.le_of_ble_eq_true rfl) dX12_want_17 ?hp_2 rfl rfl rfl ?_
    case hs_2 => first | with_reducible assumption | exact ⟨_, by with_reducible assumption⟩ | exact MM.isO hM
    case hp_2 => exact ⟨hM, h0, by omega⟩
    rintro v σ1 sz1 ⟨rfl, rfl, rfl⟩
    rw [q3]
    refine S_iconst (q := 21) (v := 4) hX dX12_want_20 ic_4 rfl ?_
    refine S_icmp_ne (q := 24) 29 hX dX12_want_21 rfl rfl (fun c21 => ?_) (fun c21 => ?_)
    · refine S_aload_n (q := 30) hX dX12_want_29 rfl rfl ?_
      refine S_bipush (q := 32) (v := 6) hX dX12_want_30 bp_6 rfl ?_
      refine S_aload_n (q := 33) hX dX12_want_32 rfl rfl ?_
      refine S_iconst (q := 34) (v := 3) hX dX12_want_33 ic_3 rfl ?_
      refine S_callV (ci := 12) (C := "FanTalkModel") (T := TX12) (N := 17) (q := 37) 0 0 hX (c_X12_get _ μ _ 0 (3) (by first | rfl | (simp only [i0, i1, i2, i3, i4, i5, i6, i7, i8, i9, i10, i11, i12, i17, i20, i24, i26, i27, i31, i32, i36, i48, i57, i59, i60, i61, i63, i64, i87, i96, i97, i99, i122, i148, i250, i255, i305, i453, i999, i1359, i1812, pk_mul, nI_add]; done) | (simp only [i0, i1, i2, i3, i4, i5, i6, i7, i8, i9, i10, i11, i12, i17, i20, i24, i26, i27, i31, i32, i36, i48, i57, i59, i60, i61, i63, i64, i87, i96, i97, i99, i122, i148, i250, i255, i305, i453, i999, i1359, i1812, pk_mul, nI_add]; congr 1; omega))) rfl ?hs_3 rfl u_838 u_840 us_26 u_12 u_841 ⟨by decide, by decide, rfl⟩ ⟨Nat.le_of_ble_eq_true rfl, Nat.le_of_ble_eq_true rfl⟩ ⟨Nat.le_of_ble_eq_true rfl, Nat.le_of_ble_eq_true rfl⟩ (Nat.le_of_ble_eq_true rfl) dX12_want_34 ?hp_3 rfl rfl rfl ?_
      case hs_3 => first | with_reducible assumption | exact ⟨_, by with_reducible assumption⟩ | exact MM.isO hM
      case hp_3 => exact ⟨hM, h0, by omega⟩
      rintro v σ1 sz1 ⟨rfl, rfl, rfl⟩
      rw [q3]
      refine S_iadd (q := 38) hX dX12_want_37 rfl ?_
      refine S_iload_n (q := 39) hX dX12_want_38 rfl rfl ?_
      refine S_callV (ci := 12) (C := "FanTalkModel") (T := TX12) (N := 17) (q := 42) 0 0 hX (c_X12_set _ μ _ _ 0 (6 + S.1.2.2.2.2.1.1) (by first | rfl | (simp only [i0, i1, i2, i3, i4, i5, i6, i7, i8, i9, i10, i11, i12, i17, i20, i24, i26, i27, i31, i32, i36, i48, i57, i59, i60, i61, i63, i64, i87, i96, i97, i99, i122, i148, i250, i255, i305, i453, i999, i1359, i1812, pk_mul, nI_add]; done) | (simp only [i0, i1, i2, i3, i4, i5, i6, i7, i8, i9, i10, i11, i12, i17, i20, i24, i26, i27, i31, i32, i36, i48, i57, i59, i60, i61, i63, i64, i87, i96, i97, i99, i122, i148, i250, i255, i305, i453, i999, i1359, i1812, pk_mul, nI_add]; congr 1; omega))) rfl ?hs_4 rfl u_846 u_848 us_28 u_12 u_849 ⟨by decide, by decide, rfl⟩ ⟨Nat.le_of_ble_eq_true rfl, Nat.le_of_ble_eq_true rfl⟩ ⟨Nat.le_of_ble_eq_true rfl, Nat.le_of_ble_eq_true rfl⟩ (Nat.le_of_ble_eq_true rfl) dX12_want_39 ?hp_4 rfl rfl rfl ?_
      case hs_4 => first | with_reducible assumption | exact ⟨_, by with_reducible assumption⟩ | exact MM.isO hM
      case hp_4 => exact ⟨hM, h0, by omega⟩
      rintro v σ sz1 ⟨μ1, hM, hF1, rfl, e1, rfl⟩
      have hF := hF.trans hF1
      have h0 : μ1 0 0 = nI 0 := by rw [e1, m2_o (by decide)]; exact h0
      refine S_aload_n (q := 43) hX dX12_want_42 rfl rfl ?_
      refine S_iconst (q := 44) (v := 3) hX dX12_want_43 ic_3 rfl ?_
      refine S_aload_n (q := 45) hX dX12_want_44 rfl rfl ?_
      refine S_iconst (q := 46) (v := 3) hX dX12_want_45 ic_3 rfl ?_
      refine S_callV (ci := 12) (C := "FanTalkModel") (T := TX12) (N := 17) (q := 49) 0 0 hX (c_X12_get _ μ1 _ 0 (3) (by first | rfl | (simp only [i0, i1, i2, i3, i4, i5, i6, i7, i8, i9, i10, i11, i12, i17, i20, i24, i26, i27, i31, i32, i36, i48, i57, i59, i60, i61, i63, i64, i87, i96, i97, i99, i122, i148, i250, i255, i305, i453, i999, i1359, i1812, pk_mul, nI_add]; done) | (simp only [i0, i1, i2, i3, i4, i5, i6, i7, i8, i9, i10, i11, i12, i17, i20, i24, i26, i27, i31, i32, i36, i48, i57, i59, i60, i61, i63, i64, i87, i96, i97, i99, i122, i148, i250, i255, i305, i453, i999, i1359, i1812, pk_mul, nI_add]; congr 1; omega))) rfl ?hs_5 rfl u_838 u_840 us_26 u_12 u_841 ⟨by decide, by decide, rfl⟩ ⟨Nat.le_of_ble_eq_true rfl, Nat.le_of_ble_eq_true rfl⟩ ⟨Nat.le_of_ble_eq_true rfl, Nat.le_of_ble_eq_true rfl⟩ (Nat.le_of_ble_eq_true rfl) dX12_want_46 ?hp_5 rfl rfl rfl ?_
      case hs_5 => first | with_reducible assumption | exact ⟨_, by with_reducible assumption⟩ | exact MM.isO hM
      case hp_5 => exact ⟨hM, h0, by omega⟩
      rintro v σ1 sz1 ⟨rfl, rfl, rfl⟩
      rw [e1, m2_n (by omega), q3]
      refine S_iconst (q := 50) (v := 1) hX dX12_want_49 ic_1 rfl ?_
      refine S_iadd (q := 51) hX dX12_want_50 rfl ?_
      refine S_callV (ci := 12) (C := "FanTalkModel") (T := TX12) (N := 17) (q := 54) 0 0 hX (c_X12_set _ μ1 _ _ 0 (3) (by first | rfl | (simp only [i0, i1, i2, i3, i4, i5, i6, i7, i8, i9, i10, i11, i12, i17, i20, i24, i26, i27, i31, i32, i36, i48, i57, i59, i60, i61, i63, i64, i87, i96, i97, i99, i122, i148, i250, i255, i305, i453, i999, i1359, i1812, pk_mul, nI_add]; done) | (simp only [i0, i1, i2, i3, i4, i5, i6, i7, i8, i9, i10, i11, i12, i17, i20, i24, i26, i27, i31, i32, i36, i48, i57, i59, i60, i61, i63, i64, i87, i96, i97, i99, i122, i148, i250, i255, i305, i453, i999, i1359, i1812, pk_mul, nI_add]; congr 1; omega))) rfl ?hs_6 rfl u_846 u_848 us_28 u_12 u_849 ⟨by decide, by decide, rfl⟩ ⟨Nat.le_of_ble_eq_true rfl, Nat.le_of_ble_eq_true rfl⟩ ⟨Nat.le_of_ble_eq_true rfl, Nat.le_of_ble_eq_true rfl⟩ (Nat.le_of_ble_eq_true rfl) dX12_want_51 ?hp_6 rfl rfl rfl ?_
      case hs_6 => first | with_reducible assumption | exact ⟨_, by with_reducible assumption⟩ | exact MM.isO hM
      case hp_6 => exact ⟨hM, h0, by omega⟩
      rintro v σ sz1 ⟨μ2, hM, hF1, rfl, e2, rfl⟩
      have hF := hF.trans hF1
      have h0 : μ2 0 0 = nI 0 := by rw [e2, m2_o (by decide)]; exact h0
      refine S_aload_n (q := 55) hX dX12_want_54 rfl rfl ?_
      refine S_iconst (q := 56) (v := 3) hX dX12_want_55 ic_3 rfl ?_
      refine S_callV (ci := 12) (C := "FanTalkModel") (T := TX12) (N := 17) (q := 59) 0 0 hX (c_X12_get _ μ2 _ 0 (3) (by first | rfl | (simp only [i0, i1, i2, i3, i4, i5, i6, i7, i8, i9, i10, i11, i12, i17, i20, i24, i26, i27, i31, i32, i36, i48, i57, i59, i60, i61, i63, i64, i87, i96, i97, i99, i122, i148, i250, i255, i305, i453, i999, i1359, i1812, pk_mul, nI_add]; done) | (simp only [i0, i1, i2, i3, i4, i5, i6, i7, i8, i9, i10, i11, i12, i17, i20, i24, i26, i27, i31, i32, i36, i48, i57, i59, i60, i61, i63, i64, i87, i96, i97, i99, i122, i148, i250, i255, i305, i453, i999, i1359, i1812, pk_mul, nI_add]; congr 1; omega))) rfl ?hs_7 rfl u_838 u_840 us_26 u_12 u_841 ⟨by decide, by decide, rfl⟩ ⟨Nat.le_of_ble_eq_true rfl, Nat.le_of_ble_eq_true rfl⟩ ⟨Nat.le_of_ble_eq_true rfl, Nat.le_of_ble_eq_true rfl⟩ (Nat.le_of_ble_eq_true rfl) dX12_want_56 ?hp_7 rfl rfl rfl ?_
      case hs_7 => first | with_reducible assumption | exact ⟨_, by with_reducible assumption⟩ | exact MM.isO hM
      case hp_7 => exact ⟨hM, h0, by omega⟩
      rintro v σ1 sz1 ⟨rfl, rfl, rfl⟩
      refine S_iret hX dX12_want_59 (Nat.zero_le _) (Nat.zero_le _) ?_
      refine hP _ _ _ ?_
      have cx := tN_ex c7.1
      have hn : S.1.2.2.2.2.1.1 ≠ 4 := fun z => c21 (by rw [z]; rfl)
      have hsp : sp_want S x = (nI (S.1.2.2.2.2.1.1 + 1), stC S (S.1.1, S.1.2.1, S.1.2.2.1, S.1.2.2.2.1, (S.1.2.2.2.2.1.1 + 1, fu S.1.2.2.2.2.1.2 S.1.2.2.2.2.1.1 (tN x)), S.1.2.2.2.2.2)) := by unfold sp_want; rw [if_neg (fun z => z c7), if_neg hn]
      rw [hsp]
      refine ⟨_, hM, hF, by rw [e2, m2_y, i1, nI_add], hR.now ok (fun j hj => by rw [e2, m2_o hj, e1, m2_o hj]) (fun i h1 h2 => by rw [e2, m2_n (by omega), e1, m2_n (by omega)]) ?_, rfl⟩
      have g : ∀ i, i ≠ 0 + (6 + S.1.2.2.2.2.1.1) → i ≠ 0 + 3 → μ2 1 i = μ 1 i := fun i h1 h2 => by rw [e2, m2_n h2, e1, m2_n h1]
      refine hR.2.1.up ok.1 ((g _ (by omega) (by omega)).trans q0) ((g _ (by omega) (by omega)).trans q1) ((g _ (by omega) (by omega)).trans q2) (by rw [e2, m2_y, i1, nI_add]) ((g _ (by omega) (by omega)).trans q4) ((g _ (by omega) (by omega)).trans q5) (Or.inr fun k hk => ?_) (Or.inl ⟨rfl, fun i h1 h2 => g _ (by omega) (by omega)⟩) (Or.inl ⟨rfl, fun i h1 h2 => g _ (by omega) (by omega)⟩) (Or.inl ⟨rfl, fun i h1 h2 => g _ (by omega) (by omega)⟩)
      have hk : k < S.1.2.2.2.2.1.1 + 1 := hk
      show μ2 1 (0 + (6 + k)) = nI (fu S.1.2.2.2.2.1.2 S.1.2.2.2.2.1.1 (tN x) k)
      by_cases hkn : k = S.1.2.2.2.2.1.1
      · subst hkn
        rw [fu_eq, e2, m2_n (by omega), e1, m2_y]
        exact cx.1
      · rw [fu_ne hkn]
        exact (g _ (by omega) (by omega)).trans (q6 k (by omega))
    · refine S_aload_n (q := 25) hX dX12_want_24 rfl rfl ?_
      refine S_callV (ci := 12) (C := "FanTalkModel") (T := TX12) (N := 17) (q := 28) 0 0 hX (c_X12_full _ μ) rfl ?hs_8 rfl u_842 u_844 us_27 u_12 u_845 ⟨by decide, by decide, rfl⟩ ⟨Nat.le_of_ble_eq_true rfl, Nat.le_of_ble_eq_true rfl⟩ ⟨Nat.le_of_ble_eq_true rfl, Nat.le_of_ble_eq_true rfl⟩ (Nat.le_of_ble_eq_true rfl) dX12_want_25 ?hp_8 rfl rfl rfl ?_
      case hs_8 => first | with_reducible assumption | exact ⟨_, by with_reducible assumption⟩ | exact MM.isO hM
      case hp_8 => exact hM
      rintro v σ sz1 ⟨μ9, hM, hF1, rfl, e9, rfl⟩
      have hF := hF.trans hF1
      refine S_iret hX dX12_want_28 (Nat.zero_le _) (Nat.zero_le _) ?_
      refine hP _ _ _ ?_
      have hsp : sp_want S x = (-4, rfS S 2) := by unfold sp_want; rw [if_neg (fun z => z c7), if_pos (nI_inj (by omega) (by decide) c21)]
      rw [hsp]
      exact ⟨_, hM, hF, rfl, hR.rf (by decide) e9, rfl⟩
  · refine S_aload_n (q := 11) hX dX12_want_10 rfl rfl ?_
    refine S_callV (ci := 12) (C := "FanTalkModel") (T := TX12) (N := 17) (q := 14) 0 0 hX (c_X12_bad _ μ) rfl ?hs_9 rfl u_864 u_866 us_30 u_12 u_867 ⟨by decide, by decide, rfl⟩ ⟨Nat.le_of_ble_eq_true rfl, Nat.le_of_ble_eq_true rfl⟩ ⟨Nat.le_of_ble_eq_true rfl, Nat.le_of_ble_eq_true rfl⟩ (Nat.le_of_ble_eq_true rfl) dX12_want_11 ?hp_9 rfl rfl rfl ?_
    case hs_9 => first | with_reducible assumption | exact ⟨_, by with_reducible assumption⟩ | exact MM.isO hM
    case hp_9 => exact hM
    rintro v σ sz1 ⟨μ9, hM, hF1, rfl, e9, rfl⟩
    have hF := hF.trans hF1
    refine S_iret hX dX12_want_14 (Nat.zero_le _) (Nat.zero_le _) ?_
    refine hP _ _ _ ?_
    have hsp : sp_want S x = (-2, rfS S 0) := by unfold sp_want; rw [if_pos c7]
    rw [hsp]
    exact ⟨_, hM, hF, rfl, hR.rf (by decide) e9, rfl⟩
theorem c_X12_forget (m : Nat) (μ : MF) (S : ST)  : CT_X12_forget [.ref m] (fun Γ σ sz => MM σ m μ ∧ MR μ S ∧ StOk S) (fun Γ σ sz v σ' sz' => ∃ μ', MM σ' m μ' ∧ Fr m (m + 9) σ σ' ∧ v = some (.int (sp_forget S).1) ∧ MR μ' (sp_forget S).2 ∧ sz' = sz) := by
  refine CT.mkP rfl (Nat.le_of_ble_eq_true rfl) [_, _] rfl ?_
  intro X Γ σ sz P hX hpre hsz hP
  obtain ⟨hM, hR, ok⟩ := hpre
  have hF : Fr m (m + 9) σ σ := Fr.rf
  have h0 := hR.1
  have hC0 := hR.2.1.1
  obtain ⟨q0, q1, q2, q3, q4, q5, q6, q7, q8, q9⟩ := id hR.2.1
  obtain ⟨o1, o2, o3, o4, o5, o6, o7, o8, o9, o10⟩ := id ok.1
  refine S_aload_n (q := 1) hX dX12_forget_0 rfl rfl ?_
  refine S_iconst (q := 2) (v := 3) hX dX12_forget_1 ic_3 rfl ?_
  refine S_callV (ci := 12) (C := "FanTalkModel") (T := TX12) (N := 17) (q := 5) 0 0 hX (c_X12_get _ μ _ 0 (3) (by first | rfl | (simp only [i0, i1, i2, i3, i4, i5, i6, i7, i8, i9, i10, i11, i12, i17, i20, i24, i26, i27, i31, i32, i36, i48, i57, i59, i60, i61, i63, i64, i87, i96, i97, i99, i122, i148, i250, i255, i305, i453, i999, i1359, i1812, pk_mul, nI_add]; done) | (simp only [i0, i1, i2, i3, i4, i5, i6, i7, i8, i9, i10, i11, i12, i17, i20, i24, i26, i27, i31, i32, i36, i48, i57, i59, i60, i61, i63, i64, i87, i96, i97, i99, i122, i148, i250, i255, i305, i453, i999, i1359, i1812, pk_mul, nI_add]; congr 1; omega))) rfl ?hs_1 rfl u_838 u_840 us_26 u_12 u_841 ⟨by decide, by decide, rfl⟩ ⟨Nat.le_of_ble_eq_true rfl, Nat.le_of_ble_eq_true rfl⟩ ⟨Nat.le_of_ble_eq_true rfl, Nat.le_of_ble_eq_true rfl⟩ (Nat.le_of_ble_eq_true rfl) dX12_forget_2 ?hp_1 rfl rfl rfl ?_
  case hs_1 => first | with_reducible assumption | exact ⟨_, by with_reducible assumption⟩ | exact MM.isO hM
  case hp_1 => exact ⟨hM, h0, by omega⟩
  rintro v σ1 sz1 ⟨rfl, rfl, rfl⟩
  refine S_istore_n (q := 6) [_, _] hX dX12_forget_5 rfl (Nat.le_of_ble_eq_true rfl) rfl rfl ?_
  refine S_aload_n (q := 7) hX dX12_forget_6 rfl rfl ?_
  refine S_iconst (q := 8) (v := 3) hX dX12_forget_7 ic_3 rfl ?_
  refine S_iconst (q := 9) (v := 0) hX dX12_forget_8 ic_0 rfl ?_
  refine S_callV (ci := 12) (C := "FanTalkModel") (T := TX12) (N := 17) (q := 12) 0 0 hX (c_X12_set _ μ _ _ 0 (3) (by first | rfl | (simp only [i0, i1, i2, i3, i4, i5, i6, i7, i8, i9, i10, i11, i12, i17, i20, i24, i26, i27, i31, i32, i36, i48, i57, i59, i60, i61, i63, i64, i87, i96, i97, i99, i122, i148, i250, i255, i305, i453, i999, i1359, i1812, pk_mul, nI_add]; done) | (simp only [i0, i1, i2, i3, i4, i5, i6, i7, i8, i9, i10, i11, i12, i17, i20, i24, i26, i27, i31, i32, i36, i48, i57, i59, i60, i61, i63, i64, i87, i96, i97, i99, i122, i148, i250, i255, i305, i453, i999, i1359, i1812, pk_mul, nI_add]; congr 1; omega))) rfl ?hs_2 rfl u_846 u_848 us_28 u_12 u_849 ⟨by decide, by decide, rfl⟩ ⟨Nat.le_of_ble_eq_true rfl, Nat.le_of_ble_eq_true rfl⟩ ⟨Nat.le_of_ble_eq_true rfl, Nat.le_of_ble_eq_true rfl⟩ (Nat.le_of_ble_eq_true rfl) dX12_forget_9 ?hp_2 rfl rfl rfl ?_
  case hs_2 => first | with_reducible assumption | exact ⟨_, by with_reducible assumption⟩ | exact MM.isO hM
  case hp_2 => exact ⟨hM, h0, by omega⟩
  rintro v σ sz1 ⟨μ1, hM, hF1, rfl, e1, rfl⟩
  have hF := hF.trans hF1
  have h0 : μ1 0 0 = nI 0 := by rw [e1, m2_o (by decide)]; exact h0
  refine S_iload_n (q := 13) hX dX12_forget_12 rfl rfl ?_
  refine S_iret hX dX12_forget_13 (Nat.zero_le _) (Nat.zero_le _) ?_
  refine hP _ _ _ ?_
  refine ⟨_, hM, hF, by rw [q3]; rfl, hR.now ok (fun j hj => by rw [e1, m2_o hj]) (fun i h1 h2 => by rw [e1, m2_n (by omega)]) ?_, rfl⟩
  have g : ∀ i, i ≠ 0 + 3 → μ1 1 i = μ 1 i := fun i h1 => by rw [e1, m2_n h1]
  exact hR.2.1.up ok.1 ((g _ (by omega)).trans q0) ((g _ (by omega)).trans q1) ((g _ (by omega)).trans q2) (by rw [e1, m2_y]; rfl) ((g _ (by omega)).trans q4) ((g _ (by omega)).trans q5) (Or.inr fun k hk => absurd hk (Nat.not_lt_zero _)) (Or.inl ⟨rfl, fun i h1 h2 => g _ (by omega)⟩) (Or.inl ⟨rfl, fun i h1 h2 => g _ (by omega)⟩) (Or.inl ⟨rfl, fun i h1 h2 => g _ (by omega)⟩)
