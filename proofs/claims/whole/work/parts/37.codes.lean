/-! THE CLASS: codes -/
section STN
variable {X : CX} {Γ : Gm} {P : PO} {k n pc q : Nat} {L : List (Option Value)} {st : List Value} {σ σ0 : Sg} {sz : Nat}
theorem S_stn {q0 N j : Nat} {sh : SH} {f : MF} {g : Nat → Int32} {e : AE} (h : CL σ q0 N sh f) (hF : Fr q0 (q0 + N) σ0 σ) (hj : j < N) (he : sh j g = e) (kk : ∀ σ' μ', μ' = m1 f j g → CL σ' q0 N sh μ' → Fr q0 (q0 + N) σ0 σ' → G X Γ P k n pc L st σ' sz) : G X Γ P k n pc L st (su σ (q0 + j) e) sz :=
  kk _ _ rfl (h.st hj he) (hF.su (by omega))
end STN
def CoR (f : MF) (B : BkT) : Prop := f 0 0 = nI B.1 ∧ (∀ c, c < B.1 → CCode f c (B.2.1 c)) ∧ ∀ w, w < 10 → f 4 w = nI (B.2.2 w)
/-- codes that have room -/
def BkS (B : BkT) : Prop := B.1 ≤ 3 ∧ ∀ c, c < B.1 → (B.2.1 c).1 ≤ 8
def CEq (f g : MF) : Prop := f 0 0 = g 0 0 ∧ (∀ i, i < 3 → f 1 i = g 1 i) ∧ (∀ i, i < 24 → f 2 i = g 2 i) ∧ (∀ i, i < 24 → f 3 i = g 3 i) ∧ ∀ i, i < 10 → f 4 i = g 4 i
theorem CoR.eq {f g : MF} {B : BkT} (h : CoR g B) (s : BkS B) (e : CEq f g) : CoR f B := by
  obtain ⟨e0, e1, e2, e3, e4⟩ := e
  have s1 := s.1
  refine ⟨e0.trans h.1, fun c hc => ?_, fun w hw => (e4 w hw).trans (h.2.2 w hw)⟩
  have h2 := h.2.1 c hc
  have s2 := s.2 c hc
  exact ⟨(e1 c (by omega)).trans h2.1, fun e he => ⟨(e2 _ (by omega)).trans (h2.2 e he).1, (e3 _ (by omega)).trans (h2.2 e he).2⟩⟩
theorem CoR.put {f : MF} {B : BkT} {c e r w : Nat} (h : CoR f B) (s : BkS B) (he : e < 8) : CoR (m2 (m2 f 2 (8 * c + e) (nI r)) 3 (8 * c + e) (nI w)) (B.1, fu B.2.1 c ((B.2.1 c).1, fu (B.2.1 c).2 e (r, w)), B.2.2) := by
  obtain ⟨h0, h1, h2⟩ := h
  have o : ∀ j, j ≠ 2 → j ≠ 3 → m2 (m2 f 2 (8 * c + e) (nI r)) 3 (8 * c + e) (nI w) j = f j := fun j a b => by rw [m2_o b, m2_o a]
  have o2 : ∀ i, m2 (m2 f 2 (8 * c + e) (nI r)) 3 (8 * c + e) (nI w) 2 i = if i = 8 * c + e then nI r else f 2 i := fun i => by
    rw [m2_o (by decide), m2_at]
    by_cases hi : i = 8 * c + e
    · rw [if_pos ⟨rfl, hi⟩, if_pos hi]
    · rw [if_neg (fun z => hi z.2), if_neg hi]
  have o3 : ∀ i, m2 (m2 f 2 (8 * c + e) (nI r)) 3 (8 * c + e) (nI w) 3 i = if i = 8 * c + e then nI w else f 3 i := fun i => by
    rw [m2_at]
    by_cases hi : i = 8 * c + e
    · rw [if_pos ⟨rfl, hi⟩, if_pos hi]
    · rw [if_neg (fun z => hi z.2), if_neg hi, m2_o (by decide)]
  refine ⟨by rw [o 0 (by decide) (by decide)]; exact h0, fun k hk => ?_, fun x hx => by rw [o 4 (by decide) (by decide)]; exact h2 x hx⟩
  have hk : k < B.1 := hk
  have h3 := h1 k hk
  have s2 := s.2 k hk
  show CCode _ k (fu B.2.1 c ((B.2.1 c).1, fu (B.2.1 c).2 e (r, w)) k)
  by_cases hkc : k = c
  · subst hkc
    rw [fu_eq]
    refine ⟨by rw [o 1 (by decide) (by decide)]; exact h3.1, fun i hi => ?_⟩
    have hi : i < (B.2.1 k).1 := hi
    rw [o2, o3]
    show _ = nI (fu (B.2.1 k).2 e (r, w) i).1 ∧ _ = nI (fu (B.2.1 k).2 e (r, w) i).2
    by_cases hie : i = e
    · rw [if_pos (by omega), if_pos (by omega), hie, fu_eq]
      exact ⟨rfl, rfl⟩
    · rw [if_neg (by omega), if_neg (by omega), fu_ne hie]
      exact h3.2 i hi
  · rw [fu_ne hkc]
    refine ⟨by rw [o 1 (by decide) (by decide)]; exact h3.1, fun i hi => ?_⟩
    rw [o2, o3, if_neg (by omega), if_neg (by omega)]
    exact h3.2 i hi
theorem CoR.cnt {f : MF} {B : BkT} {c n : Nat} {es : Nat → Nat × Nat} (h : CoR f B) (he : ∀ k, k < n → f 2 (8 * c + k) = nI (es k).1 ∧ f 3 (8 * c + k) = nI (es k).2) : CoR (m2 f 1 c (nI n)) (B.1, fu B.2.1 c (n, es), B.2.2) := by
  obtain ⟨h0, h1, h2⟩ := h
  refine ⟨h0, fun k hk => ?_, h2⟩
  have hk : k < B.1 := hk
  show CCode _ k (fu B.2.1 c (n, es) k)
  by_cases hkc : k = c
  · subst hkc
    rw [fu_eq]
    exact ⟨by rw [m2_at, if_pos ⟨rfl, rfl⟩], he⟩
  · rw [fu_ne hkc]
    have h3 := h1 k hk
    exact ⟨by rw [m2_at, if_neg (fun z => hkc z.2)]; exact h3.1, h3.2⟩
theorem CoR.opn {f : MF} {B : BkT} (h : CoR f B) : CoR (m2 (m2 f 1 B.1 0) 0 0 (nI (B.1 + 1))) (B.1 + 1, fu B.2.1 B.1 (0, (B.2.1 B.1).2), B.2.2) := by
  obtain ⟨h0, h1, h2⟩ := h
  refine ⟨by rw [m2_00, if_pos rfl], fun k hk => ?_, h2⟩
  have hk : k < B.1 + 1 := hk
  show CCode _ k (fu B.2.1 B.1 (0, (B.2.1 B.1).2) k)
  by_cases hkc : k = B.1
  · subst hkc
    rw [fu_eq]
    exact ⟨by rw [m2_o (by decide), m2_at, if_pos ⟨rfl, rfl⟩]; rfl, fun e he => absurd he (Nat.not_lt_zero _)⟩
  · rw [fu_ne hkc]
    have h3 := h1 k (by omega)
    exact ⟨by rw [m2_o (by decide), m2_at, if_neg (fun z => hkc z.2)]; exact h3.1, h3.2⟩
theorem CoR.add {f : MF} {B : BkT} {c r w : Nat} (h : CoR f B) (s : BkS B) (hc : c < B.1) (h8 : (B.2.1 c).1 < 8) : CoR (m2 (m2 (m2 f 2 (8 * c + (B.2.1 c).1) (nI r)) 3 (8 * c + (B.2.1 c).1) (nI w)) 1 c (nI ((B.2.1 c).1 + 1))) (B.1, fu B.2.1 c (addC (B.2.1 c) r w), B.2.2) := by
  have h1 := (h.put (c := c) (e := (B.2.1 c).1) (r := r) (w := w) s h8).cnt (c := c) (n := (B.2.1 c).1 + 1) (es := fu (B.2.1 c).2 (B.2.1 c).1 (r, w)) (fun k hk => by
    rw [m2_o (by decide), m2_at, m2_at]
    by_cases hke : k = (B.2.1 c).1
    · rw [if_pos ⟨rfl, by omega⟩, if_pos ⟨rfl, by omega⟩, hke, fu_eq]
      exact ⟨rfl, rfl⟩
    · rw [if_neg (fun z => hke (by omega)), if_neg (fun z => hke (by omega)), m2_o (by decide), fu_ne hke]
      exact (h.2.1 c hc).2 k (by omega))
  have e : fu (fu B.2.1 c ((B.2.1 c).1, fu (B.2.1 c).2 (B.2.1 c).1 (r, w))) c ((B.2.1 c).1 + 1, fu (B.2.1 c).2 (B.2.1 c).1 (r, w)) = fu B.2.1 c (addC (B.2.1 c) r w) := by
    funext k
    by_cases hk : k = c
    · rw [hk, fu_eq, fu_eq]; rfl
    · rw [fu_ne hk, fu_ne hk, fu_ne hk]
  rw [← e]
  exact h1
theorem CoR.use {f : MF} {B : BkT} {w : Nat} (h : CoR f B) : CoR (m2 f 4 w (nI (if B.2.2 w = 999 then 999 else B.2.2 w + 1))) (B.1, B.2.1, us1 B.2.2 w) := by
  obtain ⟨h0, h1, h2⟩ := h
  refine ⟨h0, h1, fun x hx => ?_⟩
  show _ = nI (fu B.2.2 w (if B.2.2 w = 999 then 999 else B.2.2 w + 1) x)
  rw [m2_at]
  by_cases hxw : x = w
  · rw [if_pos ⟨rfl, hxw⟩, hxw, fu_eq]
  · rw [if_neg (fun z => hxw z.2), fu_ne hxw]
    exact h2 x hx
theorem hasN_of {C : CodT} {r e : Nat} (h : (C.2 e).1 = r) : ∀ n, e < n → hasN C r n = true
  | 0, he => absurd he (Nat.not_lt_zero _)
  | n + 1, he => by
    show (hasN C r n || (C.2 n).1 == r) = true
    by_cases hen : e = n
    · rw [← hen, h]; simp
    · rw [hasN_of h n (by omega)]; rfl
theorem BkOk.s {n : Nat} {B : BkT} (h : BkOk n B) (hn : n ≤ 3) : BkS B := h.le hn

theorem c_X2_take (q : Nat) (f : MF) (q2 : Nat) (g : MF) : CT_X2_take [.ref q, .ref q2] (fun Γ σ sz => CK σ q f ∧ CK σ q2 g ∧ (q + 5 ≤ q2 ∨ q2 + 5 ≤ q)) (fun Γ σ sz v σ' sz' => ∃ f', CK σ' q f' ∧ Fr q (q + 5) σ σ' ∧ v = none ∧ (CEq f' g) ∧ sz' = sz) := by
  refine CT.mkP rfl (Nat.le_of_ble_eq_true rfl) [_, _] rfl ?_
  intro X Γ σ sz P hX hpre hsz hP
  obtain ⟨hM, hG, hdis⟩ := hpre
  obtain ⟨σ0, eσ0⟩ : ∃ z, z = σ := ⟨σ, rfl⟩
  rw [← eσ0] at hP
  have hF : Fr q (q + 5) σ0 σ := by rw [eσ0]; exact Fr.rf
  have hG0 : CK σ0 q2 g := by rw [eσ0]; exact hG
  have hdis2 : q2 + 5 ≤ q ∨ q + 5 ≤ q2 := by omega
  refine S_aload_n (q := 1) hX dX2_take_0 rfl rfl ?_
  refine S_aload_n (q := 2) hX dX2_take_1 rfl rfl ?_
  refine S_getf (fs := ?fs_1) (v := ?v_1) (q := 5) hX u_40 fo_X2_codes dX2_take_2 ?hs_1 ?hv_1 rfl ?_
  case hs_1 => with_reducible first | exact CK.c0 hM | exact CK.c1 hM | exact CK.c2 hM | exact CK.c3 hM | exact CK.c4 hM | exact CK.c0 (hG0.fr hF hdis2) | exact CK.c1 (hG0.fr hF hdis2) | exact CK.c2 (hG0.fr hF hdis2) | exact CK.c3 (hG0.fr hF hdis2) | exact CK.c4 (hG0.fr hF hdis2)
  case hv_1 => rfl
  refine S_nm (fun x5 hx5 => ?_)
  refine S_putf (fs := ?fs_2) (q := 8) hX u_40 fo_X2_codes rfl rfl ?hl_2 dX2_take_5 ?hs_2 rfl ?_
  case hs_2 => with_reducible first | exact CK.c0 hM | exact CK.c1 hM | exact CK.c2 hM | exact CK.c3 hM | exact CK.c4 hM | exact CK.c0 (hG0.fr hF hdis2) | exact CK.c1 (hG0.fr hF hdis2) | exact CK.c2 (hG0.fr hF hdis2) | exact CK.c3 (hG0.fr hF hdis2) | exact CK.c4 (hG0.fr hF hdis2)
  case hl_2 => exact Nat.le_of_ble_eq_true rfl
  refine S_stu (q0 := q) (j := 0) (i := 0) hM hF (by decide) rfl (fun σ μ5 e5 hM hF => ?_)
  subst hx5
  refine S_aload_n (q := 9) hX dX2_take_8 rfl rfl ?_
  refine S_getf (fs := ?fs_3) (v := ?v_3) (q := 12) hX u_43 fo_X2_entries dX2_take_9 ?hs_3 ?hv_3 rfl ?_
  case hs_3 => with_reducible first | exact CK.c0 hM | exact CK.c1 hM | exact CK.c2 hM | exact CK.c3 hM | exact CK.c4 hM | exact CK.c0 (hG0.fr hF hdis2) | exact CK.c1 (hG0.fr hF hdis2) | exact CK.c2 (hG0.fr hF hdis2) | exact CK.c3 (hG0.fr hF hdis2) | exact CK.c4 (hG0.fr hF hdis2)
  case hv_3 => rfl
  refine S_iconst (q := 13) (v := 0) hX dX2_take_12 ic_0 rfl ?_
  refine S_aload_n (q := 14) hX dX2_take_13 rfl rfl ?_
  refine S_getf (fs := ?fs_4) (v := ?v_4) (q := 17) hX u_43 fo_X2_entries dX2_take_14 ?hs_4 ?hv_4 rfl ?_
  case hs_4 => with_reducible first | exact CK.c0 hM | exact CK.c1 hM | exact CK.c2 hM | exact CK.c3 hM | exact CK.c4 hM | exact CK.c0 (hG0.fr hF hdis2) | exact CK.c1 (hG0.fr hF hdis2) | exact CK.c2 (hG0.fr hF hdis2) | exact CK.c3 (hG0.fr hF hdis2) | exact CK.c4 (hG0.fr hF hdis2)
  case hv_4 => rfl
  refine S_iconst (q := 18) (v := 0) hX dX2_take_17 ic_0 rfl ?_
  refine S_aload_n (q := 19) hX dX2_take_18 rfl rfl ?_
  refine S_getf (fs := ?fs_5) (v := ?v_5) (q := 22) hX u_43 fo_X2_entries dX2_take_19 ?hs_5 ?hv_5 rfl ?_
  case hs_5 => with_reducible first | exact CK.c0 hM | exact CK.c1 hM | exact CK.c2 hM | exact CK.c3 hM | exact CK.c4 hM | exact CK.c0 (hG0.fr hF hdis2) | exact CK.c1 (hG0.fr hF hdis2) | exact CK.c2 (hG0.fr hF hdis2) | exact CK.c3 (hG0.fr hF hdis2) | exact CK.c4 (hG0.fr hF hdis2)
  case hv_5 => rfl
  refine S_alen (t := ?t_6) (x := ?x_6) (q := 23) hX dX2_take_22 ?ht_6 ?hs_6 rfl ?_
  case hs_6 => with_reducible first | exact CK.c0 hM | exact CK.c1 hM | exact CK.c2 hM | exact CK.c3 hM | exact CK.c4 hM | exact CK.c0 (hG0.fr hF hdis2) | exact CK.c1 (hG0.fr hF hdis2) | exact CK.c2 (hG0.fr hF hdis2) | exact CK.c3 (hG0.fr hF hdis2) | exact CK.c4 (hG0.fr hF hdis2)
  case ht_6 => decide
  refine S_copy (n0 := ?n0_7) (n1 := ?n1_7) (f := ?f_7) (g := ?g_7) (q := 26) hX u_485 u_487 u_486 u_18 ?hs_7 ?h1_7 ?h2_7 ?h3_7 ?h4_7 ?h5_7 ?h6_7 (by decide) (Nat.le_of_ble_eq_true rfl) dX2_take_23 rfl ?_
  case hs_7 => with_reducible first | exact CK.c0 hM | exact CK.c1 hM | exact CK.c2 hM | exact CK.c3 hM | exact CK.c4 hM | exact CK.c0 (hG0.fr hF hdis2) | exact CK.c1 (hG0.fr hF hdis2) | exact CK.c2 (hG0.fr hF hdis2) | exact CK.c3 (hG0.fr hF hdis2) | exact CK.c4 (hG0.fr hF hdis2)
  case h1_7 => with_reducible first | exact CK.c0 hM | exact CK.c1 hM | exact CK.c2 hM | exact CK.c3 hM | exact CK.c4 hM | exact CK.c0 (hG0.fr hF hdis2) | exact CK.c1 (hG0.fr hF hdis2) | exact CK.c2 (hG0.fr hF hdis2) | exact CK.c3 (hG0.fr hF hdis2) | exact CK.c4 (hG0.fr hF hdis2)
  case h2_7 => first | decide | exact Nat.le_of_ble_eq_true rfl | exact nI_pos (Nat.le_of_ble_eq_true rfl)
  case h3_7 => first | decide | exact Nat.le_of_ble_eq_true rfl | exact nI_pos (Nat.le_of_ble_eq_true rfl)
  case h4_7 => first | decide | exact Nat.le_of_ble_eq_true rfl | exact nI_pos (Nat.le_of_ble_eq_true rfl)
  case h5_7 => first | decide | exact Nat.le_of_ble_eq_true rfl | exact nI_pos (Nat.le_of_ble_eq_true rfl)
  case h6_7 => first | decide | exact Nat.le_of_ble_eq_true rfl | exact nI_pos (Nat.le_of_ble_eq_true rfl)
  refine S_stn (q0 := q) (j := 1) hM hF (by decide) rfl (fun σ μ23 e23 hM hF => ?_)
  refine S_aload_n (q := 27) hX dX2_take_26 rfl rfl ?_
  refine S_getf (fs := ?fs_8) (v := ?v_8) (q := 30) hX u_47 fo_X2_rows dX2_take_27 ?hs_8 ?hv_8 rfl ?_
  case hs_8 => with_reducible first | exact CK.c0 hM | exact CK.c1 hM | exact CK.c2 hM | exact CK.c3 hM | exact CK.c4 hM | exact CK.c0 (hG0.fr hF hdis2) | exact CK.c1 (hG0.fr hF hdis2) | exact CK.c2 (hG0.fr hF hdis2) | exact CK.c3 (hG0.fr hF hdis2) | exact CK.c4 (hG0.fr hF hdis2)
  case hv_8 => rfl
  refine S_iconst (q := 31) (v := 0) hX dX2_take_30 ic_0 rfl ?_
  refine S_aload_n (q := 32) hX dX2_take_31 rfl rfl ?_
  refine S_getf (fs := ?fs_9) (v := ?v_9) (q := 35) hX u_47 fo_X2_rows dX2_take_32 ?hs_9 ?hv_9 rfl ?_
  case hs_9 => with_reducible first | exact CK.c0 hM | exact CK.c1 hM | exact CK.c2 hM | exact CK.c3 hM | exact CK.c4 hM | exact CK.c0 (hG0.fr hF hdis2) | exact CK.c1 (hG0.fr hF hdis2) | exact CK.c2 (hG0.fr hF hdis2) | exact CK.c3 (hG0.fr hF hdis2) | exact CK.c4 (hG0.fr hF hdis2)
  case hv_9 => rfl
  refine S_iconst (q := 36) (v := 0) hX dX2_take_35 ic_0 rfl ?_
  refine S_aload_n (q := 37) hX dX2_take_36 rfl rfl ?_
  refine S_getf (fs := ?fs_10) (v := ?v_10) (q := 40) hX u_47 fo_X2_rows dX2_take_37 ?hs_10 ?hv_10 rfl ?_
  case hs_10 => with_reducible first | exact CK.c0 hM | exact CK.c1 hM | exact CK.c2 hM | exact CK.c3 hM | exact CK.c4 hM | exact CK.c0 (hG0.fr hF hdis2) | exact CK.c1 (hG0.fr hF hdis2) | exact CK.c2 (hG0.fr hF hdis2) | exact CK.c3 (hG0.fr hF hdis2) | exact CK.c4 (hG0.fr hF hdis2)
  case hv_10 => rfl
  refine S_alen (t := ?t_11) (x := ?x_11) (q := 41) hX dX2_take_40 ?ht_11 ?hs_11 rfl ?_
  case hs_11 => with_reducible first | exact CK.c0 hM | exact CK.c1 hM | exact CK.c2 hM | exact CK.c3 hM | exact CK.c4 hM | exact CK.c0 (hG0.fr hF hdis2) | exact CK.c1 (hG0.fr hF hdis2) | exact CK.c2 (hG0.fr hF hdis2) | exact CK.c3 (hG0.fr hF hdis2) | exact CK.c4 (hG0.fr hF hdis2)
  case ht_11 => decide
  refine S_copy (n0 := ?n0_12) (n1 := ?n1_12) (f := ?f_12) (g := ?g_12) (q := 44) hX u_485 u_487 u_486 u_18 ?hs_12 ?h1_12 ?h2_12 ?h3_12 ?h4_12 ?h5_12 ?h6_12 (by decide) (Nat.le_of_ble_eq_true rfl) dX2_take_41 rfl ?_
  case hs_12 => with_reducible first | exact CK.c0 hM | exact CK.c1 hM | exact CK.c2 hM | exact CK.c3 hM | exact CK.c4 hM | exact CK.c0 (hG0.fr hF hdis2) | exact CK.c1 (hG0.fr hF hdis2) | exact CK.c2 (hG0.fr hF hdis2) | exact CK.c3 (hG0.fr hF hdis2) | exact CK.c4 (hG0.fr hF hdis2)
  case h1_12 => with_reducible first | exact CK.c0 hM | exact CK.c1 hM | exact CK.c2 hM | exact CK.c3 hM | exact CK.c4 hM | exact CK.c0 (hG0.fr hF hdis2) | exact CK.c1 (hG0.fr hF hdis2) | exact CK.c2 (hG0.fr hF hdis2) | exact CK.c3 (hG0.fr hF hdis2) | exact CK.c4 (hG0.fr hF hdis2)
  case h2_12 => first | decide | exact Nat.le_of_ble_eq_true rfl | exact nI_pos (Nat.le_of_ble_eq_true rfl)
  case h3_12 => first | decide | exact Nat.le_of_ble_eq_true rfl | exact nI_pos (Nat.le_of_ble_eq_true rfl)
  case h4_12 => first | decide | exact Nat.le_of_ble_eq_true rfl | exact nI_pos (Nat.le_of_ble_eq_true rfl)
  case h5_12 => first | decide | exact Nat.le_of_ble_eq_true rfl | exact nI_pos (Nat.le_of_ble_eq_true rfl)
  case h6_12 => first | decide | exact Nat.le_of_ble_eq_true rfl | exact nI_pos (Nat.le_of_ble_eq_true rfl)
  refine S_stn (q0 := q) (j := 2) hM hF (by decide) rfl (fun σ μ41 e41 hM hF => ?_)
  refine S_aload_n (q := 45) hX dX2_take_44 rfl rfl ?_
  refine S_getf (fs := ?fs_13) (v := ?v_13) (q := 48) hX u_50 fo_X2_words dX2_take_45 ?hs_13 ?hv_13 rfl ?_
  case hs_13 => with_reducible first | exact CK.c0 hM | exact CK.c1 hM | exact CK.c2 hM | exact CK.c3 hM | exact CK.c4 hM | exact CK.c0 (hG0.fr hF hdis2) | exact CK.c1 (hG0.fr hF hdis2) | exact CK.c2 (hG0.fr hF hdis2) | exact CK.c3 (hG0.fr hF hdis2) | exact CK.c4 (hG0.fr hF hdis2)
  case hv_13 => rfl
  refine S_iconst (q := 49) (v := 0) hX dX2_take_48 ic_0 rfl ?_
  refine S_aload_n (q := 50) hX dX2_take_49 rfl rfl ?_
  refine S_getf (fs := ?fs_14) (v := ?v_14) (q := 53) hX u_50 fo_X2_words dX2_take_50 ?hs_14 ?hv_14 rfl ?_
  case hs_14 => with_reducible first | exact CK.c0 hM | exact CK.c1 hM | exact CK.c2 hM | exact CK.c3 hM | exact CK.c4 hM | exact CK.c0 (hG0.fr hF hdis2) | exact CK.c1 (hG0.fr hF hdis2) | exact CK.c2 (hG0.fr hF hdis2) | exact CK.c3 (hG0.fr hF hdis2) | exact CK.c4 (hG0.fr hF hdis2)
  case hv_14 => rfl
  refine S_iconst (q := 54) (v := 0) hX dX2_take_53 ic_0 rfl ?_
  refine S_aload_n (q := 55) hX dX2_take_54 rfl rfl ?_
  refine S_getf (fs := ?fs_15) (v := ?v_15) (q := 58) hX u_50 fo_X2_words dX2_take_55 ?hs_15 ?hv_15 rfl ?_
  case hs_15 => with_reducible first | exact CK.c0 hM | exact CK.c1 hM | exact CK.c2 hM | exact CK.c3 hM | exact CK.c4 hM | exact CK.c0 (hG0.fr hF hdis2) | exact CK.c1 (hG0.fr hF hdis2) | exact CK.c2 (hG0.fr hF hdis2) | exact CK.c3 (hG0.fr hF hdis2) | exact CK.c4 (hG0.fr hF hdis2)
  case hv_15 => rfl
  refine S_alen (t := ?t_16) (x := ?x_16) (q := 59) hX dX2_take_58 ?ht_16 ?hs_16 rfl ?_
  case hs_16 => with_reducible first | exact CK.c0 hM | exact CK.c1 hM | exact CK.c2 hM | exact CK.c3 hM | exact CK.c4 hM | exact CK.c0 (hG0.fr hF hdis2) | exact CK.c1 (hG0.fr hF hdis2) | exact CK.c2 (hG0.fr hF hdis2) | exact CK.c3 (hG0.fr hF hdis2) | exact CK.c4 (hG0.fr hF hdis2)
  case ht_16 => decide
  refine S_copy (n0 := ?n0_17) (n1 := ?n1_17) (f := ?f_17) (g := ?g_17) (q := 62) hX u_485 u_487 u_486 u_18 ?hs_17 ?h1_17 ?h2_17 ?h3_17 ?h4_17 ?h5_17 ?h6_17 (by decide) (Nat.le_of_ble_eq_true rfl) dX2_take_59 rfl ?_
  case hs_17 => with_reducible first | exact CK.c0 hM | exact CK.c1 hM | exact CK.c2 hM | exact CK.c3 hM | exact CK.c4 hM | exact CK.c0 (hG0.fr hF hdis2) | exact CK.c1 (hG0.fr hF hdis2) | exact CK.c2 (hG0.fr hF hdis2) | exact CK.c3 (hG0.fr hF hdis2) | exact CK.c4 (hG0.fr hF hdis2)
  case h1_17 => with_reducible first | exact CK.c0 hM | exact CK.c1 hM | exact CK.c2 hM | exact CK.c3 hM | exact CK.c4 hM | exact CK.c0 (hG0.fr hF hdis2) | exact CK.c1 (hG0.fr hF hdis2) | exact CK.c2 (hG0.fr hF hdis2) | exact CK.c3 (hG0.fr hF hdis2) | exact CK.c4 (hG0.fr hF hdis2)
  case h2_17 => first | decide | exact Nat.le_of_ble_eq_true rfl | exact nI_pos (Nat.le_of_ble_eq_true rfl)
  case h3_17 => first | decide | exact Nat.le_of_ble_eq_true rfl | exact nI_pos (Nat.le_of_ble_eq_true rfl)
  case h4_17 => first | decide | exact Nat.le_of_ble_eq_true rfl | exact nI_pos (Nat.le_of_ble_eq_true rfl)
  case h5_17 => first | decide | exact Nat.le_of_ble_eq_true rfl | exact nI_pos (Nat.le_of_ble_eq_true rfl)
  case h6_17 => first | decide | exact Nat.le_of_ble_eq_true rfl | exact nI_pos (Nat.le_of_ble_eq_true rfl)
  refine S_stn (q0 := q) (j := 3) hM hF (by decide) rfl (fun σ μ59 e59 hM hF => ?_)
  refine S_aload_n (q := 63) hX dX2_take_62 rfl rfl ?_
  refine S_getf (fs := ?fs_18) (v := ?v_18) (q := 66) hX u_53 fo_X2_uses dX2_take_63 ?hs_18 ?hv_18 rfl ?_
  case hs_18 => with_reducible first | exact CK.c0 hM | exact CK.c1 hM | exact CK.c2 hM | exact CK.c3 hM | exact CK.c4 hM | exact CK.c0 (hG0.fr hF hdis2) | exact CK.c1 (hG0.fr hF hdis2) | exact CK.c2 (hG0.fr hF hdis2) | exact CK.c3 (hG0.fr hF hdis2) | exact CK.c4 (hG0.fr hF hdis2)
  case hv_18 => rfl
  refine S_iconst (q := 67) (v := 0) hX dX2_take_66 ic_0 rfl ?_
  refine S_aload_n (q := 68) hX dX2_take_67 rfl rfl ?_
  refine S_getf (fs := ?fs_19) (v := ?v_19) (q := 71) hX u_53 fo_X2_uses dX2_take_68 ?hs_19 ?hv_19 rfl ?_
  case hs_19 => with_reducible first | exact CK.c0 hM | exact CK.c1 hM | exact CK.c2 hM | exact CK.c3 hM | exact CK.c4 hM | exact CK.c0 (hG0.fr hF hdis2) | exact CK.c1 (hG0.fr hF hdis2) | exact CK.c2 (hG0.fr hF hdis2) | exact CK.c3 (hG0.fr hF hdis2) | exact CK.c4 (hG0.fr hF hdis2)
  case hv_19 => rfl
  refine S_iconst (q := 72) (v := 0) hX dX2_take_71 ic_0 rfl ?_
  refine S_aload_n (q := 73) hX dX2_take_72 rfl rfl ?_
  refine S_getf (fs := ?fs_20) (v := ?v_20) (q := 76) hX u_53 fo_X2_uses dX2_take_73 ?hs_20 ?hv_20 rfl ?_
  case hs_20 => with_reducible first | exact CK.c0 hM | exact CK.c1 hM | exact CK.c2 hM | exact CK.c3 hM | exact CK.c4 hM | exact CK.c0 (hG0.fr hF hdis2) | exact CK.c1 (hG0.fr hF hdis2) | exact CK.c2 (hG0.fr hF hdis2) | exact CK.c3 (hG0.fr hF hdis2) | exact CK.c4 (hG0.fr hF hdis2)
  case hv_20 => rfl
  refine S_alen (t := ?t_21) (x := ?x_21) (q := 77) hX dX2_take_76 ?ht_21 ?hs_21 rfl ?_
  case hs_21 => with_reducible first | exact CK.c0 hM | exact CK.c1 hM | exact CK.c2 hM | exact CK.c3 hM | exact CK.c4 hM | exact CK.c0 (hG0.fr hF hdis2) | exact CK.c1 (hG0.fr hF hdis2) | exact CK.c2 (hG0.fr hF hdis2) | exact CK.c3 (hG0.fr hF hdis2) | exact CK.c4 (hG0.fr hF hdis2)
  case ht_21 => decide
  refine S_copy (n0 := ?n0_22) (n1 := ?n1_22) (f := ?f_22) (g := ?g_22) (q := 80) hX u_485 u_487 u_486 u_18 ?hs_22 ?h1_22 ?h2_22 ?h3_22 ?h4_22 ?h5_22 ?h6_22 (by decide) (Nat.le_of_ble_eq_true rfl) dX2_take_77 rfl ?_
  case hs_22 => with_reducible first | exact CK.c0 hM | exact CK.c1 hM | exact CK.c2 hM | exact CK.c3 hM | exact CK.c4 hM | exact CK.c0 (hG0.fr hF hdis2) | exact CK.c1 (hG0.fr hF hdis2) | exact CK.c2 (hG0.fr hF hdis2) | exact CK.c3 (hG0.fr hF hdis2) | exact CK.c4 (hG0.fr hF hdis2)
  case h1_22 => with_reducible first | exact CK.c0 hM | exact CK.c1 hM | exact CK.c2 hM | exact CK.c3 hM | exact CK.c4 hM | exact CK.c0 (hG0.fr hF hdis2) | exact CK.c1 (hG0.fr hF hdis2) | exact CK.c2 (hG0.fr hF hdis2) | exact CK.c3 (hG0.fr hF hdis2) | exact CK.c4 (hG0.fr hF hdis2)
  case h2_22 => first | decide | exact Nat.le_of_ble_eq_true rfl | exact nI_pos (Nat.le_of_ble_eq_true rfl)
  case h3_22 => first | decide | exact Nat.le_of_ble_eq_true rfl | exact nI_pos (Nat.le_of_ble_eq_true rfl)
  case h4_22 => first | decide | exact Nat.le_of_ble_eq_true rfl | exact nI_pos (Nat.le_of_ble_eq_true rfl)
  case h5_22 => first | decide | exact Nat.le_of_ble_eq_true rfl | exact nI_pos (Nat.le_of_ble_eq_true rfl)
  case h6_22 => first | decide | exact Nat.le_of_ble_eq_true rfl | exact nI_pos (Nat.le_of_ble_eq_true rfl)
  refine S_stn (q0 := q) (j := 4) hM hF (by decide) rfl (fun σ μ77 e77 hM hF => ?_)
  refine S_vret hX dX2_take_80 (Nat.zero_le _) (Nat.zero_le _) ?_
  refine hP _ _ _ ?_
  refine ⟨_, hM, hF, rfl, ⟨?_, fun i hi => ?_, fun i hi => ?_, fun i hi => ?_, fun i hi => ?_⟩, rfl⟩
  · rw [e77, m1_ne (by decide), e59, m1_ne (by decide), e41, m1_ne (by decide), e23, m1_ne (by decide), e5, m2_00, if_pos rfl]
  · rw [e77, m1_ne (by decide), e59, m1_ne (by decide), e41, m1_ne (by decide), e23, m1_eq]
    exact (pk_cpy_in (Nat.zero_le _) (by show i < 0 + 3; omega)).trans (congrArg (g 1) (by show 0 + (i - 0) = i; omega))
  · rw [e77, m1_ne (by decide), e59, m1_ne (by decide), e41, m1_eq]
    exact (pk_cpy_in (Nat.zero_le _) (by show i < 0 + 24; omega)).trans (congrArg (g 2) (by show 0 + (i - 0) = i; omega))
  · rw [e77, m1_ne (by decide), e59, m1_eq]
    exact (pk_cpy_in (Nat.zero_le _) (by show i < 0 + 24; omega)).trans (congrArg (g 3) (by show 0 + (i - 0) = i; omega))
  · rw [e77, m1_eq]
    exact (pk_cpy_in (Nat.zero_le _) (by show i < 0 + 10; omega)).trans (congrArg (g 4) (by show 0 + (i - 0) = i; omega))
theorem c_X2_open (q : Nat) (f : MF) (B : BkT) : CT_X2_open [.ref q] (fun Γ σ sz => CK σ q f ∧ CoR f B ∧ B.1 < 3) (fun Γ σ sz v σ' sz' => ∃ f', CK σ' q f' ∧ Fr q (q + 5) σ σ' ∧ v = some (.int (nI B.1)) ∧ (CoR f' (B.1 + 1, fu B.2.1 B.1 (0, (B.2.1 B.1).2), B.2.2)) ∧ sz' = sz) := by
  refine CT.mkP rfl (Nat.le_of_ble_eq_true rfl) [_] rfl ?_
  intro X Γ σ sz P hX hpre hsz hP
  obtain ⟨hM, hB, hn⟩ := hpre
  obtain ⟨σ0, eσ0⟩ : ∃ z, z = σ := ⟨σ, rfl⟩
  rw [← eσ0] at hP
  have hF : Fr q (q + 5) σ0 σ := by rw [eσ0]; exact Fr.rf
  refine S_aload_n (q := 1) hX dX2_open_0 rfl rfl ?_
  refine S_getf (fs := ?fs_1) (v := ?v_1) (q := 4) hX u_43 fo_X2_entries dX2_open_1 ?hs_1 ?hv_1 rfl ?_
  case hs_1 => with_reducible first | exact CK.c0 hM | exact CK.c1 hM | exact CK.c2 hM | exact CK.c3 hM | exact CK.c4 hM
  case hv_1 => rfl
  refine S_aload_n (q := 5) hX dX2_open_4 rfl rfl ?_
  refine S_getf (fs := ?fs_2) (v := ?v_2) (q := 8) hX u_40 fo_X2_codes dX2_open_5 ?hs_2 ?hv_2 rfl ?_
  case hs_2 => with_reducible first | exact CK.c0 hM | exact CK.c1 hM | exact CK.c2 hM | exact CK.c3 hM | exact CK.c4 hM
  case hv_2 => rfl
  refine S_iconst (q := 9) (v := 0) hX dX2_open_8 ic_0 rfl ?_
  refine S_nm (fun x9 hx9 => ?_)
  refine S_iast (N := ?n_3) (f := ?f_3) (q := 10) hX dX2_open_9 ?hs_3 ?hi_3 rfl ?_
  case hs_3 => with_reducible first | exact CK.c0 hM | exact CK.c1 hM | exact CK.c2 hM | exact CK.c3 hM | exact CK.c4 hM
  case hi_3 => rw [hB.1]; exact vp_in_nI (by omega) (by decide)
  refine S_stu (q0 := q) (j := 1) (i := _) hM hF (by decide) rfl (fun σ μ9 e9 hM hF => ?_)
  subst hx9
  refine S_aload_n (q := 11) hX dX2_open_10 rfl rfl ?_
  refine S_dup (q := 12) hX dX2_open_11 rfl rfl ?_
  refine S_getf (fs := ?fs_4) (v := ?v_4) (q := 15) hX u_40 fo_X2_codes dX2_open_12 ?hs_4 ?hv_4 rfl ?_
  case hs_4 => with_reducible first | exact CK.c0 hM | exact CK.c1 hM | exact CK.c2 hM | exact CK.c3 hM | exact CK.c4 hM
  case hv_4 => rfl
  refine S_iconst (q := 16) (v := 1) hX dX2_open_15 ic_1 rfl ?_
  refine S_iadd (q := 17) hX dX2_open_16 rfl ?_
  refine S_nm (fun x17 hx17 => ?_)
  refine S_putf (fs := ?fs_5) (q := 20) hX u_40 fo_X2_codes rfl rfl ?hl_5 dX2_open_17 ?hs_5 rfl ?_
  case hs_5 => with_reducible first | exact CK.c0 hM | exact CK.c1 hM | exact CK.c2 hM | exact CK.c3 hM | exact CK.c4 hM
  case hl_5 => exact Nat.le_of_ble_eq_true rfl
  refine S_stu (q0 := q) (j := 0) (i := 0) hM hF (by decide) rfl (fun σ μ17 e17 hM hF => ?_)
  subst hx17
  refine S_aload_n (q := 21) hX dX2_open_20 rfl rfl ?_
  refine S_getf (fs := ?fs_6) (v := ?v_6) (q := 24) hX u_40 fo_X2_codes dX2_open_21 ?hs_6 ?hv_6 rfl ?_
  case hs_6 => with_reducible first | exact CK.c0 hM | exact CK.c1 hM | exact CK.c2 hM | exact CK.c3 hM | exact CK.c4 hM
  case hv_6 => rfl
  refine S_iconst (q := 25) (v := 1) hX dX2_open_24 ic_1 rfl ?_
  refine S_isub (q := 26) hX dX2_open_25 rfl ?_
  refine S_iret hX dX2_open_26 (Nat.zero_le _) (Nat.zero_le _) ?_
  refine hP _ _ _ ?_
  have e2 : μ17 = m2 (m2 f 1 B.1 0) 0 0 (nI (B.1 + 1)) := by rw [e17, e9, m2_o (by decide), hB.1, nI_clamp (by omega), nI_1]
  refine ⟨_, hM, hF, by rw [e2, m2_00, if_pos rfl, s1_s], ?_, rfl⟩
  rw [e2]
  exact hB.opn
theorem c_X2_has (q : Nat) (f : MF) (x y : Int32) (c r : Nat) (B : BkT) (hx : x = nI c) (hy : y = nI r) : CT_X2_has [.ref q, .int x, .int y] (fun Γ σ sz => CK σ q f ∧ CoR f B ∧ BkS B ∧ c < B.1 ∧ CodOk (B.2.1 c) ∧ r < 2147483648) (fun Γ σ sz v σ' sz' => v = some (.int (bi (hasR (B.2.1 c) r))) ∧ σ' = σ ∧ sz' = sz) := by
  refine CT.mkP rfl (Nat.le_of_ble_eq_true rfl) [_, _, _, _] rfl ?_
  intro X Γ σ sz P hX hpre hsz hP
  obtain ⟨hM, hB, hs, hc, hok, hr⟩ := hpre
  subst hx
  subst hy
  obtain ⟨σ0, eσ0⟩ : ∃ z, z = σ := ⟨σ, rfl⟩
  rw [← eσ0] at hP
  have hF : Fr q (q + 5) σ0 σ := by rw [eσ0]; exact Fr.rf
  have hcc := hB.2.1 c hc
  have s1 := hs.1
  have s2 := hs.2 c hc
  have loop : ∀ (fl : Nat) (e : Nat), e ≤ (B.2.1 c).1 → (B.2.1 c).1 - e < fl → hasN (B.2.1 c) r e = false → G X Γ P 0 0 2 [some (.ref q), some (.int (nI c)), some (.int (nI r)), some (.int (nI e))] [] σ sz := by
    intro fl
    induction fl with
    | zero =>
      rintro e he hfu hno
      exact absurd hfu (Nat.not_lt_zero _)
    | succ fl ih =>
      rintro e he hfu hno
      refine S_iload_n (q := 3) hX dX2_has_2 rfl rfl ?_
      refine S_aload_n (q := 4) hX dX2_has_3 rfl rfl ?_
      refine S_getf (fs := ?fs_1) (v := ?v_1) (q := 7) hX u_43 fo_X2_entries dX2_has_4 ?hs_1 ?hv_1 rfl ?_
      case hs_1 => with_reducible first | exact CK.c0 hM | exact CK.c1 hM | exact CK.c2 hM | exact CK.c3 hM | exact CK.c4 hM
      case hv_1 => rfl
      refine S_iload_n (q := 8) hX dX2_has_7 rfl rfl ?_
      refine S_iald (N := ?n_2) (f := ?f_2) (q := 9) hX dX2_has_8 ?hs_2 ?hi_2 rfl ?_
      case hs_2 => with_reducible first | exact CK.c0 hM | exact CK.c1 hM | exact CK.c2 hM | exact CK.c3 hM | exact CK.c4 hM
      case hi_2 => exact vp_in_nI (by omega) (by decide)
      refine S_icmp_ge (q := 12) 35 hX dX2_has_9 rfl rfl (fun c9 => ?_) (fun c9 => ?_)
      · have hge : e = (B.2.1 c).1 := by rw [nI_clamp (by omega), hcc.1, nI_leI (by omega) (by omega)] at c9; omega
        subst hge
        refine S_iconst (q := 36) (v := 0) hX dX2_has_35 ic_0 rfl ?_
        refine S_xret hX dX2_has_36 (Nat.zero_le _) (Nat.zero_le _) (by first | exact nb_bi | decide) ?_
        refine hP _ _ _ ?_
        exact ⟨by rw [bi_f (fun z => by rw [show hasN (B.2.1 c) r (B.2.1 c).1 = true from z] at hno; exact absurd hno (by decide))], eσ0.symm, rfl⟩
      · have hlt : e < (B.2.1 c).1 := by rw [nI_clamp (by omega), hcc.1, nI_leI (by omega) (by omega)] at c9; omega
        have hix : nI c * 8 + nI e = nI (8 * c + e) := by rw [i8, pk_mul, nI_add, Nat.mul_comm]
        have hoe := hok.2 e hlt
        refine S_aload_n (q := 13) hX dX2_has_12 rfl rfl ?_
        refine S_getf (fs := ?fs_3) (v := ?v_3) (q := 16) hX u_47 fo_X2_rows dX2_has_13 ?hs_3 ?hv_3 rfl ?_
        case hs_3 => with_reducible first | exact CK.c0 hM | exact CK.c1 hM | exact CK.c2 hM | exact CK.c3 hM | exact CK.c4 hM
        case hv_3 => rfl
        refine S_iload_n (q := 17) hX dX2_has_16 rfl rfl ?_
        refine S_bipush (q := 19) (v := 8) hX dX2_has_17 bp_8 rfl ?_
        refine S_imul (q := 20) hX dX2_has_19 rfl ?_
        refine S_iload_n (q := 21) hX dX2_has_20 rfl rfl ?_
        refine S_iadd (q := 22) hX dX2_has_21 rfl ?_
        refine S_iald (N := ?n_4) (f := ?f_4) (q := 23) hX dX2_has_22 ?hs_4 ?hi_4 rfl ?_
        case hs_4 => with_reducible first | exact CK.c0 hM | exact CK.c1 hM | exact CK.c2 hM | exact CK.c3 hM | exact CK.c4 hM
        case hi_4 => rw [hix]; exact vp_in_nI (by omega) (by decide)
        refine S_iload_n (q := 24) hX dX2_has_23 rfl rfl ?_
        refine S_icmp_ne (q := 27) 29 hX dX2_has_24 rfl rfl (fun c24 => ?_) (fun c24 => ?_)
        · have hne : ¬ ((B.2.1 c).2 e).1 = r := fun z => c24 (by rw [hix, nI_clamp (by omega), (hcc.2 e hlt).1, z])
          refine S_iinc (q := 32) [_, _, _, _] hX dX2_has_29 rfl (ii_1 _) rfl (Nat.le_of_ble_eq_true rfl) rfl rfl ?_
          refine S_goto 2 hX dX2_has_32 rfl ?_
          rw [nI_1]
          exact ih (e + 1) hlt (by omega) (by show (hasN (B.2.1 c) r e || ((B.2.1 c).2 e).1 == r) = false; rw [hno]; simpa using hne)
        · have heq : ((B.2.1 c).2 e).1 = r := by rw [hix, nI_clamp (by omega), (hcc.2 e hlt).1] at c24; exact nI_inj hoe.2.2.1 hr c24
          refine S_iconst (q := 28) (v := 1) hX dX2_has_27 ic_1 rfl ?_
          refine S_xret hX dX2_has_28 (Nat.zero_le _) (Nat.zero_le _) (by first | exact nb_bi | decide) ?_
          refine hP _ _ _ ?_
          exact ⟨by rw [bi_t (hasN_of heq _ hlt)], eσ0.symm, rfl⟩
  refine S_iconst (q := 1) (v := 0) hX dX2_has_0 ic_0 rfl ?_
  refine S_istore_n (q := 2) [_, _, _, _] hX dX2_has_1 rfl (Nat.le_of_ble_eq_true rfl) rfl rfl ?_
  exact loop ((B.2.1 c).1 + 1) 0 (Nat.zero_le _) (by omega) rfl
theorem c_X2_put (q : Nat) (f : MF) (x y z u : Int32) (c e : Nat) (hx : x = nI c) (hy : y = nI e) : CT_X2_put [.ref q, .int x, .int y, .int z, .int u] (fun Γ σ sz => CK σ q f ∧ c < 3 ∧ e < 8) (fun Γ σ sz v σ' sz' => ∃ f', CK σ' q f' ∧ Fr q (q + 5) σ σ' ∧ v = none ∧ (f' = m2 (m2 f 2 (8 * c + e) u) 3 (8 * c + e) z) ∧ sz' = sz) := by
  refine CT.mkP rfl (Nat.le_of_ble_eq_true rfl) [_, _, _, _, _] rfl ?_
  intro X Γ σ sz P hX hpre hsz hP
  obtain ⟨hM, hc, he⟩ := hpre
  subst hx
  subst hy
  obtain ⟨σ0, eσ0⟩ : ∃ z, z = σ := ⟨σ, rfl⟩
  rw [← eσ0] at hP
  have hF : Fr q (q + 5) σ0 σ := by rw [eσ0]; exact Fr.rf
  have hix : nI c * 8 + nI e = nI (8 * c + e) := by rw [i8, pk_mul, nI_add, Nat.mul_comm]
  refine S_aload_n (q := 1) hX dX2_put_0 rfl rfl ?_
  refine S_getf (fs := ?fs_1) (v := ?v_1) (q := 4) hX u_47 fo_X2_rows dX2_put_1 ?hs_1 ?hv_1 rfl ?_
  case hs_1 => with_reducible first | exact CK.c0 hM | exact CK.c1 hM | exact CK.c2 hM | exact CK.c3 hM | exact CK.c4 hM
  case hv_1 => rfl
  refine S_iload_n (q := 5) hX dX2_put_4 rfl rfl ?_
  refine S_bipush (q := 7) (v := 8) hX dX2_put_5 bp_8 rfl ?_
  refine S_imul (q := 8) hX dX2_put_7 rfl ?_
  refine S_iload_n (q := 9) hX dX2_put_8 rfl rfl ?_
  refine S_iadd (q := 10) hX dX2_put_9 rfl ?_
  refine S_iload (q := 12) hX dX2_put_10 rfl rfl ?_
  refine S_nm (fun x12 hx12 => ?_)
  refine S_iast (N := ?n_2) (f := ?f_2) (q := 13) hX dX2_put_12 ?hs_2 ?hi_2 rfl ?_
  case hs_2 => with_reducible first | exact CK.c0 hM | exact CK.c1 hM | exact CK.c2 hM | exact CK.c3 hM | exact CK.c4 hM
  case hi_2 => rw [hix]; exact vp_in_nI (by omega) (by decide)
  refine S_stu (q0 := q) (j := 2) (i := _) hM hF (by decide) rfl (fun σ μ12 e12 hM hF => ?_)
  subst hx12
  refine S_aload_n (q := 14) hX dX2_put_13 rfl rfl ?_
  refine S_getf (fs := ?fs_3) (v := ?v_3) (q := 17) hX u_50 fo_X2_words dX2_put_14 ?hs_3 ?hv_3 rfl ?_
  case hs_3 => with_reducible first | exact CK.c0 hM | exact CK.c1 hM | exact CK.c2 hM | exact CK.c3 hM | exact CK.c4 hM
  case hv_3 => rfl
  refine S_iload_n (q := 18) hX dX2_put_17 rfl rfl ?_
  refine S_bipush (q := 20) (v := 8) hX dX2_put_18 bp_8 rfl ?_
  refine S_imul (q := 21) hX dX2_put_20 rfl ?_
  refine S_iload_n (q := 22) hX dX2_put_21 rfl rfl ?_
  refine S_iadd (q := 23) hX dX2_put_22 rfl ?_
  refine S_iload_n (q := 24) hX dX2_put_23 rfl rfl ?_
  refine S_nm (fun x24 hx24 => ?_)
  refine S_iast (N := ?n_4) (f := ?f_4) (q := 25) hX dX2_put_24 ?hs_4 ?hi_4 rfl ?_
  case hs_4 => with_reducible first | exact CK.c0 hM | exact CK.c1 hM | exact CK.c2 hM | exact CK.c3 hM | exact CK.c4 hM
  case hi_4 => rw [hix]; exact vp_in_nI (by omega) (by decide)
  refine S_stu (q0 := q) (j := 3) (i := _) hM hF (by decide) rfl (fun σ μ24 e24 hM hF => ?_)
  subst hx24
  refine S_vret hX dX2_put_25 (Nat.zero_le _) (Nat.zero_le _) ?_
  refine hP _ _ _ ?_
  rw [hix, nI_clamp (by omega)] at e12
  rw [hix, nI_clamp (by omega), e12] at e24
  exact ⟨_, hM, hF, rfl, e24, rfl⟩
theorem c_X2_add (q : Nat) (f : MF) (x y z : Int32) (c r w : Nat) (B : BkT) (hx : x = nI c) (hy : y = nI w) (hz : z = nI r) : CT_X2_add [.ref q, .int x, .int y, .int z] (fun Γ σ sz => CK σ q f ∧ CoR f B ∧ BkS B ∧ c < B.1 ∧ (B.2.1 c).1 < 8) (fun Γ σ sz v σ' sz' => ∃ f', CK σ' q f' ∧ Fr q (q + 5) σ σ' ∧ v = some (.int (nI (B.2.1 c).1)) ∧ (CoR f' (B.1, fu B.2.1 c (addC (B.2.1 c) r w), B.2.2)) ∧ sz' = sz) := by
  refine CT.mkP rfl (Nat.le_of_ble_eq_true rfl) [_, _, _, _] rfl ?_
  intro X Γ σ sz P hX hpre hsz hP
  obtain ⟨hM, hB, hs, hc, h8⟩ := hpre
  subst hx
  subst hy
  subst hz
  obtain ⟨σ0, eσ0⟩ : ∃ z, z = σ := ⟨σ, rfl⟩
  rw [← eσ0] at hP
  have hF : Fr q (q + 5) σ0 σ := by rw [eσ0]; exact Fr.rf
  have hcc := hB.2.1 c hc
  have s1 := hs.1
  refine S_aload_n (q := 1) hX dX2_add_0 rfl rfl ?_
  refine S_iload_n (q := 2) hX dX2_add_1 rfl rfl ?_
  refine S_aload_n (q := 3) hX dX2_add_2 rfl rfl ?_
  refine S_getf (fs := ?fs_1) (v := ?v_1) (q := 6) hX u_43 fo_X2_entries dX2_add_3 ?hs_1 ?hv_1 rfl ?_
  case hs_1 => with_reducible first | exact CK.c0 hM | exact CK.c1 hM | exact CK.c2 hM | exact CK.c3 hM | exact CK.c4 hM
  case hv_1 => rfl
  refine S_iload_n (q := 7) hX dX2_add_6 rfl rfl ?_
  refine S_iald (N := ?n_2) (f := ?f_2) (q := 8) hX dX2_add_7 ?hs_2 ?hi_2 rfl ?_
  case hs_2 => with_reducible first | exact CK.c0 hM | exact CK.c1 hM | exact CK.c2 hM | exact CK.c3 hM | exact CK.c4 hM
  case hi_2 => exact vp_in_nI (by omega) (by decide)
  refine S_iload_n (q := 9) hX dX2_add_8 rfl rfl ?_
  refine S_iload_n (q := 10) hX dX2_add_9 rfl rfl ?_
  refine S_callV (ci := 2) (C := "FanTalk$Codes") (T := TX2) (N := 5) (q := 13) 0 0 hX (c_X2_put q f _ _ _ _ c (B.2.1 c).1 rfl (by rw [nI_clamp (by omega)]; exact hcc.1)) rfl ?hs_3 rfl u_353 u_355 us_2 u_3 u_356 ⟨by decide, by decide, rfl⟩ ⟨Nat.le_of_ble_eq_true rfl, Nat.le_of_ble_eq_true rfl⟩ ⟨Nat.le_of_ble_eq_true rfl, Nat.le_of_ble_eq_true rfl⟩ (Nat.le_of_ble_eq_true rfl) dX2_add_10 ?hp_3 rfl rfl rfl ?_
  case hs_3 => first | with_reducible assumption | exact ⟨_, CK.c0 hM⟩
  case hp_3 => exact ⟨hM, by omega, h8⟩
  rintro v σ sz1 ⟨μ1, hM, hF1, rfl, e1, rfl⟩
  have hF := hF.trans hF1
  have hcn : μ1 1 c = nI (B.2.1 c).1 := by rw [e1, m2_o (by decide), m2_o (by decide)]; exact hcc.1
  refine S_aload_n (q := 14) hX dX2_add_13 rfl rfl ?_
  refine S_getf (fs := ?fs_4) (v := ?v_4) (q := 17) hX u_43 fo_X2_entries dX2_add_14 ?hs_4 ?hv_4 rfl ?_
  case hs_4 => with_reducible first | exact CK.c0 hM | exact CK.c1 hM | exact CK.c2 hM | exact CK.c3 hM | exact CK.c4 hM
  case hv_4 => rfl
  refine S_iload_n (q := 18) hX dX2_add_17 rfl rfl ?_
  refine S_dup2_11 (q := 19) hX dX2_add_18 rfl rfl rfl ?_
  refine S_iald (N := ?n_5) (f := ?f_5) (q := 20) hX dX2_add_19 ?hs_5 ?hi_5 rfl ?_
  case hs_5 => with_reducible first | exact CK.c0 hM | exact CK.c1 hM | exact CK.c2 hM | exact CK.c3 hM | exact CK.c4 hM
  case hi_5 => exact vp_in_nI (by omega) (by decide)
  refine S_iconst (q := 21) (v := 1) hX dX2_add_20 ic_1 rfl ?_
  refine S_iadd (q := 22) hX dX2_add_21 rfl ?_
  refine S_nm (fun x22 hx22 => ?_)
  refine S_iast (N := ?n_6) (f := ?f_6) (q := 23) hX dX2_add_22 ?hs_6 ?hi_6 rfl ?_
  case hs_6 => with_reducible first | exact CK.c0 hM | exact CK.c1 hM | exact CK.c2 hM | exact CK.c3 hM | exact CK.c4 hM
  case hi_6 => exact vp_in_nI (by omega) (by decide)
  refine S_stu (q0 := q) (j := 1) (i := _) hM hF (by decide) rfl (fun σ μ22 e22 hM hF => ?_)
  subst hx22
  refine S_aload_n (q := 24) hX dX2_add_23 rfl rfl ?_
  refine S_getf (fs := ?fs_7) (v := ?v_7) (q := 27) hX u_43 fo_X2_entries dX2_add_24 ?hs_7 ?hv_7 rfl ?_
  case hs_7 => with_reducible first | exact CK.c0 hM | exact CK.c1 hM | exact CK.c2 hM | exact CK.c3 hM | exact CK.c4 hM
  case hv_7 => rfl
  refine S_iload_n (q := 28) hX dX2_add_27 rfl rfl ?_
  refine S_iald (N := ?n_8) (f := ?f_8) (q := 29) hX dX2_add_28 ?hs_8 ?hi_8 rfl ?_
  case hs_8 => with_reducible first | exact CK.c0 hM | exact CK.c1 hM | exact CK.c2 hM | exact CK.c3 hM | exact CK.c4 hM
  case hi_8 => exact vp_in_nI (by omega) (by decide)
  refine S_iconst (q := 30) (v := 1) hX dX2_add_29 ic_1 rfl ?_
  refine S_isub (q := 31) hX dX2_add_30 rfl ?_
  refine S_iret hX dX2_add_31 (Nat.zero_le _) (Nat.zero_le _) ?_
  refine hP _ _ _ ?_
  rw [nI_clamp (by omega), hcn, nI_1, e1] at e22
  refine ⟨_, hM, hF, by rw [e22, nI_clamp (by omega), m2_at, if_pos ⟨rfl, rfl⟩, s1_s], ?_, rfl⟩
  rw [e22]
  exact hB.add hs hc h8
theorem c_X2_use (q : Nat) (f : MF) (x : Int32) (w : Nat) (B : BkT) (hx : x = nI w) : CT_X2_use [.ref q, .int x] (fun Γ σ sz => CK σ q f ∧ CoR f B ∧ w < 10 ∧ B.2.2 w ≤ 999) (fun Γ σ sz v σ' sz' => ∃ f', CK σ' q f' ∧ Fr q (q + 5) σ σ' ∧ v = none ∧ (CoR f' (B.1, B.2.1, us1 B.2.2 w)) ∧ sz' = sz) := by
  refine CT.mkP rfl (Nat.le_of_ble_eq_true rfl) [_, _] rfl ?_
  intro X Γ σ sz P hX hpre hsz hP
  obtain ⟨hM, hB, hw, h9⟩ := hpre
  subst hx
  obtain ⟨σ0, eσ0⟩ : ∃ z, z = σ := ⟨σ, rfl⟩
  rw [← eσ0] at hP
  have hF : Fr q (q + 5) σ0 σ := by rw [eσ0]; exact Fr.rf
  refine S_aload_n (q := 1) hX dX2_use_0 rfl rfl ?_
  refine S_getf (fs := ?fs_1) (v := ?v_1) (q := 4) hX u_53 fo_X2_uses dX2_use_1 ?hs_1 ?hv_1 rfl ?_
  case hs_1 => with_reducible first | exact CK.c0 hM | exact CK.c1 hM | exact CK.c2 hM | exact CK.c3 hM | exact CK.c4 hM
  case hv_1 => rfl
  refine S_iload_n (q := 5) hX dX2_use_4 rfl rfl ?_
  refine S_sipush (q := 8) (v := 999) hX dX2_use_5 sp_999 rfl ?_
  refine S_aload_n (q := 9) hX dX2_use_8 rfl rfl ?_
  refine S_getf (fs := ?fs_2) (v := ?v_2) (q := 12) hX u_53 fo_X2_uses dX2_use_9 ?hs_2 ?hv_2 rfl ?_
  case hs_2 => with_reducible first | exact CK.c0 hM | exact CK.c1 hM | exact CK.c2 hM | exact CK.c3 hM | exact CK.c4 hM
  case hv_2 => rfl
  refine S_iload_n (q := 13) hX dX2_use_12 rfl rfl ?_
  refine S_iald (N := ?n_3) (f := ?f_3) (q := 14) hX dX2_use_13 ?hs_3 ?hi_3 rfl ?_
  case hs_3 => with_reducible first | exact CK.c0 hM | exact CK.c1 hM | exact CK.c2 hM | exact CK.c3 hM | exact CK.c4 hM
  case hi_3 => exact vp_in_nI (by omega) (by decide)
  refine S_iconst (q := 15) (v := 1) hX dX2_use_14 ic_1 rfl ?_
  refine S_iadd (q := 16) hX dX2_use_15 rfl ?_
  refine S_min (q := 19) hX u_611 u_546 u_19 u_547 (by decide) (Nat.le_of_ble_eq_true rfl) ⟨Nat.zero_le _, Nat.zero_le _⟩ dX2_use_16 rfl ?_
  refine S_nm (fun x19 hx19 => ?_)
  refine S_iast (N := ?n_4) (f := ?f_4) (q := 20) hX dX2_use_19 ?hs_4 ?hi_4 rfl ?_
  case hs_4 => with_reducible first | exact CK.c0 hM | exact CK.c1 hM | exact CK.c2 hM | exact CK.c3 hM | exact CK.c4 hM
  case hi_4 => exact vp_in_nI (by omega) (by decide)
  refine S_stu (q0 := q) (j := 4) (i := _) hM hF (by decide) rfl (fun σ μ19 e19 hM hF => ?_)
  subst hx19
  refine S_vret hX dX2_use_20 (Nat.zero_le _) (Nat.zero_le _) ?_
  refine hP _ _ _ ?_
  have e2 : μ19 = m2 f 4 w (nI (if B.2.2 w = 999 then 999 else B.2.2 w + 1)) := by
    rw [e19, nI_clamp (by omega), hB.2.2 w hw, nI_1]
    congr 1
    by_cases h : B.2.2 w = 999
    · rw [if_pos h, h]; decide
    · have e : nI (B.2.2 w + 1) < 999 ↔ B.2.2 w + 1 < 999 := nI_ltI (by omega) (by decide)
      rw [if_neg h]
      by_cases h2 : B.2.2 w + 1 < 999
      · rw [if_pos (e.mpr h2)]
      · rw [if_neg (fun z => h2 (e.mp z)), show B.2.2 w + 1 = 999 by omega]; rfl
  refine ⟨_, hM, hF, rfl, ?_, rfl⟩
  rw [e2]
  exact hB.use
theorem c_X2_allEntries (q : Nat) (f : MF) (B : BkT) : CT_X2_allEntries [.ref q] (fun Γ σ sz => CK σ q f ∧ CoR f B ∧ BkS B) (fun Γ σ sz v σ' sz' => v = some (.int (nI (sumE B.2.1 B.1))) ∧ σ' = σ ∧ sz' = sz) := by
  refine CT.mkP rfl (Nat.le_of_ble_eq_true rfl) [_, _, _] rfl ?_
  intro X Γ σ sz P hX hpre hsz hP
  obtain ⟨hM, hB, hs⟩ := hpre
  obtain ⟨σ0, eσ0⟩ : ∃ z, z = σ := ⟨σ, rfl⟩
  rw [← eσ0] at hP
  have hF : Fr q (q + 5) σ0 σ := by rw [eσ0]; exact Fr.rf
  have s1 := hs.1
  have loop : ∀ (fl : Nat) (c : Nat) (xa : Int32), xa = nI (sumE B.2.1 c) → c ≤ B.1 → B.1 - c < fl → G X Γ P 0 0 4 [some (.ref q), some (.int xa), some (.int (nI c))] [] σ sz := by
    intro fl
    induction fl with
    | zero =>
      rintro c _ rfl hc hfu
      exact absurd hfu (Nat.not_lt_zero _)
    | succ fl ih =>
      rintro c _ rfl hc hfu
      refine S_iload_n (q := 5) hX dX2_allEntries_4 rfl rfl ?_
      refine S_aload_n (q := 6) hX dX2_allEntries_5 rfl rfl ?_
      refine S_getf (fs := ?fs_1) (v := ?v_1) (q := 9) hX u_40 fo_X2_codes dX2_allEntries_6 ?hs_1 ?hv_1 rfl ?_
      case hs_1 => with_reducible first | exact CK.c0 hM | exact CK.c1 hM | exact CK.c2 hM | exact CK.c3 hM | exact CK.c4 hM
      case hv_1 => rfl
      refine S_icmp_ge (q := 12) 27 hX dX2_allEntries_9 rfl rfl (fun c9 => ?_) (fun c9 => ?_)
      · have hge : c = B.1 := by rw [hB.1, nI_leI (by omega) (by omega)] at c9; omega
        subst hge
        refine S_iload_n (q := 28) hX dX2_allEntries_27 rfl rfl ?_
        refine S_iret hX dX2_allEntries_28 (Nat.zero_le _) (Nat.zero_le _) ?_
        refine hP _ _ _ ?_
        exact ⟨rfl, eσ0.symm, rfl⟩
      · have hlt : c < B.1 := by rw [hB.1, nI_leI (by omega) (by omega)] at c9; omega
        refine S_iload_n (q := 13) hX dX2_allEntries_12 rfl rfl ?_
        refine S_aload_n (q := 14) hX dX2_allEntries_13 rfl rfl ?_
        refine S_getf (fs := ?fs_2) (v := ?v_2) (q := 17) hX u_43 fo_X2_entries dX2_allEntries_14 ?hs_2 ?hv_2 rfl ?_
        case hs_2 => with_reducible first | exact CK.c0 hM | exact CK.c1 hM | exact CK.c2 hM | exact CK.c3 hM | exact CK.c4 hM
        case hv_2 => rfl
        refine S_iload_n (q := 18) hX dX2_allEntries_17 rfl rfl ?_
        refine S_iald (N := ?n_3) (f := ?f_3) (q := 19) hX dX2_allEntries_18 ?hs_3 ?hi_3 rfl ?_
        case hs_3 => with_reducible first | exact CK.c0 hM | exact CK.c1 hM | exact CK.c2 hM | exact CK.c3 hM | exact CK.c4 hM
        case hi_3 => exact vp_in_nI (by omega) (by decide)
        refine S_iadd (q := 20) hX dX2_allEntries_19 rfl ?_
        refine S_istore_n (q := 21) [_, _, _] hX dX2_allEntries_20 rfl (Nat.le_of_ble_eq_true rfl) rfl rfl ?_
        refine S_iinc (q := 24) [_, _, _] hX dX2_allEntries_21 rfl (ii_1 _) rfl (Nat.le_of_ble_eq_true rfl) rfl rfl ?_
        refine S_goto 4 hX dX2_allEntries_24 rfl ?_
        rw [nI_1]
        exact ih (c + 1) _ (by rw [nI_clamp (by omega), (hB.2.1 c hlt).1, nI_add]; rfl) hlt (by omega)
  refine S_iconst (q := 1) (v := 0) hX dX2_allEntries_0 ic_0 rfl ?_
  refine S_istore_n (q := 2) [_, _, _] hX dX2_allEntries_1 rfl (Nat.le_of_ble_eq_true rfl) rfl rfl ?_
  refine S_iconst (q := 3) (v := 0) hX dX2_allEntries_2 ic_0 rfl ?_
  refine S_istore_n (q := 4) [_, _, _] hX dX2_allEntries_3 rfl (Nat.le_of_ble_eq_true rfl) rfl rfl ?_
  exact loop (B.1 + 1) 0 _ rfl (Nat.zero_le _) (by omega)
theorem c_X2_dropUnused (q : Nat) (f : MF) (B : BkT) : CT_X2_dropUnused [.ref q] (fun Γ σ sz => CK σ q f ∧ CoR f B ∧ BkS B ∧ (∀ c, c < B.1 → CodOk (B.2.1 c)) ∧ ∀ w, w < 10 → B.2.2 w ≤ 999) (fun Γ σ sz v σ' sz' => ∃ f', CK σ' q f' ∧ Fr q (q + 5) σ σ' ∧ v = some (.int (nI (sumE B.2.1 B.1 - sumE (fun c => yrC B.2.2 (B.2.1 c)) B.1))) ∧ (CoR f' (B.1, fun c => yrC B.2.2 (B.2.1 c), fun _ => 0)) ∧ sz' = sz) := by
  refine CT.mkP rfl (Nat.le_of_ble_eq_true rfl) [_, _, _, _, _, _] rfl ?_
  intro X Γ σ sz P hX hpre hsz hP
  obtain ⟨hM, hB, hs, hB2, hu999⟩ := hpre
  obtain ⟨σ0, eσ0⟩ : ∃ z, z = σ := ⟨σ, rfl⟩
  rw [← eσ0] at hP
  have hF : Fr q (q + 5) σ0 σ := by rw [eσ0]; exact Fr.rf
  have s1 := hs.1
  have l99 : ∀ (fl k : Nat) (σ : Sg) (μ : MF) (x1 : Int32) (x3 x4 x5 : Option Value), x1 = nI (sumE B.2.1 B.1) → k ≤ 10 → 10 - k < fl → CoR μ (B.1, fun c => yrC B.2.2 (B.2.1 c), fun w => if w < k then 0 else B.2.2 w) → CK σ q μ → Fr q (q + 5) σ0 σ → G X Γ P 0 0 99 [some (.ref q), some (.int x1), some (.int (nI k)), x3, x4, x5] [] σ sz := by
    intro fl
    induction fl with
      | zero => intro k σ μ x1 x3 x4 x5 h0 h1 h2; omega
      | succ fl ih =>
        rintro k σ μ _ x3 x4 x5 rfl hk hfu hc hM hF
        refine S_iload_n (q := 100) hX dX2_dropUnused_99 rfl rfl ?_
        refine S_bipush (q := 102) (v := 10) hX dX2_dropUnused_100 bp_10 rfl ?_
        refine S_icmp_ge (q := 105) 118 hX dX2_dropUnused_102 rfl rfl (fun c102 => ?_) (fun c102 => ?_)
        · have hge : k = 10 := by rw [i10, nI_leI (by omega) (by omega)] at c102; omega
          refine S_iload_n (q := 119) hX dX2_dropUnused_118 rfl rfl ?_
          refine S_aload_n (q := 120) hX dX2_dropUnused_119 rfl rfl ?_
          refine S_callV (ci := 2) (C := "FanTalk$Codes") (T := TX2) (N := 5) (q := 123) 0 0 hX (c_X2_allEntries q μ (B.1, fun c => yrC B.2.2 (B.2.1 c), fun w => if w < k then 0 else B.2.2 w)) rfl ?hs_1 rfl u_624 u_625 u_626 u_3 u_627 ⟨by decide, by decide, rfl⟩ ⟨Nat.le_of_ble_eq_true rfl, Nat.le_of_ble_eq_true rfl⟩ ⟨Nat.le_of_ble_eq_true rfl, Nat.le_of_ble_eq_true rfl⟩ (Nat.le_of_ble_eq_true rfl) dX2_dropUnused_120 ?hp_1 rfl rfl rfl ?_
          case hs_1 => first | with_reducible assumption | exact ⟨_, CK.c0 hM⟩
          case hp_1 => exact ⟨hM, hc, s1, fun c hcc => Nat.le_trans (yrI_le _ _ _) (hs.2 c hcc)⟩
          rintro v σ1 sz1 ⟨rfl, rfl, rfl⟩
          refine S_isub (q := 124) hX dX2_dropUnused_123 rfl ?_
          refine S_iret hX dX2_dropUnused_124 (Nat.zero_le _) (Nat.zero_le _) ?_
          refine hP _ _ _ ?_
          have hle : sumE (fun c => yrC B.2.2 (B.2.1 c)) B.1 ≤ sumE B.2.1 B.1 := sumE_le (fun c => yrI_le _ _ _) _
          refine ⟨_, hM, hF, by rw [pk_sub hle], ?_, rfl⟩
          exact ⟨hc.1, hc.2.1, fun x hx => by rw [hc.2.2 x hx]; show nI (if x < k then 0 else _) = nI 0; rw [if_pos (by omega)]⟩
        · have hlt : k < 10 := by rw [i10, nI_leI (by omega) (by omega)] at c102; omega
          refine S_aload_n (q := 106) hX dX2_dropUnused_105 rfl rfl ?_
          refine S_getf (fs := ?fs_2) (v := ?v_2) (q := 109) hX u_53 fo_X2_uses dX2_dropUnused_106 ?hs_2 ?hv_2 rfl ?_
          case hs_2 => with_reducible first | exact CK.c0 hM | exact CK.c1 hM | exact CK.c2 hM | exact CK.c3 hM | exact CK.c4 hM
          case hv_2 => rfl
          refine S_iload_n (q := 110) hX dX2_dropUnused_109 rfl rfl ?_
          refine S_iconst (q := 111) (v := 0) hX dX2_dropUnused_110 ic_0 rfl ?_
          refine S_nm (fun x111 hx111 => ?_)
          refine S_iast (N := ?n_3) (f := ?f_3) (q := 112) hX dX2_dropUnused_111 ?hs_3 ?hi_3 rfl ?_
          case hs_3 => with_reducible first | exact CK.c0 hM | exact CK.c1 hM | exact CK.c2 hM | exact CK.c3 hM | exact CK.c4 hM
          case hi_3 => exact vp_in_nI (by omega) (by decide)
          refine S_stu (q0 := q) (j := 4) (i := _) hM hF (by decide) rfl (fun σ μ111 e111 hM hF => ?_)
          subst hx111
          refine S_iinc (q := 115) [_, _, _, _, _, _] hX dX2_dropUnused_112 rfl (ii_1 _) rfl (Nat.le_of_ble_eq_true rfl) rfl rfl ?_
          refine S_goto 99 hX dX2_dropUnused_115 rfl ?_
          rw [nI_1]
          refine ih (k + 1) _ μ111 _ _ _ _ rfl hlt (by omega) ?_ hM hF
          rw [nI_clamp (by omega)] at e111
          refine ⟨by rw [e111, m2_o (by decide)]; exact hc.1, fun c hcc => ?_, fun x hx => ?_⟩
          · have := hc.2.1 c hcc
            exact ⟨by rw [e111, m2_o (by decide)]; exact this.1, fun e he => ⟨by rw [e111, m2_o (by decide)]; exact (this.2 e he).1, by rw [e111, m2_o (by decide)]; exact (this.2 e he).2⟩⟩
          · rw [e111, m2_at]
            show _ = nI (if x < k + 1 then 0 else B.2.2 x)
            by_cases hxk : x = k
            · rw [if_pos ⟨rfl, hxk⟩, if_pos (by omega)]; rfl
            · rw [if_neg (fun z => hxk z.2), hc.2.2 x hx]
              show nI (if x < k then 0 else B.2.2 x) = _
              by_cases h : x < k
              · rw [if_pos h, if_pos (by omega)]
              · rw [if_neg h, if_neg (by omega)]
  have l7 : ∀ (fo c : Nat) (σ : Sg) (μ : MF) (x1 : Int32) (x3 x4 x5 : Option Value), x1 = nI (sumE B.2.1 B.1) → c ≤ B.1 → B.1 - c < fo → CoR μ (B.1, ycs B.2.2 B.2.1 c, B.2.2) → CK σ q μ → Fr q (q + 5) σ0 σ → G X Γ P 0 0 7 [some (.ref q), some (.int x1), some (.int (nI c)), x3, x4, x5] [] σ sz := by
    intro fo
    induction fo with
      | zero => intro c σ μ x1 x3 x4 x5 h0 h1 h2; omega
      | succ fo iho =>
        rintro c σ μ _ x3 x4 x5 rfl hcn hfo hc hM hF
        have l20 : c < B.1 → (B.2.1 c).1 ≤ 8 → CodOk (B.2.1 c) → ∀ (fl i : Nat) (σ : Sg) (μ : MF) (x3 : Int32) (x5 : Option Value), x3 = nI (yrI B.2.2 (B.2.1 c).2 i).1 → i ≤ (B.2.1 c).1 → (B.2.1 c).1 - i < fl → CoR μ (B.1, fu (ycs B.2.2 B.2.1 c) c ((B.2.1 c).1, (yrI B.2.2 (B.2.1 c).2 i).2), B.2.2) → CK σ q μ → Fr q (q + 5) σ0 σ → G X Γ P 0 0 20 [some (.ref q), some (.int (nI (sumE B.2.1 B.1))), some (.int (nI c)), some (.int x3), some (.int (nI i)), x5] [] σ sz := by
          intro hlt h8 hok fl
          induction fl with
            | zero => intro i σ μ x3 x5 h0 h1 h2; omega
            | succ fl ih =>
              rintro i σ μ _ x5 rfl hi hfu hc hM hF
              have hcc : CCode μ c ((B.2.1 c).1, (yrI B.2.2 (B.2.1 c).2 i).2) := by
                have z := hc.2.1 c hlt
                have z : CCode μ c (fu (ycs B.2.2 B.2.1 c) c ((B.2.1 c).1, (yrI B.2.2 (B.2.1 c).2 i).2) c) := z
                rw [fu_eq] at z
                exact z
              have hcc1 : μ 1 c = nI (B.2.1 c).1 := hcc.1
              have hyl := yrI_le B.2.2 (B.2.1 c).2 i
              have hS : BkS (B.1, fu (ycs B.2.2 B.2.1 c) c ((B.2.1 c).1, (yrI B.2.2 (B.2.1 c).2 i).2), B.2.2) := ⟨s1, fun k hk => by
                show (fu (ycs B.2.2 B.2.1 c) c ((B.2.1 c).1, (yrI B.2.2 (B.2.1 c).2 i).2) k).1 ≤ 8
                by_cases hkc : k = c
                · rw [hkc, fu_eq]; exact h8
                · rw [fu_ne hkc]
                  unfold ycs
                  split
                  · exact Nat.le_trans (yrI_le _ _ _) (hs.2 k hk)
                  · exact hs.2 k hk⟩
              refine S_iload (q := 22) hX dX2_dropUnused_20 rfl rfl ?_
              refine S_aload_n (q := 23) hX dX2_dropUnused_22 rfl rfl ?_
              refine S_getf (fs := ?fs_4) (v := ?v_4) (q := 26) hX u_43 fo_X2_entries dX2_dropUnused_23 ?hs_4 ?hv_4 rfl ?_
              case hs_4 => with_reducible first | exact CK.c0 hM | exact CK.c1 hM | exact CK.c2 hM | exact CK.c3 hM | exact CK.c4 hM
              case hv_4 => rfl
              refine S_iload_n (q := 27) hX dX2_dropUnused_26 rfl rfl ?_
              refine S_iald (N := ?n_5) (f := ?f_5) (q := 28) hX dX2_dropUnused_27 ?hs_5 ?hi_5 rfl ?_
              case hs_5 => with_reducible first | exact CK.c0 hM | exact CK.c1 hM | exact CK.c2 hM | exact CK.c3 hM | exact CK.c4 hM
              case hi_5 => exact vp_in_nI (by omega) (by decide)
              refine S_icmp_ge (q := 31) 84 hX dX2_dropUnused_28 rfl rfl (fun c28 => ?_) (fun c28 => ?_)
              · have hil : i = (B.2.1 c).1 := by rw [nI_clamp (by omega), hcc1, nI_leI (by omega) (by omega)] at c28; omega
                refine S_aload_n (q := 85) hX dX2_dropUnused_84 rfl rfl ?_
                refine S_getf (fs := ?fs_6) (v := ?v_6) (q := 88) hX u_43 fo_X2_entries dX2_dropUnused_85 ?hs_6 ?hv_6 rfl ?_
                case hs_6 => with_reducible first | exact CK.c0 hM | exact CK.c1 hM | exact CK.c2 hM | exact CK.c3 hM | exact CK.c4 hM
                case hv_6 => rfl
                refine S_iload_n (q := 89) hX dX2_dropUnused_88 rfl rfl ?_
                refine S_iload_n (q := 90) hX dX2_dropUnused_89 rfl rfl ?_
                refine S_nm (fun x90 hx90 => ?_)
                refine S_iast (N := ?n_7) (f := ?f_7) (q := 91) hX dX2_dropUnused_90 ?hs_7 ?hi_7 rfl ?_
                case hs_7 => with_reducible first | exact CK.c0 hM | exact CK.c1 hM | exact CK.c2 hM | exact CK.c3 hM | exact CK.c4 hM
                case hi_7 => exact vp_in_nI (by omega) (by decide)
                refine S_stu (q0 := q) (j := 1) (i := _) hM hF (by decide) rfl (fun σ μ90 e90 hM hF => ?_)
                subst hx90
                refine S_iinc (q := 94) [_, _, _, _, _, _] hX dX2_dropUnused_91 rfl (ii_1 _) rfl (Nat.le_of_ble_eq_true rfl) rfl rfl ?_
                refine S_goto 7 hX dX2_dropUnused_94 rfl ?_
                rw [nI_1]
                refine iho (c + 1) _ μ90 _ _ _ _ rfl hlt (by omega) ?_ hM hF
                subst hil
                have hp := hc.cnt (c := c) (n := (yrC B.2.2 (B.2.1 c)).1) (es := (yrC B.2.2 (B.2.1 c)).2) (fun k hk => hcc.2 k (Nat.lt_of_lt_of_le hk (yrI_le _ _ _)))
                rw [nI_clamp (by omega)] at e90
                have hp2 : CoR μ90 (B.1, fu (fu (ycs B.2.2 B.2.1 c) c ((B.2.1 c).1, (yrI B.2.2 (B.2.1 c).2 (B.2.1 c).1).2)) c (yrC B.2.2 (B.2.1 c)), B.2.2) := by rw [e90]; exact hp
                rw [fufu, ycs_s] at hp2
                exact hp2
              · have hil : i < (B.2.1 c).1 := by rw [nI_clamp (by omega), hcc1, nI_leI (by omega) (by omega)] at c28; omega
                have hix : nI c * 8 + nI i = nI (8 * c + i) := by rw [i8, pk_mul, nI_add, Nat.mul_comm]
                have hoe := hok.2 i hil
                have hce : μ 2 (8 * c + i) = nI ((B.2.1 c).2 i).1 ∧ μ 3 (8 * c + i) = nI ((B.2.1 c).2 i).2 := by
                  have := hcc.2 i hil
                  rw [show (yrI B.2.2 (B.2.1 c).2 i).2 i = (B.2.1 c).2 i from yrI_hi _ _ i i hyl] at this
                  exact this
                have hu : μ 4 ((B.2.1 c).2 i).2 = nI (B.2.2 ((B.2.1 c).2 i).2) := hc.2.2 _ hoe.2.2.2
                have hu9 := hu999 _ hoe.2.2.2
                refine S_iload_n (q := 32) hX dX2_dropUnused_31 rfl rfl ?_
                refine S_bipush (q := 34) (v := 8) hX dX2_dropUnused_32 bp_8 rfl ?_
                refine S_imul (q := 35) hX dX2_dropUnused_34 rfl ?_
                refine S_iload (q := 37) hX dX2_dropUnused_35 rfl rfl ?_
                refine S_iadd (q := 38) hX dX2_dropUnused_37 rfl ?_
                refine S_istore (q := 40) [_, _, _, _, _, _] hX dX2_dropUnused_38 rfl (Nat.le_of_ble_eq_true rfl) rfl rfl ?_
                refine S_aload_n (q := 41) hX dX2_dropUnused_40 rfl rfl ?_
                refine S_getf (fs := ?fs_8) (v := ?v_8) (q := 44) hX u_53 fo_X2_uses dX2_dropUnused_41 ?hs_8 ?hv_8 rfl ?_
                case hs_8 => with_reducible first | exact CK.c0 hM | exact CK.c1 hM | exact CK.c2 hM | exact CK.c3 hM | exact CK.c4 hM
                case hv_8 => rfl
                refine S_aload_n (q := 45) hX dX2_dropUnused_44 rfl rfl ?_
                refine S_getf (fs := ?fs_9) (v := ?v_9) (q := 48) hX u_50 fo_X2_words dX2_dropUnused_45 ?hs_9 ?hv_9 rfl ?_
                case hs_9 => with_reducible first | exact CK.c0 hM | exact CK.c1 hM | exact CK.c2 hM | exact CK.c3 hM | exact CK.c4 hM
                case hv_9 => rfl
                refine S_iload (q := 50) hX dX2_dropUnused_48 rfl rfl ?_
                refine S_iald (N := ?n_10) (f := ?f_10) (q := 51) hX dX2_dropUnused_50 ?hs_10 ?hi_10 rfl ?_
                case hs_10 => with_reducible first | exact CK.c0 hM | exact CK.c1 hM | exact CK.c2 hM | exact CK.c3 hM | exact CK.c4 hM
                case hi_10 => rw [hix]; exact vp_in_nI (by omega) (by decide)
                refine S_iald (N := ?n_11) (f := ?f_11) (q := 52) hX dX2_dropUnused_51 ?hs_11 ?hi_11 rfl ?_
                case hs_11 => with_reducible first | exact CK.c0 hM | exact CK.c1 hM | exact CK.c2 hM | exact CK.c3 hM | exact CK.c4 hM
                case hi_11 => rw [hix, nI_clamp (n := 8 * c + i) (by omega), hce.2]; exact vp_in_nI (by omega) (by decide)
                refine S_if_le (q := 55) 78 hX dX2_dropUnused_52 rfl rfl (fun c52 => ?_) (fun c52 => ?_)
                · have hu0 : ¬ 0 < B.2.2 ((B.2.1 c).2 i).2 := by rw [hix, nI_clamp (n := 8 * c + i) (by omega), hce.2, nI_clamp (by omega), hu, i0, nI_leI (by omega) (by omega)] at c52; omega
                  refine S_iinc (q := 81) [_, _, _, _, _, _] hX dX2_dropUnused_78 rfl (ii_1 _) rfl (Nat.le_of_ble_eq_true rfl) rfl rfl ?_
                  refine S_goto 20 hX dX2_dropUnused_81 rfl ?_
                  rw [nI_1]
                  exact ih (i + 1) _ μ _ _ (by rw [yrI_f hu0]) hil (by omega) (by rw [yrI_f hu0]; exact hc) hM hF
                · have hu0 : 0 < B.2.2 ((B.2.1 c).2 i).2 := by rw [hix, nI_clamp (n := 8 * c + i) (by omega), hce.2, nI_clamp (by omega), hu, i0, nI_leI (by omega) (by omega)] at c52; omega
                  refine S_aload_n (q := 56) hX dX2_dropUnused_55 rfl rfl ?_
                  refine S_iload_n (q := 57) hX dX2_dropUnused_56 rfl rfl ?_
                  refine S_iload_n (q := 58) hX dX2_dropUnused_57 rfl rfl ?_
                  refine S_aload_n (q := 59) hX dX2_dropUnused_58 rfl rfl ?_
                  refine S_getf (fs := ?fs_12) (v := ?v_12) (q := 62) hX u_50 fo_X2_words dX2_dropUnused_59 ?hs_12 ?hv_12 rfl ?_
                  case hs_12 => with_reducible first | exact CK.c0 hM | exact CK.c1 hM | exact CK.c2 hM | exact CK.c3 hM | exact CK.c4 hM
                  case hv_12 => rfl
                  refine S_iload (q := 64) hX dX2_dropUnused_62 rfl rfl ?_
                  refine S_iald (N := ?n_13) (f := ?f_13) (q := 65) hX dX2_dropUnused_64 ?hs_13 ?hi_13 rfl ?_
                  case hs_13 => with_reducible first | exact CK.c0 hM | exact CK.c1 hM | exact CK.c2 hM | exact CK.c3 hM | exact CK.c4 hM
                  case hi_13 => rw [hix]; exact vp_in_nI (by omega) (by decide)
                  refine S_aload_n (q := 66) hX dX2_dropUnused_65 rfl rfl ?_
                  refine S_getf (fs := ?fs_14) (v := ?v_14) (q := 69) hX u_47 fo_X2_rows dX2_dropUnused_66 ?hs_14 ?hv_14 rfl ?_
                  case hs_14 => with_reducible first | exact CK.c0 hM | exact CK.c1 hM | exact CK.c2 hM | exact CK.c3 hM | exact CK.c4 hM
                  case hv_14 => rfl
                  refine S_iload (q := 71) hX dX2_dropUnused_69 rfl rfl ?_
                  refine S_iald (N := ?n_15) (f := ?f_15) (q := 72) hX dX2_dropUnused_71 ?hs_15 ?hi_15 rfl ?_
                  case hs_15 => with_reducible first | exact CK.c0 hM | exact CK.c1 hM | exact CK.c2 hM | exact CK.c3 hM | exact CK.c4 hM
                  case hi_15 => rw [hix]; exact vp_in_nI (by omega) (by decide)
                  refine S_callV (ci := 2) (C := "FanTalk$Codes") (T := TX2) (N := 5) (q := 75) 0 0 hX (c_X2_put q μ _ _ _ _ c (yrI B.2.2 (B.2.1 c).2 i).1 rfl rfl) rfl ?hs_16 rfl u_353 u_355 us_2 u_3 u_356 ⟨by decide, by decide, rfl⟩ ⟨Nat.le_of_ble_eq_true rfl, Nat.le_of_ble_eq_true rfl⟩ ⟨Nat.le_of_ble_eq_true rfl, Nat.le_of_ble_eq_true rfl⟩ (Nat.le_of_ble_eq_true rfl) dX2_dropUnused_72 ?hp_16 rfl rfl rfl ?_
                  case hs_16 => first | with_reducible assumption | exact ⟨_, CK.c0 hM⟩
                  case hp_16 => exact ⟨hM, by omega, by omega⟩
                  rintro v σ sz1 ⟨μ1, hM, hF1, rfl, e1, rfl⟩
                  have hF := hF.trans hF1
                  rw [hix, nI_clamp (n := 8 * c + i) (by omega), hce.1, hce.2] at e1
                  refine S_iinc (q := 78) [_, _, _, _, _, _] hX dX2_dropUnused_75 rfl (ii_1 _) rfl (Nat.le_of_ble_eq_true rfl) rfl rfl ?_
                  refine S_iinc (q := 81) [_, _, _, _, _, _] hX dX2_dropUnused_78 rfl (ii_1 _) rfl (Nat.le_of_ble_eq_true rfl) rfl rfl ?_
                  refine S_goto 20 hX dX2_dropUnused_81 rfl ?_
                  rw [nI_1, nI_1]
                  have hp := hc.put (c := c) (e := (yrI B.2.2 (B.2.1 c).2 i).1) (r := ((B.2.1 c).2 i).1) (w := ((B.2.1 c).2 i).2) hS (by omega)
                  rw [← e1] at hp
                  refine ih (i + 1) _ μ1 _ _ (by rw [yrI_t hu0]) hil (by omega) ?_ hM hF
                  rw [yrI_t hu0]
                  have e2 : fu (fu (ycs B.2.2 B.2.1 c) c ((B.2.1 c).1, (yrI B.2.2 (B.2.1 c).2 i).2)) c ((fu (ycs B.2.2 B.2.1 c) c ((B.2.1 c).1, (yrI B.2.2 (B.2.1 c).2 i).2) c).1, fu (fu (ycs B.2.2 B.2.1 c) c ((B.2.1 c).1, (yrI B.2.2 (B.2.1 c).2 i).2) c).2 (yrI B.2.2 (B.2.1 c).2 i).1 (((B.2.1 c).2 i).1, ((B.2.1 c).2 i).2)) = fu (ycs B.2.2 B.2.1 c) c ((B.2.1 c).1, fu (yrI B.2.2 (B.2.1 c).2 i).2 (yrI B.2.2 (B.2.1 c).2 i).1 ((B.2.1 c).2 i)) := by
                    funext k
                    by_cases hk : k = c
                    · rw [hk, fu_eq, fu_eq, fu_eq]
                    · rw [fu_ne hk, fu_ne hk, fu_ne hk]
                  have hp2 : CoR μ1 (B.1, fu (fu (ycs B.2.2 B.2.1 c) c ((B.2.1 c).1, (yrI B.2.2 (B.2.1 c).2 i).2)) c ((fu (ycs B.2.2 B.2.1 c) c ((B.2.1 c).1, (yrI B.2.2 (B.2.1 c).2 i).2) c).1, fu (fu (ycs B.2.2 B.2.1 c) c ((B.2.1 c).1, (yrI B.2.2 (B.2.1 c).2 i).2) c).2 (yrI B.2.2 (B.2.1 c).2 i).1 (((B.2.1 c).2 i).1, ((B.2.1 c).2 i).2)), B.2.2) := hp
                  rw [e2] at hp2
                  exact hp2
        refine S_iload_n (q := 8) hX dX2_dropUnused_7 rfl rfl ?_
        refine S_aload_n (q := 9) hX dX2_dropUnused_8 rfl rfl ?_
        refine S_getf (fs := ?fs_17) (v := ?v_17) (q := 12) hX u_40 fo_X2_codes dX2_dropUnused_9 ?hs_17 ?hv_17 rfl ?_
        case hs_17 => with_reducible first | exact CK.c0 hM | exact CK.c1 hM | exact CK.c2 hM | exact CK.c3 hM | exact CK.c4 hM
        case hv_17 => rfl
        refine S_icmp_ge (q := 15) 97 hX dX2_dropUnused_12 rfl rfl (fun c12 => ?_) (fun c12 => ?_)
        · have hge : c = B.1 := by rw [hc.1, nI_leI (by omega) (by omega)] at c12; omega
          refine S_iconst (q := 98) (v := 0) hX dX2_dropUnused_97 ic_0 rfl ?_
          refine S_istore_n (q := 99) [_, _, _, _, _, _] hX dX2_dropUnused_98 rfl (Nat.le_of_ble_eq_true rfl) rfl rfl ?_
          refine l99 11 0 _ μ _ _ _ _ rfl (by decide) (by decide) ?_ hM hF
          refine ⟨hc.1, fun k hk => ?_, fun x hx => ?_⟩
          · have := hc.2.1 k hk
            have e2 : ycs B.2.2 B.2.1 c k = yrC B.2.2 (B.2.1 k) := by unfold ycs; rw [if_pos (by have hk : k < B.1 := hk; omega)]
            show CCode μ k (yrC B.2.2 (B.2.1 k))
            rw [← e2]; exact this
          · rw [hc.2.2 x hx]; show _ = nI (if x < 0 then 0 else B.2.2 x); rw [if_neg (Nat.not_lt_zero _)]
        · have hlt : c < B.1 := by rw [hc.1, nI_leI (by omega) (by omega)] at c12; omega
          have h8 := hs.2 c hlt
          have hok := hB2 c hlt
          refine S_iconst (q := 16) (v := 0) hX dX2_dropUnused_15 ic_0 rfl ?_
          refine S_istore_n (q := 17) [_, _, _, _, _, _] hX dX2_dropUnused_16 rfl (Nat.le_of_ble_eq_true rfl) rfl rfl ?_
          refine S_iconst (q := 18) (v := 0) hX dX2_dropUnused_17 ic_0 rfl ?_
          refine S_istore (q := 20) [_, _, _, _, _, _] hX dX2_dropUnused_18 rfl (Nat.le_of_ble_eq_true rfl) rfl rfl ?_
          refine l20 hlt h8 hok ((B.2.1 c).1 + 1) 0 _ μ _ _ rfl (Nat.zero_le _) (by omega) ?_ hM hF
          have e2 : fu (ycs B.2.2 B.2.1 c) c ((B.2.1 c).1, (yrI B.2.2 (B.2.1 c).2 0).2) = ycs B.2.2 B.2.1 c := by
            funext k
            by_cases hk : k = c
            · rw [hk, fu_eq]; unfold ycs; rw [if_neg (Nat.lt_irrefl _)]; rfl
            · rw [fu_ne hk]
          rw [e2]
          exact hc
  refine S_aload_n (q := 1) hX dX2_dropUnused_0 rfl rfl ?_
  refine S_callV (ci := 2) (C := "FanTalk$Codes") (T := TX2) (N := 5) (q := 4) 0 0 hX (c_X2_allEntries q f B) rfl ?hs_18 rfl u_624 u_625 u_626 u_3 u_627 ⟨by decide, by decide, rfl⟩ ⟨Nat.le_of_ble_eq_true rfl, Nat.le_of_ble_eq_true rfl⟩ ⟨Nat.le_of_ble_eq_true rfl, Nat.le_of_ble_eq_true rfl⟩ (Nat.le_of_ble_eq_true rfl) dX2_dropUnused_1 ?hp_18 rfl rfl rfl ?_
  case hs_18 => first | with_reducible assumption | exact ⟨_, CK.c0 hM⟩
  case hp_18 => exact ⟨hM, hB, hs⟩
  rintro v σ1 sz1 ⟨rfl, rfl, rfl⟩
  refine S_istore_n (q := 5) [_, _, _, _, _, _] hX dX2_dropUnused_4 rfl (Nat.le_of_ble_eq_true rfl) rfl rfl ?_
  refine S_iconst (q := 6) (v := 0) hX dX2_dropUnused_5 ic_0 rfl ?_
  refine S_istore_n (q := 7) [_, _, _, _, _, _] hX dX2_dropUnused_6 rfl (Nat.le_of_ble_eq_true rfl) rfl rfl ?_
  exact l7 (B.1 + 1) 0 _ f _ _ _ _ rfl (Nat.zero_le _) (by omega) (by rw [ycs_0]; exact hB) hM hF
theorem c_X2_digestOn (q : Nat) (f : MF) (h : Int64) (B : BkT) : CT_X2_digestOn [.ref q, .long h] (fun Γ σ sz => CK σ q f ∧ CoR f B ∧ BkS B) (fun Γ σ sz v σ' sz' => v = some (.long (dgF (fun k => (nI (B.2.2 k)).toInt64) 10 (dgC B.2.1 B.1 h))) ∧ σ' = σ ∧ sz' = sz) := by
  refine CT.mkP rfl (Nat.le_of_ble_eq_true rfl) [_, _, _, _, _, _, _] rfl ?_
  intro X Γ σ sz P hX hpre hsz hP
  obtain ⟨hM, hB, hs⟩ := hpre
  obtain ⟨σ0, eσ0⟩ : ∃ z, z = σ := ⟨σ, rfl⟩
  rw [← eσ0] at hP
  have hF : Fr q (q + 5) σ0 σ := by rw [eσ0]; exact Fr.rf
  have s1 := hs.1
  have l101 : ∀ (fl k : Nat) (x : Int64) (x6 : Option Value), k ≤ 10 → 10 - k < fl → x = dgF (fun k => (nI (B.2.2 k)).toInt64) k (dgC B.2.1 B.1 h) → G X Γ P 0 0 101 [some (.ref q), some (.long h), none, some (.long x), none, some (.int (nI k)), x6] [] σ sz := by
    intro fl
    induction fl with
      | zero => intro k x x6 h1 h2; omega
      | succ fl ih =>
        rintro k x x6 hk hfu ex
        refine S_iload (q := 103) hX dX2_digestOn_101 rfl rfl ?_
        refine S_bipush (q := 105) (v := 10) hX dX2_digestOn_103 bp_10 rfl ?_
        refine S_icmp_ge (q := 108) 129 hX dX2_digestOn_105 rfl rfl (fun c105 => ?_) (fun c105 => ?_)
        · have hge : k = 10 := by rw [i10, nI_leI (by omega) (by omega)] at c105; omega
          refine S_lload_n (q := 130) hX dX2_digestOn_129 rfl rfl ?_
          refine S_lret hX dX2_digestOn_130 (Nat.zero_le _) (Nat.zero_le _) ?_
          refine hP _ _ _ ?_
          rw [ex, hge]
          exact ⟨rfl, eσ0.symm, rfl⟩
        · have hlt : k < 10 := by rw [i10, nI_leI (by omega) (by omega)] at c105; omega
          refine S_ldc2 (q := 111) hX u_775 dX2_digestOn_108 rfl ?_
          refine S_lload_n (q := 112) hX dX2_digestOn_111 rfl rfl ?_
          refine S_lmul (q := 113) hX dX2_digestOn_112 rfl ?_
          refine S_aload_n (q := 114) hX dX2_digestOn_113 rfl rfl ?_
          refine S_getf (fs := ?fs_1) (v := ?v_1) (q := 117) hX u_53 fo_X2_uses dX2_digestOn_114 ?hs_1 ?hv_1 rfl ?_
          case hs_1 => with_reducible first | exact CK.c0 hM | exact CK.c1 hM | exact CK.c2 hM | exact CK.c3 hM | exact CK.c4 hM
          case hv_1 => rfl
          refine S_iload (q := 119) hX dX2_digestOn_117 rfl rfl ?_
          refine S_iald (N := ?n_2) (f := ?f_2) (q := 120) hX dX2_digestOn_119 ?hs_2 ?hi_2 rfl ?_
          case hs_2 => with_reducible first | exact CK.c0 hM | exact CK.c1 hM | exact CK.c2 hM | exact CK.c3 hM | exact CK.c4 hM
          case hi_2 => exact vp_in_nI (by omega) (by decide)
          refine S_i2l (q := 121) hX dX2_digestOn_120 rfl ?_
          refine S_ladd (q := 122) hX dX2_digestOn_121 rfl ?_
          refine S_lstore_n (q := 123) [_, _, _, _, _, _, _] hX dX2_digestOn_122 rfl (Nat.le_of_ble_eq_true rfl) rfl rfl ?_
          refine S_iinc (q := 126) [_, _, _, _, _, _, _] hX dX2_digestOn_123 rfl (ii_1 _) rfl (Nat.le_of_ble_eq_true rfl) rfl rfl ?_
          refine S_goto 101 hX dX2_digestOn_126 rfl ?_
          rw [nI_1]
          exact ih (k + 1) _ _ hlt (by omega) (by rw [nI_clamp (by omega), hB.2.2 k hlt, ex]; rfl)
  have l5 : ∀ (fo c : Nat) (x : Int64) (x6 : Option Value), c ≤ B.1 → B.1 - c < fo → x = dgC B.2.1 c h → G X Γ P 0 0 5 [some (.ref q), some (.long h), none, some (.long x), none, some (.int (nI c)), x6] [] σ sz := by
    intro fo
    induction fo with
      | zero => intro c x x6 h1 h2; omega
      | succ fo iho =>
        rintro c x x6 hcn hfo ex
        have l32 : c < B.1 → (B.2.1 c).1 ≤ 8 → CCode f c (B.2.1 c) → f 1 (nI c).toNatClampNeg = nI (B.2.1 c).1 → ∀ (fl i : Nat) (x : Int64), i ≤ (B.2.1 c).1 → (B.2.1 c).1 - i < fl → x = dgF (fun k => (nI (if k % 2 = 0 then ((B.2.1 c).2 (k / 2)).1 else ((B.2.1 c).2 (k / 2)).2)).toInt64) (2 * i) (31 * dgC B.2.1 c h + (nI (B.2.1 c).1).toInt64) → G X Γ P 0 0 32 [some (.ref q), some (.long h), none, some (.long x), none, some (.int (nI c)), some (.int (nI i))] [] σ sz := by
          intro hlt h8 hcc hl1 fl
          induction fl with
            | zero => intro i x h1 h2; omega
            | succ fl ih =>
              rintro i x hi hfu ex
              refine S_iload (q := 34) hX dX2_digestOn_32 rfl rfl ?_
              refine S_aload_n (q := 35) hX dX2_digestOn_34 rfl rfl ?_
              refine S_getf (fs := ?fs_3) (v := ?v_3) (q := 38) hX u_43 fo_X2_entries dX2_digestOn_35 ?hs_3 ?hv_3 rfl ?_
              case hs_3 => with_reducible first | exact CK.c0 hM | exact CK.c1 hM | exact CK.c2 hM | exact CK.c3 hM | exact CK.c4 hM
              case hv_3 => rfl
              refine S_iload (q := 40) hX dX2_digestOn_38 rfl rfl ?_
              refine S_iald (N := ?n_4) (f := ?f_4) (q := 41) hX dX2_digestOn_40 ?hs_4 ?hi_4 rfl ?_
              case hs_4 => with_reducible first | exact CK.c0 hM | exact CK.c1 hM | exact CK.c2 hM | exact CK.c3 hM | exact CK.c4 hM
              case hi_4 => exact vp_in_nI (by omega) (by decide)
              refine S_icmp_ge (q := 44) 92 hX dX2_digestOn_41 rfl rfl (fun c41 => ?_) (fun c41 => ?_)
              · have hil : i = (B.2.1 c).1 := by rw [hl1, nI_leI (by omega) (by omega)] at c41; omega
                refine S_iinc (q := 95) [_, _, _, _, _, _, _] hX dX2_digestOn_92 rfl (ii_1 _) rfl (Nat.le_of_ble_eq_true rfl) rfl rfl ?_
                refine S_goto 5 hX dX2_digestOn_95 rfl ?_
                rw [nI_1]
                exact iho (c + 1) _ _ hlt (by omega) (by rw [ex, hil]; rfl)
              · have hil : i < (B.2.1 c).1 := by rw [hl1, nI_leI (by omega) (by omega)] at c41; omega
                have hix : nI c * 8 + nI i = nI (8 * c + i) := by rw [i8, pk_mul, nI_add, Nat.mul_comm]
                have hce := hcc.2 i hil
                refine S_ldc2 (q := 47) hX u_775 dX2_digestOn_44 rfl ?_
                refine S_lload_n (q := 48) hX dX2_digestOn_47 rfl rfl ?_
                refine S_lmul (q := 49) hX dX2_digestOn_48 rfl ?_
                refine S_aload_n (q := 50) hX dX2_digestOn_49 rfl rfl ?_
                refine S_getf (fs := ?fs_5) (v := ?v_5) (q := 53) hX u_47 fo_X2_rows dX2_digestOn_50 ?hs_5 ?hv_5 rfl ?_
                case hs_5 => with_reducible first | exact CK.c0 hM | exact CK.c1 hM | exact CK.c2 hM | exact CK.c3 hM | exact CK.c4 hM
                case hv_5 => rfl
                refine S_iload (q := 55) hX dX2_digestOn_53 rfl rfl ?_
                refine S_bipush (q := 57) (v := 8) hX dX2_digestOn_55 bp_8 rfl ?_
                refine S_imul (q := 58) hX dX2_digestOn_57 rfl ?_
                refine S_iload (q := 60) hX dX2_digestOn_58 rfl rfl ?_
                refine S_iadd (q := 61) hX dX2_digestOn_60 rfl ?_
                refine S_iald (N := ?n_6) (f := ?f_6) (q := 62) hX dX2_digestOn_61 ?hs_6 ?hi_6 rfl ?_
                case hs_6 => with_reducible first | exact CK.c0 hM | exact CK.c1 hM | exact CK.c2 hM | exact CK.c3 hM | exact CK.c4 hM
                case hi_6 => rw [hix]; exact vp_in_nI (by omega) (by decide)
                refine S_i2l (q := 63) hX dX2_digestOn_62 rfl ?_
                refine S_ladd (q := 64) hX dX2_digestOn_63 rfl ?_
                refine S_lstore_n (q := 65) [_, _, _, _, _, _, _] hX dX2_digestOn_64 rfl (Nat.le_of_ble_eq_true rfl) rfl rfl ?_
                refine S_ldc2 (q := 68) hX u_775 dX2_digestOn_65 rfl ?_
                refine S_lload_n (q := 69) hX dX2_digestOn_68 rfl rfl ?_
                refine S_lmul (q := 70) hX dX2_digestOn_69 rfl ?_
                refine S_aload_n (q := 71) hX dX2_digestOn_70 rfl rfl ?_
                refine S_getf (fs := ?fs_7) (v := ?v_7) (q := 74) hX u_50 fo_X2_words dX2_digestOn_71 ?hs_7 ?hv_7 rfl ?_
                case hs_7 => with_reducible first | exact CK.c0 hM | exact CK.c1 hM | exact CK.c2 hM | exact CK.c3 hM | exact CK.c4 hM
                case hv_7 => rfl
                refine S_iload (q := 76) hX dX2_digestOn_74 rfl rfl ?_
                refine S_bipush (q := 78) (v := 8) hX dX2_digestOn_76 bp_8 rfl ?_
                refine S_imul (q := 79) hX dX2_digestOn_78 rfl ?_
                refine S_iload (q := 81) hX dX2_digestOn_79 rfl rfl ?_
                refine S_iadd (q := 82) hX dX2_digestOn_81 rfl ?_
                refine S_iald (N := ?n_8) (f := ?f_8) (q := 83) hX dX2_digestOn_82 ?hs_8 ?hi_8 rfl ?_
                case hs_8 => with_reducible first | exact CK.c0 hM | exact CK.c1 hM | exact CK.c2 hM | exact CK.c3 hM | exact CK.c4 hM
                case hi_8 => rw [hix]; exact vp_in_nI (by omega) (by decide)
                refine S_i2l (q := 84) hX dX2_digestOn_83 rfl ?_
                refine S_ladd (q := 85) hX dX2_digestOn_84 rfl ?_
                refine S_lstore_n (q := 86) [_, _, _, _, _, _, _] hX dX2_digestOn_85 rfl (Nat.le_of_ble_eq_true rfl) rfl rfl ?_
                refine S_iinc (q := 89) [_, _, _, _, _, _, _] hX dX2_digestOn_86 rfl (ii_1 _) rfl (Nat.le_of_ble_eq_true rfl) rfl rfl ?_
                refine S_goto 32 hX dX2_digestOn_89 rfl ?_
                rw [nI_1]
                refine ih (i + 1) _ hil (by omega) ?_
                rw [hix, nI_clamp (by omega), hce.1, hce.2, ex, show 2 * (i + 1) = 2 * i + 1 + 1 by omega]
                show _ = 31 * (31 * dgF _ (2 * i) _ + (nI (if (2 * i) % 2 = 0 then _ else _)).toInt64) + (nI (if (2 * i + 1) % 2 = 0 then _ else _)).toInt64
                rw [if_pos (by omega), if_neg (by omega), show 2 * i / 2 = i by omega, show (2 * i + 1) / 2 = i by omega]
        refine S_iload (q := 7) hX dX2_digestOn_5 rfl rfl ?_
        refine S_aload_n (q := 8) hX dX2_digestOn_7 rfl rfl ?_
        refine S_getf (fs := ?fs_9) (v := ?v_9) (q := 11) hX u_40 fo_X2_codes dX2_digestOn_8 ?hs_9 ?hv_9 rfl ?_
        case hs_9 => with_reducible first | exact CK.c0 hM | exact CK.c1 hM | exact CK.c2 hM | exact CK.c3 hM | exact CK.c4 hM
        case hv_9 => rfl
        refine S_icmp_ge (q := 14) 98 hX dX2_digestOn_11 rfl rfl (fun c11 => ?_) (fun c11 => ?_)
        · have hge : c = B.1 := by rw [hB.1, nI_leI (by omega) (by omega)] at c11; omega
          refine S_iconst (q := 99) (v := 0) hX dX2_digestOn_98 ic_0 rfl ?_
          refine S_istore (q := 101) [_, _, _, _, _, _, _] hX dX2_digestOn_99 rfl (Nat.le_of_ble_eq_true rfl) rfl rfl ?_
          exact l101 11 0 _ _ (by decide) (by decide) (by rw [ex, hge]; rfl)
        · have hlt : c < B.1 := by rw [hB.1, nI_leI (by omega) (by omega)] at c11; omega
          have h8 := hs.2 c hlt
          have hcc := hB.2.1 c hlt
          have hl1 : f 1 (nI c).toNatClampNeg = nI (B.2.1 c).1 := by rw [nI_clamp (by omega)]; exact hcc.1
          refine S_ldc2 (q := 17) hX u_775 dX2_digestOn_14 rfl ?_
          refine S_lload_n (q := 18) hX dX2_digestOn_17 rfl rfl ?_
          refine S_lmul (q := 19) hX dX2_digestOn_18 rfl ?_
          refine S_aload_n (q := 20) hX dX2_digestOn_19 rfl rfl ?_
          refine S_getf (fs := ?fs_10) (v := ?v_10) (q := 23) hX u_43 fo_X2_entries dX2_digestOn_20 ?hs_10 ?hv_10 rfl ?_
          case hs_10 => with_reducible first | exact CK.c0 hM | exact CK.c1 hM | exact CK.c2 hM | exact CK.c3 hM | exact CK.c4 hM
          case hv_10 => rfl
          refine S_iload (q := 25) hX dX2_digestOn_23 rfl rfl ?_
          refine S_iald (N := ?n_11) (f := ?f_11) (q := 26) hX dX2_digestOn_25 ?hs_11 ?hi_11 rfl ?_
          case hs_11 => with_reducible first | exact CK.c0 hM | exact CK.c1 hM | exact CK.c2 hM | exact CK.c3 hM | exact CK.c4 hM
          case hi_11 => exact vp_in_nI (by omega) (by decide)
          refine S_i2l (q := 27) hX dX2_digestOn_26 rfl ?_
          refine S_ladd (q := 28) hX dX2_digestOn_27 rfl ?_
          refine S_lstore_n (q := 29) [_, _, _, _, _, _, _] hX dX2_digestOn_28 rfl (Nat.le_of_ble_eq_true rfl) rfl rfl ?_
          refine S_iconst (q := 30) (v := 0) hX dX2_digestOn_29 ic_0 rfl ?_
          refine S_istore (q := 32) [_, _, _, _, _, _, _] hX dX2_digestOn_30 rfl (Nat.le_of_ble_eq_true rfl) rfl rfl ?_
          exact l32 hlt h8 hcc hl1 ((B.2.1 c).1 + 1) 0 _ (Nat.zero_le _) (by omega) (by rw [hl1, ex]; rfl)
  refine S_lload_n (q := 1) hX dX2_digestOn_0 rfl rfl ?_
  refine S_lstore_n (q := 2) [_, _, _, _, _, _, _] hX dX2_digestOn_1 rfl (Nat.le_of_ble_eq_true rfl) rfl rfl ?_
  refine S_iconst (q := 3) (v := 0) hX dX2_digestOn_2 ic_0 rfl ?_
  refine S_istore (q := 5) [_, _, _, _, _, _, _] hX dX2_digestOn_3 rfl (Nat.le_of_ble_eq_true rfl) rfl rfl ?_
  exact l5 (B.1 + 1) 0 _ _ (Nat.zero_le _) (by omega) rfl
