/-! the reference: say, know, utter, undo -/
theorem BkOk.mono {n : Nat} {B : BkT} (h : BkOk n B) : BkOk n B := h
theorem psh_le {p : Nat × (Nat → BkT)} {b : BkT} (h : p.1 ≤ 6) : (psh p b).1 ≤ 6 := by
  unfold psh
  by_cases h6 : p.1 = 6
  · rw [if_pos h6]; exact Nat.le_refl 6
  · rw [if_neg h6]; show p.1 + 1 ≤ 6; omega
theorem psh_ok {n : Nat} {p : Nat × (Nat → BkT)} {b : BkT} (h : ∀ k, k < p.1 → BkOk n (p.2 k)) (hb : BkOk n b) : ∀ k, k < (psh p b).1 → BkOk n ((psh p b).2 k) := by
  unfold psh
  by_cases h6 : p.1 = 6
  · rw [if_pos h6]
    intro k hk
    have hk : k < 6 := hk
    show BkOk n (if k < 5 then p.2 (k + 1) else b)
    by_cases h5 : k < 5
    · rw [if_pos h5]; exact h (k + 1) (by omega)
    · rw [if_neg h5]; exact hb
  · rw [if_neg h6]
    intro k hk
    have hk : k < p.1 + 1 := hk
    show BkOk n (fu p.2 p.1 b k)
    by_cases hkp : k = p.1
    · rw [hkp, fu_eq]; exact hb
    · rw [fu_ne hkp]; exact h k (by omega)
/-- the state once what was is put by -/
def kS (S : ST) : ST := stC S (S.1.1, psh S.1.2.1 S.1.1, S.1.2.2)
theorem kS_ok {S : ST} (ok : StOk S) : StOk (kS S) := by
  obtain ⟨⟨o1, o2, o3, o4, o5, o6, o7, o8, o9, o10⟩, p2, p3, p4⟩ := ok
  exact ⟨⟨o1, o2, psh_le o3, psh_ok o4 o2, o5, o6, o7, o8, o9, o10⟩, p2, p3, p4⟩
theorem us1_le {u : Nat → Nat} {w : Nat} (h : ∀ x, x < 10 → u x ≤ 999) : ∀ x, x < 10 → us1 u w x ≤ 999 := by
  intro x hx
  unfold us1
  by_cases hxw : x = w
  · rw [hxw, fu_eq]
    have := h x hx
    rw [hxw] at this
    split <;> omega
  · rw [fu_ne hxw]; exact h x hx
theorem usL_le {u : Nat → Nat} : ∀ (L : List Nat) (u : Nat → Nat), (∀ x, x < 10 → u x ≤ 999) → ∀ x, x < 10 → usL u L x ≤ 999 := by
  intro L
  induction L with
  | nil => intro u h; exact h
  | cons a L ih => intro u h; exact ih (us1 u a) (us1_le h)
theorem usL_take (u : Nat → Nat) {L : List Nat} {k : Nat} (h : k < L.length) : usL u (L.take (k + 1)) = us1 (usL u (L.take k)) (L.getD k 0) := by
  rw [List.take_succ_eq_append_getElem h, List.getD_eq_getElem?_getD, List.getElem?_eq_getElem h, Option.getD_some]
  unfold usL
  rw [List.foldl_append]
  rfl
theorem MDd.uses {f g : Nat → Int32} {o w x : Nat} {B : BkT} (h : MDd f o B) (hn : B.1 ≤ 3) (h8 : ∀ k, k < B.1 → (B.2.1 k).1 ≤ 8) (hw : w < 10) (e : ∀ i, o ≤ i → i < o + 61 → i ≠ o + w → g i = f i) (hx : g (o + w) = nI x) : MDd g o (B.1, B.2.1, fu B.2.2 w x) := by
  refine ⟨fun y hy => ?_, fun c hc => ?_⟩
  · show g (o + y) = nI (fu B.2.2 w x y)
    by_cases hyw : y = w
    · rw [hyw, fu_eq]; exact hx
    · rw [fu_ne hyw]; exact (e _ (by omega) (by omega) (by omega)).trans (h.1 y hy)
  · have h9 := h8 c hc
    have hc3 : c < 3 := by have : c < B.1 := hc; omega
    exact ⟨(e _ (by omega) (by omega) (by omega)).trans (h.2 c hc).1, fun j hj => ⟨(e _ (by omega) (by have : j < (B.2.1 c).1 := hj; omega) (by omega)).trans ((h.2 c hc).2 j hj).1, (e _ (by omega) (by have : j < (B.2.1 c).1 := hj; omega) (by omega)).trans ((h.2 c hc).2 j hj).2⟩⟩
theorem MDd.at {f g : Nat → Int32} {o p : Nat} {B : BkT} (h : MDd f o B) (hn : B.1 ≤ 3) (h8 : ∀ k, k < B.1 → (B.2.1 k).1 ≤ 8) (e : ∀ i, i < 61 → g (p + i) = f (o + i)) : MDd g p B :=
  ⟨fun w hw => (e w (by omega)).trans (h.1 w hw), fun c hc => ⟨(e _ (by omega)).trans (h.2 c hc).1, fun j hj => ⟨(e _ (by have := h8 c hc; omega)).trans ((h.2 c hc).2 j hj).1, (e _ (by have := h8 c hc; omega)).trans ((h.2 c hc).2 j hj).2⟩⟩⟩

theorem c_X12_say (m : Nat) (μ : MF) (S : ST) (x : Int32) : CT_X12_say [.ref m, .int x] (fun Γ σ sz => MM σ m μ ∧ MR μ S ∧ StOk S) (fun Γ σ sz v σ' sz' => ∃ μ', MM σ' m μ' ∧ Fr m (m + 9) σ σ' ∧ v = some (.int (sp_say S x).1) ∧ MR μ' (sp_say S x).2 ∧ sz' = sz) := by
  refine CT.mkP rfl (Nat.le_of_ble_eq_true rfl) [_, _, _, _, _] rfl ?_
  intro X Γ σ sz P hX hpre hsz hP
  obtain ⟨hM, hR, ok⟩ := hpre
  have hF : Fr m (m + 9) σ σ := Fr.rf
  have h0 := hR.1
  have hC0 := hR.2.1.1
  obtain ⟨q0, q1, q2, q3, q4, q5, q6, q7, q8, q9⟩ := id hR.2.1
  obtain ⟨o1, o2, o3, o4, o5, o6, o7, o8, o9, o10⟩ := id ok.1
  have loop : ∀ (fu : Nat) (kk : Nat) (xi xk : Int32), x = nI (tN x) → tN x < 2147483648 → ln (tN x) = lnZ x.toInt → ¬ lnZ x.toInt = 0 → xi = bi (∀ j, j < kk → lwS (stN (tN x) (ln (tN x)) j) (stN (tN x) (ln (tN x)) (j + 1))) → xk = nI (kk + 1) → kk + 1 ≤ ln (tN x) → ln (tN x) - kk < fu → G X Γ P 0 0 20 [some (.ref m), some (.int x), some (.int (nI (ln (tN x)))), some (.int xi), some (.int xk)] [] σ sz := by
    intro fu
    induction fu with
    | zero =>
      rintro kk _ _ cx1 cx2 cx3 hz rfl rfl hk hfu
      exact absurd hfu (Nat.not_lt_zero _)
    | succ fu ih =>
      rintro kk _ _ cx1 cx2 cx3 hz rfl rfl hk hfu
      have hl6 := ln_6 (tN x)
      refine S_iload (q := 22) hX dX12_say_20 rfl rfl ?_
      refine S_iload_n (q := 23) hX dX12_say_22 rfl rfl ?_
      refine S_icmp_ge (q := 26) 64 hX dX12_say_23 rfl rfl (fun c23 => ?_) (fun c23 => ?_)
      · have hge : ¬ kk + 1 < ln (tN x) := by rw [nI_leI (by omega) (by omega)] at c23; omega
        refine S_iload_n (q := 65) hX dX12_say_64 rfl rfl ?_
        refine S_if_ne_b (q := 68) 73 hX dX12_say_65 rfl rfl (fun c65 => ?_) (fun c65 => ?_)
        · refine S_aload_n (q := 74) hX dX12_say_73 rfl rfl ?_
          refine S_iconst (q := 75) (v := 2) hX dX12_say_74 ic_2 rfl ?_
          refine S_iload_n (q := 76) hX dX12_say_75 rfl rfl ?_
          refine S_callV (ci := 12) (C := "FanTalkModel") (T := TX12) (N := 17) (q := 79) 0 0 hX (c_X12_set _ μ _ _ 0 (2) (by first | rfl | (simp only [i0, i1, i2, i3, i4, i5, i6, i7, i8, i9, i10, i11, i12, i17, i20, i24, i26, i27, i31, i32, i36, i48, i57, i59, i60, i61, i63, i64, i87, i96, i97, i99, i122, i148, i250, i255, i305, i453, i999, i1359, i1812, pk_mul, nI_add]; done) | (simp only [i0, i1, i2, i3, i4, i5, i6, i7, i8, i9, i10, i11, i12, i17, i20, i24, i26, i27, i31, i32, i36, i48, i57, i59, i60, i61, i63, i64, i87, i96, i97, i99, i122, i148, i250, i255, i305, i453, i999, i1359, i1812, pk_mul, nI_add]; congr 1; omega))) rfl ?hs_1 rfl u_846 u_848 us_28 u_12 u_849 ⟨by decide, by decide, rfl⟩ ⟨Nat.le_of_ble_eq_true rfl, Nat.le_of_ble_eq_true rfl⟩ ⟨Nat.le_of_ble_eq_true rfl, Nat.le_of_ble_eq_true rfl⟩ (Nat.le_of_ble_eq_true rfl) dX12_say_76 ?hp_1 rfl rfl rfl ?_
          case hs_1 => first | with_reducible assumption | exact ⟨_, by with_reducible assumption⟩ | exact MM.isO hM
          case hp_1 => exact ⟨hM, h0, by omega⟩
          rintro v σ sz1 ⟨μ1, hM, hF1, rfl, e1, rfl⟩
          have hF := hF.trans hF1
          have h0 : μ1 0 0 = nI 0 := by rw [e1, m2_o (by decide)]; exact h0
          refine S_iload_n (q := 80) hX dX12_say_79 rfl rfl ?_
          refine S_iret hX dX12_say_80 (Nat.zero_le _) (Nat.zero_le _) ?_
          refine hP _ _ _ ?_
          have hkk : kk = ln (tN x) - 1 := by omega
          have hsp : sp_say S x = (nI (ln (tN x)), stC S (S.1.1, S.1.2.1, S.1.2.2.1, tN x, S.1.2.2.2.2)) := by unfold sp_say; rw [if_neg hz, if_neg (fun q => q (fun j hj => c65 j (by omega)))]
          rw [hsp]
          refine ⟨_, hM, hF, rfl, hR.now ok (fun j hj => by rw [e1, m2_o hj]) (fun i h1 h2 => by rw [e1, m2_n (by omega)]) ?_, rfl⟩
          have g : ∀ i, i ≠ 0 + 2 → μ1 1 i = μ 1 i := fun i h1 => by rw [e1, m2_n h1]
          exact hR.2.1.up ok.1 ((g _ (by omega)).trans q0) ((g _ (by omega)).trans q1) (by rw [e1, m2_y]; exact cx1) ((g _ (by omega)).trans q3) ((g _ (by omega)).trans q4) ((g _ (by omega)).trans q5) (Or.inl ⟨rfl, fun i h1 h2 => g _ (by omega)⟩) (Or.inl ⟨rfl, fun i h1 h2 => g _ (by omega)⟩) (Or.inl ⟨rfl, fun i h1 h2 => g _ (by omega)⟩) (Or.inl ⟨rfl, fun i h1 h2 => g _ (by omega)⟩)
        · refine S_aload_n (q := 69) hX dX12_say_68 rfl rfl ?_
          refine S_callV (ci := 12) (C := "FanTalkModel") (T := TX12) (N := 17) (q := 72) 0 0 hX (c_X12_no _ μ) rfl ?hs_2 rfl u_880 u_882 us_34 u_12 u_883 ⟨by decide, by decide, rfl⟩ ⟨Nat.le_of_ble_eq_true rfl, Nat.le_of_ble_eq_true rfl⟩ ⟨Nat.le_of_ble_eq_true rfl, Nat.le_of_ble_eq_true rfl⟩ (Nat.le_of_ble_eq_true rfl) dX12_say_69 ?hp_2 rfl rfl rfl ?_
          case hs_2 => first | with_reducible assumption | exact ⟨_, by with_reducible assumption⟩ | exact MM.isO hM
          case hp_2 => exact hM
          rintro v σ sz1 ⟨μ9, hM, hF1, rfl, e9, rfl⟩
          have hF := hF.trans hF1
          refine S_iret hX dX12_say_72 (Nat.zero_le _) (Nat.zero_le _) ?_
          refine hP _ _ _ ?_
          have hsp : sp_say S x = (-3, rfS S 1) := by unfold sp_say; rw [if_neg hz, if_pos (fun q => c65 (fun j hj => q j (by omega)))]
          rw [hsp]
          exact ⟨_, hM, hF, rfl, hR.rf (by decide) e9, rfl⟩
      · have hlt : kk + 1 < ln (tN x) := by rw [nI_leI (by omega) (by omega)] at c23; omega
        refine S_iload_n (q := 27) hX dX12_say_26 rfl rfl ?_
        refine S_if_eq_b (q := 30) 56 hX dX12_say_27 rfl rfl (fun c27 => ?_) (fun c27 => ?_)
        · refine S_iconst (q := 57) (v := 0) hX dX12_say_56 ic_0 rfl ?_
          refine S_istore_n (q := 58) [_, _, _, _, _] hX dX12_say_57 rfl (Nat.le_of_ble_eq_true rfl) rfl rfl ?_
          refine S_iinc (q := 61) [_, _, _, _, _] hX dX12_say_58 rfl (ii_1 _) rfl (Nat.le_of_ble_eq_true rfl) rfl rfl ?_
          refine S_goto 20 hX dX12_say_61 rfl ?_
          exact ih (kk + 1) _ _ cx1 cx2 cx3 hz (bi_f (fun z => c27 (fun j hj => z j (by omega)))).symm (nI_1 _) (by omega) (by omega)
        · refine S_iload_n (q := 31) hX dX12_say_30 rfl rfl ?_
          refine S_iload_n (q := 32) hX dX12_say_31 rfl rfl ?_
          refine S_iload (q := 34) hX dX12_say_32 rfl rfl ?_
          refine S_iconst (q := 35) (v := 1) hX dX12_say_34 ic_1 rfl ?_
          refine S_isub (q := 36) hX dX12_say_35 rfl ?_
          refine S_callS (q := 39) 0 0 hX (c_X12_stateOf _ _ _ (tN x) (ln (tN x)) kk cx1 rfl (nI_pred kk)) rfl u_948 u_949 u_12 u_950 ⟨by decide, by decide, rfl⟩ ⟨Nat.le_of_ble_eq_true rfl, Nat.le_of_ble_eq_true rfl⟩ ⟨Nat.le_of_ble_eq_true rfl, Nat.le_of_ble_eq_true rfl⟩ (Nat.le_of_ble_eq_true rfl) dX12_say_36 ?hp_3 rfl rfl rfl ?_
          case hp_3 => exact ⟨by omega, by omega, cx2⟩
          rintro v σ1 sz1 ⟨rfl, rfl, rfl⟩
          refine S_iload_n (q := 40) hX dX12_say_39 rfl rfl ?_
          refine S_iload_n (q := 41) hX dX12_say_40 rfl rfl ?_
          refine S_iload (q := 43) hX dX12_say_41 rfl rfl ?_
          refine S_callS (q := 46) 0 0 hX (c_X12_stateOf _ _ _ (tN x) (ln (tN x)) (kk + 1) cx1 rfl rfl) rfl u_948 u_949 u_12 u_950 ⟨by decide, by decide, rfl⟩ ⟨Nat.le_of_ble_eq_true rfl, Nat.le_of_ble_eq_true rfl⟩ ⟨Nat.le_of_ble_eq_true rfl, Nat.le_of_ble_eq_true rfl⟩ (Nat.le_of_ble_eq_true rfl) dX12_say_43 ?hp_4 rfl rfl rfl ?_
          case hp_4 => exact ⟨by omega, by omega, cx2⟩
          rintro v σ1 sz1 ⟨rfl, rfl, rfl⟩
          refine S_callS (q := 49) 0 0 hX (c_X12_isLawful _ _ (stN (tN x) (ln (tN x)) kk) (stN (tN x) (ln (tN x)) (kk + 1)) rfl rfl) rfl u_951 u_952 u_12 u_953 ⟨by decide, by decide, rfl⟩ ⟨Nat.le_of_ble_eq_true rfl, Nat.le_of_ble_eq_true rfl⟩ ⟨Nat.le_of_ble_eq_true rfl, Nat.le_of_ble_eq_true rfl⟩ (Nat.le_of_ble_eq_true rfl) dX12_say_46 ?hp_5 rfl rfl rfl ?_
          case hp_5 => exact ⟨stN_lt _ _ _, stN_lt _ _ _⟩
          rintro v σ1 sz1 ⟨rfl, rfl, rfl⟩
          refine S_if_eq_b (q := 52) 56 hX dX12_say_49 rfl rfl (fun c49 => ?_) (fun c49 => ?_)
          · refine S_iconst (q := 57) (v := 0) hX dX12_say_56 ic_0 rfl ?_
            refine S_istore_n (q := 58) [_, _, _, _, _] hX dX12_say_57 rfl (Nat.le_of_ble_eq_true rfl) rfl rfl ?_
            refine S_iinc (q := 61) [_, _, _, _, _] hX dX12_say_58 rfl (ii_1 _) rfl (Nat.le_of_ble_eq_true rfl) rfl rfl ?_
            refine S_goto 20 hX dX12_say_61 rfl ?_
            exact ih (kk + 1) _ _ cx1 cx2 cx3 hz (bi_f (fun z => c49 (z kk (by omega)))).symm (nI_1 _) (by omega) (by omega)
          · refine S_iconst (q := 53) (v := 1) hX dX12_say_52 ic_1 rfl ?_
            refine S_goto 57 hX dX12_say_53 rfl ?_
            refine S_istore_n (q := 58) [_, _, _, _, _] hX dX12_say_57 rfl (Nat.le_of_ble_eq_true rfl) rfl rfl ?_
            refine S_iinc (q := 61) [_, _, _, _, _] hX dX12_say_58 rfl (ii_1 _) rfl (Nat.le_of_ble_eq_true rfl) rfl rfl ?_
            refine S_goto 20 hX dX12_say_61 rfl ?_
            refine ih (kk + 1) _ _ cx1 cx2 cx3 hz (bi_t (fun j hj => ?_)).symm (nI_1 _) (by omega) (by omega)
            rcases Nat.lt_succ_iff_lt_or_eq.mp hj with q | q
            · exact c27 j q
            · subst q; exact c49
  refine S_iload_n (q := 1) hX dX12_say_0 rfl rfl ?_
  refine S_callS (q := 4) 0 0 hX (c_X12_lengthOf _) rfl u_861 u_862 u_12 u_863 ⟨by decide, by decide, rfl⟩ ⟨Nat.le_of_ble_eq_true rfl, Nat.le_of_ble_eq_true rfl⟩ ⟨Nat.le_of_ble_eq_true rfl, Nat.le_of_ble_eq_true rfl⟩ (Nat.le_of_ble_eq_true rfl) dX12_say_1 ?hp_6 rfl rfl rfl ?_
  case hp_6 => trivial
  rintro v σ1 sz1 ⟨rfl, rfl, rfl⟩
  refine S_istore_n (q := 5) [_, _, _, _, _] hX dX12_say_4 rfl (Nat.le_of_ble_eq_true rfl) rfl rfl ?_
  refine S_iload_n (q := 6) hX dX12_say_5 rfl rfl ?_
  refine S_iconst (q := 7) (v := (-1)) hX dX12_say_6 ic_m1 rfl ?_
  refine S_icmp_ne (q := 10) 15 hX dX12_say_7 rfl rfl (fun c7 => ?_) (fun c7 => ?_)
  · have h6 := lnZ_6 x.toInt
    have hz : ¬ lnZ x.toInt = 0 := fun z => c7 (by rw [if_pos z])
    rw [if_neg hz]
    have cx := lnZ_row (x := x) (by omega)
    rw [← cx.2.2]
    refine S_iconst (q := 16) (v := 1) hX dX12_say_15 ic_1 rfl ?_
    refine S_istore_n (q := 17) [_, _, _, _, _] hX dX12_say_16 rfl (Nat.le_of_ble_eq_true rfl) rfl rfl ?_
    refine S_iconst (q := 18) (v := 1) hX dX12_say_17 ic_1 rfl ?_
    refine S_istore (q := 20) [_, _, _, _, _] hX dX12_say_18 rfl (Nat.le_of_ble_eq_true rfl) rfl rfl ?_
    refine loop (ln (tN x) + 1) 0 _ _ cx.1 cx.2.1 cx.2.2 hz (bi_t (fun j hj => absurd hj (Nat.not_lt_zero _))).symm rfl (by rw [cx.2.2]; omega) (by omega)
  · refine S_aload_n (q := 11) hX dX12_say_10 rfl rfl ?_
    refine S_callV (ci := 12) (C := "FanTalkModel") (T := TX12) (N := 17) (q := 14) 0 0 hX (c_X12_bad _ μ) rfl ?hs_7 rfl u_864 u_866 us_30 u_12 u_867 ⟨by decide, by decide, rfl⟩ ⟨Nat.le_of_ble_eq_true rfl, Nat.le_of_ble_eq_true rfl⟩ ⟨Nat.le_of_ble_eq_true rfl, Nat.le_of_ble_eq_true rfl⟩ (Nat.le_of_ble_eq_true rfl) dX12_say_11 ?hp_7 rfl rfl rfl ?_
    case hs_7 => first | with_reducible assumption | exact ⟨_, by with_reducible assumption⟩ | exact MM.isO hM
    case hp_7 => exact hM
    rintro v σ sz1 ⟨μ9, hM, hF1, rfl, e9, rfl⟩
    have hF := hF.trans hF1
    refine S_iret hX dX12_say_14 (Nat.zero_le _) (Nat.zero_le _) ?_
    refine hP _ _ _ ?_
    have hz : lnZ x.toInt = 0 := by
      have h6 := lnZ_6 x.toInt
      rcases Nat.eq_zero_or_pos (lnZ x.toInt) with q | q
      · exact q
      · exfalso
        rw [if_neg (by omega)] at c7
        have := eq_i.mp c7
        rw [nI_toInt (by omega), show ((-1 : Int32)).toInt = -1 by decide] at this
        omega
    have hsp : sp_say S x = (-2, rfS S 0) := by unfold sp_say; rw [if_pos hz]
    rw [hsp]
    exact ⟨_, hM, hF, rfl, hR.rf (by decide) e9, rfl⟩
theorem c_X12_know (m : Nat) (μ : MF) (S : ST) : CT_X12_know [.ref m] (fun Γ σ sz => MM σ m μ ∧ MR μ S ∧ StOk S) (fun Γ σ sz v σ' sz' => ∃ μ', MM σ' m μ' ∧ Fr m (m + 9) σ σ' ∧ v = none ∧ (MR μ' (kS S) ∧ ∀ j, j ≠ 1 → μ' j = μ j) ∧ sz' = sz) := by
  refine CT.mkP rfl (Nat.le_of_ble_eq_true rfl) [_, _] rfl ?_
  intro X Γ σ sz P hX hpre hsz hP
  obtain ⟨hM, hR, ok⟩ := hpre
  have hF : Fr m (m + 9) σ σ := Fr.rf
  have h0 := hR.1
  have hC0 := hR.2.1.1
  obtain ⟨q0, q1, q2, q3, q4, q5, q6, q7, q8, q9⟩ := id hR.2.1
  obtain ⟨o1, o2, o3, o4, o5, o6, o7, o8, o9, o10⟩ := id ok.1
  obtain ⟨σ0, eσ0⟩ : ∃ z, z = σ := ⟨σ, rfl⟩
  rw [← eσ0] at hP
  have hF : Fr m (m + 9) σ0 σ := by rw [eσ0]; exact Fr.rf
  obtain ⟨T, eT⟩ : ∃ z, z = psh S.1.2.1 S.1.1 := ⟨_, rfl⟩
  have loop2 : ∀ (fu : Nat) (k : Nat) (σ : Sg) (xk : Int32) (Kc : Nat) (μa μb : MF), Kc ≤ 5 → T.1 = Kc + 1 → T.2 Kc = S.1.1 → (∀ k, k < Kc → MDd (μa 1) (0 + (87 + 61 * k)) (T.2 k)) → (∀ i, i < 87 → i ≠ 5 → μa 1 i = μ 1 i) → (∀ i, 453 ≤ i → μa 1 i = μ 1 i) → (∀ j, j ≠ 1 → μa j = μ j) → μa 1 (0 + 5) = nI Kc → (∀ j, j ≠ 1 → μb j = μa j) → (∀ i, μb 1 i = if 87 + 61 * Kc ≤ i ∧ i < 87 + 61 * Kc + k then μa 1 (26 + (i - (87 + 61 * Kc))) else μa 1 i) → xk = nI k → k ≤ 61 → 61 - k < fu → MM σ m μb → Fr m (m + 9) σ0 σ → G X Γ P 0 0 50 [some (.ref m), some (.int xk)] [] σ sz := by
    intro fu
    induction fu with
    | zero =>
      rintro k σ _ Kc μa μb hKc hT1 hT2 hTd ha1 ha2 ha3 ha5 hb1 hb2 rfl hk hfu hM hF
      exact absurd hfu (Nat.not_lt_zero _)
    | succ fu ih =>
      rintro k σ _ Kc μa μb hKc hT1 hT2 hTd ha1 ha2 ha3 ha5 hb1 hb2 rfl hk hfu hM hF
      have h0 : μb 0 0 = nI 0 := by rw [hb1 0 (by decide), ha3 0 (by decide)]; exact h0
      have hb5 : μb 1 (0 + 5) = nI Kc := by rw [hb2, if_neg (by omega)]; exact ha5
      refine S_iload_n (q := 51) hX dX12_know_50 rfl rfl ?_
      refine S_bipush (q := 53) (v := 61) hX dX12_know_51 bp_61 rfl ?_
      refine S_icmp_ge (q := 56) 87 hX dX12_know_53 rfl rfl (fun c53 => ?_) (fun c53 => ?_)
      · have hge : k = 61 := by rw [show (61 : Int32) = nI 61 from rfl, nI_leI (by omega) (by omega)] at c53; omega
        subst hge
        refine S_aload_n (q := 88) hX dX12_know_87 rfl rfl ?_
        refine S_iconst (q := 89) (v := 5) hX dX12_know_88 ic_5 rfl ?_
        refine S_aload_n (q := 90) hX dX12_know_89 rfl rfl ?_
        refine S_iconst (q := 91) (v := 5) hX dX12_know_90 ic_5 rfl ?_
        refine S_callV (ci := 12) (C := "FanTalkModel") (T := TX12) (N := 17) (q := 94) 0 0 hX (c_X12_get _ μb _ 0 (5) (by first | rfl | (simp only [i0, i1, i2, i3, i4, i5, i6, i7, i8, i9, i10, i11, i12, i17, i20, i24, i26, i27, i31, i32, i36, i48, i57, i59, i60, i61, i63, i64, i87, i96, i97, i99, i122, i148, i250, i255, i305, i453, i999, i1359, i1812, pk_mul, nI_add]; done) | (simp only [i0, i1, i2, i3, i4, i5, i6, i7, i8, i9, i10, i11, i12, i17, i20, i24, i26, i27, i31, i32, i36, i48, i57, i59, i60, i61, i63, i64, i87, i96, i97, i99, i122, i148, i250, i255, i305, i453, i999, i1359, i1812, pk_mul, nI_add]; congr 1; omega))) rfl ?hs_1 rfl u_838 u_840 us_26 u_12 u_841 ⟨by decide, by decide, rfl⟩ ⟨Nat.le_of_ble_eq_true rfl, Nat.le_of_ble_eq_true rfl⟩ ⟨Nat.le_of_ble_eq_true rfl, Nat.le_of_ble_eq_true rfl⟩ (Nat.le_of_ble_eq_true rfl) dX12_know_91 ?hp_1 rfl rfl rfl ?_
        case hs_1 => first | with_reducible assumption | exact ⟨_, by with_reducible assumption⟩ | exact MM.isO hM
        case hp_1 => exact ⟨hM, h0, by omega⟩
        rintro v σ1 sz1 ⟨rfl, rfl, rfl⟩
        rw [hb5]
        refine S_iconst (q := 95) (v := 1) hX dX12_know_94 ic_1 rfl ?_
        refine S_iadd (q := 96) hX dX12_know_95 rfl ?_
        refine S_callV (ci := 12) (C := "FanTalkModel") (T := TX12) (N := 17) (q := 99) 0 0 hX (c_X12_set _ μb _ _ 0 (5) (by first | rfl | (simp only [i0, i1, i2, i3, i4, i5, i6, i7, i8, i9, i10, i11, i12, i17, i20, i24, i26, i27, i31, i32, i36, i48, i57, i59, i60, i61, i63, i64, i87, i96, i97, i99, i122, i148, i250, i255, i305, i453, i999, i1359, i1812, pk_mul, nI_add]; done) | (simp only [i0, i1, i2, i3, i4, i5, i6, i7, i8, i9, i10, i11, i12, i17, i20, i24, i26, i27, i31, i32, i36, i48, i57, i59, i60, i61, i63, i64, i87, i96, i97, i99, i122, i148, i250, i255, i305, i453, i999, i1359, i1812, pk_mul, nI_add]; congr 1; omega))) rfl ?hs_2 rfl u_846 u_848 us_28 u_12 u_849 ⟨by decide, by decide, rfl⟩ ⟨Nat.le_of_ble_eq_true rfl, Nat.le_of_ble_eq_true rfl⟩ ⟨Nat.le_of_ble_eq_true rfl, Nat.le_of_ble_eq_true rfl⟩ (Nat.le_of_ble_eq_true rfl) dX12_know_96 ?hp_2 rfl rfl rfl ?_
        case hs_2 => first | with_reducible assumption | exact ⟨_, by with_reducible assumption⟩ | exact MM.isO hM
        case hp_2 => exact ⟨hM, h0, by omega⟩
        rintro v σ sz1 ⟨μ3, hM, hF1, rfl, e3, rfl⟩
        have hF := hF.trans hF1
        have h0 : μ3 0 0 = nI 0 := by rw [e3, m2_o (by decide)]; exact h0
        refine S_vret hX dX12_know_99 (Nat.zero_le _) (Nat.zero_le _) ?_
        refine hP _ _ _ ?_
        refine ⟨_, hM, hF, rfl, ⟨?_, fun j hj => by rw [e3, m2_o hj, hb1 j hj, ha3 j hj]⟩, rfl⟩
        have hp5 : μ3 1 (0 + 5) = nI (Kc + 1) := by rw [e3, m2_y, i1, nI_add]
        have g : ∀ i, i < 87 → i ≠ 5 → μ3 1 i = μ 1 i := fun i h1 h2 => by rw [e3, m2_n (by omega), hb2, if_neg (by omega), ha1 i h1 h2]
        refine hR.now ok (fun j hj => by rw [e3, m2_o hj, hb1 j hj, ha3 j hj]) (fun i h1 h2 => by rw [e3, m2_n (by omega), hb2, if_neg (by omega), ha2 i h1]) ?_
        rw [← eT]
        refine hR.2.1.up ok.1 ((g _ (by omega) (by omega)).trans q0) ((g _ (by omega) (by omega)).trans q1) ((g _ (by omega) (by omega)).trans q2) ((g _ (by omega) (by omega)).trans q3) ((g _ (by omega) (by omega)).trans q4) (by rw [hp5]; show nI (Kc + 1) = nI T.1; rw [hT1]) (Or.inl ⟨rfl, fun i h1 h2 => g _ (by omega) (by omega)⟩) (Or.inl ⟨rfl, fun i h1 h2 => g _ (by omega) (by omega)⟩) (Or.inl ⟨rfl, fun i h1 h2 => g _ (by omega) (by omega)⟩) (Or.inr fun k hk => ?_)
        have hk : k < T.1 := hk
        show MDd (μ3 1) (0 + (87 + 61 * k)) (T.2 k)
        have hTo := psh_ok o4 o2 k (by rw [← eT]; exact hk)
        rw [← eT] at hTo
        have hle := hTo.le o1
        rw [hT1] at hk
        by_cases hkK : k = Kc
        · subst hkK
          rw [hT2]
          refine q8.at (o2.le o1).1 (o2.le o1).2 (fun i hi => ?_)
          rw [e3, m2_n (by omega), hb2, if_pos (by omega), ha1 _ (by omega) (by omega)]
          congr 1
          omega
        · refine (hTd k (by omega)).at hle.1 hle.2 (fun i hi => ?_)
          rw [e3, m2_n (by omega), hb2, if_neg (by omega)]
      · have hlt : k < 61 := by rw [show (61 : Int32) = nI 61 from rfl, nI_leI (by omega) (by omega)] at c53; omega
        refine S_aload_n (q := 57) hX dX12_know_56 rfl rfl ?_
        refine S_bipush (q := 59) (v := 87) hX dX12_know_57 bp_87 rfl ?_
        refine S_bipush (q := 61) (v := 61) hX dX12_know_59 bp_61 rfl ?_
        refine S_aload_n (q := 62) hX dX12_know_61 rfl rfl ?_
        refine S_iconst (q := 63) (v := 5) hX dX12_know_62 ic_5 rfl ?_
        refine S_callV (ci := 12) (C := "FanTalkModel") (T := TX12) (N := 17) (q := 66) 0 0 hX (c_X12_get _ μb _ 0 (5) (by first | rfl | (simp only [i0, i1, i2, i3, i4, i5, i6, i7, i8, i9, i10, i11, i12, i17, i20, i24, i26, i27, i31, i32, i36, i48, i57, i59, i60, i61, i63, i64, i87, i96, i97, i99, i122, i148, i250, i255, i305, i453, i999, i1359, i1812, pk_mul, nI_add]; done) | (simp only [i0, i1, i2, i3, i4, i5, i6, i7, i8, i9, i10, i11, i12, i17, i20, i24, i26, i27, i31, i32, i36, i48, i57, i59, i60, i61, i63, i64, i87, i96, i97, i99, i122, i148, i250, i255, i305, i453, i999, i1359, i1812, pk_mul, nI_add]; congr 1; omega))) rfl ?hs_3 rfl u_838 u_840 us_26 u_12 u_841 ⟨by decide, by decide, rfl⟩ ⟨Nat.le_of_ble_eq_true rfl, Nat.le_of_ble_eq_true rfl⟩ ⟨Nat.le_of_ble_eq_true rfl, Nat.le_of_ble_eq_true rfl⟩ (Nat.le_of_ble_eq_true rfl) dX12_know_63 ?hp_3 rfl rfl rfl ?_
        case hs_3 => first | with_reducible assumption | exact ⟨_, by with_reducible assumption⟩ | exact MM.isO hM
        case hp_3 => exact ⟨hM, h0, by omega⟩
        rintro v σ1 sz1 ⟨rfl, rfl, rfl⟩
        rw [hb5]
        refine S_imul (q := 67) hX dX12_know_66 rfl ?_
        refine S_iadd (q := 68) hX dX12_know_67 rfl ?_
        refine S_iload_n (q := 69) hX dX12_know_68 rfl rfl ?_
        refine S_iadd (q := 70) hX dX12_know_69 rfl ?_
        refine S_aload_n (q := 71) hX dX12_know_70 rfl rfl ?_
        refine S_bipush (q := 73) (v := 26) hX dX12_know_71 bp_26 rfl ?_
        refine S_iload_n (q := 74) hX dX12_know_73 rfl rfl ?_
        refine S_iadd (q := 75) hX dX12_know_74 rfl ?_
        refine S_callV (ci := 12) (C := "FanTalkModel") (T := TX12) (N := 17) (q := 78) 0 0 hX (c_X12_get _ μb _ 0 (26 + k) (by first | rfl | (simp only [i0, i1, i2, i3, i4, i5, i6, i7, i8, i9, i10, i11, i12, i17, i20, i24, i26, i27, i31, i32, i36, i48, i57, i59, i60, i61, i63, i64, i87, i96, i97, i99, i122, i148, i250, i255, i305, i453, i999, i1359, i1812, pk_mul, nI_add]; done) | (simp only [i0, i1, i2, i3, i4, i5, i6, i7, i8, i9, i10, i11, i12, i17, i20, i24, i26, i27, i31, i32, i36, i48, i57, i59, i60, i61, i63, i64, i87, i96, i97, i99, i122, i148, i250, i255, i305, i453, i999, i1359, i1812, pk_mul, nI_add]; congr 1; omega))) rfl ?hs_4 rfl u_838 u_840 us_26 u_12 u_841 ⟨by decide, by decide, rfl⟩ ⟨Nat.le_of_ble_eq_true rfl, Nat.le_of_ble_eq_true rfl⟩ ⟨Nat.le_of_ble_eq_true rfl, Nat.le_of_ble_eq_true rfl⟩ (Nat.le_of_ble_eq_true rfl) dX12_know_75 ?hp_4 rfl rfl rfl ?_
        case hs_4 => first | with_reducible assumption | exact ⟨_, by with_reducible assumption⟩ | exact MM.isO hM
        case hp_4 => exact ⟨hM, h0, by omega⟩
        rintro v σ1 sz1 ⟨rfl, rfl, rfl⟩
        refine S_callV (ci := 12) (C := "FanTalkModel") (T := TX12) (N := 17) (q := 81) 0 0 hX (c_X12_set _ μb _ _ 0 (87 + 61 * Kc + k) (by first | rfl | (simp only [i0, i1, i2, i3, i4, i5, i6, i7, i8, i9, i10, i11, i12, i17, i20, i24, i26, i27, i31, i32, i36, i48, i57, i59, i60, i61, i63, i64, i87, i96, i97, i99, i122, i148, i250, i255, i305, i453, i999, i1359, i1812, pk_mul, nI_add]; done) | (simp only [i0, i1, i2, i3, i4, i5, i6, i7, i8, i9, i10, i11, i12, i17, i20, i24, i26, i27, i31, i32, i36, i48, i57, i59, i60, i61, i63, i64, i87, i96, i97, i99, i122, i148, i250, i255, i305, i453, i999, i1359, i1812, pk_mul, nI_add]; congr 1; omega))) rfl ?hs_5 rfl u_846 u_848 us_28 u_12 u_849 ⟨by decide, by decide, rfl⟩ ⟨Nat.le_of_ble_eq_true rfl, Nat.le_of_ble_eq_true rfl⟩ ⟨Nat.le_of_ble_eq_true rfl, Nat.le_of_ble_eq_true rfl⟩ (Nat.le_of_ble_eq_true rfl) dX12_know_78 ?hp_5 rfl rfl rfl ?_
        case hs_5 => first | with_reducible assumption | exact ⟨_, by with_reducible assumption⟩ | exact MM.isO hM
        case hp_5 => exact ⟨hM, h0, by omega⟩
        rintro v σ sz1 ⟨μ1, hM, hF1, rfl, e1, rfl⟩
        have hF := hF.trans hF1
        have h0 : μ1 0 0 = nI 0 := by rw [e1, m2_o (by decide)]; exact h0
        refine S_iinc (q := 84) [_, _] hX dX12_know_81 rfl (ii_1 _) rfl (Nat.le_of_ble_eq_true rfl) rfl rfl ?_
        refine S_goto 50 hX dX12_know_84 rfl ?_
        refine ih (k + 1) σ _ Kc μa μ1 hKc hT1 hT2 hTd ha1 ha2 ha3 ha5 (fun j hj => by rw [e1, m2_o hj]; exact hb1 j hj) (fun i => ?_) (nI_1 _) (by omega) (by omega) hM hF
        rw [e1, m2_11]
        by_cases hi : i = 0 + (87 + 61 * Kc + k)
        · rw [if_pos hi, if_pos (by omega), hb2, if_neg (by omega)]
          congr 1
          omega
        · rw [if_neg hi, hb2]
          by_cases h2 : 87 + 61 * Kc ≤ i ∧ i < 87 + 61 * Kc + k
          · rw [if_pos h2, if_pos (by omega)]
          · rw [if_neg h2, if_neg (by omega)]
  have loop1 : ∀ (fu : Nat) (k : Nat) (σ : Sg) (xk : Int32) (μb : MF), S.1.2.1.1 = 6 → (∀ j, j ≠ 1 → μb j = μ j) → (∀ i, μb 1 i = if 87 ≤ i ∧ i < 87 + k then μ 1 (i + 61) else μ 1 i) → xk = nI k → k ≤ 305 → 305 - k < fu → MM σ m μb → Fr m (m + 9) σ0 σ → G X Γ P 0 0 12 [some (.ref m), some (.int xk)] [] σ sz := by
    intro fu
    induction fu with
    | zero =>
      rintro k σ _ μb hK6 hb1 hb2 rfl hk hfu hM hF
      exact absurd hfu (Nat.not_lt_zero _)
    | succ fu ih =>
      rintro k σ _ μb hK6 hb1 hb2 rfl hk hfu hM hF
      have h0 : μb 0 0 = nI 0 := by rw [hb1 0 (by decide)]; exact h0
      refine S_iload_n (q := 13) hX dX12_know_12 rfl rfl ?_
      refine S_sipush (q := 16) (v := 305) hX dX12_know_13 sp_305 rfl ?_
      refine S_icmp_ge (q := 19) 42 hX dX12_know_16 rfl rfl (fun c16 => ?_) (fun c16 => ?_)
      · have hge : k = 305 := by rw [show (305 : Int32) = nI 305 from rfl, nI_leI (by omega) (by omega)] at c16; omega
        subst hge
        refine S_aload_n (q := 43) hX dX12_know_42 rfl rfl ?_
        refine S_iconst (q := 44) (v := 5) hX dX12_know_43 ic_5 rfl ?_
        refine S_iconst (q := 45) (v := 5) hX dX12_know_44 ic_5 rfl ?_
        refine S_callV (ci := 12) (C := "FanTalkModel") (T := TX12) (N := 17) (q := 48) 0 0 hX (c_X12_set _ μb _ _ 0 (5) (by first | rfl | (simp only [i0, i1, i2, i3, i4, i5, i6, i7, i8, i9, i10, i11, i12, i17, i20, i24, i26, i27, i31, i32, i36, i48, i57, i59, i60, i61, i63, i64, i87, i96, i97, i99, i122, i148, i250, i255, i305, i453, i999, i1359, i1812, pk_mul, nI_add]; done) | (simp only [i0, i1, i2, i3, i4, i5, i6, i7, i8, i9, i10, i11, i12, i17, i20, i24, i26, i27, i31, i32, i36, i48, i57, i59, i60, i61, i63, i64, i87, i96, i97, i99, i122, i148, i250, i255, i305, i453, i999, i1359, i1812, pk_mul, nI_add]; congr 1; omega))) rfl ?hs_6 rfl u_846 u_848 us_28 u_12 u_849 ⟨by decide, by decide, rfl⟩ ⟨Nat.le_of_ble_eq_true rfl, Nat.le_of_ble_eq_true rfl⟩ ⟨Nat.le_of_ble_eq_true rfl, Nat.le_of_ble_eq_true rfl⟩ (Nat.le_of_ble_eq_true rfl) dX12_know_45 ?hp_6 rfl rfl rfl ?_
        case hs_6 => first | with_reducible assumption | exact ⟨_, by with_reducible assumption⟩ | exact MM.isO hM
        case hp_6 => exact ⟨hM, h0, by omega⟩
        rintro v σ sz1 ⟨μ2, hM, hF1, rfl, e2, rfl⟩
        have hF := hF.trans hF1
        have h0 : μ2 0 0 = nI 0 := by rw [e2, m2_o (by decide)]; exact h0
        refine S_iconst (q := 49) (v := 0) hX dX12_know_48 ic_0 rfl ?_
        refine S_istore_n (q := 50) [_, _] hX dX12_know_49 rfl (Nat.le_of_ble_eq_true rfl) rfl rfl ?_
        have hT : T = (6, fun k => if k < 5 then S.1.2.1.2 (k + 1) else S.1.1) := by rw [eT]; unfold psh; rw [if_pos hK6]
        refine loop2 62 0 _ _ 5 μ2 μ2 (by omega) (by rw [hT]) (by rw [hT]; rfl) (fun k hk => ?_) (fun i h1 h2 => by rw [e2, m2_n (by omega), hb2, if_neg (by omega)]) (fun i h1 => by rw [e2, m2_n (by omega), hb2, if_neg (by omega)]) (fun j hj => by rw [e2, m2_o hj]; exact hb1 j hj) (by rw [e2, m2_y]; rfl) (fun j hj => rfl) (fun i => by rw [if_neg (by omega)]) rfl (by omega) (by omega) hM hF
        rw [hT]
        show MDd _ _ (if k < 5 then S.1.2.1.2 (k + 1) else S.1.1)
        rw [if_pos hk]
        have hok := (o4 (k + 1) (by omega)).le o1
        refine (q9 (k + 1) (by omega)).at hok.1 hok.2 (fun i hi => ?_)
        rw [e2, m2_n (by omega), hb2, if_pos (by omega)]
        congr 1
        omega
      · have hlt : k < 305 := by rw [show (305 : Int32) = nI 305 from rfl, nI_leI (by omega) (by omega)] at c16; omega
        refine S_aload_n (q := 20) hX dX12_know_19 rfl rfl ?_
        refine S_bipush (q := 22) (v := 87) hX dX12_know_20 bp_87 rfl ?_
        refine S_iload_n (q := 23) hX dX12_know_22 rfl rfl ?_
        refine S_iadd (q := 24) hX dX12_know_23 rfl ?_
        refine S_aload_n (q := 25) hX dX12_know_24 rfl rfl ?_
        refine S_sipush (q := 28) (v := 148) hX dX12_know_25 sp_148 rfl ?_
        refine S_iload_n (q := 29) hX dX12_know_28 rfl rfl ?_
        refine S_iadd (q := 30) hX dX12_know_29 rfl ?_
        refine S_callV (ci := 12) (C := "FanTalkModel") (T := TX12) (N := 17) (q := 33) 0 0 hX (c_X12_get _ μb _ 0 (148 + k) (by first | rfl | (simp only [i0, i1, i2, i3, i4, i5, i6, i7, i8, i9, i10, i11, i12, i17, i20, i24, i26, i27, i31, i32, i36, i48, i57, i59, i60, i61, i63, i64, i87, i96, i97, i99, i122, i148, i250, i255, i305, i453, i999, i1359, i1812, pk_mul, nI_add]; done) | (simp only [i0, i1, i2, i3, i4, i5, i6, i7, i8, i9, i10, i11, i12, i17, i20, i24, i26, i27, i31, i32, i36, i48, i57, i59, i60, i61, i63, i64, i87, i96, i97, i99, i122, i148, i250, i255, i305, i453, i999, i1359, i1812, pk_mul, nI_add]; congr 1; omega))) rfl ?hs_7 rfl u_838 u_840 us_26 u_12 u_841 ⟨by decide, by decide, rfl⟩ ⟨Nat.le_of_ble_eq_true rfl, Nat.le_of_ble_eq_true rfl⟩ ⟨Nat.le_of_ble_eq_true rfl, Nat.le_of_ble_eq_true rfl⟩ (Nat.le_of_ble_eq_true rfl) dX12_know_30 ?hp_7 rfl rfl rfl ?_
        case hs_7 => first | with_reducible assumption | exact ⟨_, by with_reducible assumption⟩ | exact MM.isO hM
        case hp_7 => exact ⟨hM, h0, by omega⟩
        rintro v σ1 sz1 ⟨rfl, rfl, rfl⟩
        refine S_callV (ci := 12) (C := "FanTalkModel") (T := TX12) (N := 17) (q := 36) 0 0 hX (c_X12_set _ μb _ _ 0 (87 + k) (by first | rfl | (simp only [i0, i1, i2, i3, i4, i5, i6, i7, i8, i9, i10, i11, i12, i17, i20, i24, i26, i27, i31, i32, i36, i48, i57, i59, i60, i61, i63, i64, i87, i96, i97, i99, i122, i148, i250, i255, i305, i453, i999, i1359, i1812, pk_mul, nI_add]; done) | (simp only [i0, i1, i2, i3, i4, i5, i6, i7, i8, i9, i10, i11, i12, i17, i20, i24, i26, i27, i31, i32, i36, i48, i57, i59, i60, i61, i63, i64, i87, i96, i97, i99, i122, i148, i250, i255, i305, i453, i999, i1359, i1812, pk_mul, nI_add]; congr 1; omega))) rfl ?hs_8 rfl u_846 u_848 us_28 u_12 u_849 ⟨by decide, by decide, rfl⟩ ⟨Nat.le_of_ble_eq_true rfl, Nat.le_of_ble_eq_true rfl⟩ ⟨Nat.le_of_ble_eq_true rfl, Nat.le_of_ble_eq_true rfl⟩ (Nat.le_of_ble_eq_true rfl) dX12_know_33 ?hp_8 rfl rfl rfl ?_
        case hs_8 => first | with_reducible assumption | exact ⟨_, by with_reducible assumption⟩ | exact MM.isO hM
        case hp_8 => exact ⟨hM, h0, by omega⟩
        rintro v σ sz1 ⟨μ1, hM, hF1, rfl, e1, rfl⟩
        have hF := hF.trans hF1
        have h0 : μ1 0 0 = nI 0 := by rw [e1, m2_o (by decide)]; exact h0
        refine S_iinc (q := 39) [_, _] hX dX12_know_36 rfl (ii_1 _) rfl (Nat.le_of_ble_eq_true rfl) rfl rfl ?_
        refine S_goto 12 hX dX12_know_39 rfl ?_
        refine ih (k + 1) σ _ μ1 hK6 (fun j hj => by rw [e1, m2_o hj]; exact hb1 j hj) (fun i => ?_) (nI_1 _) (by omega) (by omega) hM hF
        rw [e1, m2_11]
        by_cases hi : i = 0 + (87 + k)
        · rw [if_pos hi, if_pos (by omega), hb2, if_neg (by omega)]
          congr 1
          omega
        · rw [if_neg hi, hb2]
          by_cases h2 : 87 ≤ i ∧ i < 87 + k
          · rw [if_pos h2, if_pos (by omega)]
          · rw [if_neg h2, if_neg (by omega)]
  refine S_aload_n (q := 1) hX dX12_know_0 rfl rfl ?_
  refine S_iconst (q := 2) (v := 5) hX dX12_know_1 ic_5 rfl ?_
  refine S_callV (ci := 12) (C := "FanTalkModel") (T := TX12) (N := 17) (q := 5) 0 0 hX (c_X12_get _ μ _ 0 (5) (by first | rfl | (simp only [i0, i1, i2, i3, i4, i5, i6, i7, i8, i9, i10, i11, i12, i17, i20, i24, i26, i27, i31, i32, i36, i48, i57, i59, i60, i61, i63, i64, i87, i96, i97, i99, i122, i148, i250, i255, i305, i453, i999, i1359, i1812, pk_mul, nI_add]; done) | (simp only [i0, i1, i2, i3, i4, i5, i6, i7, i8, i9, i10, i11, i12, i17, i20, i24, i26, i27, i31, i32, i36, i48, i57, i59, i60, i61, i63, i64, i87, i96, i97, i99, i122, i148, i250, i255, i305, i453, i999, i1359, i1812, pk_mul, nI_add]; congr 1; omega))) rfl ?hs_9 rfl u_838 u_840 us_26 u_12 u_841 ⟨by decide, by decide, rfl⟩ ⟨Nat.le_of_ble_eq_true rfl, Nat.le_of_ble_eq_true rfl⟩ ⟨Nat.le_of_ble_eq_true rfl, Nat.le_of_ble_eq_true rfl⟩ (Nat.le_of_ble_eq_true rfl) dX12_know_2 ?hp_9 rfl rfl rfl ?_
  case hs_9 => first | with_reducible assumption | exact ⟨_, by with_reducible assumption⟩ | exact MM.isO hM
  case hp_9 => exact ⟨hM, h0, by omega⟩
  rintro v σ1 sz1 ⟨rfl, rfl, rfl⟩
  rw [q5]
  refine S_bipush (q := 7) (v := 6) hX dX12_know_5 bp_6 rfl ?_
  refine S_icmp_ne (q := 10) 48 hX dX12_know_7 rfl rfl (fun c7 => ?_) (fun c7 => ?_)
  · refine S_iconst (q := 49) (v := 0) hX dX12_know_48 ic_0 rfl ?_
    refine S_istore_n (q := 50) [_, _] hX dX12_know_49 rfl (Nat.le_of_ble_eq_true rfl) rfl rfl ?_
    have hK5 : S.1.2.1.1 ≠ 6 := fun z => c7 (by rw [z]; rfl)
    have hT : T = (S.1.2.1.1 + 1, fu S.1.2.1.2 S.1.2.1.1 S.1.1) := by rw [eT]; unfold psh; rw [if_neg hK5]
    exact loop2 62 0 _ _ S.1.2.1.1 μ μ (by omega) (by rw [hT]) (by rw [hT]; exact fu_eq _ _ _) (fun k hk => by rw [hT]; show MDd _ _ (fu S.1.2.1.2 S.1.2.1.1 S.1.1 k); rw [fu_ne (by omega)]; exact q9 k hk) (fun i h1 h2 => rfl) (fun i h1 => rfl) (fun j hj => rfl) q5 (fun j hj => rfl) (fun i => by rw [if_neg (by omega)]) rfl (by omega) (by omega) hM hF
  · refine S_iconst (q := 11) (v := 0) hX dX12_know_10 ic_0 rfl ?_
    refine S_istore_n (q := 12) [_, _] hX dX12_know_11 rfl (Nat.le_of_ble_eq_true rfl) rfl rfl ?_
    exact loop1 306 0 _ _ μ (nI_inj (by omega) (by decide) c7) (fun j hj => rfl) (fun i => by rw [if_neg (by omega)]) rfl (by omega) (by omega) hM hF
