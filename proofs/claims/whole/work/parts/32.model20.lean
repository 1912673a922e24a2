/-! the reference: an item; the whole text -/
theorem PsM.opn {μ0 μ : MF} {T : TxT} {P : PsT} (h : PsM μ0 μ T P) (h3 : P.2.2.1 < 3) (hok : ∀ k, k < P.2.2.1 → (P.2.2.2.1 k).1 ≤ 8) : PsM μ0 (m2 (m2 μ 1 (1359 + (36 + 17 * P.2.2.1)) 0) 1 (1359 + 0) (nI (P.2.2.1 + 1))) T (P.1, P.2.1, P.2.2.1 + 1, fu P.2.2.2.1 P.2.2.1 (0, (P.2.2.2.1 P.2.2.1).2), P.2.2.2.2) := by
  obtain ⟨⟨h0, hT⟩, h1, h2, h3', h4, h5, h6, h7, h8'⟩ := h
  obtain ⟨n, en⟩ : ∃ z, z = P.2.2.1 := ⟨_, rfl⟩
  rw [← en] at h3 h5 hok ⊢
  have g : ∀ i, i ≠ 1359 + (36 + 17 * n) → i ≠ 1359 + 0 → m2 (m2 μ 1 (1359 + (36 + 17 * n)) 0) 1 (1359 + 0) (nI (n + 1)) 1 i = μ 1 i := fun i a1 a2 => by rw [m2_n a2, m2_n a1]
  have o : ∀ j, j ≠ 1 → m2 (m2 μ 1 (1359 + (36 + 17 * n)) 0) 1 (1359 + 0) (nI (n + 1)) j = μ j := fun j hj => by rw [m2_o hj, m2_o hj]
  refine ⟨⟨by rw [o 0 (by decide)]; exact h0, hT.scr (by rw [o 0 (by decide)]) (o 4 (by decide))⟩, ⟨by rw [o 0 (by decide)]; exact h1.1, by rw [o 0 (by decide)]; exact h1.2.1, by rw [o 0 (by decide)]; exact h1.2.2.1, by rw [o 0 (by decide)]; exact h1.2.2.2⟩, by rw [o 0 (by decide)]; exact h2, m2_y _ _ _, (g _ (by omega) (by omega)).trans h4, fun k hk => ?_, fun j a b => (o j b).trans (h6 j a b), fun i hi => by rw [o 0 (by decide)]; exact h7 i hi, fun i a b c => (g i (by omega) (by omega)).trans (h8' i a b c)⟩
  have hk : k < n + 1 := hk
  show MCode _ 1359 k (fu P.2.2.2.1 n (0, (P.2.2.2.1 n).2) k)
  by_cases hkc : k = n
  · subst hkc
    rw [fu_eq]
    exact ⟨by rw [m2_n (by omega), m2_y]; rfl, fun e he => absurd he (Nat.not_lt_zero _)⟩
  · rw [fu_ne hkc]
    have h9 := hok k (by omega)
    have := h5 k (by omega)
    exact ⟨(g _ (by omega) (by omega)).trans this.1, fun e he => ⟨(g _ (by omega) (by omega)).trans (this.2 e he).1, (g _ (by omega) (by omega)).trans (this.2 e he).2⟩⟩
theorem PsM.drt {μ0 μ : MF} {T : TxT} {P : PsT} {d : Nat} (h : PsM μ0 μ T P) (h3 : P.2.2.1 ≤ 3) (hok : ∀ k, k < P.2.2.1 → (P.2.2.2.1 k).1 ≤ 8) : PsM μ0 (m2 μ 1 (1359 + 1) (nI d)) T (P.1, P.2.1, P.2.2.1, P.2.2.2.1, d) := by
  obtain ⟨⟨h0, hT⟩, h1, h2, h3', h4, h5, h6, h7, h8'⟩ := h
  have g : ∀ i, i ≠ 1359 + 1 → m2 μ 1 (1359 + 1) (nI d) 1 i = μ 1 i := fun i a1 => by rw [m2_n a1]
  have o : ∀ j, j ≠ 1 → m2 μ 1 (1359 + 1) (nI d) j = μ j := fun j hj => by rw [m2_o hj]
  refine ⟨⟨by rw [o 0 (by decide)]; exact h0, hT.scr (by rw [o 0 (by decide)]) (o 4 (by decide))⟩, ⟨by rw [o 0 (by decide)]; exact h1.1, by rw [o 0 (by decide)]; exact h1.2.1, by rw [o 0 (by decide)]; exact h1.2.2.1, by rw [o 0 (by decide)]; exact h1.2.2.2⟩, by rw [o 0 (by decide)]; exact h2, (g _ (by omega)).trans h3', m2_y _ _ _, fun k hk => ?_, fun j a b => (o j b).trans (h6 j a b), fun i hi => by rw [o 0 (by decide)]; exact h7 i hi, fun i a b c => (g i (by omega)).trans (h8' i a b c)⟩
  have h9 := hok k hk
  have := h5 k hk
  exact ⟨(g _ (by omega)).trans this.1, fun e he => ⟨(g _ (by omega)).trans (this.2 e he).1, (g _ (by omega)).trans (this.2 e he).2⟩⟩

theorem c_X12_readItem (m : Nat) (μ : MF) (μ0 : MF) (T : TxT) (P : PsT) : CT_X12_readItem [.ref m] (fun Γ σ sz => MM σ m μ ∧ PR μ0 μ T P) (fun Γ σ sz v σ' sz' => ∃ μ', MM σ' m μ' ∧ Fr m (m + 9) σ σ' ∧ v = none ∧ PsM μ0 μ' T (itP T P) ∧ sz' = sz) := by
  refine CT.mkP rfl (Nat.le_of_ble_eq_true rfl) [_, _] rfl ?_
  intro X Γ σ sz P1 hX hpre hsz hP
  obtain ⟨hM, hR⟩ := hpre
  have hF : Fr m (m + 9) σ σ := Fr.rf
  obtain ⟨σ0, eσ0⟩ : ∃ z, z = σ := ⟨σ, rfl⟩
  rw [← eσ0] at hP
  have hF : Fr m (m + 9) σ0 σ := by rw [eσ0]; exact Fr.rf
  have hb := hR.1.1.2.by
  have h250 := hR.1.1.2.2.1
  obtain ⟨PF, ePF⟩ : ∃ z, z = itP T P := ⟨_, rfl⟩
  rw [← ePF] at hP
  obtain ⟨s, es⟩ : ∃ z, z = P.1.2.1 := ⟨_, rfl⟩
  have hs6 := hR.2.1.2.1
  rw [← es] at hs6
  have l108 : ∀ (PN : PsT) (σ : Sg) (μ : MF), PF = duP T (PN.1.2.1 == 4) PN → PR μ0 μ T PN → MM σ m μ → Fr m (m + 9) σ0 σ → G X Γ P1 0 0 108 [some (.ref m), some (.int (nI s))] [] σ sz := by
    intro PN σ μ eP hR hM hF
    refine S_aload_n (q := 109) hX dX12_readItem_108 rfl rfl ?_
    refine S_aload_n (q := 110) hX dX12_readItem_109 rfl rfl ?_
    refine S_getf (fs := ?fs_1) (v := ?v_1) (q := 113) hX u_790 fo_X12_sort dX12_readItem_110 ?hs_1 ?hv_1 rfl ?_
    case hs_1 => with_reducible first | exact MM.c0 hM | exact MM.c1 hM | exact MM.c5 hM | exact MM.c6 hM | exact MM.c7 hM | exact MM.c3 hM | exact MM.c4 hM | exact MM.c8 hM | exact MM.c2 hM
    case hv_1 => rfl
    rw [hR.1.2.1.2.1]
    refine S_iconst (q := 114) (v := 4) hX dX12_readItem_113 ic_4 rfl ?_
    refine S_icmp_ne (q := 117) 121 hX dX12_readItem_114 rfl rfl (fun c114 => ?_) (fun c114 => ?_)
    · refine S_iconst (q := 122) (v := 0) hX dX12_readItem_121 ic_0 rfl ?_
      refine S_callV (ci := 12) (C := "FanTalkModel") (T := TX12) (N := 17) (q := 125) 0 0 hX (c_X12_due _ μ μ0 _ (PN.1.2.1 == 4) T (PN) (bi_f (fun z => c114 (by rw [beq_iff_eq.mp z]; rfl))).symm) rfl ?hs_2 rfl u_932 u_934 us_41 u_12 u_935 ⟨by decide, by decide, rfl⟩ ⟨Nat.le_of_ble_eq_true rfl, Nat.le_of_ble_eq_true rfl⟩ ⟨Nat.le_of_ble_eq_true rfl, Nat.le_of_ble_eq_true rfl⟩ (Nat.le_of_ble_eq_true rfl) dX12_readItem_122 ?hp_2 rfl rfl rfl ?_
      case hs_2 => first | with_reducible assumption | exact ⟨_, by with_reducible assumption⟩ | exact MM.isO hM
      case hp_2 => exact ⟨hM, hR⟩
      rintro v σ sz1 ⟨μ1, hM, hF1, rfl, hR1, rfl⟩
      have hF := hF.trans hF1
      refine S_pop (q := 126) hX dX12_readItem_125 rfl rfl ?_
      refine S_vret hX dX12_readItem_126 (Nat.zero_le _) (Nat.zero_le _) ?_
      refine hP _ _ _ ?_
      exact ⟨_, hM, hF, rfl, by rw [eP]; exact hR1.1, rfl⟩
    · refine S_iconst (q := 118) (v := 1) hX dX12_readItem_117 ic_1 rfl ?_
      refine S_goto 122 hX dX12_readItem_118 rfl ?_
      refine S_callV (ci := 12) (C := "FanTalkModel") (T := TX12) (N := 17) (q := 125) 0 0 hX (c_X12_due _ μ μ0 _ (PN.1.2.1 == 4) T (PN) (bi_t (beq_iff_eq.mpr (nI_inj (by have := hR.2.1.2.1; omega) (by decide) c114))).symm) rfl ?hs_3 rfl u_932 u_934 us_41 u_12 u_935 ⟨by decide, by decide, rfl⟩ ⟨Nat.le_of_ble_eq_true rfl, Nat.le_of_ble_eq_true rfl⟩ ⟨Nat.le_of_ble_eq_true rfl, Nat.le_of_ble_eq_true rfl⟩ (Nat.le_of_ble_eq_true rfl) dX12_readItem_122 ?hp_3 rfl rfl rfl ?_
      case hs_3 => first | with_reducible assumption | exact ⟨_, by with_reducible assumption⟩ | exact MM.isO hM
      case hp_3 => exact ⟨hM, hR⟩
      rintro v σ sz1 ⟨μ1, hM, hF1, rfl, hR1, rfl⟩
      have hF := hF.trans hF1
      refine S_pop (q := 126) hX dX12_readItem_125 rfl rfl ?_
      refine S_vret hX dX12_readItem_126 (Nat.zero_le _) (Nat.zero_le _) ?_
      refine hP _ _ _ ?_
      exact ⟨_, hM, hF, rfl, by rw [eP]; exact hR1.1, rfl⟩
  have go34 : ∀ (y : Int32), y = bi (itC P = true) → G X Γ P1 0 0 34 [some (.ref m), some (.int (nI s))] [.int y, .ref m] σ sz := by
    intro y hy
    obtain ⟨b, eb⟩ : ∃ z, z = itC P := ⟨_, rfl⟩
    rw [← eb] at hy
    refine S_callV (ci := 12) (C := "FanTalkModel") (T := TX12) (N := 17) (q := 37) 0 0 hX (c_X12_due _ μ μ0 _ (b) T (P) hy) rfl ?hs_4 rfl u_932 u_934 us_41 u_12 u_935 ⟨by decide, by decide, rfl⟩ ⟨Nat.le_of_ble_eq_true rfl, Nat.le_of_ble_eq_true rfl⟩ ⟨Nat.le_of_ble_eq_true rfl, Nat.le_of_ble_eq_true rfl⟩ (Nat.le_of_ble_eq_true rfl) dX12_readItem_34 ?hp_4 rfl rfl rfl ?_
    case hs_4 => first | with_reducible assumption | exact ⟨_, by with_reducible assumption⟩ | exact MM.isO hM
    case hp_4 => exact ⟨hM, hR⟩
    rintro v σ sz1 ⟨μ1, hM, hF1, rfl, hR1, rfl⟩
    have hF := hF.trans hF1
    have eQ0 : PF = itP2 T s (duP T b P) := by rw [ePF, eb, es]; rfl
    have hbn : (duP T b P).2.1 = none → (s = 0 ∧ P.2.2.1 < 3) ∨ s = 1 ∨ s = 2 := fun q => by rw [es]; exact itC_t.mp (eb ▸ (duP_n q).1)
    have q22 := duP_22 T b P
    obtain ⟨Q, eQ⟩ : ∃ z, z = duP T b P := ⟨_, rfl⟩
    rw [← eQ] at hR1 eQ0 hbn q22
    refine S_pop (q := 38) hX dX12_readItem_37 rfl rfl ?_
    refine S_aload_n (q := 39) hX dX12_readItem_38 rfl rfl ?_
    refine S_getf (fs := ?fs_5) (v := ?v_5) (q := 42) hX u_792 fo_X12_fault dX12_readItem_39 ?hs_5 ?hv_5 rfl ?_
    case hs_5 => with_reducible first | exact MM.c0 hM | exact MM.c1 hM | exact MM.c5 hM | exact MM.c6 hM | exact MM.c7 hM | exact MM.c3 hM | exact MM.c4 hM | exact MM.c8 hM | exact MM.c2 hM
    case hv_5 => rfl
    refine S_iconst (q := 43) (v := (-1)) hX dX12_readItem_42 ic_m1 rfl ?_
    refine S_icmp_eq (q := 46) 47 hX dX12_readItem_43 rfl rfl (fun c43 => ?_) (fun c43 => ?_)
    · have hn : Q.2.1 = none := by rw [hR1.1.2.2.1] at c43; exact (fI_n (hR1.1.t300 hR1.2)).mp c43
      have hbn := hbn hn
      unfold itP2 at eQ0
      rw [if_neg (fun z => z hn)] at eQ0
      have hok8 := fun k hk => (hR1.2.2.2.2.1 k hk).1
      refine S_iload_n (q := 48) hX dX12_readItem_47 rfl rfl ?_
      refine S_iconst (q := 49) (v := 1) hX dX12_readItem_48 ic_1 rfl ?_
      refine S_icmp_ne (q := 52) 57 hX dX12_readItem_49 rfl rfl (fun c49 => ?_) (fun c49 => ?_)
      · have h1 : ¬ s = 1 := fun z => c49 (by rw [z]; rfl)
        refine S_iload_n (q := 58) hX dX12_readItem_57 rfl rfl ?_
        refine S_if_ne (q := 61) 92 hX dX12_readItem_58 rfl rfl (fun c58 => ?_) (fun c58 => ?_)
        · have hz0 : ¬ s = 0 := fun z => c58 (by rw [z]; rfl)
          rw [if_neg h1, if_neg hz0] at eQ0
          refine S_aload_n (q := 93) hX dX12_readItem_92 rfl rfl ?_
          refine S_iconst (q := 94) (v := 1) hX dX12_readItem_93 ic_1 rfl ?_
          refine S_aload_n (q := 95) hX dX12_readItem_94 rfl rfl ?_
          refine S_aload_n (q := 96) hX dX12_readItem_95 rfl rfl ?_
          refine S_iconst (q := 97) (v := 0) hX dX12_readItem_96 ic_0 rfl ?_
          refine S_bipush (q := 99) (v := 63) hX dX12_readItem_97 bp_63 rfl ?_
          refine S_callV (ci := 12) (C := "FanTalkModel") (T := TX12) (N := 17) (q := 102) 0 0 hX (c_X12_isNumber _ μ1 _ _ (Q).1.2.1 (Q).1.2.2.1) rfl ?hs_6 rfl u_940 u_942 us_43 u_12 u_943 ⟨by decide, by decide, rfl⟩ ⟨Nat.le_of_ble_eq_true rfl, Nat.le_of_ble_eq_true rfl⟩ ⟨Nat.le_of_ble_eq_true rfl, Nat.le_of_ble_eq_true rfl⟩ (Nat.le_of_ble_eq_true rfl) dX12_readItem_99 ?hp_6 rfl rfl rfl ?_
          case hs_6 => first | with_reducible assumption | exact ⟨_, by with_reducible assumption⟩ | exact MM.isO hM
          case hp_6 => exact ⟨hM, hR1.1.2.1.2.1, hR1.2.1.2.1, hR1.1.2.1.2.2.1⟩
          rintro v σ1 sz1 ⟨rfl, rfl, rfl⟩
          refine S_top (nuB_bi (P := Q) (n := 64) (by decide) (by decide) hR1.2.1.2.2.1) ?_
          refine S_callV (ci := 12) (C := "FanTalkModel") (T := TX12) (N := 17) (q := 105) 0 0 hX (c_X12_due _ μ1 μ0 _ (nuB Q 64) T (Q) rfl) rfl ?hs_7 rfl u_932 u_934 us_41 u_12 u_935 ⟨by decide, by decide, rfl⟩ ⟨Nat.le_of_ble_eq_true rfl, Nat.le_of_ble_eq_true rfl⟩ ⟨Nat.le_of_ble_eq_true rfl, Nat.le_of_ble_eq_true rfl⟩ (Nat.le_of_ble_eq_true rfl) dX12_readItem_102 ?hp_7 rfl rfl rfl ?_
          case hs_7 => first | with_reducible assumption | exact ⟨_, by with_reducible assumption⟩ | exact MM.isO hM
          case hp_7 => exact ⟨hM, hR1⟩
          rintro v σ sz1 ⟨μ2, hM, hF1, rfl, hR2, rfl⟩
          have hF := hF.trans hF1
          refine S_callV (ci := 12) (C := "FanTalkModel") (T := TX12) (N := 17) (q := 108) 0 0 hX (c_X12_set _ μ2 _ _ 1359 1 rfl) rfl ?hs_8 rfl u_846 u_848 us_28 u_12 u_849 ⟨by decide, by decide, rfl⟩ ⟨Nat.le_of_ble_eq_true rfl, Nat.le_of_ble_eq_true rfl⟩ ⟨Nat.le_of_ble_eq_true rfl, Nat.le_of_ble_eq_true rfl⟩ (Nat.le_of_ble_eq_true rfl) dX12_readItem_105 ?hp_8 rfl rfl rfl ?_
          case hs_8 => first | with_reducible assumption | exact ⟨_, by with_reducible assumption⟩ | exact MM.isO hM
          case hp_8 => exact ⟨hM, hR2.1.1.1, by decide⟩
          rintro v σ sz1 ⟨μ3, hM, hF1, rfl, e3, rfl⟩
          have hF := hF.trans hF1
          have d22 := duP_22 T (nuB Q 64) Q
          have hd := hR2.1.drt (d := Q.1.2.2.1) hR2.2.2.2.1 (fun k hk => (hR2.2.2.2.2.1 k hk).1)
          rw [d22] at hd
          refine l108 ((duP T (nuB Q 64) Q).1, (duP T (nuB Q 64) Q).2.1, Q.2.2.1, Q.2.2.2.1, Q.1.2.2.1) _ μ3 eQ0 ⟨by rw [e3]; exact hd, ?_⟩ hM hF
          obtain ⟨g1, g2, g3, g4, g5, g6⟩ := hR2.2
          rw [d22] at g3 g4
          exact ⟨g1, g2, g3, g4, hR1.2.1.2.2.1, fun z => (nuB_t (duP_n z).1).2⟩
        · have hz0 : s = 0 := nI_inj (by omega) (by decide) c58
          rw [if_neg h1, if_pos hz0] at eQ0
          have h3 : Q.2.2.1 < 3 := by rw [q22]; rcases hbn with a | a | a <;> omega
          refine S_aload_n (q := 62) hX dX12_readItem_61 rfl rfl ?_
          refine S_bipush (q := 64) (v := 36) hX dX12_readItem_62 bp_36 rfl ?_
          refine S_bipush (q := 66) (v := 17) hX dX12_readItem_64 bp_17 rfl ?_
          refine S_aload_n (q := 67) hX dX12_readItem_66 rfl rfl ?_
          refine S_iconst (q := 68) (v := 0) hX dX12_readItem_67 ic_0 rfl ?_
          refine S_callV (ci := 12) (C := "FanTalkModel") (T := TX12) (N := 17) (q := 71) 0 0 hX (c_X12_get _ μ1 _ 1359 0 rfl) rfl ?hs_9 rfl u_838 u_840 us_26 u_12 u_841 ⟨by decide, by decide, rfl⟩ ⟨Nat.le_of_ble_eq_true rfl, Nat.le_of_ble_eq_true rfl⟩ ⟨Nat.le_of_ble_eq_true rfl, Nat.le_of_ble_eq_true rfl⟩ (Nat.le_of_ble_eq_true rfl) dX12_readItem_68 ?hp_9 rfl rfl rfl ?_
          case hs_9 => first | with_reducible assumption | exact ⟨_, by with_reducible assumption⟩ | exact MM.isO hM
          case hp_9 => exact ⟨hM, hR1.1.1.1, by decide⟩
          rintro v σ1 sz1 ⟨rfl, rfl, rfl⟩
          rw [hR1.1.2.2.2.1]
          refine S_imul (q := 72) hX dX12_readItem_71 rfl ?_
          refine S_iadd (q := 73) hX dX12_readItem_72 rfl ?_
          refine S_iconst (q := 74) (v := 0) hX dX12_readItem_73 ic_0 rfl ?_
          refine S_callV (ci := 12) (C := "FanTalkModel") (T := TX12) (N := 17) (q := 77) 0 0 hX (c_X12_set _ μ1 _ _ 1359 (36 + 17 * Q.2.2.1) (by first | rfl | (simp only [i0, i1, i2, i3, i4, i5, i6, i7, i8, i9, i10, i11, i12, i17, i20, i24, i26, i27, i31, i32, i36, i48, i57, i59, i60, i61, i63, i64, i87, i96, i97, i99, i122, i148, i250, i255, i305, i453, i999, i1359, i1812, pk_mul, nI_add]; done) | (simp only [i0, i1, i2, i3, i4, i5, i6, i7, i8, i9, i10, i11, i12, i17, i20, i24, i26, i27, i31, i32, i36, i48, i57, i59, i60, i61, i63, i64, i87, i96, i97, i99, i122, i148, i250, i255, i305, i453, i999, i1359, i1812, pk_mul, nI_add]; congr 1; omega))) rfl ?hs_10 rfl u_846 u_848 us_28 u_12 u_849 ⟨by decide, by decide, rfl⟩ ⟨Nat.le_of_ble_eq_true rfl, Nat.le_of_ble_eq_true rfl⟩ ⟨Nat.le_of_ble_eq_true rfl, Nat.le_of_ble_eq_true rfl⟩ (Nat.le_of_ble_eq_true rfl) dX12_readItem_74 ?hp_10 rfl rfl rfl ?_
          case hs_10 => first | with_reducible assumption | exact ⟨_, by with_reducible assumption⟩ | exact MM.isO hM
          case hp_10 => exact ⟨hM, hR1.1.1.1, by omega⟩
          rintro v σ sz1 ⟨μ2, hM, hF1, rfl, e2, rfl⟩
          have hF := hF.trans hF1
          refine S_aload_n (q := 78) hX dX12_readItem_77 rfl rfl ?_
          refine S_iconst (q := 79) (v := 0) hX dX12_readItem_78 ic_0 rfl ?_
          refine S_aload_n (q := 80) hX dX12_readItem_79 rfl rfl ?_
          refine S_iconst (q := 81) (v := 0) hX dX12_readItem_80 ic_0 rfl ?_
          refine S_callV (ci := 12) (C := "FanTalkModel") (T := TX12) (N := 17) (q := 84) 0 0 hX (c_X12_get _ μ2 _ 1359 0 rfl) rfl ?hs_11 rfl u_838 u_840 us_26 u_12 u_841 ⟨by decide, by decide, rfl⟩ ⟨Nat.le_of_ble_eq_true rfl, Nat.le_of_ble_eq_true rfl⟩ ⟨Nat.le_of_ble_eq_true rfl, Nat.le_of_ble_eq_true rfl⟩ (Nat.le_of_ble_eq_true rfl) dX12_readItem_81 ?hp_11 rfl rfl rfl ?_
          case hs_11 => first | with_reducible assumption | exact ⟨_, by with_reducible assumption⟩ | exact MM.isO hM
          case hp_11 => exact ⟨hM, by rw [e2, m2_o (by decide)]; exact hR1.1.1.1, by decide⟩
          rintro v σ1 sz1 ⟨rfl, rfl, rfl⟩
          rw [e2, m2_n (by omega), hR1.1.2.2.2.1]
          refine S_iconst (q := 85) (v := 1) hX dX12_readItem_84 ic_1 rfl ?_
          refine S_iadd (q := 86) hX dX12_readItem_85 rfl ?_
          refine S_callV (ci := 12) (C := "FanTalkModel") (T := TX12) (N := 17) (q := 89) 0 0 hX (c_X12_set _ μ2 _ _ 1359 0 rfl) rfl ?hs_12 rfl u_846 u_848 us_28 u_12 u_849 ⟨by decide, by decide, rfl⟩ ⟨Nat.le_of_ble_eq_true rfl, Nat.le_of_ble_eq_true rfl⟩ ⟨Nat.le_of_ble_eq_true rfl, Nat.le_of_ble_eq_true rfl⟩ (Nat.le_of_ble_eq_true rfl) dX12_readItem_86 ?hp_12 rfl rfl rfl ?_
          case hs_12 => first | with_reducible assumption | exact ⟨_, by with_reducible assumption⟩ | exact MM.isO hM
          case hp_12 => exact ⟨hM, by rw [e2, m2_o (by decide)]; exact hR1.1.1.1, by decide⟩
          rintro v σ sz1 ⟨μ3, hM, hF1, rfl, e3, rfl⟩
          have hF := hF.trans hF1
          refine S_goto 108 hX dX12_readItem_89 rfl ?_
          have hd := hR1.1.opn h3 hok8
          rw [hn] at hd
          refine l108 (Q.1, none, Q.2.2.1 + 1, fu Q.2.2.2.1 Q.2.2.1 (0, (Q.2.2.2.1 Q.2.2.1).2), Q.2.2.2.2) _ μ3 eQ0 ⟨by rw [e3, e2, i1, nI_add]; exact hd, ?_⟩ hM hF
          obtain ⟨g1, g2, g3, g4, g5, g6⟩ := hR1.2
          refine ⟨g1, fun p hp => (nomatch hp), h3, fun k hk => ?_, g5, fun _ => g6 hn⟩
          show CodOk (fu Q.2.2.2.1 Q.2.2.1 (0, (Q.2.2.2.1 Q.2.2.1).2) k)
          have hk : k < Q.2.2.1 + 1 := hk
          by_cases hkc : k = Q.2.2.1
          · subst hkc
            rw [fu_eq]
            exact ⟨Nat.zero_le _, fun e he => absurd he (Nat.not_lt_zero _)⟩
          · rw [fu_ne hkc]
            exact g4 k (by omega)
      · have h1 : s = 1 := nI_inj (by omega) (by decide) c49
        rw [if_pos h1] at eQ0
        refine S_aload_n (q := 53) hX dX12_readItem_52 rfl rfl ?_
        refine S_callV (ci := 12) (C := "FanTalkModel") (T := TX12) (N := 17) (q := 56) 0 0 hX (c_X12_readEntry _ μ1 μ0 T Q) rfl ?hs_13 rfl u_936 u_938 us_42 u_12 u_939 ⟨by decide, by decide, rfl⟩ ⟨Nat.le_of_ble_eq_true rfl, Nat.le_of_ble_eq_true rfl⟩ ⟨Nat.le_of_ble_eq_true rfl, Nat.le_of_ble_eq_true rfl⟩ (Nat.le_of_ble_eq_true rfl) dX12_readItem_53 ?hp_13 rfl rfl rfl ?_
        case hs_13 => first | with_reducible assumption | exact ⟨_, by with_reducible assumption⟩ | exact MM.isO hM
        case hp_13 => exact ⟨hM, hR1⟩
        rintro v σ sz1 ⟨μ2, hM, hF1, rfl, hR2, rfl⟩
        have hF := hF.trans hF1
        refine S_vret hX dX12_readItem_56 (Nat.zero_le _) (Nat.zero_le _) ?_
        refine hP _ _ _ ?_
        exact ⟨_, hM, hF, rfl, by rw [eQ0]; exact hR2, rfl⟩
    · have hs : Q.2.1 ≠ none := fun z => c43 (by rw [hR1.1.2.2.1]; exact (fI_n (hR1.1.t300 hR1.2)).mpr z)
      refine S_vret hX dX12_readItem_46 (Nat.zero_le _) (Nat.zero_le _) ?_
      refine hP _ _ _ ?_
      exact ⟨_, hM, hF, rfl, by rw [eQ0]; unfold itP2; rw [if_pos hs]; exact hR1.1, rfl⟩
  refine S_aload_n (q := 1) hX dX12_readItem_0 rfl rfl ?_
  refine S_getf (fs := ?fs_14) (v := ?v_14) (q := 4) hX u_790 fo_X12_sort dX12_readItem_1 ?hs_14 ?hv_14 rfl ?_
  case hs_14 => with_reducible first | exact MM.c0 hM | exact MM.c1 hM | exact MM.c5 hM | exact MM.c6 hM | exact MM.c7 hM | exact MM.c3 hM | exact MM.c4 hM | exact MM.c8 hM | exact MM.c2 hM
  case hv_14 => rfl
  rw [hR.1.2.1.2.1, ← es]
  refine S_istore_n (q := 5) [_, _] hX dX12_readItem_4 rfl (Nat.le_of_ble_eq_true rfl) rfl rfl ?_
  refine S_aload_n (q := 6) hX dX12_readItem_5 rfl rfl ?_
  refine S_iload_n (q := 7) hX dX12_readItem_6 rfl rfl ?_
  refine S_if_ne (q := 10) 19 hX dX12_readItem_7 rfl rfl (fun c7 => ?_) (fun c7 => ?_)
  · have h0 : ¬ s = 0 := fun z => c7 (by rw [z]; rfl)
    refine S_iload_n (q := 20) hX dX12_readItem_19 rfl rfl ?_
    refine S_iconst (q := 21) (v := 1) hX dX12_readItem_20 ic_1 rfl ?_
    refine S_icmp_eq (q := 24) 29 hX dX12_readItem_21 rfl rfl (fun c21 => ?_) (fun c21 => ?_)
    · have h1 : s = 1 := nI_inj (by omega) (by decide) c21
      refine S_iconst (q := 30) (v := 1) hX dX12_readItem_29 ic_1 rfl ?_
      refine S_goto 34 hX dX12_readItem_30 rfl ?_
      refine go34 _ (Eq.symm ?_)
      first
        | exact bi_t (itC_t.mpr (by rw [← es]; omega))
        | exact bi_f (fun z => absurd (itC_t.mp z) (by rw [← es]; omega))
    · have h1 : ¬ s = 1 := fun z => c21 (by rw [z]; rfl)
      refine S_iload_n (q := 25) hX dX12_readItem_24 rfl rfl ?_
      refine S_iconst (q := 26) (v := 2) hX dX12_readItem_25 ic_2 rfl ?_
      refine S_icmp_ne (q := 29) 33 hX dX12_readItem_26 rfl rfl (fun c26 => ?_) (fun c26 => ?_)
      · have h2 : ¬ s = 2 := fun z => c26 (by rw [z]; rfl)
        refine S_iconst (q := 34) (v := 0) hX dX12_readItem_33 ic_0 rfl ?_
        refine go34 _ (Eq.symm ?_)
        first
          | exact bi_t (itC_t.mpr (by rw [← es]; omega))
          | exact bi_f (fun z => absurd (itC_t.mp z) (by rw [← es]; omega))
      · have h2 : s = 2 := nI_inj (by omega) (by decide) c26
        refine S_iconst (q := 30) (v := 1) hX dX12_readItem_29 ic_1 rfl ?_
        refine S_goto 34 hX dX12_readItem_30 rfl ?_
        refine go34 _ (Eq.symm ?_)
        first
          | exact bi_t (itC_t.mpr (by rw [← es]; omega))
          | exact bi_f (fun z => absurd (itC_t.mp z) (by rw [← es]; omega))
  · have h0 : s = 0 := nI_inj (by omega) (by decide) c7
    refine S_aload_n (q := 11) hX dX12_readItem_10 rfl rfl ?_
    refine S_iconst (q := 12) (v := 0) hX dX12_readItem_11 ic_0 rfl ?_
    refine S_callV (ci := 12) (C := "FanTalkModel") (T := TX12) (N := 17) (q := 15) 0 0 hX (c_X12_get _ μ _ 1359 0 rfl) rfl ?hs_15 rfl u_838 u_840 us_26 u_12 u_841 ⟨by decide, by decide, rfl⟩ ⟨Nat.le_of_ble_eq_true rfl, Nat.le_of_ble_eq_true rfl⟩ ⟨Nat.le_of_ble_eq_true rfl, Nat.le_of_ble_eq_true rfl⟩ (Nat.le_of_ble_eq_true rfl) dX12_readItem_12 ?hp_15 rfl rfl rfl ?_
    case hs_15 => first | with_reducible assumption | exact ⟨_, by with_reducible assumption⟩ | exact MM.isO hM
    case hp_15 => exact ⟨hM, hR.1.1.1, by decide⟩
    rintro v σ1 sz1 ⟨rfl, rfl, rfl⟩
    rw [hR.1.2.2.2.1]
    refine S_iconst (q := 16) (v := 3) hX dX12_readItem_15 ic_3 rfl ?_
    refine S_icmp_lt (q := 19) 29 hX dX12_readItem_16 rfl rfl (fun c16 => ?_) (fun c16 => ?_)
    · have hc3 : P.2.2.1 < 3 := by have := hR.2.2.2.1; rw [show (3 : Int32) = nI 3 from rfl, nI_ltI (by omega) (by decide)] at c16; exact c16
      refine S_iconst (q := 30) (v := 1) hX dX12_readItem_29 ic_1 rfl ?_
      refine S_goto 34 hX dX12_readItem_30 rfl ?_
      refine go34 _ (Eq.symm ?_)
      first
        | exact bi_t (itC_t.mpr (by rw [← es]; omega))
        | exact bi_f (fun z => absurd (itC_t.mp z) (by rw [← es]; omega))
    · have hc3 : ¬ P.2.2.1 < 3 := by have := hR.2.2.2.1; rw [show (3 : Int32) = nI 3 from rfl, nI_ltI (by omega) (by decide)] at c16; exact c16
      refine S_iload_n (q := 20) hX dX12_readItem_19 rfl rfl ?_
      refine S_iconst (q := 21) (v := 1) hX dX12_readItem_20 ic_1 rfl ?_
      refine S_icmp_eq (q := 24) 29 hX dX12_readItem_21 rfl rfl (fun c21 => ?_) (fun c21 => ?_)
      · have h1 : s = 1 := nI_inj (by omega) (by decide) c21
        refine S_iconst (q := 30) (v := 1) hX dX12_readItem_29 ic_1 rfl ?_
        refine S_goto 34 hX dX12_readItem_30 rfl ?_
        refine go34 _ (Eq.symm ?_)
        first
          | exact bi_t (itC_t.mpr (by rw [← es]; omega))
          | exact bi_f (fun z => absurd (itC_t.mp z) (by rw [← es]; omega))
      · have h1 : ¬ s = 1 := fun z => c21 (by rw [z]; rfl)
        refine S_iload_n (q := 25) hX dX12_readItem_24 rfl rfl ?_
        refine S_iconst (q := 26) (v := 2) hX dX12_readItem_25 ic_2 rfl ?_
        refine S_icmp_ne (q := 29) 33 hX dX12_readItem_26 rfl rfl (fun c26 => ?_) (fun c26 => ?_)
        · have h2 : ¬ s = 2 := fun z => c26 (by rw [z]; rfl)
          refine S_iconst (q := 34) (v := 0) hX dX12_readItem_33 ic_0 rfl ?_
          refine go34 _ (Eq.symm ?_)
          first
            | exact bi_t (itC_t.mpr (by rw [← es]; omega))
            | exact bi_f (fun z => absurd (itC_t.mp z) (by rw [← es]; omega))
        · have h2 : s = 2 := nI_inj (by omega) (by decide) c26
          refine S_iconst (q := 30) (v := 1) hX dX12_readItem_29 ic_1 rfl ?_
          refine S_goto 34 hX dX12_readItem_30 rfl ?_
          refine go34 _ (Eq.symm ?_)
          first
            | exact bi_t (itC_t.mpr (by rw [← es]; omega))
            | exact bi_f (fun z => absurd (itC_t.mp z) (by rw [← es]; omega))
theorem MR.of {μ μ' : MF} {S : ST} {C : CtT} (h : MR μ S) (ok : StOk S) (e0 : μ' 0 0 = nI 0) (e1 : μ' 0 1 = μ 0 1) (e : ∀ j, j ≠ 0 → j ≠ 1 → μ' j = μ j) (g : ∀ i, 453 ≤ i → i < 1359 → μ' 1 i = μ 1 i) (hC : MCt (μ' 1) 0 C) : MR μ' (stC S C) := by
  obtain ⟨h0, -, h2, h3, h4, h5⟩ := h
  refine ⟨e0, hC, fun i hi => ⟨by rw [e 2 (by decide) (by decide)]; exact (h2 i hi).1, fun D hD => ((h2 i hi).2 D hD).ext (ok.2.1 i hi D hD) (fun j a b => g j (by omega) (by omega))⟩, fun i hi => by rw [e 3 (by decide) (by decide)]; exact h3 i hi, e1.trans h4, fun i hi => by rw [e 4 (by decide) (by decide)]; exact h5 i hi⟩
theorem MR.txt {μ : MF} {S : ST} (h : MR μ S) (ok : StOk S) : TxM μ S.2.2.2 := ⟨h.2.2.2.2.1, ok.2.2.1, fun i hi => ⟨h.2.2.2.2.2 i hi, ok.2.2.2 i hi⟩⟩

theorem c_X12_read (m : Nat) (μ : MF) (S : ST)  : CT_X12_read [.ref m] (fun Γ σ sz => MM σ m μ ∧ MR μ S ∧ StOk S) (fun Γ σ sz v σ' sz' => ∃ μ', MM σ' m μ' ∧ Fr m (m + 9) σ σ' ∧ v = some (.int (sp_read S).1) ∧ MR μ' (sp_read S).2 ∧ sz' = sz) := by
  refine CT.mkP rfl (Nat.le_of_ble_eq_true rfl) [_, _] rfl ?_
  intro X Γ σ sz P1 hX hpre hsz hP
  obtain ⟨hM, hR, ok⟩ := hpre
  have hF : Fr m (m + 9) σ σ := Fr.rf
  have h0 := hR.1
  have hC0 := hR.2.1.1
  obtain ⟨q0, q1, q2, q3, q4, q5, q6, q7, q8, q9⟩ := id hR.2.1
  obtain ⟨o1, o2, o3, o4, o5, o6, o7, o8, o9, o10⟩ := id ok.1
  obtain ⟨σ0, eσ0⟩ : ∃ z, z = σ := ⟨σ, rfl⟩
  rw [← eσ0] at hP
  have hF : Fr m (m + 9) σ0 σ := by rw [eσ0]; exact Fr.rf
  have hTx := hR.txt ok
  obtain ⟨T, eT⟩ : ∃ z, z = S.2.2.2 := ⟨_, rfl⟩
  rw [← eT] at hTx
  have hb := hTx.by
  have h250 := hTx.2.1
  have l98 : ∀ μN : MF, (∀ j, j ≠ 0 → j ≠ 1 → μN j = μ j) → μN 0 1 = μ 0 1 → (∀ i, i < 1359 → μN 1 i = μ 1 i) → (∀ i, 2 ≤ i → i < 26 → i ≠ 5 → μN 1 (1359 + i) = μ 1 i) → μN 1 (1359 + 5) = nI 0 → (∀ k, k < 10 → μN 1 (1359 + (26 + k)) = nI 0) → ∀ (k : Nat) (P : PsT) (σ : Sg) (μE : MF), rdAll S = (k, P) → PR μN μE T P → MM σ m μE → Fr m (m + 9) σ0 σ → G X Γ P1 0 0 98 [some (.ref m), some (.int (nI k))] [] σ sz := by
    intro μN n1 n2 n3 n4 n5 n6 k P σ μE eR hE hM hF
    obtain ⟨⟨⟨p0, pT⟩, p1, p2, p3, p4, p5, p6, p7, p8⟩, pk⟩ := id hE
    refine S_aload_n (q := 99) hX dX12_read_98 rfl rfl ?_
    refine S_iconst (q := 100) (v := 0) hX dX12_read_99 ic_0 rfl ?_
    refine S_nm (fun x100 hx100 => ?_)
    refine S_putf (fs := ?fs_1) (q := 103) hX u_783 fo_X12_base rfl rfl ?hl_1 dX12_read_100 ?hs_1 rfl ?_
    case hs_1 => with_reducible first | exact MM.c0 hM | exact MM.c1 hM | exact MM.c5 hM | exact MM.c6 hM | exact MM.c7 hM | exact MM.c3 hM | exact MM.c4 hM | exact MM.c8 hM | exact MM.c2 hM
    case hl_1 => exact Nat.le_of_ble_eq_true rfl
    refine S_stu (q0 := m) (j := 0) (i := 0) hM hF (by decide) rfl (fun σ μ100 e100 hM hF => ?_)
    subst hx100
    have hE6 : μ100 0 6 = fI P.2.1 := by rw [e100, m2_00, if_neg (by decide)]; exact p2
    have o100 : ∀ j, j ≠ 0 → μ100 j = μE j := fun j hj => by rw [e100, m2_o hj]
    refine S_aload_n (q := 104) hX dX12_read_103 rfl rfl ?_
    refine S_getf (fs := ?fs_2) (v := ?v_2) (q := 107) hX u_792 fo_X12_fault dX12_read_104 ?hs_2 ?hv_2 rfl ?_
    case hs_2 => with_reducible first | exact MM.c0 hM | exact MM.c1 hM | exact MM.c5 hM | exact MM.c6 hM | exact MM.c7 hM | exact MM.c3 hM | exact MM.c4 hM | exact MM.c8 hM | exact MM.c2 hM
    case hv_2 => rfl
    refine S_iconst (q := 108) (v := (-1)) hX dX12_read_107 ic_m1 rfl ?_
    refine S_icmp_eq (q := 111) 119 hX dX12_read_108 rfl rfl (fun c108 => ?_) (fun c108 => ?_)
    · have hn : P.2.1 = none := by rw [hE6] at c108; exact (fI_n (hE.1.t300 hE.2)).mp c108
      refine S_aload_n (q := 120) hX dX12_read_119 rfl rfl ?_
      refine S_sipush (q := 123) (v := 1359) hX dX12_read_120 sp_1359 rfl ?_
      refine S_iconst (q := 124) (v := 0) hX dX12_read_123 ic_0 rfl ?_
      refine S_callV (ci := 12) (C := "FanTalkModel") (T := TX12) (N := 17) (q := 127) 0 0 hX (c_X12_copy _ μ100 _ _ 1359 0 rfl rfl) rfl ?hs_3 rfl u_913 u_915 us_37 u_12 u_916 ⟨by decide, by decide, rfl⟩ ⟨Nat.le_of_ble_eq_true rfl, Nat.le_of_ble_eq_true rfl⟩ ⟨Nat.le_of_ble_eq_true rfl, Nat.le_of_ble_eq_true rfl⟩ (Nat.le_of_ble_eq_true rfl) dX12_read_124 ?hp_3 rfl rfl rfl ?_
      case hs_3 => first | with_reducible assumption | exact ⟨_, by with_reducible assumption⟩ | exact MM.isO hM
      case hp_3 => exact ⟨hM, by decide, by decide, by decide⟩
      rintro v σ sz1 ⟨μ2, hM, hF1, rfl, e2, rfl⟩
      have hF := hF.trans hF1
      refine S_iload_n (q := 128) hX dX12_read_127 rfl rfl ?_
      refine S_iret hX dX12_read_128 (Nat.zero_le _) (Nat.zero_le _) ?_
      refine hP _ _ _ ?_
      have hsp : sp_read S = (nI k, stC S ((P.2.2.1, P.2.2.2.1, fun _ => 0), (0, S.1.2.1.2), P.2.2.2.2, S.1.2.2.2)) := by unfold sp_read; rw [eR]; show (match P.2.1 with | some p => _ | none => _) = _; rw [hn]
      rw [hsp]
      have g : ∀ i, i < 453 → μ2 1 i = μE 1 (1359 + i) := fun i hi => by rw [e2.2 i, if_pos (by omega), o100 1 (by decide), Nat.sub_zero]
      have f : ∀ i, 2 ≤ i → i < 26 → i ≠ 5 → μ2 1 (0 + i) = μ 1 (0 + i) := fun i a b c => by rw [Nat.zero_add, g i (by omega), p8 _ (by omega) (by omega) (by omega)]; exact n4 i a b c
      refine ⟨_, hM, hF, rfl, hR.of ok (by rw [e2.1 0 (by decide), e100, m2_00, if_pos rfl]; rfl) (by rw [e2.1 0 (by decide), e100, m2_00, if_neg (by decide)]; exact (p7 1 (by omega)).trans n2) (fun j a b => (e2.1 j b).trans ((o100 j a).trans ((p6 j a b).trans (n1 j a b)))) (fun i a b => by rw [e2.2 i, if_neg (by omega), o100 1 (by decide)]; exact (p8 i (by omega) (by omega) (by omega)).trans (n3 i b)) ?_, rfl⟩
      refine ⟨(g 0 (by decide)).trans p3, (g 1 (by decide)).trans p4, (f 2 (by omega) (by omega) (by omega)).trans q2, (f 3 (by omega) (by omega) (by omega)).trans q3, (f 4 (by omega) (by omega) (by omega)).trans q4, ?_, fun j hj => ?_, fun j hj => ?_, ⟨fun wd hw => ?_, fun c hc => ?_⟩, fun j hj => absurd hj (Nat.not_lt_zero _)⟩
      · rw [g 5 (by decide), p8 _ (by omega) (by omega) (by omega)]; exact n5
      · have hj : j < S.1.2.2.2.2.1.1 := hj
        exact (f (6 + j) (by omega) (by omega) (by omega)).trans (q6 j hj)
      · have hj : j < S.1.2.2.2.2.2.1 := hj
        exact ⟨(f (10 + 2 * j) (by omega) (by omega) (by omega)).trans (q7 j hj).1, (f (10 + 2 * j + 1) (by omega) (by omega) (by omega)).trans (q7 j hj).2⟩
      · rw [show 0 + 26 + wd = 26 + wd by omega, g _ (by omega), p8 _ (by omega) (by omega) (by omega)]; exact n6 wd hw
      · have hc : c < P.2.2.1 := hc
        have h3 := pk.2.2.1
        have h8 := (pk.2.2.2.1 c hc).1
        have := p5 c hc
        refine ⟨?_, fun e he => ⟨?_, ?_⟩⟩
        · rw [show 0 + 26 + (10 + 17 * c) = 36 + 17 * c by omega, g _ (by omega)]; exact this.1
        · have he : e < (P.2.2.2.1 c).1 := he
          rw [show 0 + 26 + (10 + 17 * c + 1 + 2 * e) = 36 + 17 * c + 1 + 2 * e by omega, g _ (by omega)]; exact (this.2 e he).1
        · have he : e < (P.2.2.2.1 c).1 := he
          rw [show 0 + 26 + (10 + 17 * c + 2 + 2 * e) = 36 + 17 * c + 2 + 2 * e by omega, g _ (by omega)]; exact (this.2 e he).2
    · have hs : P.2.1 ≠ none := fun z => c108 (by rw [hE6]; exact (fI_n (hE.1.t300 hE.2)).mpr z)
      refine S_bipush (q := 113) (v := (-10)) hX dX12_read_111 bp_m10 rfl ?_
      refine S_aload_n (q := 114) hX dX12_read_113 rfl rfl ?_
      refine S_getf (fs := ?fs_4) (v := ?v_4) (q := 117) hX u_792 fo_X12_fault dX12_read_114 ?hs_4 ?hv_4 rfl ?_
      case hs_4 => with_reducible first | exact MM.c0 hM | exact MM.c1 hM | exact MM.c5 hM | exact MM.c6 hM | exact MM.c7 hM | exact MM.c3 hM | exact MM.c4 hM | exact MM.c8 hM | exact MM.c2 hM
      case hv_4 => rfl
      refine S_isub (q := 118) hX dX12_read_117 rfl ?_
      refine S_iret hX dX12_read_118 (Nat.zero_le _) (Nat.zero_le _) ?_
      refine hP _ _ _ ?_
      obtain ⟨p, hp⟩ : ∃ p, P.2.1 = some p := by
        cases hh : P.2.1 with
        | none => exact absurd hh hs
        | some p => exact ⟨p, rfl⟩
      have hsp : sp_read S = (-10 - nI p, S) := by unfold sp_read; rw [eR]; show (match P.2.1 with | some p => _ | none => _) = _; rw [hp]
      rw [hsp]
      refine ⟨_, hM, hF, by rw [hE6, hp]; rfl, ?_, rfl⟩
      have := hR.of (C := S.1) (μ' := μ100) ok (by rw [e100, m2_00, if_pos rfl]; rfl) (by rw [e100, m2_00, if_neg (by decide)]; exact (p7 1 (by omega)).trans n2) (fun j a b => (o100 j a).trans ((p6 j a b).trans (n1 j a b))) (fun i a b => by rw [o100 1 (by decide)]; exact (p8 i (by omega) (by omega) (by omega)).trans (n3 i b)) (hR.2.1.ext ok.1 (fun i a b => by rw [o100 1 (by decide)]; exact (p8 i (by omega) (by omega) (by omega)).trans (n3 i (by omega))))
      exact this
  have l72 : ∀ μN : MF, (∀ j, j ≠ 0 → j ≠ 1 → μN j = μ j) → μN 0 1 = μ 0 1 → (∀ i, i < 1359 → μN 1 i = μ 1 i) → (∀ i, 2 ≤ i → i < 26 → i ≠ 5 → μN 1 (1359 + i) = μ 1 i) → μN 1 (1359 + 5) = nI 0 → (∀ k, k < 10 → μN 1 (1359 + (26 + k)) = nI 0) → ∀ (fl k : Nat) (P : PsT) (σ : Sg) (μE : MF), (P.2.1 = none → T.1 < fl + P.1.2.2.2) → rdAll S = rdP T fl k P → PR μN μE T P → MM σ m μE → Fr m (m + 9) σ0 σ → G X Γ P1 0 0 72 [some (.ref m), some (.int (nI k))] [] σ sz := by
    intro μN n1 n2 n3 n4 n5 n6 fl
    induction fl with
      | zero =>
        intro k P σ μE hfu eR hE hM hF
        have c77F : ¬ μE 0 6 = -1 := fun z => by
          have z2 := hfu ((fI_n (hE.1.t300 hE.2)).mp (by rw [← hE.1.2.2.1]; exact z))
          have := hE.2.1.2.2.2
          omega
        refine S_aload_n (q := 73) hX dX12_read_72 rfl rfl ?_
        refine S_getf (fs := ?fs_5) (v := ?v_5) (q := 76) hX u_792 fo_X12_fault dX12_read_73 ?hs_5 ?hv_5 rfl ?_
        case hs_5 => with_reducible first | exact MM.c0 hM | exact MM.c1 hM | exact MM.c5 hM | exact MM.c6 hM | exact MM.c7 hM | exact MM.c3 hM | exact MM.c4 hM | exact MM.c8 hM | exact MM.c2 hM
        case hv_5 => rfl
        refine S_iconst (q := 77) (v := (-1)) hX dX12_read_76 ic_m1 rfl ?_
        refine S_icmp_ne (q := 80) 98 hX dX12_read_77 rfl rfl (fun c77 => ?_) (fun c77 => absurd c77 c77F)
        exact l98 μN n1 n2 n3 n4 n5 n6 k P _ μE eR hE hM hF
      | succ fl ih =>
        intro k P σ μE hfu eR hE hM hF
        rw [rdP] at eR
        refine S_aload_n (q := 73) hX dX12_read_72 rfl rfl ?_
        refine S_getf (fs := ?fs_6) (v := ?v_6) (q := 76) hX u_792 fo_X12_fault dX12_read_73 ?hs_6 ?hv_6 rfl ?_
        case hs_6 => with_reducible first | exact MM.c0 hM | exact MM.c1 hM | exact MM.c5 hM | exact MM.c6 hM | exact MM.c7 hM | exact MM.c3 hM | exact MM.c4 hM | exact MM.c8 hM | exact MM.c2 hM
        case hv_6 => rfl
        refine S_iconst (q := 77) (v := (-1)) hX dX12_read_76 ic_m1 rfl ?_
        refine S_icmp_ne (q := 80) 98 hX dX12_read_77 rfl rfl (fun c77 => ?_) (fun c77 => ?_)
        · have hs : ¬ P.2.1 = none := fun z => c77 (by rw [hE.1.2.2.1]; exact (fI_n (hE.1.t300 hE.2)).mpr z)
          exact l98 μN n1 n2 n3 n4 n5 n6 k P _ μE (by rw [eR, if_neg (fun z => hs z.1)]) hE hM hF
        · have hn : P.2.1 = none := by have := hE.1.2.2.1; rw [this] at c77; exact (fI_n (hE.1.t300 hE.2)).mp c77
          refine S_aload_n (q := 81) hX dX12_read_80 rfl rfl ?_
          refine S_getf (fs := ?fs_7) (v := ?v_7) (q := 84) hX u_790 fo_X12_sort dX12_read_81 ?hs_7 ?hv_7 rfl ?_
          case hs_7 => with_reducible first | exact MM.c0 hM | exact MM.c1 hM | exact MM.c5 hM | exact MM.c6 hM | exact MM.c7 hM | exact MM.c3 hM | exact MM.c4 hM | exact MM.c8 hM | exact MM.c2 hM
          case hv_7 => rfl
          refine S_iconst (q := 85) (v := 5) hX dX12_read_84 ic_5 rfl ?_
          refine S_icmp_eq (q := 88) 98 hX dX12_read_85 rfl rfl (fun c85 => ?_) (fun c85 => ?_)
          · have h5 : P.1.2.1 = 5 := nI_inj (by have := hE.2.1.2.1; omega) (by decide) (hE.1.2.1.2.1.symm.trans c85)
            exact l98 μN n1 n2 n3 n4 n5 n6 k P _ μE (by rw [eR, if_neg (fun z => z.2 h5)]) hE hM hF
          · have h5 : ¬ P.1.2.1 = 5 := fun z => c85 (by rw [hE.1.2.1.2.1, z]; rfl)
            refine S_aload_n (q := 89) hX dX12_read_88 rfl rfl ?_
            refine S_callV (ci := 12) (C := "FanTalkModel") (T := TX12) (N := 17) (q := 92) 0 0 hX (c_X12_readItem _ μE μN T P) rfl ?hs_8 rfl u_928 u_930 us_40 u_12 u_931 ⟨by decide, by decide, rfl⟩ ⟨Nat.le_of_ble_eq_true rfl, Nat.le_of_ble_eq_true rfl⟩ ⟨Nat.le_of_ble_eq_true rfl, Nat.le_of_ble_eq_true rfl⟩ (Nat.le_of_ble_eq_true rfl) dX12_read_89 ?hp_8 rfl rfl rfl ?_
            case hs_8 => first | with_reducible assumption | exact ⟨_, by with_reducible assumption⟩ | exact MM.isO hM
            case hp_8 => exact ⟨hM, hE⟩
            rintro v σ sz1 ⟨μ2, hM, hF1, rfl, hR2, rfl⟩
            have hF := hF.trans hF1
            refine S_iinc (q := 95) [_, _] hX dX12_read_92 rfl (ii_1 _) rfl (Nat.le_of_ble_eq_true rfl) rfl rfl ?_
            refine S_goto 72 hX dX12_read_95 rfl ?_
            have ho := itP_ok hb hE.2
            rw [nI_1]
            exact ih (k + 1) (itP T P) _ μ2 (fun q => by have := ho.2 q; have := hfu hn; omega) (by rw [eR, if_pos ⟨hn, h5⟩]) ⟨hR2, ho.1⟩ hM hF
  have l35 : ∀ (fl k : Nat) (σ : Sg) (μA : MF), k ≤ 10 → 10 - k < fl → μA 0 0 = nI 1359 → μA 0 1 = μ 0 1 → (∀ j, j ≠ 0 → j ≠ 1 → μA j = μ j) → (∀ i, i < 1359 → μA 1 i = μ 1 i) → (∀ i, 2 ≤ i → i < 26 → i ≠ 5 → μA 1 (1359 + i) = μ 1 i) → μA 1 (1359 + 0) = nI 0 → μA 1 (1359 + 1) = nI 0 → μA 1 (1359 + 5) = nI 0 → (∀ i, i < k → μA 1 (1359 + (26 + i)) = nI 0) → MM σ m μA → Fr m (m + 9) σ0 σ → G X Γ P1 0 0 35 [some (.ref m), some (.int (nI k))] [] σ sz := by
    intro fl
    induction fl with
      | zero => intro k σ μA h1 h2; omega
      | succ fl ih =>
        intro k σ μA hk hfu a0 a01 a1 a2 a3 a4 a5 a6 a7 hM hF
        refine S_iload_n (q := 36) hX dX12_read_35 rfl rfl ?_
        refine S_bipush (q := 38) (v := 10) hX dX12_read_36 bp_10 rfl ?_
        refine S_icmp_ge (q := 41) 56 hX dX12_read_38 rfl rfl (fun c38 => ?_) (fun c38 => ?_)
        · have hk10 : k = 10 := by rw [i10, nI_leI (by decide) (by omega)] at c38; omega
          refine S_aload_n (q := 57) hX dX12_read_56 rfl rfl ?_
          refine S_iconst (q := 58) (v := 0) hX dX12_read_57 ic_0 rfl ?_
          refine S_nm (fun x58 hx58 => ?_)
          refine S_putf (fs := ?fs_9) (q := 61) hX u_788 fo_X12_at rfl rfl ?hl_9 dX12_read_58 ?hs_9 rfl ?_
          case hs_9 => with_reducible first | exact MM.c0 hM | exact MM.c1 hM | exact MM.c5 hM | exact MM.c6 hM | exact MM.c7 hM | exact MM.c3 hM | exact MM.c4 hM | exact MM.c8 hM | exact MM.c2 hM
          case hl_9 => exact Nat.le_of_ble_eq_true rfl
          refine S_stu (q0 := m) (j := 0) (i := 2) hM hF (by decide) rfl (fun σ μ58 e58 hM hF => ?_)
          subst hx58
          refine S_aload_n (q := 62) hX dX12_read_61 rfl rfl ?_
          refine S_iconst (q := 63) (v := (-1)) hX dX12_read_62 ic_m1 rfl ?_
          refine S_nm (fun x63 hx63 => ?_)
          refine S_putf (fs := ?fs_10) (q := 66) hX u_792 fo_X12_fault rfl rfl ?hl_10 dX12_read_63 ?hs_10 rfl ?_
          case hs_10 => with_reducible first | exact MM.c0 hM | exact MM.c1 hM | exact MM.c5 hM | exact MM.c6 hM | exact MM.c7 hM | exact MM.c3 hM | exact MM.c4 hM | exact MM.c8 hM | exact MM.c2 hM
          case hl_10 => exact Nat.le_of_ble_eq_true rfl
          refine S_stu (q0 := m) (j := 0) (i := 6) hM hF (by decide) rfl (fun σ μ63 e63 hM hF => ?_)
          subst hx63
          refine S_iconst (q := 67) (v := 0) hX dX12_read_66 ic_0 rfl ?_
          refine S_istore_n (q := 68) [_, _] hX dX12_read_67 rfl (Nat.le_of_ble_eq_true rfl) rfl rfl ?_
          refine S_aload_n (q := 69) hX dX12_read_68 rfl rfl ?_
          refine S_callV (ci := 12) (C := "FanTalkModel") (T := TX12) (N := 17) (q := 72) 0 0 hX (c_X12_next _ μ63 T 0) rfl ?hs_11 rfl u_917 u_919 us_38 u_12 u_920 ⟨by decide, by decide, rfl⟩ ⟨Nat.le_of_ble_eq_true rfl, Nat.le_of_ble_eq_true rfl⟩ ⟨Nat.le_of_ble_eq_true rfl, Nat.le_of_ble_eq_true rfl⟩ (Nat.le_of_ble_eq_true rfl) dX12_read_69 ?hp_11 rfl rfl rfl ?_
          case hs_11 => first | with_reducible assumption | exact ⟨_, by with_reducible assumption⟩ | exact MM.isO hM
          case hp_11 => exact ⟨hM, hTx.scr (by rw [e63, m2_00, if_neg (by decide), e58, m2_00, if_neg (by decide)]; exact a01) (by rw [e63, m2_o (by decide), e58, m2_o (by decide)]; exact a1 4 (by decide) (by decide)), by rw [e63, m2_00, if_neg (by decide), e58, m2_00, if_pos rfl]; rfl, Nat.zero_le _⟩
          rintro v σ sz1 ⟨μN, hM, hF1, rfl, ⟨hpr, ht⟩, rfl⟩
          have hF := hF.trans hF1
          have o1 : ∀ j, j ≠ 0 → μN j = μA j := fun j hj => by rw [hpr.1 j hj, e63, m2_o hj, e58, m2_o hj]
          have o0 : ∀ i, i < 2 → μN 0 i = μA 0 i := fun i hi => by rw [hpr.2 i (by omega), e63, m2_00, if_neg (by omega), e58, m2_00, if_neg (by omega)]
          have o11 : ∀ i, μN 1 i = μA 1 i := fun i => by rw [o1 1 (by decide)]
          refine l72 μN (fun j a b => (o1 j a).trans (a1 j a b)) ((o0 1 (by decide)).trans a01) (fun i hi => (o11 i).trans (a2 i hi)) (fun i x y z => (o11 _).trans (a3 i x y z)) ((o11 _).trans a6) (fun i hi => (o11 _).trans (a7 i (by omega))) (T.1 + 1) 0 (tk T 0, none, 0, S.1.1.2.1, 0) _ μN (fun _ => by omega) (by rw [eT]; rfl) ⟨⟨⟨(o0 0 (by decide)).trans a0, hTx.scr ((o0 1 (by decide)).trans a01) ((o1 4 (by decide)).trans (a1 4 (by decide) (by decide)))⟩, ht, ?_, (o11 _).trans a4, (o11 _).trans a5, fun c hc => absurd hc (Nat.not_lt_zero _), fun _ _ _ => rfl, fun _ _ => rfl, fun _ _ _ _ => rfl⟩, (tk_ok hb (Nat.zero_le _)).1, fun p hp => (nomatch hp), Nat.zero_le _, fun c hc => absurd hc (Nat.not_lt_zero _), Nat.zero_le _, fun _ => Nat.zero_lt_succ 63⟩ hM hF
          rw [hpr.2 6 (by omega), e63, m2_00, if_pos rfl]
          rfl
        · have hk10 : k < 10 := by rw [i10, nI_leI (by decide) (by omega)] at c38; omega
          refine S_aload_n (q := 42) hX dX12_read_41 rfl rfl ?_
          refine S_bipush (q := 44) (v := 26) hX dX12_read_42 bp_26 rfl ?_
          refine S_iload_n (q := 45) hX dX12_read_44 rfl rfl ?_
          refine S_iadd (q := 46) hX dX12_read_45 rfl ?_
          refine S_iconst (q := 47) (v := 0) hX dX12_read_46 ic_0 rfl ?_
          refine S_callV (ci := 12) (C := "FanTalkModel") (T := TX12) (N := 17) (q := 50) 0 0 hX (c_X12_set _ μA _ _ 1359 (26 + k) (by first | rfl | (simp only [i0, i1, i2, i3, i4, i5, i6, i7, i8, i9, i10, i11, i12, i17, i20, i24, i26, i27, i31, i32, i36, i48, i57, i59, i60, i61, i63, i64, i87, i96, i97, i99, i122, i148, i250, i255, i305, i453, i999, i1359, i1812, pk_mul, nI_add]; done) | (simp only [i0, i1, i2, i3, i4, i5, i6, i7, i8, i9, i10, i11, i12, i17, i20, i24, i26, i27, i31, i32, i36, i48, i57, i59, i60, i61, i63, i64, i87, i96, i97, i99, i122, i148, i250, i255, i305, i453, i999, i1359, i1812, pk_mul, nI_add]; congr 1; omega))) rfl ?hs_12 rfl u_846 u_848 us_28 u_12 u_849 ⟨by decide, by decide, rfl⟩ ⟨Nat.le_of_ble_eq_true rfl, Nat.le_of_ble_eq_true rfl⟩ ⟨Nat.le_of_ble_eq_true rfl, Nat.le_of_ble_eq_true rfl⟩ (Nat.le_of_ble_eq_true rfl) dX12_read_47 ?hp_12 rfl rfl rfl ?_
          case hs_12 => first | with_reducible assumption | exact ⟨_, by with_reducible assumption⟩ | exact MM.isO hM
          case hp_12 => exact ⟨hM, a0, by omega⟩
          rintro v σ sz1 ⟨μ2, hM, hF1, rfl, e2, rfl⟩
          have hF := hF.trans hF1
          refine S_iinc (q := 53) [_, _] hX dX12_read_50 rfl (ii_1 _) rfl (Nat.le_of_ble_eq_true rfl) rfl rfl ?_
          refine S_goto 35 hX dX12_read_53 rfl ?_
          rw [nI_1]
          exact ih (k + 1) _ μ2 (by omega) (by omega) (by rw [e2, m2_o (by decide)]; exact a0) (by rw [e2, m2_o (by decide)]; exact a01) (fun j a b => by rw [e2, m2_o b]; exact a1 j a b) (fun i hi => by rw [e2, m2_n (by omega)]; exact a2 i hi) (fun i x y z => by rw [e2, m2_n (by omega)]; exact a3 i x y z) (by rw [e2, m2_n (by omega)]; exact a4) (by rw [e2, m2_n (by omega)]; exact a5) (by rw [e2, m2_n (by omega)]; exact a6) (fun i hi => by
            by_cases hik : i = k
            · rw [e2, hik, m2_y]; rfl
            · rw [e2, m2_n (by omega)]; exact a7 i (by omega)) hM hF
  refine S_aload_n (q := 1) hX dX12_read_0 rfl rfl ?_
  refine S_iconst (q := 2) (v := 0) hX dX12_read_1 ic_0 rfl ?_
  refine S_sipush (q := 5) (v := 1359) hX dX12_read_2 sp_1359 rfl ?_
  refine S_callV (ci := 12) (C := "FanTalkModel") (T := TX12) (N := 17) (q := 8) 0 0 hX (c_X12_copy _ μ _ _ 0 1359 rfl rfl) rfl ?hs_13 rfl u_913 u_915 us_37 u_12 u_916 ⟨by decide, by decide, rfl⟩ ⟨Nat.le_of_ble_eq_true rfl, Nat.le_of_ble_eq_true rfl⟩ ⟨Nat.le_of_ble_eq_true rfl, Nat.le_of_ble_eq_true rfl⟩ (Nat.le_of_ble_eq_true rfl) dX12_read_5 ?hp_13 rfl rfl rfl ?_
  case hs_13 => first | with_reducible assumption | exact ⟨_, by with_reducible assumption⟩ | exact MM.isO hM
  case hp_13 => exact ⟨hM, by decide, by decide, by decide⟩
  rintro v σ sz1 ⟨μ1, hM, hF1, rfl, e1, rfl⟩
  have hF := hF.trans hF1
  refine S_aload_n (q := 9) hX dX12_read_8 rfl rfl ?_
  refine S_sipush (q := 12) (v := 1359) hX dX12_read_9 sp_1359 rfl ?_
  refine S_nm (fun x12 hx12 => ?_)
  refine S_putf (fs := ?fs_14) (q := 15) hX u_783 fo_X12_base rfl rfl ?hl_14 dX12_read_12 ?hs_14 rfl ?_
  case hs_14 => with_reducible first | exact MM.c0 hM | exact MM.c1 hM | exact MM.c5 hM | exact MM.c6 hM | exact MM.c7 hM | exact MM.c3 hM | exact MM.c4 hM | exact MM.c8 hM | exact MM.c2 hM
  case hl_14 => exact Nat.le_of_ble_eq_true rfl
  refine S_stu (q0 := m) (j := 0) (i := 0) hM hF (by decide) rfl (fun σ μ12 e12 hM hF => ?_)
  subst hx12
  have hb12 : μ12 0 0 = nI 1359 := by rw [e12, m2_00, if_pos rfl]; rfl
  refine S_aload_n (q := 16) hX dX12_read_15 rfl rfl ?_
  refine S_iconst (q := 17) (v := 0) hX dX12_read_16 ic_0 rfl ?_
  refine S_iconst (q := 18) (v := 0) hX dX12_read_17 ic_0 rfl ?_
  refine S_callV (ci := 12) (C := "FanTalkModel") (T := TX12) (N := 17) (q := 21) 0 0 hX (c_X12_set _ μ12 _ _ 1359 0 rfl) rfl ?hs_15 rfl u_846 u_848 us_28 u_12 u_849 ⟨by decide, by decide, rfl⟩ ⟨Nat.le_of_ble_eq_true rfl, Nat.le_of_ble_eq_true rfl⟩ ⟨Nat.le_of_ble_eq_true rfl, Nat.le_of_ble_eq_true rfl⟩ (Nat.le_of_ble_eq_true rfl) dX12_read_18 ?hp_15 rfl rfl rfl ?_
  case hs_15 => first | with_reducible assumption | exact ⟨_, by with_reducible assumption⟩ | exact MM.isO hM
  case hp_15 => exact ⟨hM, hb12, by decide⟩
  rintro v σ sz1 ⟨μ2, hM, hF1, rfl, e2, rfl⟩
  have hF := hF.trans hF1
  refine S_aload_n (q := 22) hX dX12_read_21 rfl rfl ?_
  refine S_iconst (q := 23) (v := 1) hX dX12_read_22 ic_1 rfl ?_
  refine S_iconst (q := 24) (v := 0) hX dX12_read_23 ic_0 rfl ?_
  refine S_callV (ci := 12) (C := "FanTalkModel") (T := TX12) (N := 17) (q := 27) 0 0 hX (c_X12_set _ μ2 _ _ 1359 1 rfl) rfl ?hs_16 rfl u_846 u_848 us_28 u_12 u_849 ⟨by decide, by decide, rfl⟩ ⟨Nat.le_of_ble_eq_true rfl, Nat.le_of_ble_eq_true rfl⟩ ⟨Nat.le_of_ble_eq_true rfl, Nat.le_of_ble_eq_true rfl⟩ (Nat.le_of_ble_eq_true rfl) dX12_read_24 ?hp_16 rfl rfl rfl ?_
  case hs_16 => first | with_reducible assumption | exact ⟨_, by with_reducible assumption⟩ | exact MM.isO hM
  case hp_16 => exact ⟨hM, (by rw [e2, m2_o (by decide)]; exact hb12), by decide⟩
  rintro v σ sz1 ⟨μ3, hM, hF1, rfl, e3, rfl⟩
  have hF := hF.trans hF1
  refine S_aload_n (q := 28) hX dX12_read_27 rfl rfl ?_
  refine S_iconst (q := 29) (v := 5) hX dX12_read_28 ic_5 rfl ?_
  refine S_iconst (q := 30) (v := 0) hX dX12_read_29 ic_0 rfl ?_
  refine S_callV (ci := 12) (C := "FanTalkModel") (T := TX12) (N := 17) (q := 33) 0 0 hX (c_X12_set _ μ3 _ _ 1359 5 rfl) rfl ?hs_17 rfl u_846 u_848 us_28 u_12 u_849 ⟨by decide, by decide, rfl⟩ ⟨Nat.le_of_ble_eq_true rfl, Nat.le_of_ble_eq_true rfl⟩ ⟨Nat.le_of_ble_eq_true rfl, Nat.le_of_ble_eq_true rfl⟩ (Nat.le_of_ble_eq_true rfl) dX12_read_30 ?hp_17 rfl rfl rfl ?_
  case hs_17 => first | with_reducible assumption | exact ⟨_, by with_reducible assumption⟩ | exact MM.isO hM
  case hp_17 => exact ⟨hM, (by rw [e3, m2_o (by decide), e2, m2_o (by decide)]; exact hb12), by decide⟩
  rintro v σ sz1 ⟨μ4, hM, hF1, rfl, e4, rfl⟩
  have hF := hF.trans hF1
  refine S_iconst (q := 34) (v := 0) hX dX12_read_33 ic_0 rfl ?_
  refine S_istore_n (q := 35) [_, _] hX dX12_read_34 rfl (Nat.le_of_ble_eq_true rfl) rfl rfl ?_
  have o0 : ∀ j, j ≠ 1 → μ4 j = μ12 j := fun j hj => by rw [e4, m2_o hj, e3, m2_o hj, e2, m2_o hj]
  have g : ∀ i, i ≠ 1359 + 0 → i ≠ 1359 + 1 → i ≠ 1359 + 5 → μ4 1 i = μ1 1 i := fun i a b c => by rw [e4, m2_n c, e3, m2_n b, e2, m2_n a, e12, m2_o (by decide)]
  refine l35 11 0 _ μ4 (by decide) (by decide) ((congrFun (o0 0 (by decide)) 0).trans hb12) (by rw [o0 0 (by decide), e12, m2_00, if_neg (by decide), e1.1 0 (by decide)]) (fun j a b => by rw [o0 j b, e12, m2_o a]; exact e1.1 j b) (fun i hi => by rw [g i (by omega) (by omega) (by omega), e1.2 i, if_neg (by omega)]) (fun i a b c => by rw [g _ (by omega) (by omega) (by omega), e1.2 _, if_pos (by omega), show 0 + (1359 + i - 1359) = i by omega]) (by rw [e4, m2_n (by decide), e3, m2_n (by decide), e2, m2_y]; rfl) (by rw [e4, m2_n (by decide), e3, m2_y]; rfl) (by rw [e4, m2_y]; rfl) (fun i hi => absurd hi (Nat.not_lt_zero _)) hM hF
