/-! the reference: an entry, an item -/
theorem PsM.n3 {μ0 μ : MF} {T : TxT} {P : PsT} (h : PsM μ0 μ T P) : μ 0 0 = nI 1359 := h.1.1
/-- what a number is held to be -/
theorem nuB_bi {P : PsT} {n : Nat} {lo hi : Int32} (hl : lo.toInt = 0) (hh : hi.toInt = (n : Int) - 1) (h99 : P.1.2.2.1 ≤ 99) : bi (P.1.2.1 = 3 ∧ lo.toInt ≤ (nI P.1.2.2.1).toInt ∧ (nI P.1.2.2.1).toInt ≤ hi.toInt) = bi (nuB P n = true) := by
  refine bi_congr ?_
  show _ ↔ (P.1.2.1 == 3 && decide (P.1.2.2.1 < n)) = true
  rw [Bool.and_eq_true, beq_iff_eq, decide_eq_true_eq, hl, hh, nI_toInt (by omega)]
  omega
theorem PsM.add {μ0 μ : MF} {T : TxT} {P : PsT} {c r w : Nat} (h : PsM μ0 μ T P) (h3 : P.2.2.1 ≤ 3) (hc : c < P.2.2.1) (h8 : (P.2.2.2.1 c).1 < 8) (hok : ∀ k, k < P.2.2.1 → (P.2.2.2.1 k).1 ≤ 8) : PsM μ0 (addE μ 1359 c (P.2.2.2.1 c).1 (nI w) (nI r)) T (P.1, P.2.1, P.2.2.1, fu P.2.2.2.1 c (addC (P.2.2.2.1 c) r w), P.2.2.2.2) := by
  obtain ⟨⟨h0, hT⟩, h1, h2, h3', h4, h5, h6, h7, h8'⟩ := h
  obtain ⟨E, eE⟩ : ∃ z, z = (P.2.2.2.1 c).1 := ⟨_, rfl⟩
  have g : ∀ i, i ≠ 1359 + (36 + 17 * c) → i ≠ 1359 + (36 + 17 * c + 1 + 2 * E) → i ≠ 1359 + (36 + 17 * c + 2 + 2 * E) → addE μ 1359 c E (nI w) (nI r) 1 i = μ 1 i := fun i a1 a2 a3 => addE_n a1 a2 a3
  rw [← eE] at h8 ⊢
  refine ⟨⟨by rw [addE_o (by decide)]; exact h0, hT.scr (by rw [addE_o (by decide)]) (addE_o (by decide))⟩, ⟨by rw [addE_o (by decide)]; exact h1.1, by rw [addE_o (by decide)]; exact h1.2.1, by rw [addE_o (by decide)]; exact h1.2.2.1, by rw [addE_o (by decide)]; exact h1.2.2.2⟩, by rw [addE_o (by decide)]; exact h2, (g _ (by omega) (by omega) (by omega)).trans h3', (g _ (by omega) (by omega) (by omega)).trans h4, fun k hk => ?_, fun j a b => (addE_o b).trans (h6 j a b), fun i hi => by rw [addE_o (by decide)]; exact h7 i hi, fun i a b c => (g i (by omega) (by omega) (by omega)).trans (h8' i a b c)⟩
  show MCode _ 1359 k (fu P.2.2.2.1 c (addC (P.2.2.2.1 c) r w) k)
  by_cases hkc : k = c
  · subst hkc
    rw [fu_eq]
    refine ⟨by rw [addE_c, eE]; rfl, fun e he => ?_⟩
    have he : e < (P.2.2.2.1 k).1 + 1 := he
    show _ = nI (fu (P.2.2.2.1 k).2 (P.2.2.2.1 k).1 (r, w) e).1 ∧ _ = nI (fu (P.2.2.2.1 k).2 (P.2.2.2.1 k).1 (r, w) e).2
    by_cases hee : e = E
    · rw [hee, ← eE, fu_eq]
      exact ⟨addE_r _ _ _ _ _ _, addE_w _ _ _ _ _ _⟩
    · rw [← eE, fu_ne hee]
      have := (h5 k hc).2 e (by omega)
      exact ⟨(g _ (by omega) (by omega) (by omega)).trans this.1, (g _ (by omega) (by omega) (by omega)).trans this.2⟩
  · rw [fu_ne hkc]
    have h9 := hok k hk
    have := h5 k hk
    refine ⟨(g _ (by omega) (by omega) (by omega)).trans this.1, fun e he => ⟨(g _ (by omega) (by omega) (by omega)).trans (this.2 e he).1, (g _ (by omega) (by omega) (by omega)).trans (this.2 e he).2⟩⟩

theorem c_X12_readEntry (m : Nat) (μ : MF) (μ0 : MF) (T : TxT) (P : PsT) : CT_X12_readEntry [.ref m] (fun Γ σ sz => MM σ m μ ∧ PR μ0 μ T P) (fun Γ σ sz v σ' sz' => ∃ μ', MM σ' m μ' ∧ Fr m (m + 9) σ σ' ∧ v = none ∧ PsM μ0 μ' T (enP T P) ∧ sz' = sz) := by
  refine CT.mkP rfl (Nat.le_of_ble_eq_true rfl) [_, _, _, _, _] rfl ?_
  intro X Γ σ sz P1 hX hpre hsz hP
  obtain ⟨hM, hR⟩ := hpre
  have hF : Fr m (m + 9) σ σ := Fr.rf
  obtain ⟨σ0, eσ0⟩ : ∃ z, z = σ := ⟨σ, rfl⟩
  rw [← eσ0] at hP
  have hF : Fr m (m + 9) σ0 σ := by rw [eσ0]; exact Fr.rf
  have hb := hR.1.1.2.by
  have h250 := hR.1.1.2.2.1
  obtain ⟨PF, ePF⟩ : ∃ z, z = enP T P := ⟨_, rfl⟩
  rw [← ePF] at hP
  have l148 : ∀ (c ww r : Nat) (x4 : Option Value) (P : PsT) (σ : Sg) (μ : MF), (P.2.1 = none → c < P.2.2.1 ∧ (P.2.2.2.1 c).1 < 8 ∧ ww < 10 ∧ 1 ≤ ln r ∧ ln r ≤ 3) → PF = (if P.2.1 = none then (P.1, none, P.2.2.1, fu P.2.2.2.1 c (addC (P.2.2.2.1 c) r ww), P.2.2.2.2) else P) → PR μ0 μ T P → MM σ m μ → Fr m (m + 9) σ0 σ → G X Γ P1 0 0 148 [some (.ref m), some (.int (nI c)), some (.int (nI ww)), some (.int (nI r)), x4] [] σ sz := by
    intro c ww r x4 P σ μ hold eP hR hM hF
    refine S_aload_n (q := 149) hX dX12_readEntry_148 rfl rfl ?_
    refine S_getf (fs := ?fs_1) (v := ?v_1) (q := 152) hX u_792 fo_X12_fault dX12_readEntry_149 ?hs_1 ?hv_1 rfl ?_
    case hs_1 => with_reducible first | exact MM.c0 hM | exact MM.c1 hM | exact MM.c5 hM | exact MM.c6 hM | exact MM.c7 hM | exact MM.c3 hM | exact MM.c4 hM | exact MM.c8 hM | exact MM.c2 hM
    case hv_1 => rfl
    refine S_iconst (q := 153) (v := (-1)) hX dX12_readEntry_152 ic_m1 rfl ?_
    refine S_icmp_ne (q := 156) 163 hX dX12_readEntry_153 rfl rfl (fun c153 => ?_) (fun c153 => ?_)
    · have hs : ¬ P.2.1 = none := fun z => c153 (by rw [hR.1.2.2.1]; exact (fI_n (hR.1.t300 hR.2)).mpr z)
      refine S_vret hX dX12_readEntry_163 (Nat.zero_le _) (Nat.zero_le _) ?_
      refine hP _ _ _ ?_
      exact ⟨_, hM, hF, rfl, by rw [eP, if_neg hs]; exact hR.1, rfl⟩
    · have hn : P.2.1 = none := by rw [hR.1.2.2.1] at c153; exact (fI_n (hR.1.t300 hR.2)).mp c153
      have hh := hold hn
      refine S_aload_n (q := 157) hX dX12_readEntry_156 rfl rfl ?_
      refine S_iload_n (q := 158) hX dX12_readEntry_157 rfl rfl ?_
      refine S_iload_n (q := 159) hX dX12_readEntry_158 rfl rfl ?_
      refine S_iload_n (q := 160) hX dX12_readEntry_159 rfl rfl ?_
      refine S_callV (ci := 12) (C := "FanTalkModel") (T := TX12) (N := 17) (q := 163) 0 0 hX (c_X12_addEntry _ μ _ _ _ 1359 c (P.2.2.2.1 c).1 rfl) rfl ?hs_2 rfl u_884 u_886 us_35 u_12 u_887 ⟨by decide, by decide, rfl⟩ ⟨Nat.le_of_ble_eq_true rfl, Nat.le_of_ble_eq_true rfl⟩ ⟨Nat.le_of_ble_eq_true rfl, Nat.le_of_ble_eq_true rfl⟩ (Nat.le_of_ble_eq_true rfl) dX12_readEntry_160 ?hp_2 rfl rfl rfl ?_
      case hs_2 => first | with_reducible assumption | exact ⟨_, by with_reducible assumption⟩ | exact MM.isO hM
      case hp_2 => exact ⟨hM, hR.1.1.1, by have := hR.2.2.2.1; omega, (hR.1.2.2.2.2.2.1 c hh.1).1⟩
      rintro v σ sz1 ⟨μ1, hM, hF1, rfl, e1, rfl⟩
      have hF := hF.trans hF1
      refine S_vret hX dX12_readEntry_163 (Nat.zero_le _) (Nat.zero_le _) ?_
      refine hP _ _ _ ?_
      rw [eP, if_pos hn]
      have := hR.1.add (c := c) (r := r) (w := ww) hR.2.2.2.1 hh.1 hh.2.1 (fun k hk => (hR.2.2.2.2.1 k hk).1)
      rw [hn] at this
      exact ⟨_, hM, hF, rfl, by rw [e1]; exact this, rfl⟩
  have l113 : ∀ (c ww r : Nat) (x4 : Option Value) (P : PsT) (σ : Sg) (μ : MF), (P.2.1 = none → c < P.2.2.1 ∧ (P.2.2.2.1 c).1 < 8 ∧ ww < 10 ∧ 1 ≤ ln r ∧ ln r ≤ 3) → r < 2147483648 → PF = enP3 T c ww r P → PR μ0 μ T P → MM σ m μ → Fr m (m + 9) σ0 σ → G X Γ P1 0 0 113 [some (.ref m), some (.int (nI c)), some (.int (nI ww)), some (.int (nI r)), x4] [] σ sz := by
    intro c ww r x4 P σ μ hold hr eP hR hM hF
    unfold enP3 at eP
    obtain ⟨b, eb⟩ : ∃ z, z = (P.1.2.1 == 4 && ! hasN (P.2.2.2.1 c) r (P.2.2.2.1 c).1) := ⟨_, rfl⟩
    rw [← eb] at eP
    have go144 : P.2.1 = none → ∀ (y : Int32), y = bi (b = true) → G X Γ P1 0 0 144 [some (.ref m), some (.int (nI c)), some (.int (nI ww)), some (.int (nI r)), x4] [.int y, .ref m] σ sz := by
      intro hn y hy
      refine S_callV (ci := 12) (C := "FanTalkModel") (T := TX12) (N := 17) (q := 147) 0 0 hX (c_X12_due _ μ μ0 _ (b) T (P) hy) rfl ?hs_3 rfl u_932 u_934 us_41 u_12 u_935 ⟨by decide, by decide, rfl⟩ ⟨Nat.le_of_ble_eq_true rfl, Nat.le_of_ble_eq_true rfl⟩ ⟨Nat.le_of_ble_eq_true rfl, Nat.le_of_ble_eq_true rfl⟩ (Nat.le_of_ble_eq_true rfl) dX12_readEntry_144 ?hp_3 rfl rfl rfl ?_
      case hs_3 => first | with_reducible assumption | exact ⟨_, by with_reducible assumption⟩ | exact MM.isO hM
      case hp_3 => exact ⟨hM, hR⟩
      rintro v σ sz1 ⟨μ1, hM, hF1, rfl, hR1, rfl⟩
      have hF := hF.trans hF1
      refine S_pop (q := 148) hX dX12_readEntry_147 rfl rfl ?_
      have d22 := duP_22 T b P
      exact l148 c ww r x4 _ _ _ (fun q => by rw [d22]; exact hold hn) (by rw [eP, if_pos hn, d22]) hR1 hM hF
    refine S_aload_n (q := 114) hX dX12_readEntry_113 rfl rfl ?_
    refine S_getf (fs := ?fs_4) (v := ?v_4) (q := 117) hX u_792 fo_X12_fault dX12_readEntry_114 ?hs_4 ?hv_4 rfl ?_
    case hs_4 => with_reducible first | exact MM.c0 hM | exact MM.c1 hM | exact MM.c5 hM | exact MM.c6 hM | exact MM.c7 hM | exact MM.c3 hM | exact MM.c4 hM | exact MM.c8 hM | exact MM.c2 hM
    case hv_4 => rfl
    refine S_iconst (q := 118) (v := (-1)) hX dX12_readEntry_117 ic_m1 rfl ?_
    refine S_icmp_ne (q := 121) 148 hX dX12_readEntry_118 rfl rfl (fun c118 => ?_) (fun c118 => ?_)
    · have hs : ¬ P.2.1 = none := fun z => c118 (by rw [hR.1.2.2.1]; exact (fI_n (hR.1.t300 hR.2)).mpr z)
      exact l148 c ww r x4 P _ _ hold (by rw [eP, if_neg hs, if_neg hs]) hR hM hF
    · have hn : P.2.1 = none := by rw [hR.1.2.2.1] at c118; exact (fI_n (hR.1.t300 hR.2)).mp c118
      have hh := hold hn
      refine S_aload_n (q := 122) hX dX12_readEntry_121 rfl rfl ?_
      refine S_aload_n (q := 123) hX dX12_readEntry_122 rfl rfl ?_
      refine S_getf (fs := ?fs_5) (v := ?v_5) (q := 126) hX u_790 fo_X12_sort dX12_readEntry_123 ?hs_5 ?hv_5 rfl ?_
      case hs_5 => with_reducible first | exact MM.c0 hM | exact MM.c1 hM | exact MM.c5 hM | exact MM.c6 hM | exact MM.c7 hM | exact MM.c3 hM | exact MM.c4 hM | exact MM.c8 hM | exact MM.c2 hM
      case hv_5 => rfl
      refine S_iconst (q := 127) (v := 4) hX dX12_readEntry_126 ic_4 rfl ?_
      refine S_icmp_ne (q := 130) 143 hX dX12_readEntry_127 rfl rfl (fun c127 => ?_) (fun c127 => ?_)
      · have hs4 : ¬ P.1.2.1 = 4 := fun z => c127 (by rw [hR.1.2.1.2.1, z]; rfl)
        refine S_iconst (q := 144) (v := 0) hX dX12_readEntry_143 ic_0 rfl ?_
        refine go144 hn _ (bi_f ?_).symm
        rw [eb, Bool.and_eq_true, beq_iff_eq]
        exact fun z => hs4 z.1
      · have hs4 : P.1.2.1 = 4 := nI_inj (by have := hR.2.1.2.1; omega) (by decide) (hR.1.2.1.2.1.symm.trans c127)
        refine S_aload_n (q := 131) hX dX12_readEntry_130 rfl rfl ?_
        refine S_iload_n (q := 132) hX dX12_readEntry_131 rfl rfl ?_
        refine S_iload_n (q := 133) hX dX12_readEntry_132 rfl rfl ?_
        refine S_callV (ci := 12) (C := "FanTalkModel") (T := TX12) (N := 17) (q := 136) 0 0 hX (c_X12_hasRow _ μ _ _ 1359 c r (P.2.2.2.1 c) rfl rfl) rfl ?hs_6 rfl u_868 u_870 us_31 u_12 u_871 ⟨by decide, by decide, rfl⟩ ⟨Nat.le_of_ble_eq_true rfl, Nat.le_of_ble_eq_true rfl⟩ ⟨Nat.le_of_ble_eq_true rfl, Nat.le_of_ble_eq_true rfl⟩ (Nat.le_of_ble_eq_true rfl) dX12_readEntry_133 ?hp_6 rfl rfl rfl ?_
        case hs_6 => first | with_reducible assumption | exact ⟨_, by with_reducible assumption⟩ | exact MM.isO hM
        case hp_6 => exact ⟨hM, hR.1.1.1, by have := hR.2.2.2.1; omega, hR.1.2.2.2.2.2.1 c hh.1, hR.2.2.2.2.1 c hh.1, hr⟩
        rintro v σ1 sz1 ⟨rfl, rfl, rfl⟩
        refine S_if_ne_b (q := 139) 143 hX dX12_readEntry_136 rfl rfl (fun c136 => ?_) (fun c136 => ?_)
        · refine S_iconst (q := 144) (v := 0) hX dX12_readEntry_143 ic_0 rfl ?_
          refine go144 hn _ (bi_f ?_).symm
          rw [eb, Bool.and_eq_true, beq_iff_eq]
          intro z
          have z2 : (! hasN (P.2.2.2.1 c) r (P.2.2.2.1 c).1) = true := z.2
          rw [show hasN (P.2.2.2.1 c) r (P.2.2.2.1 c).1 = true from c136] at z2
          exact absurd z2 (by decide)
        · refine S_iconst (q := 140) (v := 1) hX dX12_readEntry_139 ic_1 rfl ?_
          refine S_goto 144 hX dX12_readEntry_140 rfl ?_
          refine go144 hn _ (bi_t ?_).symm
          rw [eb, Bool.and_eq_true, beq_iff_eq]
          exact ⟨hs4, by rw [show hasN (P.2.2.2.1 c) r (P.2.2.2.1 c).1 = false from by simpa using c136]; rfl⟩
  have l68 : ∀ (j c ww r : Nat) (P : PsT) (σ : Sg) (μ : MF), j ≤ 2 → (P.2.1 = none → c < P.2.2.1 ∧ (P.2.2.2.1 c).1 < 8 ∧ ww < 10 ∧ ln r + j = 3) → r < 2147483648 → PF = enP3 T c ww (rwP T j (r, P)).1 (rwP T j (r, P)).2 → PR μ0 μ T P → MM σ m μ → Fr m (m + 9) σ0 σ → G X Γ P1 0 0 68 [some (.ref m), some (.int (nI c)), some (.int (nI ww)), some (.int (nI r)), some (.int (nI (3 - j)))] [] σ sz := by
    intro j
    induction j with
      | zero =>
        intro c ww r P σ μ hj hold hr eP hR hM hF
        refine S_iload (q := 70) hX dX12_readEntry_68 rfl rfl ?_
        refine S_iconst (q := 71) (v := 3) hX dX12_readEntry_70 ic_3 rfl ?_
        refine S_icmp_ge (q := 74) 113 hX dX12_readEntry_71 rfl rfl (fun c71 => ?_) (fun c71 => absurd (by decide) c71)
        exact l113 c ww r _ P _ _ (fun q => by have := hold q; exact ⟨this.1, this.2.1, this.2.2.1, by omega, by omega⟩) hr eP hR hM hF
      | succ j ih =>
        intro c ww r P σ μ hj hold hr eP hR hM hF
        rw [rwP] at eP
        have c71F : ¬ nI 3 ≤ nI (3 - (j + 1)) := by rw [nI_leI (by decide) (by omega)]; omega
        refine S_iload (q := 70) hX dX12_readEntry_68 rfl rfl ?_
        refine S_iconst (q := 71) (v := 3) hX dX12_readEntry_70 ic_3 rfl ?_
        refine S_icmp_ge (q := 74) 113 hX dX12_readEntry_71 rfl rfl (fun c71 => absurd c71 c71F) (fun c71 => ?_)
        refine S_aload_n (q := 75) hX dX12_readEntry_74 rfl rfl ?_
        refine S_getf (fs := ?fs_7) (v := ?v_7) (q := 78) hX u_792 fo_X12_fault dX12_readEntry_75 ?hs_7 ?hv_7 rfl ?_
        case hs_7 => with_reducible first | exact MM.c0 hM | exact MM.c1 hM | exact MM.c5 hM | exact MM.c6 hM | exact MM.c7 hM | exact MM.c3 hM | exact MM.c4 hM | exact MM.c8 hM | exact MM.c2 hM
        case hv_7 => rfl
        refine S_iconst (q := 79) (v := (-1)) hX dX12_readEntry_78 ic_m1 rfl ?_
        refine S_icmp_ne (q := 82) 113 hX dX12_readEntry_79 rfl rfl (fun c79 => ?_) (fun c79 => ?_)
        · have hs : ¬ P.2.1 = none := fun z => c79 (by rw [hR.1.2.2.1]; exact (fI_n (hR.1.t300 hR.2)).mpr z)
          exact l113 c ww r _ P _ _ (fun q => by have := hold q; exact ⟨this.1, this.2.1, this.2.2.1, by omega, by omega⟩) hr (by rw [eP, if_neg (fun z => hs z.1)]) hR hM hF
        · have hn : P.2.1 = none := by rw [hR.1.2.2.1] at c79; exact (fI_n (hR.1.t300 hR.2)).mp c79
          have hh := hold hn
          have hl := ln_lt (r := r) (by omega)
          have h99 := hR.2.1.2.2.1
          refine S_aload_n (q := 83) hX dX12_readEntry_82 rfl rfl ?_
          refine S_getf (fs := ?fs_8) (v := ?v_8) (q := 86) hX u_790 fo_X12_sort dX12_readEntry_83 ?hs_8 ?hv_8 rfl ?_
          case hs_8 => with_reducible first | exact MM.c0 hM | exact MM.c1 hM | exact MM.c5 hM | exact MM.c6 hM | exact MM.c7 hM | exact MM.c3 hM | exact MM.c4 hM | exact MM.c8 hM | exact MM.c2 hM
          case hv_8 => rfl
          refine S_iconst (q := 87) (v := 3) hX dX12_readEntry_86 ic_3 rfl ?_
          refine S_icmp_ne (q := 90) 113 hX dX12_readEntry_87 rfl rfl (fun c87 => ?_) (fun c87 => ?_)
          · have hs : ¬ P.1.2.1 = 3 := fun z => c87 (by rw [hR.1.2.1.2.1, z]; rfl)
            exact l113 c ww r _ P _ _ (fun q => by have := hold q; exact ⟨this.1, this.2.1, this.2.2.1, by omega, by omega⟩) hr (by rw [eP, if_neg (fun z => hs z.2)]) hR hM hF
          · have hs3 : P.1.2.1 = 3 := nI_inj (by have := hR.2.1.2.1; omega) (by decide) (hR.1.2.1.2.1.symm.trans c87)
            refine S_bipush (q := 92) (v := 12) hX dX12_readEntry_90 bp_12 rfl ?_
            refine S_iload_n (q := 93) hX dX12_readEntry_92 rfl rfl ?_
            refine S_imul (q := 94) hX dX12_readEntry_93 rfl ?_
            refine S_aload_n (q := 95) hX dX12_readEntry_94 rfl rfl ?_
            refine S_aload_n (q := 96) hX dX12_readEntry_95 rfl rfl ?_
            refine S_iconst (q := 97) (v := 0) hX dX12_readEntry_96 ic_0 rfl ?_
            refine S_bipush (q := 99) (v := 11) hX dX12_readEntry_97 bp_11 rfl ?_
            refine S_callV (ci := 12) (C := "FanTalkModel") (T := TX12) (N := 17) (q := 102) 0 0 hX (c_X12_isNumber _ μ _ _ (P).1.2.1 (P).1.2.2.1) rfl ?hs_9 rfl u_940 u_942 us_43 u_12 u_943 ⟨by decide, by decide, rfl⟩ ⟨Nat.le_of_ble_eq_true rfl, Nat.le_of_ble_eq_true rfl⟩ ⟨Nat.le_of_ble_eq_true rfl, Nat.le_of_ble_eq_true rfl⟩ (Nat.le_of_ble_eq_true rfl) dX12_readEntry_99 ?hp_9 rfl rfl rfl ?_
            case hs_9 => first | with_reducible assumption | exact ⟨_, by with_reducible assumption⟩ | exact MM.isO hM
            case hp_9 => exact ⟨hM, hR.1.2.1.2.1, hR.2.1.2.1, hR.1.2.1.2.2.1⟩
            rintro v σ1 sz1 ⟨rfl, rfl, rfl⟩
            refine S_top (nuB_bi (P := P) (n := 12) (by decide) (by decide) hR.2.1.2.2.1) ?_
            refine S_callV (ci := 12) (C := "FanTalkModel") (T := TX12) (N := 17) (q := 105) 0 0 hX (c_X12_due _ μ μ0 _ (nuB P 12) T (P) rfl) rfl ?hs_10 rfl u_932 u_934 us_41 u_12 u_935 ⟨by decide, by decide, rfl⟩ ⟨Nat.le_of_ble_eq_true rfl, Nat.le_of_ble_eq_true rfl⟩ ⟨Nat.le_of_ble_eq_true rfl, Nat.le_of_ble_eq_true rfl⟩ (Nat.le_of_ble_eq_true rfl) dX12_readEntry_102 ?hp_10 rfl rfl rfl ?_
            case hs_10 => first | with_reducible assumption | exact ⟨_, by with_reducible assumption⟩ | exact MM.isO hM
            case hp_10 => exact ⟨hM, hR⟩
            rintro v σ sz1 ⟨μ1, hM, hF1, rfl, hR1, rfl⟩
            have hF := hF.trans hF1
            refine S_iadd (q := 106) hX dX12_readEntry_105 rfl ?_
            refine S_istore_n (q := 107) [_, _, _, _, _] hX dX12_readEntry_106 rfl (Nat.le_of_ble_eq_true rfl) rfl rfl ?_
            refine S_iinc (q := 110) [_, _, _, _, _] hX dX12_readEntry_107 rfl (ii_1 _) rfl (Nat.le_of_ble_eq_true rfl) rfl rfl ?_
            refine S_goto 68 hX dX12_readEntry_110 rfl ?_
            refine S_L (L' := [some (.ref m), some (.int (nI c)), some (.int (nI ww)), some (.int (nI (12 * r + P.1.2.2.1))), some (.int (nI (3 - j)))]) (by rw [i12, pk_mul, nI_add, nI_1, show 3 - (j + 1) + 1 = 3 - j by omega]) ?_
            exact ih c ww (12 * r + P.1.2.2.1) _ _ _ (by omega) (fun q => by
              have hd := duP_n q
              have hs := (nuB_t hd.1).2
              rw [duP_22]
              exact ⟨hh.1, hh.2.1, hh.2.2.1, by rw [ln_snoc (by omega) (by omega) hs]; omega⟩) (by omega) (by rw [eP, if_pos ⟨hn, hs3⟩]) hR1 hM hF
  have go34 : ∀ (y : Int32), y = bi ((nuB P P.2.2.1 && decide ((P.2.2.2.1 P.1.2.2.1).1 < 8)) = true) → G X Γ P1 0 0 34 [some (.ref m), none, none, none, none] [.int y, .ref m] σ sz := by
    intro y hy
    obtain ⟨b, eb⟩ : ∃ z, z = (nuB P P.2.2.1 && decide ((P.2.2.2.1 P.1.2.2.1).1 < 8)) := ⟨_, rfl⟩
    rw [← eb] at hy
    refine S_callV (ci := 12) (C := "FanTalkModel") (T := TX12) (N := 17) (q := 37) 0 0 hX (c_X12_due _ μ μ0 _ (b) T (P) hy) rfl ?hs_11 rfl u_932 u_934 us_41 u_12 u_935 ⟨by decide, by decide, rfl⟩ ⟨Nat.le_of_ble_eq_true rfl, Nat.le_of_ble_eq_true rfl⟩ ⟨Nat.le_of_ble_eq_true rfl, Nat.le_of_ble_eq_true rfl⟩ (Nat.le_of_ble_eq_true rfl) dX12_readEntry_34 ?hp_11 rfl rfl rfl ?_
    case hs_11 => first | with_reducible assumption | exact ⟨_, by with_reducible assumption⟩ | exact MM.isO hM
    case hp_11 => exact ⟨hM, hR⟩
    rintro v σ sz1 ⟨μ1, hM, hF1, rfl, hR1, rfl⟩
    have hF := hF.trans hF1
    obtain ⟨Q1, eQ1⟩ : ∃ z, z = duP T b P := ⟨_, rfl⟩
    rw [← eQ1] at hR1
    refine S_istore_n (q := 38) [_, _, _, _, _] hX dX12_readEntry_37 rfl (Nat.le_of_ble_eq_true rfl) rfl rfl ?_
    refine S_aload_n (q := 39) hX dX12_readEntry_38 rfl rfl ?_
    refine S_aload_n (q := 40) hX dX12_readEntry_39 rfl rfl ?_
    refine S_iconst (q := 41) (v := 0) hX dX12_readEntry_40 ic_0 rfl ?_
    refine S_bipush (q := 43) (v := 9) hX dX12_readEntry_41 bp_9 rfl ?_
    refine S_callV (ci := 12) (C := "FanTalkModel") (T := TX12) (N := 17) (q := 46) 0 0 hX (c_X12_isNumber _ μ1 _ _ (Q1).1.2.1 (Q1).1.2.2.1) rfl ?hs_12 rfl u_940 u_942 us_43 u_12 u_943 ⟨by decide, by decide, rfl⟩ ⟨Nat.le_of_ble_eq_true rfl, Nat.le_of_ble_eq_true rfl⟩ ⟨Nat.le_of_ble_eq_true rfl, Nat.le_of_ble_eq_true rfl⟩ (Nat.le_of_ble_eq_true rfl) dX12_readEntry_43 ?hp_12 rfl rfl rfl ?_
    case hs_12 => first | with_reducible assumption | exact ⟨_, by with_reducible assumption⟩ | exact MM.isO hM
    case hp_12 => exact ⟨hM, hR1.1.2.1.2.1, hR1.2.1.2.1, hR1.1.2.1.2.2.1⟩
    rintro v σ1 sz1 ⟨rfl, rfl, rfl⟩
    refine S_top (nuB_bi (P := Q1) (n := 10) (by decide) (by decide) hR1.2.1.2.2.1) ?_
    refine S_callV (ci := 12) (C := "FanTalkModel") (T := TX12) (N := 17) (q := 49) 0 0 hX (c_X12_due _ μ1 μ0 _ (nuB Q1 10) T (Q1) rfl) rfl ?hs_13 rfl u_932 u_934 us_41 u_12 u_935 ⟨by decide, by decide, rfl⟩ ⟨Nat.le_of_ble_eq_true rfl, Nat.le_of_ble_eq_true rfl⟩ ⟨Nat.le_of_ble_eq_true rfl, Nat.le_of_ble_eq_true rfl⟩ (Nat.le_of_ble_eq_true rfl) dX12_readEntry_46 ?hp_13 rfl rfl rfl ?_
    case hs_13 => first | with_reducible assumption | exact ⟨_, by with_reducible assumption⟩ | exact MM.isO hM
    case hp_13 => exact ⟨hM, hR1⟩
    rintro v σ sz1 ⟨μ2, hM, hF1, rfl, hR2, rfl⟩
    have hF := hF.trans hF1
    obtain ⟨Q2, eQ2⟩ : ∃ z, z = duP T (nuB Q1 10) Q1 := ⟨_, rfl⟩
    rw [← eQ2] at hR2
    refine S_istore_n (q := 50) [_, _, _, _, _] hX dX12_readEntry_49 rfl (Nat.le_of_ble_eq_true rfl) rfl rfl ?_
    refine S_bipush (q := 52) (v := 12) hX dX12_readEntry_50 bp_12 rfl ?_
    refine S_aload_n (q := 53) hX dX12_readEntry_52 rfl rfl ?_
    refine S_aload_n (q := 54) hX dX12_readEntry_53 rfl rfl ?_
    refine S_iconst (q := 55) (v := 0) hX dX12_readEntry_54 ic_0 rfl ?_
    refine S_bipush (q := 57) (v := 11) hX dX12_readEntry_55 bp_11 rfl ?_
    refine S_callV (ci := 12) (C := "FanTalkModel") (T := TX12) (N := 17) (q := 60) 0 0 hX (c_X12_isNumber _ μ2 _ _ (Q2).1.2.1 (Q2).1.2.2.1) rfl ?hs_14 rfl u_940 u_942 us_43 u_12 u_943 ⟨by decide, by decide, rfl⟩ ⟨Nat.le_of_ble_eq_true rfl, Nat.le_of_ble_eq_true rfl⟩ ⟨Nat.le_of_ble_eq_true rfl, Nat.le_of_ble_eq_true rfl⟩ (Nat.le_of_ble_eq_true rfl) dX12_readEntry_57 ?hp_14 rfl rfl rfl ?_
    case hs_14 => first | with_reducible assumption | exact ⟨_, by with_reducible assumption⟩ | exact MM.isO hM
    case hp_14 => exact ⟨hM, hR2.1.2.1.2.1, hR2.2.1.2.1, hR2.1.2.1.2.2.1⟩
    rintro v σ1 sz1 ⟨rfl, rfl, rfl⟩
    refine S_top (nuB_bi (P := Q2) (n := 12) (by decide) (by decide) hR2.2.1.2.2.1) ?_
    refine S_callV (ci := 12) (C := "FanTalkModel") (T := TX12) (N := 17) (q := 63) 0 0 hX (c_X12_due _ μ2 μ0 _ (nuB Q2 12) T (Q2) rfl) rfl ?hs_15 rfl u_932 u_934 us_41 u_12 u_935 ⟨by decide, by decide, rfl⟩ ⟨Nat.le_of_ble_eq_true rfl, Nat.le_of_ble_eq_true rfl⟩ ⟨Nat.le_of_ble_eq_true rfl, Nat.le_of_ble_eq_true rfl⟩ (Nat.le_of_ble_eq_true rfl) dX12_readEntry_60 ?hp_15 rfl rfl rfl ?_
    case hs_15 => first | with_reducible assumption | exact ⟨_, by with_reducible assumption⟩ | exact MM.isO hM
    case hp_15 => exact ⟨hM, hR2⟩
    rintro v σ sz1 ⟨μ3, hM, hF1, rfl, hR3, rfl⟩
    have hF := hF.trans hF1
    obtain ⟨Q3, eQ3⟩ : ∃ z, z = duP T (nuB Q2 12) Q2 := ⟨_, rfl⟩
    rw [← eQ3] at hR3
    refine S_iadd (q := 64) hX dX12_readEntry_63 rfl ?_
    refine S_top (y := nI (12 + Q2.1.2.2.1)) (nI_add 12 _) ?_
    refine S_istore_n (q := 65) [_, _, _, _, _] hX dX12_readEntry_64 rfl (Nat.le_of_ble_eq_true rfl) rfl rfl ?_
    refine S_iconst (q := 66) (v := 1) hX dX12_readEntry_65 ic_1 rfl ?_
    refine S_istore (q := 68) [_, _, _, _, _] hX dX12_readEntry_66 rfl (Nat.le_of_ble_eq_true rfl) rfl rfl ?_
    exact l68 2 P.1.2.2.1 Q1.1.2.2.1 (12 + Q2.1.2.2.1) Q3 _ _ (Nat.le_refl _) (fun q => by
      rw [eQ3] at q ⊢
      have d3 := duP_n q
      have q2 := d3.2.1
      rw [eQ2] at q2
      have d2 := duP_n q2
      have q1 := d2.2.1
      rw [eQ1] at q1
      have d1 := (duP_n q1).1
      rw [eb, Bool.and_eq_true, decide_eq_true_eq] at d1
      rw [duP_22, eQ2, duP_22, eQ1, duP_22, ← eQ1, ← eQ2, ln_one (nuB_t d3.1).2]
      exact ⟨(nuB_t d1.1).2, d1.2, (nuB_t d2.1).2, rfl⟩) (by have := hR2.2.1.2.2.1; omega) (by rw [ePF]; unfold enP enP1 enP2; rw [← eb, ← eQ1, ← eQ2, ← eQ3]) hR3 hM hF
  refine S_aload_n (q := 1) hX dX12_readEntry_0 rfl rfl ?_
  refine S_aload_n (q := 2) hX dX12_readEntry_1 rfl rfl ?_
  refine S_iconst (q := 3) (v := 0) hX dX12_readEntry_2 ic_0 rfl ?_
  refine S_aload_n (q := 4) hX dX12_readEntry_3 rfl rfl ?_
  refine S_iconst (q := 5) (v := 0) hX dX12_readEntry_4 ic_0 rfl ?_
  refine S_callV (ci := 12) (C := "FanTalkModel") (T := TX12) (N := 17) (q := 8) 0 0 hX (c_X12_get _ μ _ 1359 0 rfl) rfl ?hs_16 rfl u_838 u_840 us_26 u_12 u_841 ⟨by decide, by decide, rfl⟩ ⟨Nat.le_of_ble_eq_true rfl, Nat.le_of_ble_eq_true rfl⟩ ⟨Nat.le_of_ble_eq_true rfl, Nat.le_of_ble_eq_true rfl⟩ (Nat.le_of_ble_eq_true rfl) dX12_readEntry_5 ?hp_16 rfl rfl rfl ?_
  case hs_16 => first | with_reducible assumption | exact ⟨_, by with_reducible assumption⟩ | exact MM.isO hM
  case hp_16 => exact ⟨hM, hR.1.1.1, by decide⟩
  rintro v σ1 sz1 ⟨rfl, rfl, rfl⟩
  rw [hR.1.2.2.2.1]
  refine S_iconst (q := 9) (v := 1) hX dX12_readEntry_8 ic_1 rfl ?_
  refine S_isub (q := 10) hX dX12_readEntry_9 rfl ?_
  refine S_callV (ci := 12) (C := "FanTalkModel") (T := TX12) (N := 17) (q := 13) 0 0 hX (c_X12_isNumber _ μ _ _ (P).1.2.1 (P).1.2.2.1) rfl ?hs_17 rfl u_940 u_942 us_43 u_12 u_943 ⟨by decide, by decide, rfl⟩ ⟨Nat.le_of_ble_eq_true rfl, Nat.le_of_ble_eq_true rfl⟩ ⟨Nat.le_of_ble_eq_true rfl, Nat.le_of_ble_eq_true rfl⟩ (Nat.le_of_ble_eq_true rfl) dX12_readEntry_10 ?hp_17 rfl rfl rfl ?_
  case hs_17 => first | with_reducible assumption | exact ⟨_, by with_reducible assumption⟩ | exact MM.isO hM
  case hp_17 => exact ⟨hM, hR.1.2.1.2.1, hR.2.1.2.1, hR.1.2.1.2.2.1⟩
  rintro v σ1 sz1 ⟨rfl, rfl, rfl⟩
  refine S_top (nuB_bi (P := P) (n := P.2.2.1) (by decide) (by have := hR.2.2.2.1; rw [i1, pk_sub_toInt (by omega) (by decide)]; rfl) hR.2.1.2.2.1) ?_
  refine S_if_eq_b (q := 16) 33 hX dX12_readEntry_13 rfl rfl (fun c13 => ?_) (fun c13 => ?_)
  · refine S_iconst (q := 34) (v := 0) hX dX12_readEntry_33 ic_0 rfl ?_
    refine go34 _ (bi_f ?_).symm
    rw [Bool.and_eq_true]
    exact fun z => c13 z.1
  · have h3 := nuB_t c13
    have hC := hR.1.2.2.2.2.2.1 _ h3.2
    have h8 := (hR.2.2.2.2.1 _ h3.2).1
    refine S_aload_n (q := 17) hX dX12_readEntry_16 rfl rfl ?_
    refine S_aload_n (q := 18) hX dX12_readEntry_17 rfl rfl ?_
    refine S_getf (fs := ?fs_18) (v := ?v_18) (q := 21) hX u_791 fo_X12_value dX12_readEntry_18 ?hs_18 ?hv_18 rfl ?_
    case hs_18 => with_reducible first | exact MM.c0 hM | exact MM.c1 hM | exact MM.c5 hM | exact MM.c6 hM | exact MM.c7 hM | exact MM.c3 hM | exact MM.c4 hM | exact MM.c8 hM | exact MM.c2 hM
    case hv_18 => rfl
    refine S_callV (ci := 12) (C := "FanTalkModel") (T := TX12) (N := 17) (q := 24) 0 0 hX (c_X12_entriesOf _ μ _ 1359 P.1.2.2.1 hR.1.2.1.2.2.1) rfl ?hs_19 rfl u_872 u_874 us_32 u_12 u_875 ⟨by decide, by decide, rfl⟩ ⟨Nat.le_of_ble_eq_true rfl, Nat.le_of_ble_eq_true rfl⟩ ⟨Nat.le_of_ble_eq_true rfl, Nat.le_of_ble_eq_true rfl⟩ (Nat.le_of_ble_eq_true rfl) dX12_readEntry_21 ?hp_19 rfl rfl rfl ?_
    case hs_19 => first | with_reducible assumption | exact ⟨_, by with_reducible assumption⟩ | exact MM.isO hM
    case hp_19 => exact ⟨hM, hR.1.1.1, by have := hR.2.2.2.1; omega⟩
    rintro v σ1 sz1 ⟨rfl, rfl, rfl⟩
    rw [hC.1]
    refine S_bipush (q := 26) (v := 8) hX dX12_readEntry_24 bp_8 rfl ?_
    refine S_icmp_ge (q := 29) 33 hX dX12_readEntry_26 rfl rfl (fun c26 => ?_) (fun c26 => ?_)
    · refine S_iconst (q := 34) (v := 0) hX dX12_readEntry_33 ic_0 rfl ?_
      refine go34 _ (bi_f ?_).symm
      rw [Bool.and_eq_true, decide_eq_true_eq]
      intro z
      rw [i8, nI_leI (by decide) (by omega)] at c26
      omega
    · refine S_iconst (q := 30) (v := 1) hX dX12_readEntry_29 ic_1 rfl ?_
      refine S_goto 34 hX dX12_readEntry_30 rfl ?_
      refine go34 _ (bi_t ?_).symm
      rw [Bool.and_eq_true, decide_eq_true_eq]
      refine ⟨c13, ?_⟩
      rw [i8, nI_leI (by decide) (by omega)] at c26
      omega
