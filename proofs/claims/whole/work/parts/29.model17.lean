/-! the reference: the next token -/
theorem m2_00 (f : MF) (i k : Nat) (x : Int32) : m2 f 0 i x 0 k = if k = i then x else f 0 k := by
  rw [m2_at]
  by_cases h : k = i
  · rw [if_pos ⟨rfl, h⟩, if_pos h]
  · rw [if_neg (fun z => h z.2), if_neg h]
theorem wdH_s {T : TxT} {p i : Nat} : wdH T p (i + 1) = if i < 6 then 27 * wdH T p i + (T.2 (p + i) - 96) else wdH T p i := by
  show hsW T p (if i + 1 ≤ 6 then i + 1 else 6) = _
  by_cases h : i < 6
  · rw [if_pos (by omega), if_pos h]
    show 27 * hsW T p i + _ = 27 * hsW T p (if i ≤ 6 then i else 6) + _
    rw [if_pos (by omega)]
  · rw [if_neg (by omega), if_neg h]
    show _ = hsW T p (if i ≤ 6 then i else 6)
    by_cases h2 : i ≤ 6
    · rw [if_pos h2, show i = 6 by omega]
    · rw [if_neg h2]
theorem wdT_s {T : TxT} {p i : Nat} : wdT T p (i + 1) = if i = 6 then T.2 (p + i) - 96 else if 6 < i then 99 else wdT T p i := by
  show (if i + 1 ≤ 6 then 0 else if i + 1 = 7 then T.2 (p + 6) - 96 else 99) = _
  by_cases h : i = 6
  · rw [if_neg (by omega), if_pos (by omega), if_pos h, h]
  · rw [if_neg h]
    by_cases h2 : 6 < i
    · rw [if_neg (by omega), if_neg (by omega), if_pos h2]
    · rw [if_pos (by omega), if_neg h2]
      show 0 = if i ≤ 6 then 0 else _
      rw [if_pos (by omega)]
theorem hsW_lt {T : TxT} {p : Nat} : ∀ k, ltr T p k → hsW T p k < 27 ^ k
  | 0, _ => Nat.lt_succ_self 0
  | k + 1, h => by
    have h1 := hsW_lt k (fun i hi => h i (by omega))
    have h2 := h k (Nat.lt_succ_self _)
    rw [Nat.pow_succ]
    show 27 * hsW T p k + (T.2 (p + k) - 96) < 27 ^ k * 27
    omega
theorem wdH_lt {T : TxT} {p i : Nat} (h : ltr T p i) : wdH T p i < 387420489 := by
  show hsW T p (if i ≤ 6 then i else 6) < 387420489
  have h1 := hsW_lt (T := T) (p := p) (if i ≤ 6 then i else 6) (fun j hj => h j (by split at hj <;> omega))
  refine Nat.lt_of_lt_of_le h1 ?_
  show 27 ^ _ ≤ 27 ^ 6
  exact Nat.pow_le_pow_right (by decide) (by split <;> omega)
theorem wdT_lt {T : TxT} {p i : Nat} (h : ltr T p i) : wdT T p i ≤ 99 := by
  show (if i ≤ 6 then 0 else if i = 7 then T.2 (p + 6) - 96 else 99) ≤ 99
  by_cases h6 : i ≤ 6
  · rw [if_pos h6]; decide
  · rw [if_neg h6]
    by_cases h7 : i = 7
    · rw [if_pos h7]
      have := h 6 (by omega)
      omega
    · rw [if_neg h7]
      decide

def nuA (T : TxT) (p i : Nat) : Nat := if i = 0 then 0 else nuV T p (p + i)
theorem nuA_s {T : TxT} {p i : Nat} : nuA T p (i + 1) = if i < 2 then 10 * nuA T p i + (T.2 (p + i) - 48) else 0 := by
  unfold nuA nuV
  rw [if_neg (Nat.succ_ne_zero i)]
  rcases (show i = 0 ∨ i = 1 ∨ 2 ≤ i by omega) with h | h | h
  · subst h
    rw [if_pos rfl, if_pos (by decide), if_pos rfl]
    simp
  · subst h
    rw [if_neg (by omega), if_pos (by omega), if_pos (by decide), if_neg (by decide), if_pos rfl]
  · rw [if_neg (by omega), if_neg (by omega), if_neg (by omega)]
theorem nuA_lt {T : TxT} {p i : Nat} (h : ∀ j, j < i → 48 ≤ T.2 (p + j) ∧ T.2 (p + j) ≤ 57) : nuA T p i ≤ 99 := by
  cases i with
  | zero => exact Nat.zero_le _
  | succ i =>
    rw [nuA_s]
    rcases (show i = 0 ∨ i = 1 ∨ 2 ≤ i by omega) with q | q | q
    · subst q
      have := h 0 (by omega)
      rw [if_pos (by decide), show nuA T p 0 = 0 from rfl]
      omega
    · subst q
      have a := h 0 (by omega)
      have b := h 1 (by omega)
      rw [if_pos (by decide), nuA_s, if_pos (by decide), show nuA T p 0 = 0 from rfl]
      omega
    · rw [if_neg (by omega)]
      exact Nat.zero_le _

theorem c_X12_next (m : Nat) (μ : MF) (T : TxT) (p : Nat) : CT_X12_next [.ref m] (fun Γ σ sz => MM σ m μ ∧ TxM μ T ∧ μ 0 2 = nI p ∧ p ≤ T.1) (fun Γ σ sz v σ' sz' => ∃ μ', MM σ' m μ' ∧ Fr m (m + 9) σ σ' ∧ v = none ∧ (prs μ μ' ∧ TkM μ' (tk T p)) ∧ sz' = sz) := by
  refine CT.mkP rfl (Nat.le_of_ble_eq_true rfl) [_, _, _, _, _] rfl ?_
  intro X Γ σ sz P hX hpre hsz hP
  obtain ⟨hM, hT, h2, hpT⟩ := hpre
  obtain ⟨σ0, eσ0⟩ : ∃ z, z = σ := ⟨σ, rfl⟩
  rw [← eσ0] at hP
  have hF : Fr m (m + 9) σ0 σ := by rw [eσ0]; exact Fr.rf
  obtain ⟨μ0, eμ0⟩ : ∃ z, z = μ := ⟨μ, rfl⟩
  have hp : prs μ0 μ := by rw [eμ0]; exact prs.rf
  rw [← eμ0] at hT hP
  obtain ⟨P0, eP⟩ : ∃ q, q = skp T (T.1 + 1) p := ⟨_, rfl⟩
  have etk : tk T p = tkA T P0 := by rw [eP]; rfl
  have hb := hT.by
  have hT1 := hT.2.1
  rw [etk] at hP
  have hbn : ∀ q, q < T.1 → hrI T q = nI (T.2 q) ∧ hr T q = T.2 q := fun q hq => ⟨if_pos hq, if_pos hq⟩
  have l340 : ∀ (y1 y2 y3 y4 : Option Value) (σ : Sg) (μ : MF), TkM μ (tkA T P0) → prs μ0 μ → MM σ m μ → Fr m (m + 9) σ0 σ → G X Γ P 0 0 340 [some (.ref m), y1, y2, y3, y4] [] σ sz := by
    intro y1 y2 y3 y4 σ μ ht hp hM hF
    refine S_vret hX dX12_next_340 (Nat.zero_le _) (Nat.zero_le _) ?_
    refine hP _ _ _ ?_
    exact ⟨_, hM, hF, rfl, ⟨hp, ht⟩, rfl⟩
  have etw : P0 < T.1 → (97 ≤ hr T P0 ∧ hr T P0 ≤ 122) → tkA T P0 = (P0, wrS T P0 (rnW T 97 122 (T.1 + 1) P0), 0, rnW T 97 122 (T.1 + 1) P0) := fun a b => by unfold tkA; rw [if_neg (fun q => by have := (hr_le hb P0).2.1; omega), if_pos b]
  have l67 : P0 < T.1 → (97 ≤ hr T P0 ∧ hr T P0 ≤ 122) → ∀ (fl i : Nat) (x2 x3 : Int32) (x4 : Option Value) (σ : Sg) (μ : MF), x2 = nI (wdH T P0 i) → x3 = nI (wdT T P0 i) → ltr T P0 i → P0 + i ≤ T.1 → T.1 < fl + (P0 + i) → rnW T 97 122 fl (P0 + i) = rnW T 97 122 (T.1 + 1) P0 → μ 0 2 = nI (P0 + i) → μ 0 3 = nI P0 → μ 0 5 = nI 0 → prs μ0 μ → MM σ m μ → Fr m (m + 9) σ0 σ → G X Γ P 0 0 67 [some (.ref m), some (.int (hrI T P0)), some (.int x2), some (.int x3), x4] [] σ sz := by
    intro hP1 hP2 fl
    induction fl with
      | zero => intro i _ _ _ σ μ _ _ _ _ q; omega
      | succ fl ih =>
        rintro i _ _ x4 σ μ rfl rfl hl hi hfu hrn h2 h3 h5 hp hM hF
        have bH := wdH_lt hl
        have bT := wdT_lt hl
        have go115 : ∀ (y : Int32) (σ : Sg) (μ : MF), y = nI (wdH T P0 (i + 1)) → (97 ≤ T.2 (P0 + i) ∧ T.2 (P0 + i) ≤ 122) → P0 + i < T.1 → μ 0 2 = nI (P0 + i) → μ 0 3 = nI P0 → μ 0 5 = nI 0 → prs μ0 μ → MM σ m μ → Fr m (m + 9) σ0 σ → G X Γ P 0 0 115 [some (.ref m), some (.int (hrI T P0)), some (.int (nI (wdH T P0 i))), some (.int (nI (wdT T P0 i))), some (.int (nI i))] [.int y] σ sz := by
          rintro _ σ μ rfl hlt hpt h2 h3 h5 hp hM hF
          have hhr := (hbn _ hpt).1
          refine S_istore_n (q := 116) [_, _, _, _, _] hX dX12_next_115 rfl (Nat.le_of_ble_eq_true rfl) rfl rfl ?_
          refine S_iload (q := 118) hX dX12_next_116 rfl rfl ?_
          refine S_bipush (q := 120) (v := 6) hX dX12_next_118 bp_6 rfl ?_
          refine S_icmp_ne (q := 123) 133 hX dX12_next_120 rfl rfl (fun c120 => ?_) (fun c120 => ?_)
          · have hi6 : ¬ i = 6 := fun q => c120 (by rw [q]; rfl)
            refine S_iload (q := 135) hX dX12_next_133 rfl rfl ?_
            refine S_bipush (q := 137) (v := 6) hX dX12_next_135 bp_6 rfl ?_
            refine S_icmp_le (q := 140) 145 hX dX12_next_137 rfl rfl (fun c137 => ?_) (fun c137 => ?_)
            · have h66 : i ≤ 6 := by rw [show (6 : Int32) = nI 6 from rfl, nI_leI (by omega) (by omega)] at c137; omega
              refine S_iload_n (q := 146) hX dX12_next_145 rfl rfl ?_
              refine S_istore_n (q := 147) [_, _, _, _, _] hX dX12_next_146 rfl (Nat.le_of_ble_eq_true rfl) rfl rfl ?_
              refine S_aload_n (q := 148) hX dX12_next_147 rfl rfl ?_
              refine S_dup (q := 149) hX dX12_next_148 rfl rfl ?_
              refine S_getf (fs := ?fs_1) (v := ?v_1) (q := 152) hX u_788 fo_X12_at dX12_next_149 ?hs_1 ?hv_1 rfl ?_
              case hs_1 => with_reducible first | exact MM.c0 hM | exact MM.c1 hM | exact MM.c5 hM | exact MM.c6 hM | exact MM.c7 hM | exact MM.c3 hM | exact MM.c4 hM | exact MM.c8 hM | exact MM.c2 hM
              case hv_1 => rfl
              refine S_iconst (q := 153) (v := 1) hX dX12_next_152 ic_1 rfl ?_
              refine S_iadd (q := 154) hX dX12_next_153 rfl ?_
              refine S_nm (fun x154 hx154 => ?_)
              refine S_putf (fs := ?fs_2) (q := 157) hX u_788 fo_X12_at rfl rfl ?hl_2 dX12_next_154 ?hs_2 rfl ?_
              case hs_2 => with_reducible first | exact MM.c0 hM | exact MM.c1 hM | exact MM.c5 hM | exact MM.c6 hM | exact MM.c7 hM | exact MM.c3 hM | exact MM.c4 hM | exact MM.c8 hM | exact MM.c2 hM
              case hl_2 => exact Nat.le_of_ble_eq_true rfl
              refine S_stu (q0 := m) (j := 0) (i := 2) hM hF (by decide) rfl (fun σ μ154 e154 hM hF => ?_)
              subst hx154
              refine S_goto 67 hX dX12_next_157 rfl ?_
              exact ih (i + 1) _ _ _ _ _ rfl (by rw [wdT_s, if_neg hi6, if_neg (by omega)]) (fun j hj => by rcases Nat.lt_succ_iff_lt_or_eq.mp hj with q | q; exact hl j q; rw [q]; exact hlt) (by omega) (by omega) (by rw [← hrn, rnW_s (by rw [(hbn _ hpt).2]; exact hlt)]; rfl) (by rw [e154, m2_00, if_pos rfl, h2, nI_1]; rfl) (by rw [e154, m2_00, if_neg (by decide)]; exact h3) (by rw [e154, m2_00, if_neg (by decide)]; exact h5) (by rw [e154]; exact hp.st (by decide) (by decide)) hM hF
            · have h66 : ¬ i ≤ 6 := by rw [show (6 : Int32) = nI 6 from rfl, nI_leI (by omega) (by omega)] at c137; omega
              refine S_bipush (q := 142) (v := 99) hX dX12_next_140 bp_99 rfl ?_
              refine S_goto 146 hX dX12_next_142 rfl ?_
              refine S_istore_n (q := 147) [_, _, _, _, _] hX dX12_next_146 rfl (Nat.le_of_ble_eq_true rfl) rfl rfl ?_
              refine S_aload_n (q := 148) hX dX12_next_147 rfl rfl ?_
              refine S_dup (q := 149) hX dX12_next_148 rfl rfl ?_
              refine S_getf (fs := ?fs_3) (v := ?v_3) (q := 152) hX u_788 fo_X12_at dX12_next_149 ?hs_3 ?hv_3 rfl ?_
              case hs_3 => with_reducible first | exact MM.c0 hM | exact MM.c1 hM | exact MM.c5 hM | exact MM.c6 hM | exact MM.c7 hM | exact MM.c3 hM | exact MM.c4 hM | exact MM.c8 hM | exact MM.c2 hM
              case hv_3 => rfl
              refine S_iconst (q := 153) (v := 1) hX dX12_next_152 ic_1 rfl ?_
              refine S_iadd (q := 154) hX dX12_next_153 rfl ?_
              refine S_nm (fun x154 hx154 => ?_)
              refine S_putf (fs := ?fs_4) (q := 157) hX u_788 fo_X12_at rfl rfl ?hl_4 dX12_next_154 ?hs_4 rfl ?_
              case hs_4 => with_reducible first | exact MM.c0 hM | exact MM.c1 hM | exact MM.c5 hM | exact MM.c6 hM | exact MM.c7 hM | exact MM.c3 hM | exact MM.c4 hM | exact MM.c8 hM | exact MM.c2 hM
              case hl_4 => exact Nat.le_of_ble_eq_true rfl
              refine S_stu (q0 := m) (j := 0) (i := 2) hM hF (by decide) rfl (fun σ μ154 e154 hM hF => ?_)
              subst hx154
              refine S_goto 67 hX dX12_next_157 rfl ?_
              exact ih (i + 1) _ _ _ _ _ rfl (by rw [wdT_s, if_neg hi6, if_pos (by omega)]; rfl) (fun j hj => by rcases Nat.lt_succ_iff_lt_or_eq.mp hj with q | q; exact hl j q; rw [q]; exact hlt) (by omega) (by omega) (by rw [← hrn, rnW_s (by rw [(hbn _ hpt).2]; exact hlt)]; rfl) (by rw [e154, m2_00, if_pos rfl, h2, nI_1]; rfl) (by rw [e154, m2_00, if_neg (by decide)]; exact h3) (by rw [e154, m2_00, if_neg (by decide)]; exact h5) (by rw [e154]; exact hp.st (by decide) (by decide)) hM hF
          · have hi6 : i = 6 := nI_inj (by omega) (by decide) c120
            refine S_aload_n (q := 124) hX dX12_next_123 rfl rfl ?_
            refine S_callV (ci := 12) (C := "FanTalkModel") (T := TX12) (N := 17) (q := 127) 0 0 hX (c_X12_here _ μ T (P0 + i)) rfl ?hs_5 rfl u_921 u_923 us_39 u_12 u_924 ⟨by decide, by decide, rfl⟩ ⟨Nat.le_of_ble_eq_true rfl, Nat.le_of_ble_eq_true rfl⟩ ⟨Nat.le_of_ble_eq_true rfl, Nat.le_of_ble_eq_true rfl⟩ (Nat.le_of_ble_eq_true rfl) dX12_next_124 ?hp_5 rfl rfl rfl ?_
            case hs_5 => first | with_reducible assumption | exact ⟨_, by with_reducible assumption⟩ | exact MM.isO hM
            case hp_5 => exact ⟨hM, hT.prs hp, h2, by omega⟩
            rintro v σ1 sz1 ⟨rfl, rfl, rfl⟩
            refine S_bipush (q := 129) (v := 96) hX dX12_next_127 bp_96 rfl ?_
            refine S_isub (q := 130) hX dX12_next_129 rfl ?_
            refine S_goto 146 hX dX12_next_130 rfl ?_
            refine S_istore_n (q := 147) [_, _, _, _, _] hX dX12_next_146 rfl (Nat.le_of_ble_eq_true rfl) rfl rfl ?_
            refine S_aload_n (q := 148) hX dX12_next_147 rfl rfl ?_
            refine S_dup (q := 149) hX dX12_next_148 rfl rfl ?_
            refine S_getf (fs := ?fs_6) (v := ?v_6) (q := 152) hX u_788 fo_X12_at dX12_next_149 ?hs_6 ?hv_6 rfl ?_
            case hs_6 => with_reducible first | exact MM.c0 hM | exact MM.c1 hM | exact MM.c5 hM | exact MM.c6 hM | exact MM.c7 hM | exact MM.c3 hM | exact MM.c4 hM | exact MM.c8 hM | exact MM.c2 hM
            case hv_6 => rfl
            refine S_iconst (q := 153) (v := 1) hX dX12_next_152 ic_1 rfl ?_
            refine S_iadd (q := 154) hX dX12_next_153 rfl ?_
            refine S_nm (fun x154 hx154 => ?_)
            refine S_putf (fs := ?fs_7) (q := 157) hX u_788 fo_X12_at rfl rfl ?hl_7 dX12_next_154 ?hs_7 rfl ?_
            case hs_7 => with_reducible first | exact MM.c0 hM | exact MM.c1 hM | exact MM.c5 hM | exact MM.c6 hM | exact MM.c7 hM | exact MM.c3 hM | exact MM.c4 hM | exact MM.c8 hM | exact MM.c2 hM
            case hl_7 => exact Nat.le_of_ble_eq_true rfl
            refine S_stu (q0 := m) (j := 0) (i := 2) hM hF (by decide) rfl (fun σ μ154 e154 hM hF => ?_)
            subst hx154
            refine S_goto 67 hX dX12_next_157 rfl ?_
            exact ih (i + 1) _ _ _ _ _ rfl (by rw [wdT_s, if_pos hi6, hhr, show (96 : Int32) = nI 96 from rfl, pk_sub (by omega)]) (fun j hj => by rcases Nat.lt_succ_iff_lt_or_eq.mp hj with q | q; exact hl j q; rw [q]; exact hlt) (by omega) (by omega) (by rw [← hrn, rnW_s (by rw [(hbn _ hpt).2]; exact hlt)]; rfl) (by rw [e154, m2_00, if_pos rfl, h2, nI_1]; rfl) (by rw [e154, m2_00, if_neg (by decide)]; exact h3) (by rw [e154, m2_00, if_neg (by decide)]; exact h5) (by rw [e154]; exact hp.st (by decide) (by decide)) hM hF
        have go208 : ¬ (97 ≤ hr T (P0 + i) ∧ hr T (P0 + i) ≤ 122) → ∀ (y : Int32) (σ : Sg) (μ : MF), y = nI (wrS T P0 (P0 + i)) → μ 0 2 = nI (P0 + i) → μ 0 3 = nI P0 → μ 0 5 = nI 0 → prs μ0 μ → MM σ m μ → Fr m (m + 9) σ0 σ → G X Γ P 0 0 208 [some (.ref m), some (.int (hrI T P0)), some (.int (nI (wdH T P0 i))), some (.int (nI (wdT T P0 i))), x4] [.int y, .ref m] σ sz := by
          intro hnl y σ μ es h2 h3 h5 hp hM hF
          refine S_nm (fun x208 hx208 => ?_)
          refine S_putf (fs := ?fs_8) (q := 211) hX u_790 fo_X12_sort rfl rfl ?hl_8 dX12_next_208 ?hs_8 rfl ?_
          case hs_8 => with_reducible first | exact MM.c0 hM | exact MM.c1 hM | exact MM.c5 hM | exact MM.c6 hM | exact MM.c7 hM | exact MM.c3 hM | exact MM.c4 hM | exact MM.c8 hM | exact MM.c2 hM
          case hl_8 => exact Nat.le_of_ble_eq_true rfl
          refine S_stu (q0 := m) (j := 0) (i := 4) hM hF (by decide) rfl (fun σ μ208 e208 hM hF => ?_)
          subst hx208
          refine S_goto 340 hX dX12_next_211 rfl ?_
          exact l340 _ _ _ _ _ _ (by rw [etw hP1 hP2, ← hrn, rnW_e hnl]; refine ⟨?_, ?_, ?_, ?_⟩ <;> rw [e208, m2_00] <;> first | (rw [if_neg (by decide)]; first | exact h3 | exact h5 | exact h2) | (rw [if_pos rfl]; rw [← es])) (by rw [e208]; exact hp.st (by decide) (by decide)) hM hF
        have go177 : ¬ (97 ≤ hr T (P0 + i) ∧ hr T (P0 + i) ≤ 122) → ¬ (wdH T P0 i = 66996755 ∧ wdT T P0 i = 20) → ∀ (σ : Sg) (μ : MF), μ 0 2 = nI (P0 + i) → μ 0 3 = nI P0 → μ 0 5 = nI 0 → prs μ0 μ → MM σ m μ → Fr m (m + 9) σ0 σ → G X Γ P 0 0 177 [some (.ref m), some (.int (hrI T P0)), some (.int (nI (wdH T P0 i))), some (.int (nI (wdT T P0 i))), x4] [.ref m] σ sz := by
          intro hnl hnd σ μ h2 h3 h5 hp hM hF
          refine S_iload_n (q := 178) hX dX12_next_177 rfl rfl ?_
          refine S_if_le (q := 181) 186 hX dX12_next_178 rfl rfl (fun c178 => ?_) (fun c178 => ?_)
          · have ht0 : ¬ 0 < wdT T P0 i := fun q => nI_nle q (by omega) c178
            refine S_iload_n (q := 187) hX dX12_next_186 rfl rfl ?_
            refine S_ldc (q := 189) hX u_926 dX12_next_187 rfl ?_
            refine S_icmp_ne (q := 192) 196 hX dX12_next_189 rfl rfl (fun c189 => ?_) (fun c189 => ?_)
            · have hc1 : ¬ wdH T P0 i = 70097 := fun q => c189 (by rw [q]; rfl)
              refine S_iload_n (q := 197) hX dX12_next_196 rfl rfl ?_
              refine S_ldc (q := 199) hX u_927 dX12_next_197 rfl ?_
              refine S_icmp_ne (q := 202) 206 hX dX12_next_199 rfl rfl (fun c199 => ?_) (fun c199 => ?_)
              · have hc2 : ¬ wdH T P0 i = 2947858 := fun q => c199 (by rw [q]; rfl)
                refine S_bipush (q := 208) (v := 6) hX dX12_next_206 bp_6 rfl ?_
                exact go208 hnl _ _ _ (by rw [wrS_m hl, if_neg hnd, if_neg ht0, if_neg hc1, if_neg hc2]; rfl) h2 h3 h5 hp hM hF
              · have hc2 : wdH T P0 i = 2947858 := nI_inj (by omega) (by decide) c199
                refine S_iconst (q := 203) (v := 1) hX dX12_next_202 ic_1 rfl ?_
                refine S_goto 208 hX dX12_next_203 rfl ?_
                exact go208 hnl _ _ _ (by rw [wrS_m hl, if_neg hnd, if_neg ht0, if_neg hc1, if_pos hc2]; rfl) h2 h3 h5 hp hM hF
            · have hc1 : wdH T P0 i = 70097 := nI_inj (by omega) (by decide) c189
              refine S_iconst (q := 193) (v := 0) hX dX12_next_192 ic_0 rfl ?_
              refine S_goto 208 hX dX12_next_193 rfl ?_
              exact go208 hnl _ _ _ (by rw [wrS_m hl, if_neg hnd, if_neg ht0, if_pos hc1]; rfl) h2 h3 h5 hp hM hF
          · have ht0 : 0 < wdT T P0 i := by rcases Nat.eq_zero_or_pos (wdT T P0 i) with q | q; exact absurd (by rw [q]; decide) c178; exact q
            refine S_bipush (q := 183) (v := 6) hX dX12_next_181 bp_6 rfl ?_
            refine S_goto 208 hX dX12_next_183 rfl ?_
            exact go208 hnl _ _ _ (by rw [wrS_m hl, if_neg hnd, if_pos ht0]; rfl) h2 h3 h5 hp hM hF
        refine S_aload_n (q := 68) hX dX12_next_67 rfl rfl ?_
        refine S_callV (ci := 12) (C := "FanTalkModel") (T := TX12) (N := 17) (q := 71) 0 0 hX (c_X12_here _ μ T (P0 + i)) rfl ?hs_9 rfl u_921 u_923 us_39 u_12 u_924 ⟨by decide, by decide, rfl⟩ ⟨Nat.le_of_ble_eq_true rfl, Nat.le_of_ble_eq_true rfl⟩ ⟨Nat.le_of_ble_eq_true rfl, Nat.le_of_ble_eq_true rfl⟩ (Nat.le_of_ble_eq_true rfl) dX12_next_68 ?hp_9 rfl rfl rfl ?_
        case hs_9 => first | with_reducible assumption | exact ⟨_, by with_reducible assumption⟩ | exact MM.isO hM
        case hp_9 => exact ⟨hM, hT.prs hp, h2, by omega⟩
        rintro v σ1 sz1 ⟨rfl, rfl, rfl⟩
        refine S_bipush (q := 73) (v := 97) hX dX12_next_71 bp_97 rfl ?_
        refine S_bipush (q := 75) (v := 122) hX dX12_next_73 bp_122 rfl ?_
        refine S_callS (q := 78) 0 0 hX (c_X12_in _ _ _) rfl u_858 u_859 u_12 u_860 ⟨by decide, by decide, rfl⟩ ⟨Nat.le_of_ble_eq_true rfl, Nat.le_of_ble_eq_true rfl⟩ ⟨Nat.le_of_ble_eq_true rfl, Nat.le_of_ble_eq_true rfl⟩ (Nat.le_of_ble_eq_true rfl) dX12_next_75 ?hp_10 rfl rfl rfl ?_
        case hp_10 => trivial
        rintro v σ1 sz1 ⟨rfl, rfl, rfl⟩
        refine S_top (bi_congr (hrI_in (lo := 97) (hi := 122) hb (by decide))) ?_
        refine S_if_eq_b (q := 81) 160 hX dX12_next_78 rfl rfl (fun c78 => ?_) (fun c78 => ?_)
        · have hnl := c78
          refine S_aload_n (q := 161) hX dX12_next_160 rfl rfl ?_
          refine S_iload_n (q := 162) hX dX12_next_161 rfl rfl ?_
          refine S_ldc (q := 164) hX u_925 dX12_next_162 rfl ?_
          refine S_icmp_ne (q := 167) 177 hX dX12_next_164 rfl rfl (fun c164 => ?_) (fun c164 => ?_)
          · exact go177 hnl (fun q => c164 (by rw [q.1]; rfl)) _ _ h2 h3 h5 hp hM hF
          · refine S_iload_n (q := 168) hX dX12_next_167 rfl rfl ?_
            refine S_bipush (q := 170) (v := 20) hX dX12_next_168 bp_20 rfl ?_
            refine S_icmp_ne (q := 173) 177 hX dX12_next_170 rfl rfl (fun c170 => ?_) (fun c170 => ?_)
            · exact go177 hnl (fun q => c170 (by rw [q.2]; rfl)) _ _ h2 h3 h5 hp hM hF
            · refine S_iconst (q := 174) (v := 2) hX dX12_next_173 ic_2 rfl ?_
              refine S_goto 208 hX dX12_next_174 rfl ?_
              exact go208 hnl _ _ _ (by rw [wrS_m hl, if_pos ⟨nI_inj (by omega) (by decide) c164, nI_inj (by omega) (by decide) c170⟩]; rfl) h2 h3 h5 hp hM hF
        · have hpt : P0 + i < T.1 := by have := (hr_le hb (P0 + i)).2.1; omega
          have hlt : 97 ≤ T.2 (P0 + i) ∧ T.2 (P0 + i) ≤ 122 := by rw [← (hbn _ hpt).2]; exact c78
          refine S_aload_n (q := 82) hX dX12_next_81 rfl rfl ?_
          refine S_getf (fs := ?fs_11) (v := ?v_11) (q := 85) hX u_788 fo_X12_at dX12_next_82 ?hs_11 ?hv_11 rfl ?_
          case hs_11 => with_reducible first | exact MM.c0 hM | exact MM.c1 hM | exact MM.c5 hM | exact MM.c6 hM | exact MM.c7 hM | exact MM.c3 hM | exact MM.c4 hM | exact MM.c8 hM | exact MM.c2 hM
          case hv_11 => rfl
          refine S_aload_n (q := 86) hX dX12_next_85 rfl rfl ?_
          refine S_getf (fs := ?fs_12) (v := ?v_12) (q := 89) hX u_789 fo_X12_start dX12_next_86 ?hs_12 ?hv_12 rfl ?_
          case hs_12 => with_reducible first | exact MM.c0 hM | exact MM.c1 hM | exact MM.c5 hM | exact MM.c6 hM | exact MM.c7 hM | exact MM.c3 hM | exact MM.c4 hM | exact MM.c8 hM | exact MM.c2 hM
          case hv_12 => rfl
          refine S_isub (q := 90) hX dX12_next_89 rfl ?_
          refine S_top (y := nI i) (by rw [h2, h3, pk_sub (by omega), Nat.add_sub_cancel_left]) ?_
          refine S_istore (q := 92) [_, _, _, _, _] hX dX12_next_90 rfl (Nat.le_of_ble_eq_true rfl) rfl rfl ?_
          refine S_iload (q := 94) hX dX12_next_92 rfl rfl ?_
          refine S_bipush (q := 96) (v := 6) hX dX12_next_94 bp_6 rfl ?_
          refine S_icmp_ge (q := 99) 114 hX dX12_next_96 rfl rfl (fun c96 => ?_) (fun c96 => ?_)
          · have hi6 : ¬ i < 6 := by rw [show (6 : Int32) = nI 6 from rfl, nI_leI (by omega) (by omega)] at c96; omega
            refine S_iload_n (q := 115) hX dX12_next_114 rfl rfl ?_
            exact go115 _ _ _ (by rw [wdH_s, if_neg hi6]) hlt hpt h2 h3 h5 hp hM hF
          · have hi6 : i < 6 := by rw [show (6 : Int32) = nI 6 from rfl, nI_leI (by omega) (by omega)] at c96; omega
            refine S_bipush (q := 101) (v := 27) hX dX12_next_99 bp_27 rfl ?_
            refine S_iload_n (q := 102) hX dX12_next_101 rfl rfl ?_
            refine S_imul (q := 103) hX dX12_next_102 rfl ?_
            refine S_aload_n (q := 104) hX dX12_next_103 rfl rfl ?_
            refine S_callV (ci := 12) (C := "FanTalkModel") (T := TX12) (N := 17) (q := 107) 0 0 hX (c_X12_here _ μ T (P0 + i)) rfl ?hs_13 rfl u_921 u_923 us_39 u_12 u_924 ⟨by decide, by decide, rfl⟩ ⟨Nat.le_of_ble_eq_true rfl, Nat.le_of_ble_eq_true rfl⟩ ⟨Nat.le_of_ble_eq_true rfl, Nat.le_of_ble_eq_true rfl⟩ (Nat.le_of_ble_eq_true rfl) dX12_next_104 ?hp_13 rfl rfl rfl ?_
            case hs_13 => first | with_reducible assumption | exact ⟨_, by with_reducible assumption⟩ | exact MM.isO hM
            case hp_13 => exact ⟨hM, hT.prs hp, h2, by omega⟩
            rintro v σ1 sz1 ⟨rfl, rfl, rfl⟩
            refine S_iadd (q := 108) hX dX12_next_107 rfl ?_
            refine S_bipush (q := 110) (v := 96) hX dX12_next_108 bp_96 rfl ?_
            refine S_isub (q := 111) hX dX12_next_110 rfl ?_
            refine S_goto 115 hX dX12_next_111 rfl ?_
            exact go115 _ _ _ (by rw [wdH_s, if_pos hi6, (hbn _ hpt).1, show (27 : Int32) = nI 27 from rfl, show (96 : Int32) = nI 96 from rfl, pk_mul, nI_add, pk_sub (by omega)]; congr 1; omega) hlt hpt h2 h3 h5 hp hM hF
  have etn : P0 < T.1 → ¬ (97 ≤ hr T P0 ∧ hr T P0 ≤ 122) → (48 ≤ hr T P0 ∧ hr T P0 ≤ 57) → tkA T P0 = (P0, if rnW T 48 57 (T.1 + 1) P0 ≤ P0 + 2 then 3 else 6, nuV T P0 (rnW T 48 57 (T.1 + 1) P0), rnW T 48 57 (T.1 + 1) P0) := fun a b c => by unfold tkA; rw [if_neg (fun q => by have := (hr_le hb P0).2.1; omega), if_neg b, if_pos c]
  have l225 : P0 < T.1 → ¬ (97 ≤ hr T P0 ∧ hr T P0 ≤ 122) → (48 ≤ hr T P0 ∧ hr T P0 ≤ 57) → ∀ (fl i : Nat) (y2 y3 y4 : Option Value) (σ : Sg) (μ : MF), (∀ j, j < i → 48 ≤ T.2 (P0 + j) ∧ T.2 (P0 + j) ≤ 57) → P0 + i ≤ T.1 → T.1 < fl + (P0 + i) → rnW T 48 57 fl (P0 + i) = rnW T 48 57 (T.1 + 1) P0 → μ 0 2 = nI (P0 + i) → μ 0 3 = nI P0 → μ 0 5 = nI (nuA T P0 i) → prs μ0 μ → MM σ m μ → Fr m (m + 9) σ0 σ → G X Γ P 0 0 225 [some (.ref m), some (.int (hrI T P0)), y2, y3, y4] [] σ sz := by
    intro hP1 hP2 hP3 fl
    induction fl with
      | zero => intro i _ _ _ σ μ _ _ q; omega
      | succ fl ih =>
        rintro i y2 y3 y4 σ μ hd hi hfu hrn h2 h3 h5 hp hM hF
        have bN := nuA_lt hd
        refine S_aload_n (q := 226) hX dX12_next_225 rfl rfl ?_
        refine S_callV (ci := 12) (C := "FanTalkModel") (T := TX12) (N := 17) (q := 229) 0 0 hX (c_X12_here _ μ T (P0 + i)) rfl ?hs_14 rfl u_921 u_923 us_39 u_12 u_924 ⟨by decide, by decide, rfl⟩ ⟨Nat.le_of_ble_eq_true rfl, Nat.le_of_ble_eq_true rfl⟩ ⟨Nat.le_of_ble_eq_true rfl, Nat.le_of_ble_eq_true rfl⟩ (Nat.le_of_ble_eq_true rfl) dX12_next_226 ?hp_14 rfl rfl rfl ?_
        case hs_14 => first | with_reducible assumption | exact ⟨_, by with_reducible assumption⟩ | exact MM.isO hM
        case hp_14 => exact ⟨hM, hT.prs hp, h2, by omega⟩
        rintro v σ1 sz1 ⟨rfl, rfl, rfl⟩
        refine S_bipush (q := 231) (v := 48) hX dX12_next_229 bp_48 rfl ?_
        refine S_bipush (q := 233) (v := 57) hX dX12_next_231 bp_57 rfl ?_
        refine S_callS (q := 236) 0 0 hX (c_X12_in _ _ _) rfl u_858 u_859 u_12 u_860 ⟨by decide, by decide, rfl⟩ ⟨Nat.le_of_ble_eq_true rfl, Nat.le_of_ble_eq_true rfl⟩ ⟨Nat.le_of_ble_eq_true rfl, Nat.le_of_ble_eq_true rfl⟩ (Nat.le_of_ble_eq_true rfl) dX12_next_233 ?hp_15 rfl rfl rfl ?_
        case hp_15 => trivial
        rintro v σ1 sz1 ⟨rfl, rfl, rfl⟩
        refine S_top (bi_congr (hrI_in (lo := 48) (hi := 57) hb (by decide))) ?_
        refine S_if_eq_b (q := 239) 288 hX dX12_next_236 rfl rfl (fun c236 => ?_) (fun c236 => ?_)
        · have hnl := c236
          have hi0 : ¬ i = 0 := fun q => c236 (by rw [q]; exact hP3)
          refine S_aload_n (q := 289) hX dX12_next_288 rfl rfl ?_
          refine S_aload_n (q := 290) hX dX12_next_289 rfl rfl ?_
          refine S_getf (fs := ?fs_16) (v := ?v_16) (q := 293) hX u_788 fo_X12_at dX12_next_290 ?hs_16 ?hv_16 rfl ?_
          case hs_16 => with_reducible first | exact MM.c0 hM | exact MM.c1 hM | exact MM.c5 hM | exact MM.c6 hM | exact MM.c7 hM | exact MM.c3 hM | exact MM.c4 hM | exact MM.c8 hM | exact MM.c2 hM
          case hv_16 => rfl
          refine S_aload_n (q := 294) hX dX12_next_293 rfl rfl ?_
          refine S_getf (fs := ?fs_17) (v := ?v_17) (q := 297) hX u_789 fo_X12_start dX12_next_294 ?hs_17 ?hv_17 rfl ?_
          case hs_17 => with_reducible first | exact MM.c0 hM | exact MM.c1 hM | exact MM.c5 hM | exact MM.c6 hM | exact MM.c7 hM | exact MM.c3 hM | exact MM.c4 hM | exact MM.c8 hM | exact MM.c2 hM
          case hv_17 => rfl
          refine S_isub (q := 298) hX dX12_next_297 rfl ?_
          refine S_top (y := nI i) (by rw [h2, h3, pk_sub (by omega), Nat.add_sub_cancel_left]) ?_
          refine S_iconst (q := 299) (v := 2) hX dX12_next_298 ic_2 rfl ?_
          refine S_icmp_le (q := 302) 307 hX dX12_next_299 rfl rfl (fun c299 => ?_) (fun c299 => ?_)
          · have hi2 : P0 + i ≤ P0 + 2 := by rw [i2, nI_leI (by omega) (by omega)] at c299; omega
            refine S_iconst (q := 308) (v := 3) hX dX12_next_307 ic_3 rfl ?_
            refine S_nm (fun x308 hx308 => ?_)
            refine S_putf (fs := ?fs_18) (q := 311) hX u_790 fo_X12_sort rfl rfl ?hl_18 dX12_next_308 ?hs_18 rfl ?_
            case hs_18 => with_reducible first | exact MM.c0 hM | exact MM.c1 hM | exact MM.c5 hM | exact MM.c6 hM | exact MM.c7 hM | exact MM.c3 hM | exact MM.c4 hM | exact MM.c8 hM | exact MM.c2 hM
            case hl_18 => exact Nat.le_of_ble_eq_true rfl
            refine S_stu (q0 := m) (j := 0) (i := 4) hM hF (by decide) rfl (fun σ μ308 e308 hM hF => ?_)
            subst hx308
            refine S_goto 340 hX dX12_next_311 rfl ?_
            exact l340 _ _ _ _ _ _ (by rw [etn hP1 hP2 hP3, ← hrn, rnW_e hnl]; refine ⟨?_, ?_, ?_, ?_⟩ <;> rw [e308, m2_00] <;> first | (rw [if_neg (by decide)]; first | exact h3 | exact h2 | exact h5.trans (congrArg nI (if_neg hi0))) | (rw [if_pos rfl]; exact congrArg nI (if_pos hi2).symm)) (by rw [e308]; exact hp.st (by decide) (by decide)) hM hF
          · have hi2 : ¬ P0 + i ≤ P0 + 2 := by rw [i2, nI_leI (by omega) (by omega)] at c299; omega
            refine S_bipush (q := 304) (v := 6) hX dX12_next_302 bp_6 rfl ?_
            refine S_goto 308 hX dX12_next_304 rfl ?_
            refine S_nm (fun x308 hx308 => ?_)
            refine S_putf (fs := ?fs_19) (q := 311) hX u_790 fo_X12_sort rfl rfl ?hl_19 dX12_next_308 ?hs_19 rfl ?_
            case hs_19 => with_reducible first | exact MM.c0 hM | exact MM.c1 hM | exact MM.c5 hM | exact MM.c6 hM | exact MM.c7 hM | exact MM.c3 hM | exact MM.c4 hM | exact MM.c8 hM | exact MM.c2 hM
            case hl_19 => exact Nat.le_of_ble_eq_true rfl
            refine S_stu (q0 := m) (j := 0) (i := 4) hM hF (by decide) rfl (fun σ μ308 e308 hM hF => ?_)
            subst hx308
            refine S_goto 340 hX dX12_next_311 rfl ?_
            exact l340 _ _ _ _ _ _ (by rw [etn hP1 hP2 hP3, ← hrn, rnW_e hnl]; refine ⟨?_, ?_, ?_, ?_⟩ <;> rw [e308, m2_00] <;> first | (rw [if_neg (by decide)]; first | exact h3 | exact h2 | exact h5.trans (congrArg nI (if_neg hi0))) | (rw [if_pos rfl]; exact congrArg nI (if_neg hi2).symm)) (by rw [e308]; exact hp.st (by decide) (by decide)) hM hF
        · have hpt : P0 + i < T.1 := by have := (hr_le hb (P0 + i)).2.1; omega
          have hlt : 48 ≤ T.2 (P0 + i) ∧ T.2 (P0 + i) ≤ 57 := by rw [← (hbn _ hpt).2]; exact c236
          refine S_aload_n (q := 240) hX dX12_next_239 rfl rfl ?_
          refine S_aload_n (q := 241) hX dX12_next_240 rfl rfl ?_
          refine S_getf (fs := ?fs_20) (v := ?v_20) (q := 244) hX u_788 fo_X12_at dX12_next_241 ?hs_20 ?hv_20 rfl ?_
          case hs_20 => with_reducible first | exact MM.c0 hM | exact MM.c1 hM | exact MM.c5 hM | exact MM.c6 hM | exact MM.c7 hM | exact MM.c3 hM | exact MM.c4 hM | exact MM.c8 hM | exact MM.c2 hM
          case hv_20 => rfl
          refine S_aload_n (q := 245) hX dX12_next_244 rfl rfl ?_
          refine S_getf (fs := ?fs_21) (v := ?v_21) (q := 248) hX u_789 fo_X12_start dX12_next_245 ?hs_21 ?hv_21 rfl ?_
          case hs_21 => with_reducible first | exact MM.c0 hM | exact MM.c1 hM | exact MM.c5 hM | exact MM.c6 hM | exact MM.c7 hM | exact MM.c3 hM | exact MM.c4 hM | exact MM.c8 hM | exact MM.c2 hM
          case hv_21 => rfl
          refine S_isub (q := 249) hX dX12_next_248 rfl ?_
          refine S_top (y := nI i) (by rw [h2, h3, pk_sub (by omega), Nat.add_sub_cancel_left]) ?_
          refine S_iconst (q := 250) (v := 2) hX dX12_next_249 ic_2 rfl ?_
          refine S_icmp_ge (q := 253) 271 hX dX12_next_250 rfl rfl (fun c250 => ?_) (fun c250 => ?_)
          · have hi2 : ¬ i < 2 := by rw [i2, nI_leI (by omega) (by omega)] at c250; omega
            refine S_iconst (q := 272) (v := 0) hX dX12_next_271 ic_0 rfl ?_
            refine S_nm (fun x272 hx272 => ?_)
            refine S_putf (fs := ?fs_22) (q := 275) hX u_791 fo_X12_value rfl rfl ?hl_22 dX12_next_272 ?hs_22 rfl ?_
            case hs_22 => with_reducible first | exact MM.c0 hM | exact MM.c1 hM | exact MM.c5 hM | exact MM.c6 hM | exact MM.c7 hM | exact MM.c3 hM | exact MM.c4 hM | exact MM.c8 hM | exact MM.c2 hM
            case hl_22 => exact Nat.le_of_ble_eq_true rfl
            refine S_stu (q0 := m) (j := 0) (i := 5) hM hF (by decide) rfl (fun σ μ272 e272 hM hF => ?_)
            subst hx272
            refine S_aload_n (q := 276) hX dX12_next_275 rfl rfl ?_
            refine S_dup (q := 277) hX dX12_next_276 rfl rfl ?_
            refine S_getf (fs := ?fs_23) (v := ?v_23) (q := 280) hX u_788 fo_X12_at dX12_next_277 ?hs_23 ?hv_23 rfl ?_
            case hs_23 => with_reducible first | exact MM.c0 hM | exact MM.c1 hM | exact MM.c5 hM | exact MM.c6 hM | exact MM.c7 hM | exact MM.c3 hM | exact MM.c4 hM | exact MM.c8 hM | exact MM.c2 hM
            case hv_23 => rfl
            refine S_iconst (q := 281) (v := 1) hX dX12_next_280 ic_1 rfl ?_
            refine S_iadd (q := 282) hX dX12_next_281 rfl ?_
            refine S_nm (fun x282 hx282 => ?_)
            refine S_putf (fs := ?fs_24) (q := 285) hX u_788 fo_X12_at rfl rfl ?hl_24 dX12_next_282 ?hs_24 rfl ?_
            case hs_24 => with_reducible first | exact MM.c0 hM | exact MM.c1 hM | exact MM.c5 hM | exact MM.c6 hM | exact MM.c7 hM | exact MM.c3 hM | exact MM.c4 hM | exact MM.c8 hM | exact MM.c2 hM
            case hl_24 => exact Nat.le_of_ble_eq_true rfl
            refine S_stu (q0 := m) (j := 0) (i := 2) hM hF (by decide) rfl (fun σ μ282 e282 hM hF => ?_)
            subst hx282
            refine S_goto 225 hX dX12_next_285 rfl ?_
            exact ih (i + 1) _ _ _ _ _ (fun j hj => by rcases Nat.lt_succ_iff_lt_or_eq.mp hj with q | q; exact hd j q; rw [q]; exact hlt) (by omega) (by omega) (by rw [← hrn, rnW_s (by rw [(hbn _ hpt).2]; exact hlt)]; rfl) (by rw [e282, m2_00, if_pos rfl, e272, m2_00, if_neg (by decide), h2, nI_1]; rfl) (by rw [e282, m2_00, if_neg (by decide), e272, m2_00, if_neg (by decide)]; exact h3) (by rw [e282, m2_00, if_neg (by decide), e272, m2_00, if_pos rfl, nuA_s, if_neg hi2]; rfl) (by rw [e282, e272]; exact (hp.st (by decide) (by decide)).st (by decide) (by decide)) hM hF
          · have hi2 : i < 2 := by rw [i2, nI_leI (by omega) (by omega)] at c250; omega
            refine S_bipush (q := 255) (v := 10) hX dX12_next_253 bp_10 rfl ?_
            refine S_aload_n (q := 256) hX dX12_next_255 rfl rfl ?_
            refine S_getf (fs := ?fs_25) (v := ?v_25) (q := 259) hX u_791 fo_X12_value dX12_next_256 ?hs_25 ?hv_25 rfl ?_
            case hs_25 => with_reducible first | exact MM.c0 hM | exact MM.c1 hM | exact MM.c5 hM | exact MM.c6 hM | exact MM.c7 hM | exact MM.c3 hM | exact MM.c4 hM | exact MM.c8 hM | exact MM.c2 hM
            case hv_25 => rfl
            refine S_imul (q := 260) hX dX12_next_259 rfl ?_
            refine S_aload_n (q := 261) hX dX12_next_260 rfl rfl ?_
            refine S_callV (ci := 12) (C := "FanTalkModel") (T := TX12) (N := 17) (q := 264) 0 0 hX (c_X12_here _ μ T (P0 + i)) rfl ?hs_26 rfl u_921 u_923 us_39 u_12 u_924 ⟨by decide, by decide, rfl⟩ ⟨Nat.le_of_ble_eq_true rfl, Nat.le_of_ble_eq_true rfl⟩ ⟨Nat.le_of_ble_eq_true rfl, Nat.le_of_ble_eq_true rfl⟩ (Nat.le_of_ble_eq_true rfl) dX12_next_261 ?hp_26 rfl rfl rfl ?_
            case hs_26 => first | with_reducible assumption | exact ⟨_, by with_reducible assumption⟩ | exact MM.isO hM
            case hp_26 => exact ⟨hM, hT.prs hp, h2, by omega⟩
            rintro v σ1 sz1 ⟨rfl, rfl, rfl⟩
            refine S_iadd (q := 265) hX dX12_next_264 rfl ?_
            refine S_bipush (q := 267) (v := 48) hX dX12_next_265 bp_48 rfl ?_
            refine S_isub (q := 268) hX dX12_next_267 rfl ?_
            refine S_goto 272 hX dX12_next_268 rfl ?_
            refine S_nm (fun x272 hx272 => ?_)
            refine S_putf (fs := ?fs_27) (q := 275) hX u_791 fo_X12_value rfl rfl ?hl_27 dX12_next_272 ?hs_27 rfl ?_
            case hs_27 => with_reducible first | exact MM.c0 hM | exact MM.c1 hM | exact MM.c5 hM | exact MM.c6 hM | exact MM.c7 hM | exact MM.c3 hM | exact MM.c4 hM | exact MM.c8 hM | exact MM.c2 hM
            case hl_27 => exact Nat.le_of_ble_eq_true rfl
            refine S_stu (q0 := m) (j := 0) (i := 5) hM hF (by decide) rfl (fun σ μ272 e272 hM hF => ?_)
            subst hx272
            refine S_aload_n (q := 276) hX dX12_next_275 rfl rfl ?_
            refine S_dup (q := 277) hX dX12_next_276 rfl rfl ?_
            refine S_getf (fs := ?fs_28) (v := ?v_28) (q := 280) hX u_788 fo_X12_at dX12_next_277 ?hs_28 ?hv_28 rfl ?_
            case hs_28 => with_reducible first | exact MM.c0 hM | exact MM.c1 hM | exact MM.c5 hM | exact MM.c6 hM | exact MM.c7 hM | exact MM.c3 hM | exact MM.c4 hM | exact MM.c8 hM | exact MM.c2 hM
            case hv_28 => rfl
            refine S_iconst (q := 281) (v := 1) hX dX12_next_280 ic_1 rfl ?_
            refine S_iadd (q := 282) hX dX12_next_281 rfl ?_
            refine S_nm (fun x282 hx282 => ?_)
            refine S_putf (fs := ?fs_29) (q := 285) hX u_788 fo_X12_at rfl rfl ?hl_29 dX12_next_282 ?hs_29 rfl ?_
            case hs_29 => with_reducible first | exact MM.c0 hM | exact MM.c1 hM | exact MM.c5 hM | exact MM.c6 hM | exact MM.c7 hM | exact MM.c3 hM | exact MM.c4 hM | exact MM.c8 hM | exact MM.c2 hM
            case hl_29 => exact Nat.le_of_ble_eq_true rfl
            refine S_stu (q0 := m) (j := 0) (i := 2) hM hF (by decide) rfl (fun σ μ282 e282 hM hF => ?_)
            subst hx282
            refine S_goto 225 hX dX12_next_285 rfl ?_
            exact ih (i + 1) _ _ _ _ _ (fun j hj => by rcases Nat.lt_succ_iff_lt_or_eq.mp hj with q | q; exact hd j q; rw [q]; exact hlt) (by omega) (by omega) (by rw [← hrn, rnW_s (by rw [(hbn _ hpt).2]; exact hlt)]; rfl) (by rw [e282, m2_00, if_pos rfl, e272, m2_00, if_neg (by decide), h2, nI_1]; rfl) (by rw [e282, m2_00, if_neg (by decide), e272, m2_00, if_neg (by decide)]; exact h3) (by rw [e282, m2_00, if_neg (by decide), e272, m2_00, if_pos rfl, nuA_s, if_pos hi2, (hbn _ hpt).1, h5, show (10 : Int32) = nI 10 from rfl, show (48 : Int32) = nI 48 from rfl, pk_mul, nI_add, pk_sub (by omega)]; congr 1; omega) (by rw [e282, e272]; exact (hp.st (by decide) (by decide)).st (by decide) (by decide)) hM hF
  have l22 : P0 ≤ T.1 → ∀ (σ : Sg) (μ : MF), μ 0 2 = nI P0 → prs μ0 μ → MM σ m μ → Fr m (m + 9) σ0 σ → G X Γ P 0 0 22 [some (.ref m), none, none, none, none] [] σ sz := by
    intro hP1 σ μ h2 hp hM hF
    have et3 : hr T P0 = 256 → tkA T P0 = (P0, 5, 0, P0) := fun q => by unfold tkA; rw [if_pos q]
    have et4 : P0 < T.1 → ¬ (97 ≤ hr T P0 ∧ hr T P0 ≤ 122) → ¬ (48 ≤ hr T P0 ∧ hr T P0 ≤ 57) → tkA T P0 = (P0, if hr T P0 = 59 then 4 else 6, 0, P0 + 1) := fun a b c => by unfold tkA; rw [if_neg (fun q => by have := (hr_le hb P0).2.1; omega), if_neg b, if_neg c]
    refine S_aload_n (q := 23) hX dX12_next_22 rfl rfl ?_
    refine S_aload_n (q := 24) hX dX12_next_23 rfl rfl ?_
    refine S_getf (fs := ?fs_30) (v := ?v_30) (q := 27) hX u_788 fo_X12_at dX12_next_24 ?hs_30 ?hv_30 rfl ?_
    case hs_30 => with_reducible first | exact MM.c0 hM | exact MM.c1 hM | exact MM.c5 hM | exact MM.c6 hM | exact MM.c7 hM | exact MM.c3 hM | exact MM.c4 hM | exact MM.c8 hM | exact MM.c2 hM
    case hv_30 => rfl
    refine S_nm (fun x27 hx27 => ?_)
    refine S_putf (fs := ?fs_31) (q := 30) hX u_789 fo_X12_start rfl rfl ?hl_31 dX12_next_27 ?hs_31 rfl ?_
    case hs_31 => with_reducible first | exact MM.c0 hM | exact MM.c1 hM | exact MM.c5 hM | exact MM.c6 hM | exact MM.c7 hM | exact MM.c3 hM | exact MM.c4 hM | exact MM.c8 hM | exact MM.c2 hM
    case hl_31 => exact Nat.le_of_ble_eq_true rfl
    refine S_stu (q0 := m) (j := 0) (i := 3) hM hF (by decide) rfl (fun σ μ27 e27 hM hF => ?_)
    subst hx27
    refine S_aload_n (q := 31) hX dX12_next_30 rfl rfl ?_
    refine S_iconst (q := 32) (v := 0) hX dX12_next_31 ic_0 rfl ?_
    refine S_nm (fun x32 hx32 => ?_)
    refine S_putf (fs := ?fs_32) (q := 35) hX u_791 fo_X12_value rfl rfl ?hl_32 dX12_next_32 ?hs_32 rfl ?_
    case hs_32 => with_reducible first | exact MM.c0 hM | exact MM.c1 hM | exact MM.c5 hM | exact MM.c6 hM | exact MM.c7 hM | exact MM.c3 hM | exact MM.c4 hM | exact MM.c8 hM | exact MM.c2 hM
    case hl_32 => exact Nat.le_of_ble_eq_true rfl
    refine S_stu (q0 := m) (j := 0) (i := 5) hM hF (by decide) rfl (fun σ μ32 e32 hM hF => ?_)
    subst hx32
    have hp : prs μ0 μ32 := by rw [e32, e27]; exact (hp.st (by decide) (by decide)).st (by decide) (by decide)
    have h3 : μ32 0 3 = nI P0 := by rw [e32, m2_00, if_neg (by decide), e27, m2_00, if_pos rfl, h2]
    have h5 : μ32 0 5 = nI 0 := by rw [e32, m2_00, if_pos rfl]; rfl
    have h2 : μ32 0 2 = nI P0 := by rw [e32, m2_00, if_neg (by decide), e27, m2_00, if_neg (by decide), h2]
    refine S_aload_n (q := 36) hX dX12_next_35 rfl rfl ?_
    refine S_callV (ci := 12) (C := "FanTalkModel") (T := TX12) (N := 17) (q := 39) 0 0 hX (c_X12_here _ μ32 T P0) rfl ?hs_33 rfl u_921 u_923 us_39 u_12 u_924 ⟨by decide, by decide, rfl⟩ ⟨Nat.le_of_ble_eq_true rfl, Nat.le_of_ble_eq_true rfl⟩ ⟨Nat.le_of_ble_eq_true rfl, Nat.le_of_ble_eq_true rfl⟩ (Nat.le_of_ble_eq_true rfl) dX12_next_36 ?hp_33 rfl rfl rfl ?_
    case hs_33 => first | with_reducible assumption | exact ⟨_, by with_reducible assumption⟩ | exact MM.isO hM
    case hp_33 => exact ⟨hM, hT.prs hp, h2, by omega⟩
    rintro v σ1 sz1 ⟨rfl, rfl, rfl⟩
    refine S_istore_n (q := 40) [_, _, _, _, _] hX dX12_next_39 rfl (Nat.le_of_ble_eq_true rfl) rfl rfl ?_
    refine S_iload_n (q := 41) hX dX12_next_40 rfl rfl ?_
    refine S_if_ge (q := 44) 52 hX dX12_next_41 rfl rfl (fun c41 => ?_) (fun c41 => ?_)
    · have hlt : P0 < T.1 := (hrI_lt hb).mp c41
      refine S_iload_n (q := 53) hX dX12_next_52 rfl rfl ?_
      refine S_bipush (q := 55) (v := 97) hX dX12_next_53 bp_97 rfl ?_
      refine S_bipush (q := 57) (v := 122) hX dX12_next_55 bp_122 rfl ?_
      refine S_callS (q := 60) 0 0 hX (c_X12_in _ _ _) rfl u_858 u_859 u_12 u_860 ⟨by decide, by decide, rfl⟩ ⟨Nat.le_of_ble_eq_true rfl, Nat.le_of_ble_eq_true rfl⟩ ⟨Nat.le_of_ble_eq_true rfl, Nat.le_of_ble_eq_true rfl⟩ (Nat.le_of_ble_eq_true rfl) dX12_next_57 ?hp_34 rfl rfl rfl ?_
      case hp_34 => trivial
      rintro v σ1 sz1 ⟨rfl, rfl, rfl⟩
      refine S_top (bi_congr (hrI_in (lo := 97) (hi := 122) hb (by decide))) ?_
      refine S_if_eq_b (q := 63) 214 hX dX12_next_60 rfl rfl (fun c60 => ?_) (fun c60 => ?_)
      · refine S_iload_n (q := 215) hX dX12_next_214 rfl rfl ?_
        refine S_bipush (q := 217) (v := 48) hX dX12_next_215 bp_48 rfl ?_
        refine S_bipush (q := 219) (v := 57) hX dX12_next_217 bp_57 rfl ?_
        refine S_callS (q := 222) 0 0 hX (c_X12_in _ _ _) rfl u_858 u_859 u_12 u_860 ⟨by decide, by decide, rfl⟩ ⟨Nat.le_of_ble_eq_true rfl, Nat.le_of_ble_eq_true rfl⟩ ⟨Nat.le_of_ble_eq_true rfl, Nat.le_of_ble_eq_true rfl⟩ (Nat.le_of_ble_eq_true rfl) dX12_next_219 ?hp_35 rfl rfl rfl ?_
        case hp_35 => trivial
        rintro v σ1 sz1 ⟨rfl, rfl, rfl⟩
        refine S_top (bi_congr (hrI_in (lo := 48) (hi := 57) hb (by decide))) ?_
        refine S_if_eq_b (q := 225) 314 hX dX12_next_222 rfl rfl (fun c222 => ?_) (fun c222 => ?_)
        · refine S_aload_n (q := 315) hX dX12_next_314 rfl rfl ?_
          refine S_dup (q := 316) hX dX12_next_315 rfl rfl ?_
          refine S_getf (fs := ?fs_36) (v := ?v_36) (q := 319) hX u_788 fo_X12_at dX12_next_316 ?hs_36 ?hv_36 rfl ?_
          case hs_36 => with_reducible first | exact MM.c0 hM | exact MM.c1 hM | exact MM.c5 hM | exact MM.c6 hM | exact MM.c7 hM | exact MM.c3 hM | exact MM.c4 hM | exact MM.c8 hM | exact MM.c2 hM
          case hv_36 => rfl
          refine S_iconst (q := 320) (v := 1) hX dX12_next_319 ic_1 rfl ?_
          refine S_iadd (q := 321) hX dX12_next_320 rfl ?_
          refine S_nm (fun x321 hx321 => ?_)
          refine S_putf (fs := ?fs_37) (q := 324) hX u_788 fo_X12_at rfl rfl ?hl_37 dX12_next_321 ?hs_37 rfl ?_
          case hs_37 => with_reducible first | exact MM.c0 hM | exact MM.c1 hM | exact MM.c5 hM | exact MM.c6 hM | exact MM.c7 hM | exact MM.c3 hM | exact MM.c4 hM | exact MM.c8 hM | exact MM.c2 hM
          case hl_37 => exact Nat.le_of_ble_eq_true rfl
          refine S_stu (q0 := m) (j := 0) (i := 2) hM hF (by decide) rfl (fun σ μ321 e321 hM hF => ?_)
          subst hx321
          refine S_aload_n (q := 325) hX dX12_next_324 rfl rfl ?_
          refine S_iload_n (q := 326) hX dX12_next_325 rfl rfl ?_
          refine S_bipush (q := 328) (v := 59) hX dX12_next_326 bp_59 rfl ?_
          refine S_icmp_ne (q := 331) 335 hX dX12_next_328 rfl rfl (fun c328 => ?_) (fun c328 => ?_)
          · refine S_bipush (q := 337) (v := 6) hX dX12_next_335 bp_6 rfl ?_
            refine S_nm (fun x337 hx337 => ?_)
            refine S_putf (fs := ?fs_38) (q := 340) hX u_790 fo_X12_sort rfl rfl ?hl_38 dX12_next_337 ?hs_38 rfl ?_
            case hs_38 => with_reducible first | exact MM.c0 hM | exact MM.c1 hM | exact MM.c5 hM | exact MM.c6 hM | exact MM.c7 hM | exact MM.c3 hM | exact MM.c4 hM | exact MM.c8 hM | exact MM.c2 hM
            case hl_38 => exact Nat.le_of_ble_eq_true rfl
            refine S_stu (q0 := m) (j := 0) (i := 4) hM hF (by decide) rfl (fun σ μ337 e337 hM hF => ?_)
            subst hx337
            exact l340 _ _ _ _ _ _ (by rw [et4 hlt c60 c222, if_neg (fun q => c328 ((hrI_eq hb (by decide)).mpr q))]; exact ⟨by rw [e337, m2_00, if_neg (by decide), e321, m2_00, if_neg (by decide)]; exact h3, by rw [e337, m2_00, if_pos rfl]; rfl, by rw [e337, m2_00, if_neg (by decide), e321, m2_00, if_neg (by decide)]; exact h5, by rw [e337, m2_00, if_neg (by decide), e321, m2_00, if_pos rfl, h2, nI_1]⟩) (by rw [e337, e321]; exact (hp.st (by decide) (by decide)).st (by decide) (by decide)) hM hF
          · refine S_iconst (q := 332) (v := 4) hX dX12_next_331 ic_4 rfl ?_
            refine S_goto 337 hX dX12_next_332 rfl ?_
            refine S_nm (fun x337 hx337 => ?_)
            refine S_putf (fs := ?fs_39) (q := 340) hX u_790 fo_X12_sort rfl rfl ?hl_39 dX12_next_337 ?hs_39 rfl ?_
            case hs_39 => with_reducible first | exact MM.c0 hM | exact MM.c1 hM | exact MM.c5 hM | exact MM.c6 hM | exact MM.c7 hM | exact MM.c3 hM | exact MM.c4 hM | exact MM.c8 hM | exact MM.c2 hM
            case hl_39 => exact Nat.le_of_ble_eq_true rfl
            refine S_stu (q0 := m) (j := 0) (i := 4) hM hF (by decide) rfl (fun σ μ337 e337 hM hF => ?_)
            subst hx337
            exact l340 _ _ _ _ _ _ (by rw [et4 hlt c60 c222, if_pos ((hrI_eq hb (by decide)).mp c328)]; exact ⟨by rw [e337, m2_00, if_neg (by decide), e321, m2_00, if_neg (by decide)]; exact h3, by rw [e337, m2_00, if_pos rfl]; rfl, by rw [e337, m2_00, if_neg (by decide), e321, m2_00, if_neg (by decide)]; exact h5, by rw [e337, m2_00, if_neg (by decide), e321, m2_00, if_pos rfl, h2, nI_1]⟩) (by rw [e337, e321]; exact (hp.st (by decide) (by decide)).st (by decide) (by decide)) hM hF
        · exact l225 hlt c60 c222 (T.1 + 1) 0 _ _ _ _ _ (fun j hj => absurd hj (Nat.not_lt_zero _)) hP1 (by omega) rfl h2 h3 h5 hp hM hF
      · refine S_iconst (q := 64) (v := 0) hX dX12_next_63 ic_0 rfl ?_
        refine S_istore_n (q := 65) [_, _, _, _, _] hX dX12_next_64 rfl (Nat.le_of_ble_eq_true rfl) rfl rfl ?_
        refine S_iconst (q := 66) (v := 0) hX dX12_next_65 ic_0 rfl ?_
        refine S_istore_n (q := 67) [_, _, _, _, _] hX dX12_next_66 rfl (Nat.le_of_ble_eq_true rfl) rfl rfl ?_
        exact l67 hlt c60 (T.1 + 1) 0 _ _ _ _ _ rfl rfl (fun j hj => absurd hj (Nat.not_lt_zero _)) hP1 (by omega) rfl h2 h3 h5 hp hM hF
    · refine S_aload_n (q := 45) hX dX12_next_44 rfl rfl ?_
      refine S_iconst (q := 46) (v := 5) hX dX12_next_45 ic_5 rfl ?_
      refine S_nm (fun x46 hx46 => ?_)
      refine S_putf (fs := ?fs_40) (q := 49) hX u_790 fo_X12_sort rfl rfl ?hl_40 dX12_next_46 ?hs_40 rfl ?_
      case hs_40 => with_reducible first | exact MM.c0 hM | exact MM.c1 hM | exact MM.c5 hM | exact MM.c6 hM | exact MM.c7 hM | exact MM.c3 hM | exact MM.c4 hM | exact MM.c8 hM | exact MM.c2 hM
      case hl_40 => exact Nat.le_of_ble_eq_true rfl
      refine S_stu (q0 := m) (j := 0) (i := 4) hM hF (by decide) rfl (fun σ μ46 e46 hM hF => ?_)
      subst hx46
      refine S_goto 340 hX dX12_next_49 rfl ?_
      exact l340 _ _ _ _ _ _ (by rw [et3 ((hr_le hb P0).2.1.mpr (fun q => c41 ((hrI_lt hb).mpr q)))]; exact ⟨by rw [e46, m2_00, if_neg (by decide)]; exact h3, by rw [e46, m2_00, if_pos rfl]; rfl, by rw [e46, m2_00, if_neg (by decide)]; exact h5, by rw [e46, m2_00, if_neg (by decide)]; exact h2⟩) (by rw [e46]; exact hp.st (by decide) (by decide)) hM hF
  have l0 : ∀ (fl p : Nat) (σ : Sg) (μ : MF), skp T fl p = P0 → T.1 < fl + p → p ≤ T.1 → μ 0 2 = nI p → prs μ0 μ → MM σ m μ → Fr m (m + 9) σ0 σ → G X Γ P 0 0 0 [some (.ref m), none, none, none, none] [] σ sz := by
    intro fl
    induction fl with
      | zero => intro p σ μ _ q r; omega
      | succ fl ih =>
        intro p σ μ hsk hfu hpl h2 hp hM hF
        refine S_aload_n (q := 1) hX dX12_next_0 rfl rfl ?_
        refine S_callV (ci := 12) (C := "FanTalkModel") (T := TX12) (N := 17) (q := 4) 0 0 hX (c_X12_here _ μ T (p)) rfl ?hs_41 rfl u_921 u_923 us_39 u_12 u_924 ⟨by decide, by decide, rfl⟩ ⟨Nat.le_of_ble_eq_true rfl, Nat.le_of_ble_eq_true rfl⟩ ⟨Nat.le_of_ble_eq_true rfl, Nat.le_of_ble_eq_true rfl⟩ (Nat.le_of_ble_eq_true rfl) dX12_next_1 ?hp_41 rfl rfl rfl ?_
        case hs_41 => first | with_reducible assumption | exact ⟨_, by with_reducible assumption⟩ | exact MM.isO hM
        case hp_41 => exact ⟨hM, hT.prs hp, h2, by omega⟩
        rintro v σ1 sz1 ⟨rfl, rfl, rfl⟩
        refine S_bipush (q := 6) (v := 32) hX dX12_next_4 bp_32 rfl ?_
        refine S_icmp_ne (q := 9) 22 hX dX12_next_6 rfl rfl (fun c6 => ?_) (fun c6 => ?_)
        · have hpp : p = P0 := by rw [← hsk, skp_e (fun q => c6 ((hrI_eq hb (by decide)).mpr q))]
          subst hpp
          exact l22 hpl _ _ h2 hp hM hF
        · refine S_aload_n (q := 10) hX dX12_next_9 rfl rfl ?_
          refine S_dup (q := 11) hX dX12_next_10 rfl rfl ?_
          refine S_getf (fs := ?fs_42) (v := ?v_42) (q := 14) hX u_788 fo_X12_at dX12_next_11 ?hs_42 ?hv_42 rfl ?_
          case hs_42 => with_reducible first | exact MM.c0 hM | exact MM.c1 hM | exact MM.c5 hM | exact MM.c6 hM | exact MM.c7 hM | exact MM.c3 hM | exact MM.c4 hM | exact MM.c8 hM | exact MM.c2 hM
          case hv_42 => rfl
          refine S_iconst (q := 15) (v := 1) hX dX12_next_14 ic_1 rfl ?_
          refine S_iadd (q := 16) hX dX12_next_15 rfl ?_
          refine S_nm (fun x16 hx16 => ?_)
          refine S_putf (fs := ?fs_43) (q := 19) hX u_788 fo_X12_at rfl rfl ?hl_43 dX12_next_16 ?hs_43 rfl ?_
          case hs_43 => with_reducible first | exact MM.c0 hM | exact MM.c1 hM | exact MM.c5 hM | exact MM.c6 hM | exact MM.c7 hM | exact MM.c3 hM | exact MM.c4 hM | exact MM.c8 hM | exact MM.c2 hM
          case hl_43 => exact Nat.le_of_ble_eq_true rfl
          refine S_stu (q0 := m) (j := 0) (i := 2) hM hF (by decide) rfl (fun σ μ16 e16 hM hF => ?_)
          subst hx16
          refine S_goto 0 hX dX12_next_19 rfl ?_
          have h32 : hr T p = 32 := (hrI_eq hb (by decide)).mp c6
          have hlt : p < T.1 := by have := (hr_le hb p).2.1; omega
          exact ih (p + 1) _ _ (by rw [← hsk, skp_s h32]) (by omega) (by omega) (by rw [e16, m2_00, if_pos rfl, h2, nI_1]) (by rw [e16]; exact hp.st (by decide) (by decide)) hM hF
  exact l0 (T.1 + 1) p _ _ eP.symm (by omega) hpT h2 hp hM hF
