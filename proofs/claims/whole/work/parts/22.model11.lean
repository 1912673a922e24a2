/-! the reference searches -/
/-- only the row that is made has changed (and how long it is) -/
def onl5 (μ μ' : MF) : Prop := ∃ g, μ' = m1 μ 5 g
theorem scr.m5 {μ : MF} {g : Nat → Int32} : scr μ (m1 μ 5 g) := ⟨fun j hj => m1_ne (by omega), fun i _ _ => by rw [m1_ne (by decide)]⟩

theorem c_X12_makeLeast (m : Nat) (μ : MF) (x : Int32) (n : Nat) (hx : x = nI n) : CT_X12_makeLeast [.ref m, .int x] (fun Γ σ sz => MM σ m μ ∧ n ≤ 60) (fun Γ σ sz v σ' sz' => ∃ μ', MM σ' m μ' ∧ Fr m (m + 9) σ σ' ∧ v = none ∧ (∃ g, μ' = m1 (m2 μ 0 7 (nI n)) 5 g ∧ ∀ i, i < n → g i = 0) ∧ sz' = sz) := by
  refine CT.mkP rfl (Nat.le_of_ble_eq_true rfl) [_, _, _] rfl ?_
  intro X Γ σ sz P hX hpre hsz hP
  obtain ⟨hM, hn⟩ := hpre
  have hF : Fr m (m + 9) σ σ := Fr.rf
  subst hx
  obtain ⟨σ0, eσ0⟩ : ∃ z, z = σ := ⟨σ, rfl⟩
  rw [← eσ0] at hP
  have hF : Fr m (m + 9) σ0 σ := by rw [eσ0]; exact Fr.rf
  have loop : ∀ (fl : Nat) (k : Nat) (σ : Sg) (g : Nat → Int32) (xk : Int32), xk = nI k → k ≤ n → n - k < fl → (∀ i, i < k → g i = 0) → MM σ m (m1 (m2 μ 0 7 (nI n)) 5 g) → Fr m (m + 9) σ0 σ → G X Γ P 0 0 7 [some (.ref m), some (.int (nI n)), some (.int xk)] [] σ sz := by
    intro fl
    induction fl with
    | zero =>
      rintro k σ g _ rfl hk hfu hg hM hF
      exact absurd hfu (Nat.not_lt_zero _)
    | succ fl ih =>
      rintro k σ g _ rfl hk hfu hg hM hF
      refine S_iload_n (q := 8) hX dX12_makeLeast_7 rfl rfl ?_
      refine S_iload_n (q := 9) hX dX12_makeLeast_8 rfl rfl ?_
      refine S_icmp_ge (q := 12) 25 hX dX12_makeLeast_9 rfl rfl (fun c9 => ?_) (fun c9 => ?_)
      · have hge : k = n := by rw [nI_leI (by omega) (by omega)] at c9; omega
        subst hge
        refine S_vret hX dX12_makeLeast_25 (Nat.zero_le _) (Nat.zero_le _) ?_
        refine hP _ _ _ ?_
        exact ⟨_, hM, hF, rfl, ⟨g, rfl, hg⟩, rfl⟩
      · have hlt : k < n := by rw [nI_leI (by omega) (by omega)] at c9; omega
        refine S_aload_n (q := 13) hX dX12_makeLeast_12 rfl rfl ?_
        refine S_getf (fs := ?fs_1) (v := ?v_1) (q := 16) hX u_793 fo_X12_made dX12_makeLeast_13 ?hs_1 ?hv_1 rfl ?_
        case hs_1 => with_reducible first | exact MM.c0 hM | exact MM.c1 hM | exact MM.c5 hM | exact MM.c6 hM | exact MM.c7 hM | exact MM.c3 hM | exact MM.c4 hM | exact MM.c8 hM | exact MM.c2 hM
        case hv_1 => rfl
        refine S_iload_n (q := 17) hX dX12_makeLeast_16 rfl rfl ?_
        refine S_iconst (q := 18) (v := 0) hX dX12_makeLeast_17 ic_0 rfl ?_
        refine S_nm (fun x18 hx18 => ?_)
        refine S_iast (N := ?n_2) (f := ?f_2) (q := 19) hX dX12_makeLeast_18 ?hs_2 ?hi_2 rfl ?_
        case hs_2 => with_reducible first | exact MM.c0 hM | exact MM.c1 hM | exact MM.c5 hM | exact MM.c6 hM | exact MM.c7 hM | exact MM.c3 hM | exact MM.c4 hM | exact MM.c8 hM | exact MM.c2 hM
        case hi_2 => exact vp_in_nI (by omega) (by decide)
        refine S_stu (q0 := m) (j := 5) (i := _) hM hF (by decide) rfl (fun σ μ18 e18 hM hF => ?_)
        subst hx18
        refine S_iinc (q := 22) [_, _, _] hX dX12_makeLeast_19 rfl (ii_1 _) rfl (Nat.le_of_ble_eq_true rfl) rfl rfl ?_
        refine S_goto 7 hX dX12_makeLeast_22 rfl ?_
        rw [nI_clamp (by omega), m2_m1] at e18
        subst e18
        refine ih (k + 1) σ _ _ (nI_1 _) (by omega) (by omega) (fun i hi => ?_) hM hF
        rcases Nat.lt_succ_iff_lt_or_eq.mp hi with q | q
        · rw [upd_ne (by omega)]; exact hg i q
        · subst q; rw [upd_eq]
  refine S_aload_n (q := 1) hX dX12_makeLeast_0 rfl rfl ?_
  refine S_iload_n (q := 2) hX dX12_makeLeast_1 rfl rfl ?_
  refine S_nm (fun x2 hx2 => ?_)
  refine S_putf (fs := ?fs_3) (q := 5) hX u_794 fo_X12_beats rfl rfl ?hl_3 dX12_makeLeast_2 ?hs_3 rfl ?_
  case hs_3 => with_reducible first | exact MM.c0 hM | exact MM.c1 hM | exact MM.c5 hM | exact MM.c6 hM | exact MM.c7 hM | exact MM.c3 hM | exact MM.c4 hM | exact MM.c8 hM | exact MM.c2 hM
  case hl_3 => exact Nat.le_of_ble_eq_true rfl
  refine S_stu (q0 := m) (j := 0) (i := 7) hM hF (by decide) rfl (fun σ μ2 e2 hM hF => ?_)
  subst hx2
  refine S_iconst (q := 6) (v := 0) hX dX12_makeLeast_5 ic_0 rfl ?_
  refine S_istore_n (q := 7) [_, _, _] hX dX12_makeLeast_6 rfl (Nat.le_of_ble_eq_true rfl) rfl rfl ?_
  refine loop (n + 1) 0 σ (μ 5) _ rfl (Nat.zero_le _) (by omega) (fun i hi => absurd hi (Nat.not_lt_zero _)) ?_ hF
  rw [m1_id (m2 μ 0 7 (nI n)) 5 (m1_ne (by decide)), ← e2]
  exact hM
theorem c_X12_madeRow (m : Nat) (μ : MF) (n : Nat) (r : Nat → Nat) : CT_X12_madeRow [.ref m] (fun Γ σ sz => MM σ m μ ∧ n ≤ 6 ∧ μ 0 7 = nI n ∧ ∀ i, i < n → μ 5 i = nI (r i)) (fun Γ σ sz v σ' sz' => v = some (.int (nI (rv r n))) ∧ σ' = σ ∧ sz' = sz) := by
  refine CT.mkP rfl (Nat.le_of_ble_eq_true rfl) [_, _, _] rfl ?_
  intro X Γ σ sz P hX hpre hsz hP
  obtain ⟨hM, hn, h7, hmk⟩ := hpre
  have hF : Fr m (m + 9) σ σ := Fr.rf
  have loop : ∀ (fl : Nat) (k : Nat) (xv xk : Int32), xv = nI (rv r k) → xk = nI k → k ≤ n → n - k < fl → G X Γ P 0 0 4 [some (.ref m), some (.int xv), some (.int xk)] [] σ sz := by
    intro fl
    induction fl with
    | zero =>
      rintro k _ _ rfl rfl hk hfu
      exact absurd hfu (Nat.not_lt_zero _)
    | succ fl ih =>
      rintro k _ _ rfl rfl hk hfu
      refine S_iload_n (q := 5) hX dX12_madeRow_4 rfl rfl ?_
      refine S_aload_n (q := 6) hX dX12_madeRow_5 rfl rfl ?_
      refine S_getf (fs := ?fs_1) (v := ?v_1) (q := 9) hX u_794 fo_X12_beats dX12_madeRow_6 ?hs_1 ?hv_1 rfl ?_
      case hs_1 => with_reducible first | exact MM.c0 hM | exact MM.c1 hM | exact MM.c5 hM | exact MM.c6 hM | exact MM.c7 hM | exact MM.c3 hM | exact MM.c4 hM | exact MM.c8 hM | exact MM.c2 hM
      case hv_1 => rfl
      refine S_icmp_ge (q := 12) 30 hX dX12_madeRow_9 rfl rfl (fun c9 => ?_) (fun c9 => ?_)
      · have hge : k = n := by rw [h7, nI_leI (by omega) (by omega)] at c9; omega
        subst hge
        refine S_iload_n (q := 31) hX dX12_madeRow_30 rfl rfl ?_
        refine S_iret hX dX12_madeRow_31 (Nat.zero_le _) (Nat.zero_le _) ?_
        refine hP _ _ _ ?_
        exact ⟨rfl, rfl, rfl⟩
      · have hlt : k < n := by rw [h7, nI_leI (by omega) (by omega)] at c9; omega
        refine S_bipush (q := 14) (v := 12) hX dX12_madeRow_12 bp_12 rfl ?_
        refine S_iload_n (q := 15) hX dX12_madeRow_14 rfl rfl ?_
        refine S_imul (q := 16) hX dX12_madeRow_15 rfl ?_
        refine S_aload_n (q := 17) hX dX12_madeRow_16 rfl rfl ?_
        refine S_getf (fs := ?fs_2) (v := ?v_2) (q := 20) hX u_793 fo_X12_made dX12_madeRow_17 ?hs_2 ?hv_2 rfl ?_
        case hs_2 => with_reducible first | exact MM.c0 hM | exact MM.c1 hM | exact MM.c5 hM | exact MM.c6 hM | exact MM.c7 hM | exact MM.c3 hM | exact MM.c4 hM | exact MM.c8 hM | exact MM.c2 hM
        case hv_2 => rfl
        refine S_iload_n (q := 21) hX dX12_madeRow_20 rfl rfl ?_
        refine S_iald (N := ?n_3) (f := ?f_3) (q := 22) hX dX12_madeRow_21 ?hs_3 ?hi_3 rfl ?_
        case hs_3 => with_reducible first | exact MM.c0 hM | exact MM.c1 hM | exact MM.c5 hM | exact MM.c6 hM | exact MM.c7 hM | exact MM.c3 hM | exact MM.c4 hM | exact MM.c8 hM | exact MM.c2 hM
        case hi_3 => exact vp_in_nI (by omega) (by decide)
        refine S_iadd (q := 23) hX dX12_madeRow_22 rfl ?_
        refine S_istore_n (q := 24) [_, _, _] hX dX12_madeRow_23 rfl (Nat.le_of_ble_eq_true rfl) rfl rfl ?_
        refine S_iinc (q := 27) [_, _, _] hX dX12_madeRow_24 rfl (ii_1 _) rfl (Nat.le_of_ble_eq_true rfl) rfl rfl ?_
        refine S_goto 4 hX dX12_madeRow_27 rfl ?_
        exact ih (k + 1) _ _ (by rw [nI_clamp (by omega), hmk k hlt, i12, pk_mul, nI_add]; rfl) (nI_1 _) (by omega) (by omega)
  refine S_iconst (q := 1) (v := 1) hX dX12_madeRow_0 ic_1 rfl ?_
  refine S_istore_n (q := 2) [_, _, _] hX dX12_madeRow_1 rfl (Nat.le_of_ble_eq_true rfl) rfl rfl ?_
  refine S_iconst (q := 3) (v := 0) hX dX12_madeRow_2 ic_0 rfl ?_
  refine S_istore_n (q := 4) [_, _, _] hX dX12_madeRow_3 rfl (Nat.le_of_ble_eq_true rfl) rfl rfl ?_
  exact loop (n + 1) 0 _ _ rfl rfl (Nat.zero_le _) (by omega)
theorem apN_s (n v w k : Nat) : ((List.range (k + 1)).filter fun k => stN v n k ≠ stN w n k).length = ((List.range k).filter fun k => stN v n k ≠ stN w n k).length + (if stN v n k = stN w n k then 0 else 1) := by
  rw [List.range_succ, List.filter_append, List.length_append]
  congr 1
  by_cases h : stN v n k = stN w n k
  · rw [if_pos h]; simp [h]
  · rw [if_neg h]; simp [h]

theorem c_X12_apart (m : Nat) (μ : MF) (x : Int32) (n w : Nat) (r : Nat → Nat) (hx : x = nI w) : CT_X12_apart [.ref m, .int x] (fun Γ σ sz => MM σ m μ ∧ n ≤ 6 ∧ μ 0 7 = nI n ∧ w < 2 ^ 31 ∧ rowOk n r ∧ ∀ i, i < n → μ 5 i = nI (r i)) (fun Γ σ sz v σ' sz' => v = some (.int (nI (apN n (rv r n) w))) ∧ σ' = σ ∧ sz' = sz) := by
  refine CT.mkP rfl (Nat.le_of_ble_eq_true rfl) [_, _, _, _] rfl ?_
  intro X Γ σ sz P hX hpre hsz hP
  obtain ⟨hM, hn, h7, hw, hr, hmk⟩ := hpre
  have hF : Fr m (m + 9) σ σ := Fr.rf
  subst hx
  have loop : ∀ (fl : Nat) (k : Nat) (xa xk : Int32), xa = nI ((List.range k).filter fun k => stN (rv r n) n k ≠ stN w n k).length → xk = nI k → k ≤ n → n - k < fl → G X Γ P 0 0 4 [some (.ref m), some (.int (nI w)), some (.int xa), some (.int xk)] [] σ sz := by
    intro fl
    induction fl with
    | zero =>
      rintro k _ _ rfl rfl hk hfu
      exact absurd hfu (Nat.not_lt_zero _)
    | succ fl ih =>
      rintro k _ _ rfl rfl hk hfu
      refine S_iload_n (q := 5) hX dX12_apart_4 rfl rfl ?_
      refine S_aload_n (q := 6) hX dX12_apart_5 rfl rfl ?_
      refine S_getf (fs := ?fs_1) (v := ?v_1) (q := 9) hX u_794 fo_X12_beats dX12_apart_6 ?hs_1 ?hv_1 rfl ?_
      case hs_1 => with_reducible first | exact MM.c0 hM | exact MM.c1 hM | exact MM.c5 hM | exact MM.c6 hM | exact MM.c7 hM | exact MM.c3 hM | exact MM.c4 hM | exact MM.c8 hM | exact MM.c2 hM
      case hv_1 => rfl
      refine S_icmp_ge (q := 12) 44 hX dX12_apart_9 rfl rfl (fun c9 => ?_) (fun c9 => ?_)
      · have hge : k = n := by rw [h7, nI_leI (by omega) (by omega)] at c9; omega
        subst hge
        refine S_iload_n (q := 45) hX dX12_apart_44 rfl rfl ?_
        refine S_iret hX dX12_apart_45 (Nat.zero_le _) (Nat.zero_le _) ?_
        refine hP _ _ _ ?_
        exact ⟨rfl, rfl, rfl⟩
      · have hlt : k < n := by rw [h7, nI_leI (by omega) (by omega)] at c9; omega
        have hst := stN_rv n hr k hlt
        refine S_iload_n (q := 13) hX dX12_apart_12 rfl rfl ?_
        refine S_aload_n (q := 14) hX dX12_apart_13 rfl rfl ?_
        refine S_getf (fs := ?fs_2) (v := ?v_2) (q := 17) hX u_793 fo_X12_made dX12_apart_14 ?hs_2 ?hv_2 rfl ?_
        case hs_2 => with_reducible first | exact MM.c0 hM | exact MM.c1 hM | exact MM.c5 hM | exact MM.c6 hM | exact MM.c7 hM | exact MM.c3 hM | exact MM.c4 hM | exact MM.c8 hM | exact MM.c2 hM
        case hv_2 => rfl
        refine S_iload_n (q := 18) hX dX12_apart_17 rfl rfl ?_
        refine S_iald (N := ?n_3) (f := ?f_3) (q := 19) hX dX12_apart_18 ?hs_3 ?hi_3 rfl ?_
        case hs_3 => with_reducible first | exact MM.c0 hM | exact MM.c1 hM | exact MM.c5 hM | exact MM.c6 hM | exact MM.c7 hM | exact MM.c3 hM | exact MM.c4 hM | exact MM.c8 hM | exact MM.c2 hM
        case hi_3 => exact vp_in_nI (by omega) (by decide)
        refine S_iload_n (q := 20) hX dX12_apart_19 rfl rfl ?_
        refine S_aload_n (q := 21) hX dX12_apart_20 rfl rfl ?_
        refine S_getf (fs := ?fs_4) (v := ?v_4) (q := 24) hX u_794 fo_X12_beats dX12_apart_21 ?hs_4 ?hv_4 rfl ?_
        case hs_4 => with_reducible first | exact MM.c0 hM | exact MM.c1 hM | exact MM.c5 hM | exact MM.c6 hM | exact MM.c7 hM | exact MM.c3 hM | exact MM.c4 hM | exact MM.c8 hM | exact MM.c2 hM
        case hv_4 => rfl
        refine S_iload_n (q := 25) hX dX12_apart_24 rfl rfl ?_
        refine S_callS (q := 28) 0 0 hX (c_X12_stateOf _ _ _ w n k rfl h7 rfl) rfl u_948 u_949 u_12 u_950 ⟨by decide, by decide, rfl⟩ ⟨Nat.le_of_ble_eq_true rfl, Nat.le_of_ble_eq_true rfl⟩ ⟨Nat.le_of_ble_eq_true rfl, Nat.le_of_ble_eq_true rfl⟩ (Nat.le_of_ble_eq_true rfl) dX12_apart_25 ?hp_5 rfl rfl rfl ?_
        case hp_5 => exact ⟨hlt, by omega, hw⟩
        rintro v σ1 sz1 ⟨rfl, rfl, rfl⟩
        refine S_icmp_ne (q := 31) 35 hX dX12_apart_28 rfl rfl (fun c28 => ?_) (fun c28 => ?_)
        · refine S_iconst (q := 36) (v := 1) hX dX12_apart_35 ic_1 rfl ?_
          refine S_iadd (q := 37) hX dX12_apart_36 rfl ?_
          refine S_istore_n (q := 38) [_, _, _, _] hX dX12_apart_37 rfl (Nat.le_of_ble_eq_true rfl) rfl rfl ?_
          refine S_iinc (q := 41) [_, _, _, _] hX dX12_apart_38 rfl (ii_1 _) rfl (Nat.le_of_ble_eq_true rfl) rfl rfl ?_
          refine S_goto 4 hX dX12_apart_41 rfl ?_
          exact ih (k + 1) _ _ (by rw [apN_s, if_neg (fun z => c28 (by rw [nI_clamp (by omega), hmk k hlt, ← hst, z])), i1, nI_add]) (nI_1 _) (by omega) (by omega)
        · refine S_iconst (q := 32) (v := 0) hX dX12_apart_31 ic_0 rfl ?_
          refine S_goto 36 hX dX12_apart_32 rfl ?_
          refine S_iadd (q := 37) hX dX12_apart_36 rfl ?_
          refine S_istore_n (q := 38) [_, _, _, _] hX dX12_apart_37 rfl (Nat.le_of_ble_eq_true rfl) rfl rfl ?_
          refine S_iinc (q := 41) [_, _, _, _] hX dX12_apart_38 rfl (ii_1 _) rfl (Nat.le_of_ble_eq_true rfl) rfl rfl ?_
          refine S_goto 4 hX dX12_apart_41 rfl ?_
          exact ih (k + 1) _ _ (by rw [apN_s, if_pos (by rw [nI_clamp (by omega), hmk k hlt] at c28; rw [hst]; exact nI_inj (by have := hr k hlt; omega) (by have := stN_lt w n k; omega) c28), i0, nI_add]) (nI_1 _) (by omega) (by omega)
  refine S_iconst (q := 1) (v := 0) hX dX12_apart_0 ic_0 rfl ?_
  refine S_istore_n (q := 2) [_, _, _, _] hX dX12_apart_1 rfl (Nat.le_of_ble_eq_true rfl) rfl rfl ?_
  refine S_iconst (q := 3) (v := 0) hX dX12_apart_2 ic_0 rfl ?_
  refine S_istore_n (q := 4) [_, _, _, _] hX dX12_apart_3 rfl (Nat.le_of_ble_eq_true rfl) rfl rfl ?_
  exact loop (n + 1) 0 _ _ rfl rfl (Nat.zero_le _) (by omega)
theorem wl_take {S : ST} {L : List Nat} {k : Nat} (h : L.length = S.1.2.2.2.2.1.1) (hk : k < L.length) : L.take (k + 1) = (wantL S).take (k + 1) ↔ (L.take k = (wantL S).take k ∧ L.getD k 0 = S.1.2.2.2.2.1.2 k) := by
  have h2 : (wantL S).length = S.1.2.2.2.2.1.1 := by unfold wantL; rw [List.length_map, List.length_range]
  have hk2 : k < (wantL S).length := by omega
  have h3 : (wantL S)[k] = S.1.2.2.2.2.1.2 k := by simp only [wantL, List.getElem_map, List.getElem_range]
  rw [List.take_succ_eq_append_getElem hk, List.take_succ_eq_append_getElem hk2, List.getD_eq_getElem?_getD, List.getElem?_eq_getElem hk, Option.getD_some, h3]
  constructor
  · intro e
    have := List.append_inj e (by rw [List.length_take, List.length_take]; omega)
    exact ⟨this.1, by simpa using this.2⟩
  · rintro ⟨a, b⟩
    rw [a, b]

theorem c_X12_readsWant (m : Nat) (μ : MF) (S : ST) (L : List Nat) : CT_X12_readsWant [.ref m] (fun Γ σ sz => MM σ m μ ∧ MR μ S ∧ CtOk S.1 ∧ μ 0 8 = nI L.length ∧ WL (μ 7) L ∧ L.length ≤ 60 ∧ ∀ w ∈ L, w < 10) (fun Γ σ sz v σ' sz' => v = some (.int (bi (L = wantL S))) ∧ σ' = σ ∧ sz' = sz) := by
  refine CT.mkP rfl (Nat.le_of_ble_eq_true rfl) [_, _, _] rfl ?_
  intro X Γ σ sz P hX hpre hsz hP
  obtain ⟨hM, hR, ok, h8, hw, hl, hL10⟩ := hpre
  have hF : Fr m (m + 9) σ σ := Fr.rf
  have h0 := hR.1
  obtain ⟨q0, q1, q2, q3, q4, q5, q6, q7, q8, q9⟩ := id hR.2.1
  obtain ⟨o1, o2, o3, o4, o5, o6, o7, o8, o9, o10⟩ := id ok
  have loop : ∀ (fl : Nat) (k : Nat) (xi xk : Int32), xi = bi (L.length = S.1.2.2.2.2.1.1 ∧ L.take k = (wantL S).take k) → xk = nI k → k ≤ L.length → L.length - k < fl → G X Γ P 0 0 20 [some (.ref m), some (.int xi), some (.int xk)] [] σ sz := by
    intro fl
    induction fl with
    | zero =>
      rintro k _ _ rfl rfl hk hfu
      exact absurd hfu (Nat.not_lt_zero _)
    | succ fl ih =>
      rintro k _ _ rfl rfl hk hfu
      refine S_iload_n (q := 21) hX dX12_readsWant_20 rfl rfl ?_
      refine S_aload_n (q := 22) hX dX12_readsWant_21 rfl rfl ?_
      refine S_getf (fs := ?fs_1) (v := ?v_1) (q := 25) hX u_797 fo_X12_wordMany dX12_readsWant_22 ?hs_1 ?hv_1 rfl ?_
      case hs_1 => with_reducible first | exact MM.c0 hM | exact MM.c1 hM | exact MM.c5 hM | exact MM.c6 hM | exact MM.c7 hM | exact MM.c3 hM | exact MM.c4 hM | exact MM.c8 hM | exact MM.c2 hM
      case hv_1 => rfl
      refine S_icmp_ge (q := 28) 61 hX dX12_readsWant_25 rfl rfl (fun c25 => ?_) (fun c25 => ?_)
      · have hge : k = L.length := by rw [h8, nI_leI (by omega) (by omega)] at c25; omega
        subst hge
        refine S_iload_n (q := 62) hX dX12_readsWant_61 rfl rfl ?_
        refine S_xret hX dX12_readsWant_62 (Nat.zero_le _) (Nat.zero_le _) nb_bi ?_
        refine hP _ _ _ ?_
        refine ⟨?_, rfl, rfl⟩
        refine congrArg (fun z => some (Value.int z)) (bi_congr ?_)
        have h2 : (wantL S).length = S.1.2.2.2.2.1.1 := by unfold wantL; rw [List.length_map, List.length_range]
        constructor
        · rintro ⟨a, b⟩
          rw [List.take_length, show L.length = (wantL S).length by omega, List.take_length] at b
          exact b
        · intro e
          exact ⟨by rw [e]; exact h2, by rw [← e]⟩
      · have hlt : k < L.length := by rw [h8, nI_leI (by omega) (by omega)] at c25; omega
        refine S_iload_n (q := 29) hX dX12_readsWant_28 rfl rfl ?_
        refine S_if_eq_b (q := 32) 61 hX dX12_readsWant_29 rfl rfl (fun c29 => ?_) (fun c29 => ?_)
        · refine S_iload_n (q := 62) hX dX12_readsWant_61 rfl rfl ?_
          refine S_xret hX dX12_readsWant_62 (Nat.zero_le _) (Nat.zero_le _) nb_bi ?_
          refine hP _ _ _ ?_
          refine ⟨?_, rfl, rfl⟩
          rw [bi_f c29, bi_f]
          intro e
          have h2 : (wantL S).length = S.1.2.2.2.2.1.1 := by unfold wantL; rw [List.length_map, List.length_range]
          exact c29 ⟨by rw [e]; exact h2, by rw [← e]⟩
        · refine S_aload_n (q := 33) hX dX12_readsWant_32 rfl rfl ?_
          refine S_getf (fs := ?fs_2) (v := ?v_2) (q := 36) hX u_796 fo_X12_words dX12_readsWant_33 ?hs_2 ?hv_2 rfl ?_
          case hs_2 => with_reducible first | exact MM.c0 hM | exact MM.c1 hM | exact MM.c5 hM | exact MM.c6 hM | exact MM.c7 hM | exact MM.c3 hM | exact MM.c4 hM | exact MM.c8 hM | exact MM.c2 hM
          case hv_2 => rfl
          refine S_iload_n (q := 37) hX dX12_readsWant_36 rfl rfl ?_
          refine S_iald (N := ?n_3) (f := ?f_3) (q := 38) hX dX12_readsWant_37 ?hs_3 ?hi_3 rfl ?_
          case hs_3 => with_reducible first | exact MM.c0 hM | exact MM.c1 hM | exact MM.c5 hM | exact MM.c6 hM | exact MM.c7 hM | exact MM.c3 hM | exact MM.c4 hM | exact MM.c8 hM | exact MM.c2 hM
          case hi_3 => exact vp_in_nI (by omega) (by decide)
          refine S_aload_n (q := 39) hX dX12_readsWant_38 rfl rfl ?_
          refine S_bipush (q := 41) (v := 6) hX dX12_readsWant_39 bp_6 rfl ?_
          refine S_iload_n (q := 42) hX dX12_readsWant_41 rfl rfl ?_
          refine S_iadd (q := 43) hX dX12_readsWant_42 rfl ?_
          refine S_callV (ci := 12) (C := "FanTalkModel") (T := TX12) (N := 17) (q := 46) 0 0 hX (c_X12_get _ μ _ 0 (6 + k) (by first | rfl | (simp only [i0, i1, i2, i3, i4, i5, i6, i7, i8, i9, i10, i11, i12, i17, i20, i24, i26, i27, i31, i32, i36, i48, i57, i59, i60, i61, i63, i64, i87, i96, i97, i99, i122, i148, i250, i255, i305, i453, i999, i1359, i1812, pk_mul, nI_add]; done) | (simp only [i0, i1, i2, i3, i4, i5, i6, i7, i8, i9, i10, i11, i12, i17, i20, i24, i26, i27, i31, i32, i36, i48, i57, i59, i60, i61, i63, i64, i87, i96, i97, i99, i122, i148, i250, i255, i305, i453, i999, i1359, i1812, pk_mul, nI_add]; congr 1; omega))) rfl ?hs_4 rfl u_838 u_840 us_26 u_12 u_841 ⟨by decide, by decide, rfl⟩ ⟨Nat.le_of_ble_eq_true rfl, Nat.le_of_ble_eq_true rfl⟩ ⟨Nat.le_of_ble_eq_true rfl, Nat.le_of_ble_eq_true rfl⟩ (Nat.le_of_ble_eq_true rfl) dX12_readsWant_43 ?hp_4 rfl rfl rfl ?_
          case hs_4 => first | with_reducible assumption | exact ⟨_, by with_reducible assumption⟩ | exact MM.isO hM
          case hp_4 => exact ⟨hM, h0, by omega⟩
          rintro v σ1 sz1 ⟨rfl, rfl, rfl⟩
          refine S_icmp_ne (q := 49) 53 hX dX12_readsWant_46 rfl rfl (fun c46 => ?_) (fun c46 => ?_)
          · refine S_iconst (q := 54) (v := 0) hX dX12_readsWant_53 ic_0 rfl ?_
            refine S_istore_n (q := 55) [_, _, _] hX dX12_readsWant_54 rfl (Nat.le_of_ble_eq_true rfl) rfl rfl ?_
            refine S_iinc (q := 58) [_, _, _] hX dX12_readsWant_55 rfl (ii_1 _) rfl (Nat.le_of_ble_eq_true rfl) rfl rfl ?_
            refine S_goto 20 hX dX12_readsWant_58 rfl ?_
            refine ih (k + 1) _ _ (bi_f (fun z => c46 ?_)).symm (nI_1 _) (by omega) (by omega)
            rw [nI_clamp (by omega), hw k hlt, ((wl_take z.1 hlt).mp z.2).2, q6 k (by omega)]
          · refine S_iconst (q := 50) (v := 1) hX dX12_readsWant_49 ic_1 rfl ?_
            refine S_goto 54 hX dX12_readsWant_50 rfl ?_
            refine S_istore_n (q := 55) [_, _, _] hX dX12_readsWant_54 rfl (Nat.le_of_ble_eq_true rfl) rfl rfl ?_
            refine S_iinc (q := 58) [_, _, _] hX dX12_readsWant_55 rfl (ii_1 _) rfl (Nat.le_of_ble_eq_true rfl) rfl rfl ?_
            refine S_goto 20 hX dX12_readsWant_58 rfl ?_
            refine ih (k + 1) _ _ (bi_t ⟨c29.1, (wl_take c29.1 hlt).mpr ⟨c29.2, ?_⟩⟩).symm (nI_1 _) (by omega) (by omega)
            rw [nI_clamp (by omega), hw k hlt, q6 k (by have := c29.1; omega)] at c46
            exact nI_inj (by have := getD_10 hL10 k; omega) (by have := o8 k (by have := c29.1; omega); omega) c46
  refine S_aload_n (q := 1) hX dX12_readsWant_0 rfl rfl ?_
  refine S_getf (fs := ?fs_5) (v := ?v_5) (q := 4) hX u_797 fo_X12_wordMany dX12_readsWant_1 ?hs_5 ?hv_5 rfl ?_
  case hs_5 => with_reducible first | exact MM.c0 hM | exact MM.c1 hM | exact MM.c5 hM | exact MM.c6 hM | exact MM.c7 hM | exact MM.c3 hM | exact MM.c4 hM | exact MM.c8 hM | exact MM.c2 hM
  case hv_5 => rfl
  refine S_aload_n (q := 5) hX dX12_readsWant_4 rfl rfl ?_
  refine S_iconst (q := 6) (v := 3) hX dX12_readsWant_5 ic_3 rfl ?_
  refine S_callV (ci := 12) (C := "FanTalkModel") (T := TX12) (N := 17) (q := 9) 0 0 hX (c_X12_get _ μ _ 0 (3) (by first | rfl | (simp only [i0, i1, i2, i3, i4, i5, i6, i7, i8, i9, i10, i11, i12, i17, i20, i24, i26, i27, i31, i32, i36, i48, i57, i59, i60, i61, i63, i64, i87, i96, i97, i99, i122, i148, i250, i255, i305, i453, i999, i1359, i1812, pk_mul, nI_add]; done) | (simp only [i0, i1, i2, i3, i4, i5, i6, i7, i8, i9, i10, i11, i12, i17, i20, i24, i26, i27, i31, i32, i36, i48, i57, i59, i60, i61, i63, i64, i87, i96, i97, i99, i122, i148, i250, i255, i305, i453, i999, i1359, i1812, pk_mul, nI_add]; congr 1; omega))) rfl ?hs_6 rfl u_838 u_840 us_26 u_12 u_841 ⟨by decide, by decide, rfl⟩ ⟨Nat.le_of_ble_eq_true rfl, Nat.le_of_ble_eq_true rfl⟩ ⟨Nat.le_of_ble_eq_true rfl, Nat.le_of_ble_eq_true rfl⟩ (Nat.le_of_ble_eq_true rfl) dX12_readsWant_6 ?hp_6 rfl rfl rfl ?_
  case hs_6 => first | with_reducible assumption | exact ⟨_, by with_reducible assumption⟩ | exact MM.isO hM
  case hp_6 => exact ⟨hM, h0, by omega⟩
  rintro v σ1 sz1 ⟨rfl, rfl, rfl⟩
  rw [q3]
  refine S_icmp_ne (q := 12) 16 hX dX12_readsWant_9 rfl rfl (fun c9 => ?_) (fun c9 => ?_)
  · refine S_iconst (q := 17) (v := 0) hX dX12_readsWant_16 ic_0 rfl ?_
    refine S_istore_n (q := 18) [_, _, _] hX dX12_readsWant_17 rfl (Nat.le_of_ble_eq_true rfl) rfl rfl ?_
    refine S_iconst (q := 19) (v := 0) hX dX12_readsWant_18 ic_0 rfl ?_
    refine S_istore_n (q := 20) [_, _, _] hX dX12_readsWant_19 rfl (Nat.le_of_ble_eq_true rfl) rfl rfl ?_
    exact loop (L.length + 1) 0 _ _ (bi_f (fun z => c9 (by rw [h8, z.1]))).symm rfl (Nat.zero_le _) (by omega)
  · refine S_iconst (q := 13) (v := 1) hX dX12_readsWant_12 ic_1 rfl ?_
    refine S_goto 17 hX dX12_readsWant_13 rfl ?_
    refine S_istore_n (q := 18) [_, _, _] hX dX12_readsWant_17 rfl (Nat.le_of_ble_eq_true rfl) rfl rfl ?_
    refine S_iconst (q := 19) (v := 0) hX dX12_readsWant_18 ic_0 rfl ?_
    refine S_istore_n (q := 20) [_, _, _] hX dX12_readsWant_19 rfl (Nat.le_of_ble_eq_true rfl) rfl rfl ?_
    exact loop (L.length + 1) 0 _ _ (bi_t ⟨by rw [h8] at c9; exact nI_inj (by omega) (by omega) c9, by rw [List.take_zero, List.take_zero]⟩).symm rfl (Nat.zero_le _) (by omega)
def tail (x : Nat) : Nat → Nat
  | 0 => x
  | k + 1 => lsS (tail x k)
theorem tail_lt {x : Nat} (h : x < 12) : ∀ k, tail x k < 12
  | 0 => h
  | k + 1 => lsS_lt (tail_lt h k)
theorem hdv (a : Nat) (h : a < 12) : (nI a / 2 : Int32) = nI (a / 2) := pk_div (by omega) (by decide) (by decide)

theorem c_X12_goOn (m : Nat) (μ : MF) (x : Int32) (n : Nat) (r : Nat → Nat) (hx : x = nI (n - 1)) : CT_X12_goOn [.ref m, .int x] (fun Γ σ sz => MM σ m μ ∧ μ 0 7 = nI n ∧ 1 ≤ n ∧ n ≤ 60 ∧ lawF n r ∧ ∀ i, i < n → μ 5 i = nI (r i)) (fun Γ σ sz v σ' sz' => ∃ μ', MM σ' m μ' ∧ Fr m (m + 9) σ σ' ∧ ((v = some (.int 1) ∧ ∃ g t, μ' = m1 μ 5 g ∧ Nx n r t ∧ ∀ i, i < n → g i = nI (t i)) ∨ (v = some (.int 0) ∧ NoNx n r ∧ ∃ g, μ' = m1 μ 5 g)) ∧ sz' = sz) := by
  refine CT.mkP rfl (Nat.le_of_ble_eq_true rfl) [_, _, _, _] rfl ?_
  intro X Γ σ sz P hX hpre hsz hP
  obtain ⟨hM, h7, hn1, hn, hr, hmk⟩ := hpre
  have hF : Fr m (m + 9) σ σ := Fr.rf
  subst hx
  obtain ⟨σ0, eσ0⟩ : ∃ z, z = σ := ⟨σ, rfl⟩
  rw [← eσ0] at hP
  have hF : Fr m (m + 9) σ0 σ := by rw [eσ0]; exact Fr.rf
  have stop1 : ∀ (σ : Sg) (g : Nat → Int32), NoNx n r → MM σ m (m1 μ 5 g) → Fr m (m + 9) σ0 σ → G X Γ P 0 0 2 [some (.ref m), some (.int (nI (n - 1))), some (.int (-1)), none] [] σ sz := by
    intro σ g hno hM hF
    refine S_iload_n (q := 3) hX dX12_goOn_2 rfl rfl ?_
    refine S_if_lt (q := 6) 114 hX dX12_goOn_3 rfl rfl (fun c3 => ?_) (fun c3 => absurd (by decide) c3)
    refine S_iconst (q := 115) (v := 0) hX dX12_goOn_114 ic_0 rfl ?_
    refine S_xret hX dX12_goOn_115 (Nat.zero_le _) (Nat.zero_le _) (by decide) ?_
    refine hP _ _ _ ?_
    exact ⟨_, hM, hF, Or.inr ⟨rfl, hno, g, rfl⟩, rfl⟩
  have fill : ∀ (fl : Nat) (i : Nat) (σ : Sg) (g : Nat → Int32) (t : Nat → Nat) (k x : Nat) (xi : Int32), gone n r k x → x + 1 < 12 → r k ≤ x → (k = 0 ∨ lwS (r (k - 1)) (x + 1)) → k < n → (∀ j, j < k → t j = r j) → t k = x + 1 → least n k t → (∀ j, j < n → t j < 12) → (∀ j, j < i → g j = nI (t j)) → xi = nI i → k < i → i ≤ n → n - i < fl → MM σ m (m1 μ 5 g) → Fr m (m + 9) σ0 σ → G X Γ P 0 0 61 [some (.ref m), some (.int (nI (n - 1))), some (.int (nI k)), some (.int xi)] [] σ sz := by
    intro fl
    induction fl with
    | zero =>
      rintro i σ g t k x _ hgn hx hrx hlw hkn t1 t2 t3 t4 hg rfl hki hi hfu hM hF
      exact absurd hfu (Nat.not_lt_zero _)
    | succ fl ih =>
      rintro i σ g t k x _ hgn hx hrx hlw hkn t1 t2 t3 t4 hg rfl hki hi hfu hM hF
      refine S_iload_n (q := 62) hX dX12_goOn_61 rfl rfl ?_
      refine S_aload_n (q := 63) hX dX12_goOn_62 rfl rfl ?_
      refine S_getf (fs := ?fs_1) (v := ?v_1) (q := 66) hX u_794 fo_X12_beats dX12_goOn_63 ?hs_1 ?hv_1 rfl ?_
      case hs_1 => with_reducible first | exact MM.c0 hM | exact MM.c1 hM | exact MM.c5 hM | exact MM.c6 hM | exact MM.c7 hM | exact MM.c3 hM | exact MM.c4 hM | exact MM.c8 hM | exact MM.c2 hM
      case hv_1 => rfl
      refine S_icmp_ge (q := 69) 112 hX dX12_goOn_66 rfl rfl (fun c66 => ?_) (fun c66 => ?_)
      · have hge : i = n := by rw [m1_ne (by decide), h7, nI_leI (by omega) (by omega)] at c66; omega
        subst hge
        refine S_iconst (q := 113) (v := 1) hX dX12_goOn_112 ic_1 rfl ?_
        refine S_xret hX dX12_goOn_113 (Nat.zero_le _) (Nat.zero_le _) (by decide) ?_
        refine hP _ _ _ ?_
        exact ⟨_, hM, hF, Or.inl ⟨rfl, g, t, rfl, gone_nx hr hkn hgn hx hrx hlw t1 t2 t3, hg⟩, rfl⟩
      · have hlt : i < n := by rw [m1_ne (by decide), h7, nI_leI (by omega) (by omega)] at c66; omega
        have him : nI i - 1 = nI (i - 1) := by rw [i1, pk_sub (by omega)]
        have hd2 : (m1 μ 5 g 5 (nI (i - 1)).toInt.toNat / 2 : Int32) = nI (t (i - 1) / 2) := by rw [m1_eq, nI_toInt (by omega), Int.toNat_natCast, hg (i - 1) (by omega)]; exact hdv _ (t4 _ (by omega))
        refine S_aload_n (q := 70) hX dX12_goOn_69 rfl rfl ?_
        refine S_getf (fs := ?fs_2) (v := ?v_2) (q := 73) hX u_793 fo_X12_made dX12_goOn_70 ?hs_2 ?hv_2 rfl ?_
        case hs_2 => with_reducible first | exact MM.c0 hM | exact MM.c1 hM | exact MM.c5 hM | exact MM.c6 hM | exact MM.c7 hM | exact MM.c3 hM | exact MM.c4 hM | exact MM.c8 hM | exact MM.c2 hM
        case hv_2 => rfl
        refine S_iload_n (q := 74) hX dX12_goOn_73 rfl rfl ?_
        refine S_aload_n (q := 75) hX dX12_goOn_74 rfl rfl ?_
        refine S_getf (fs := ?fs_3) (v := ?v_3) (q := 78) hX u_793 fo_X12_made dX12_goOn_75 ?hs_3 ?hv_3 rfl ?_
        case hs_3 => with_reducible first | exact MM.c0 hM | exact MM.c1 hM | exact MM.c5 hM | exact MM.c6 hM | exact MM.c7 hM | exact MM.c3 hM | exact MM.c4 hM | exact MM.c8 hM | exact MM.c2 hM
        case hv_3 => rfl
        refine S_iload_n (q := 79) hX dX12_goOn_78 rfl rfl ?_
        refine S_iconst (q := 80) (v := 1) hX dX12_goOn_79 ic_1 rfl ?_
        refine S_isub (q := 81) hX dX12_goOn_80 rfl ?_
        refine S_top him ?_
        refine S_iald (N := ?n_4) (f := ?f_4) (q := 82) hX dX12_goOn_81 ?hs_4 ?hi_4 rfl ?_
        case hs_4 => with_reducible first | exact MM.c0 hM | exact MM.c1 hM | exact MM.c5 hM | exact MM.c6 hM | exact MM.c7 hM | exact MM.c3 hM | exact MM.c4 hM | exact MM.c8 hM | exact MM.c2 hM
        case hi_4 => exact vp_in_nI (by omega) (by decide)
        refine S_iconst (q := 83) (v := 2) hX dX12_goOn_82 ic_2 rfl ?_
        refine S_idiv (q := 84) hX dX12_goOn_83 (by decide) rfl ?_
        refine S_top (show _ / _ = nI (t (i - 1) / 2) from hd2) ?_
        refine S_if_ne (q := 87) 91 hX dX12_goOn_84 rfl rfl (fun c84 => ?_) (fun c84 => ?_)
        · refine S_iconst (q := 92) (v := 2) hX dX12_goOn_91 ic_2 rfl ?_
          refine S_aload_n (q := 93) hX dX12_goOn_92 rfl rfl ?_
          refine S_getf (fs := ?fs_5) (v := ?v_5) (q := 96) hX u_793 fo_X12_made dX12_goOn_93 ?hs_5 ?hv_5 rfl ?_
          case hs_5 => with_reducible first | exact MM.c0 hM | exact MM.c1 hM | exact MM.c5 hM | exact MM.c6 hM | exact MM.c7 hM | exact MM.c3 hM | exact MM.c4 hM | exact MM.c8 hM | exact MM.c2 hM
          case hv_5 => rfl
          refine S_iload_n (q := 97) hX dX12_goOn_96 rfl rfl ?_
          refine S_iconst (q := 98) (v := 1) hX dX12_goOn_97 ic_1 rfl ?_
          refine S_isub (q := 99) hX dX12_goOn_98 rfl ?_
          refine S_top him ?_
          refine S_iald (N := ?n_6) (f := ?f_6) (q := 100) hX dX12_goOn_99 ?hs_6 ?hi_6 rfl ?_
          case hs_6 => with_reducible first | exact MM.c0 hM | exact MM.c1 hM | exact MM.c5 hM | exact MM.c6 hM | exact MM.c7 hM | exact MM.c3 hM | exact MM.c4 hM | exact MM.c8 hM | exact MM.c2 hM
          case hi_6 => exact vp_in_nI (by omega) (by decide)
          refine S_iconst (q := 101) (v := 2) hX dX12_goOn_100 ic_2 rfl ?_
          refine S_idiv (q := 102) hX dX12_goOn_101 (by decide) rfl ?_
          refine S_top (show _ / _ = nI (t (i - 1) / 2) from hd2) ?_
          refine S_iconst (q := 103) (v := 1) hX dX12_goOn_102 ic_1 rfl ?_
          refine S_isub (q := 104) hX dX12_goOn_103 rfl ?_
          refine S_imul (q := 105) hX dX12_goOn_104 rfl ?_
          refine S_nm (fun x105 hx105 => ?_)
          refine S_iast (N := ?n_7) (f := ?f_7) (q := 106) hX dX12_goOn_105 ?hs_7 ?hi_7 rfl ?_
          case hs_7 => with_reducible first | exact MM.c0 hM | exact MM.c1 hM | exact MM.c5 hM | exact MM.c6 hM | exact MM.c7 hM | exact MM.c3 hM | exact MM.c4 hM | exact MM.c8 hM | exact MM.c2 hM
          case hi_7 => exact vp_in_nI (by omega) (by decide)
          refine S_stu (q0 := m) (j := 5) (i := _) hM hF (by decide) rfl (fun σ μ105 e105 hM hF => ?_)
          subst hx105
          refine S_iinc (q := 109) [_, _, _, _] hX dX12_goOn_106 rfl (ii_1 _) rfl (Nat.le_of_ble_eq_true rfl) rfl rfl ?_
          refine S_goto 61 hX dX12_goOn_109 rfl ?_
          rw [nI_clamp (by omega), m2_m1] at e105
          subst e105
          refine ih (i + 1) σ _ t k x _ hgn hx hrx hlw hkn t1 t2 t3 t4 (fun j hj => ?_) (nI_1 _) (by omega) (by omega) (by omega) hM hF
          rcases Nat.lt_succ_iff_lt_or_eq.mp hj with q | q
          · rw [upd_ne (by omega)]; exact hg j q
          · subst q
            rw [upd_eq, t3 _ hki (by omega)]
            unfold lsS
            rw [if_neg (fun z => c84 (by rw [z]; rfl)), i1, i2, pk_sub (by have : t (j - 1) / 2 ≠ 0 := (fun z => c84 (by rw [z]; rfl)); omega), pk_mul]
        · refine S_iconst (q := 88) (v := 0) hX dX12_goOn_87 ic_0 rfl ?_
          refine S_goto 105 hX dX12_goOn_88 rfl ?_
          refine S_nm (fun x105 hx105 => ?_)
          refine S_iast (N := ?n_8) (f := ?f_8) (q := 106) hX dX12_goOn_105 ?hs_8 ?hi_8 rfl ?_
          case hs_8 => with_reducible first | exact MM.c0 hM | exact MM.c1 hM | exact MM.c5 hM | exact MM.c6 hM | exact MM.c7 hM | exact MM.c3 hM | exact MM.c4 hM | exact MM.c8 hM | exact MM.c2 hM
          case hi_8 => exact vp_in_nI (by omega) (by decide)
          refine S_stu (q0 := m) (j := 5) (i := _) hM hF (by decide) rfl (fun σ μ105 e105 hM hF => ?_)
          subst hx105
          refine S_iinc (q := 109) [_, _, _, _] hX dX12_goOn_106 rfl (ii_1 _) rfl (Nat.le_of_ble_eq_true rfl) rfl rfl ?_
          refine S_goto 61 hX dX12_goOn_109 rfl ?_
          rw [nI_clamp (by omega), m2_m1] at e105
          subst e105
          refine ih (i + 1) σ _ t k x _ hgn hx hrx hlw hkn t1 t2 t3 t4 (fun j hj => ?_) (nI_1 _) (by omega) (by omega) (by omega) hM hF
          rcases Nat.lt_succ_iff_lt_or_eq.mp hj with q | q
          · rw [upd_ne (by omega)]; exact hg j q
          · subst q
            rw [upd_eq, t3 _ hki (by omega)]
            unfold lsS
            rw [if_pos (nI_inj (by have := t4 (j - 1) (by omega); omega) (by decide) c84)]
            rfl
  have loop : ∀ (fl : Nat) (k : Nat) (x : Nat) (σ : Sg) (g : Nat → Int32) (xk : Int32) (x3 : Option Value), gone n r k x → r k ≤ x → x < 12 → k < n → (∀ j, j < k → g j = nI (r j)) → g k = nI x → xk = nI k → 13 * k + (12 - x) < fl → MM σ m (m1 μ 5 g) → Fr m (m + 9) σ0 σ → G X Γ P 0 0 2 [some (.ref m), some (.int (nI (n - 1))), some (.int xk), none] [] σ sz := by
    intro fl
    induction fl with
    | zero =>
      rintro k x σ g _ _ hgn hrx hx hkn hg hgk rfl hfu hM hF
      exact absurd hfu (Nat.not_lt_zero _)
    | succ fl ih =>
      rintro k x σ g _ _ hgn hrx hx hkn hg hgk rfl hfu hM hF
      refine S_iload_n (q := 3) hX dX12_goOn_2 rfl rfl ?_
      refine S_if_lt (q := 6) 114 hX dX12_goOn_3 rfl rfl (fun c3 => absurd c3 (nI_pos (by omega))) (fun c3 => ?_)
      refine S_aload_n (q := 7) hX dX12_goOn_6 rfl rfl ?_
      refine S_getf (fs := ?fs_9) (v := ?v_9) (q := 10) hX u_793 fo_X12_made dX12_goOn_7 ?hs_9 ?hv_9 rfl ?_
      case hs_9 => with_reducible first | exact MM.c0 hM | exact MM.c1 hM | exact MM.c5 hM | exact MM.c6 hM | exact MM.c7 hM | exact MM.c3 hM | exact MM.c4 hM | exact MM.c8 hM | exact MM.c2 hM
      case hv_9 => rfl
      refine S_iload_n (q := 11) hX dX12_goOn_10 rfl rfl ?_
      refine S_dup2_11 (q := 12) hX dX12_goOn_11 rfl rfl rfl ?_
      refine S_iald (N := ?n_10) (f := ?f_10) (q := 13) hX dX12_goOn_12 ?hs_10 ?hi_10 rfl ?_
      case hs_10 => with_reducible first | exact MM.c0 hM | exact MM.c1 hM | exact MM.c5 hM | exact MM.c6 hM | exact MM.c7 hM | exact MM.c3 hM | exact MM.c4 hM | exact MM.c8 hM | exact MM.c2 hM
      case hi_10 => exact vp_in_nI (by omega) (by decide)
      refine S_iconst (q := 14) (v := 1) hX dX12_goOn_13 ic_1 rfl ?_
      refine S_iadd (q := 15) hX dX12_goOn_14 rfl ?_
      refine S_nm (fun x15 hx15 => ?_)
      refine S_iast (N := ?n_11) (f := ?f_11) (q := 16) hX dX12_goOn_15 ?hs_11 ?hi_11 rfl ?_
      case hs_11 => with_reducible first | exact MM.c0 hM | exact MM.c1 hM | exact MM.c5 hM | exact MM.c6 hM | exact MM.c7 hM | exact MM.c3 hM | exact MM.c4 hM | exact MM.c8 hM | exact MM.c2 hM
      case hi_11 => exact vp_in_nI (by omega) (by decide)
      refine S_stu (q0 := m) (j := 5) (i := _) hM hF (by decide) rfl (fun σ μ15 e15 hM hF => ?_)
      subst hx15
      rw [nI_clamp (by omega), m2_m1, m1_eq, hgk, nI_1] at e15
      subst e15
      refine S_aload_n (q := 17) hX dX12_goOn_16 rfl rfl ?_
      refine S_getf (fs := ?fs_12) (v := ?v_12) (q := 20) hX u_793 fo_X12_made dX12_goOn_17 ?hs_12 ?hv_12 rfl ?_
      case hs_12 => with_reducible first | exact MM.c0 hM | exact MM.c1 hM | exact MM.c5 hM | exact MM.c6 hM | exact MM.c7 hM | exact MM.c3 hM | exact MM.c4 hM | exact MM.c8 hM | exact MM.c2 hM
      case hv_12 => rfl
      refine S_iload_n (q := 21) hX dX12_goOn_20 rfl rfl ?_
      refine S_iald (N := ?n_13) (f := ?f_13) (q := 22) hX dX12_goOn_21 ?hs_13 ?hi_13 rfl ?_
      case hs_13 => with_reducible first | exact MM.c0 hM | exact MM.c1 hM | exact MM.c5 hM | exact MM.c6 hM | exact MM.c7 hM | exact MM.c3 hM | exact MM.c4 hM | exact MM.c8 hM | exact MM.c2 hM
      case hi_13 => exact vp_in_nI (by omega) (by decide)
      refine S_bipush (q := 24) (v := 12) hX dX12_goOn_22 bp_12 rfl ?_
      refine S_icmp_ne (q := 27) 33 hX dX12_goOn_24 rfl rfl (fun c24 => ?_) (fun c24 => ?_)
      · have hx11 : x + 1 < 12 := by rw [nI_clamp (by omega), m1_eq, upd_eq] at c24; rcases Nat.lt_or_ge (x + 1) 12 with q | q; exact q; exact absurd (show nI (x + 1) = 12 by rw [show x + 1 = 12 by omega]; rfl) c24
        refine S_iload_n (q := 34) hX dX12_goOn_33 rfl rfl ?_
        refine S_if_eq (q := 37) 57 hX dX12_goOn_34 rfl rfl (fun c34 => ?_) (fun c34 => ?_)
        · refine S_iload_n (q := 58) hX dX12_goOn_57 rfl rfl ?_
          refine S_iconst (q := 59) (v := 1) hX dX12_goOn_58 ic_1 rfl ?_
          refine S_iadd (q := 60) hX dX12_goOn_59 rfl ?_
          refine S_istore_n (q := 61) [_, _, _, _] hX dX12_goOn_60 rfl (Nat.le_of_ble_eq_true rfl) rfl rfl ?_
          have exN : ∃ t : Nat → Nat, ∀ j, t j = if j < k then r j else tail (x + 1) (j - k) := ⟨fun j => if j < k then r j else tail (x + 1) (j - k), fun j => rfl⟩
          obtain ⟨t, et⟩ := exN
          have t1 : ∀ j, j < k → t j = r j := fun j hj => by rw [et, if_pos hj]
          have t2 : t k = x + 1 := by rw [et, if_neg (Nat.lt_irrefl _), Nat.sub_self]; rfl
          have t3 : least n k t := fun j hj hjn => by
            rw [et, if_neg (by omega), et (j - 1), if_neg (by omega), show j - k = (j - 1 - k) + 1 by omega]
            rfl
          have t4 : ∀ j, j < n → t j < 12 := fun j hj => by
            rw [et]
            split
            · exact hr.1 j hj
            · exact tail_lt (by omega) _
          exact fill (n + 1) (k + 1) _ _ t k x _ hgn (by omega) hrx (Or.inl (nI_inj (by omega) (by decide) c34)) (by omega) t1 t2 t3 t4 (fun j hj => by
            rcases Nat.lt_succ_iff_lt_or_eq.mp hj with q | q
            · rw [upd_ne (by omega), t1 j q]; exact hg j q
            · rw [q, upd_eq, t2]) (nI_1 _) (Nat.lt_succ_self _) (by omega) (by omega) hM hF
        · have hk0 : k ≠ 0 := fun z => c34 (by rw [z]; rfl)
          have hkm : nI k - 1 = nI (k - 1) := by rw [i1, pk_sub (by omega)]
          refine S_aload_n (q := 38) hX dX12_goOn_37 rfl rfl ?_
          refine S_getf (fs := ?fs_14) (v := ?v_14) (q := 41) hX u_793 fo_X12_made dX12_goOn_38 ?hs_14 ?hv_14 rfl ?_
          case hs_14 => with_reducible first | exact MM.c0 hM | exact MM.c1 hM | exact MM.c5 hM | exact MM.c6 hM | exact MM.c7 hM | exact MM.c3 hM | exact MM.c4 hM | exact MM.c8 hM | exact MM.c2 hM
          case hv_14 => rfl
          refine S_iload_n (q := 42) hX dX12_goOn_41 rfl rfl ?_
          refine S_iconst (q := 43) (v := 1) hX dX12_goOn_42 ic_1 rfl ?_
          refine S_isub (q := 44) hX dX12_goOn_43 rfl ?_
          refine S_iald (N := ?n_15) (f := ?f_15) (q := 45) hX dX12_goOn_44 ?hs_15 ?hi_15 rfl ?_
          case hs_15 => with_reducible first | exact MM.c0 hM | exact MM.c1 hM | exact MM.c5 hM | exact MM.c6 hM | exact MM.c7 hM | exact MM.c3 hM | exact MM.c4 hM | exact MM.c8 hM | exact MM.c2 hM
          case hi_15 => rw [hkm]; exact vp_in_nI (by omega) (by decide)
          refine S_aload_n (q := 46) hX dX12_goOn_45 rfl rfl ?_
          refine S_getf (fs := ?fs_16) (v := ?v_16) (q := 49) hX u_793 fo_X12_made dX12_goOn_46 ?hs_16 ?hv_16 rfl ?_
          case hs_16 => with_reducible first | exact MM.c0 hM | exact MM.c1 hM | exact MM.c5 hM | exact MM.c6 hM | exact MM.c7 hM | exact MM.c3 hM | exact MM.c4 hM | exact MM.c8 hM | exact MM.c2 hM
          case hv_16 => rfl
          refine S_iload_n (q := 50) hX dX12_goOn_49 rfl rfl ?_
          refine S_iald (N := ?n_17) (f := ?f_17) (q := 51) hX dX12_goOn_50 ?hs_17 ?hi_17 rfl ?_
          case hs_17 => with_reducible first | exact MM.c0 hM | exact MM.c1 hM | exact MM.c5 hM | exact MM.c6 hM | exact MM.c7 hM | exact MM.c3 hM | exact MM.c4 hM | exact MM.c8 hM | exact MM.c2 hM
          case hi_17 => exact vp_in_nI (by omega) (by decide)
          refine S_callS (q := 54) 0 0 hX (c_X12_isLawful _ _ (r (k - 1)) (x + 1) (by rw [hkm, nI_clamp (by omega), m1_eq, upd_ne (by omega), hg (k - 1) (by omega)]) (by rw [nI_clamp (by omega), m1_eq, upd_eq])) rfl u_951 u_952 u_12 u_953 ⟨by decide, by decide, rfl⟩ ⟨Nat.le_of_ble_eq_true rfl, Nat.le_of_ble_eq_true rfl⟩ ⟨Nat.le_of_ble_eq_true rfl, Nat.le_of_ble_eq_true rfl⟩ (Nat.le_of_ble_eq_true rfl) dX12_goOn_51 ?hp_18 rfl rfl rfl ?_
          case hp_18 => exact ⟨hr.1 _ (by omega), hx11⟩
          rintro v σ1 sz1 ⟨rfl, rfl, rfl⟩
          refine S_if_eq_b (q := 57) 2 hX dX12_goOn_54 rfl rfl (fun c54 => ?_) (fun c54 => ?_)
          · obtain ⟨k, rfl⟩ : ∃ j, k = j + 1 := ⟨k - 1, by omega⟩
            rw [Nat.add_sub_cancel] at c54
            exact ih (k + 1) (x + 1) _ _ _ none (gone_step hkn hgn c54) (by omega) (by omega) hkn (fun j hj => by rw [upd_ne (by omega)]; exact hg j hj) (upd_eq _ _ _) rfl (by omega) hM hF
          · refine S_iload_n (q := 58) hX dX12_goOn_57 rfl rfl ?_
            refine S_iconst (q := 59) (v := 1) hX dX12_goOn_58 ic_1 rfl ?_
            refine S_iadd (q := 60) hX dX12_goOn_59 rfl ?_
            refine S_istore_n (q := 61) [_, _, _, _] hX dX12_goOn_60 rfl (Nat.le_of_ble_eq_true rfl) rfl rfl ?_
            have exN : ∃ t : Nat → Nat, ∀ j, t j = if j < k then r j else tail (x + 1) (j - k) := ⟨fun j => if j < k then r j else tail (x + 1) (j - k), fun j => rfl⟩
            obtain ⟨t, et⟩ := exN
            have t1 : ∀ j, j < k → t j = r j := fun j hj => by rw [et, if_pos hj]
            have t2 : t k = x + 1 := by rw [et, if_neg (Nat.lt_irrefl _), Nat.sub_self]; rfl
            have t3 : least n k t := fun j hj hjn => by
              rw [et, if_neg (by omega), et (j - 1), if_neg (by omega), show j - k = (j - 1 - k) + 1 by omega]
              rfl
            have t4 : ∀ j, j < n → t j < 12 := fun j hj => by
              rw [et]
              split
              · exact hr.1 j hj
              · exact tail_lt (by omega) _
            exact fill (n + 1) (k + 1) _ _ t k x _ hgn (by omega) hrx (Or.inr c54) (by omega) t1 t2 t3 t4 (fun j hj => by
              rcases Nat.lt_succ_iff_lt_or_eq.mp hj with q | q
              · rw [upd_ne (by omega), t1 j q]; exact hg j q
              · rw [q, upd_eq, t2]) (nI_1 _) (Nat.lt_succ_self _) (by omega) (by omega) hM hF
      · have hx11 : x = 11 := by rw [nI_clamp (by omega), m1_eq, upd_eq] at c24; have h12 := nI_inj (a := x + 1) (b := 12) (by omega) (by omega) c24; omega
        refine S_iinc (q := 30) [_, _, _, _] hX dX12_goOn_27 rfl (ii_m1 _) rfl (Nat.le_of_ble_eq_true rfl) rfl rfl ?_
        refine S_goto 2 hX dX12_goOn_30 rfl ?_
        subst hx11
        rcases Nat.eq_zero_or_pos k with q | q
        · subst q
          exact stop1 σ _ (gone_no hr.1 (by omega) hgn) hM hF
        · obtain ⟨k, rfl⟩ : ∃ j, k = j + 1 := ⟨k - 1, by omega⟩
          exact ih k (r k) σ _ _ none (gone_up hr.1 hkn hgn) (Nat.le_refl _) (hr.1 k (by omega)) (by omega) (fun j hj => by rw [upd_ne (by omega)]; exact hg j (by omega)) (by rw [upd_ne (by omega)]; exact hg k (by omega)) (pk_m1 k) (by have := hr.1 k (by omega); omega) hM hF
  refine S_iload_n (q := 1) hX dX12_goOn_0 rfl rfl ?_
  refine S_istore_n (q := 2) [_, _, _, _] hX dX12_goOn_1 rfl (Nat.le_of_ble_eq_true rfl) rfl rfl ?_
  exact loop (13 * (n - 1) + 13) (n - 1) (r (n - 1)) σ (μ 5) _ none (gone_0 hr.1 (by omega)) (Nat.le_refl _) (hr.1 _ (by omega)) (by omega) (fun j hj => hmk j (by omega)) (hmk _ (by omega)) rfl (by omega) (by rw [m1_id μ 5 rfl]; exact hM) hF
