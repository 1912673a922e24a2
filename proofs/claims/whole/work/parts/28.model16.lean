/-! the reference reads a text -/
def TxM (μ : MF) (T : TxT) : Prop := μ 0 1 = nI T.1 ∧ T.1 ≤ 250 ∧ ∀ i, i < T.1 → μ 4 i = (nI (T.2 i)).toInt8.toInt32 ∧ T.2 i < 256
def hrI (T : TxT) (p : Nat) : Int32 := if p < T.1 then nI (T.2 p) else -1
theorem by_255 : ∀ b : Fin 256, (nI b.val).toInt8.toInt32 &&& 255 = nI b.val := by decide +kernel
theorem TxM.scr {μ μ' : MF} {T : TxT} (h : TxM μ T) (e1 : μ' 0 1 = μ 0 1) (e4 : μ' 4 = μ 4) : TxM μ' T := ⟨e1.trans h.1, h.2.1, fun i hi => by rw [e4]; exact h.2.2 i hi⟩

theorem c_X12_here (m : Nat) (μ : MF) (T : TxT) (p : Nat) : CT_X12_here [.ref m] (fun Γ σ sz => MM σ m μ ∧ TxM μ T ∧ μ 0 2 = nI p ∧ p ≤ 300) (fun Γ σ sz v σ' sz' => v = some (.int (hrI T p)) ∧ σ' = σ ∧ sz' = sz) := by
  refine CT.mkP rfl (Nat.le_of_ble_eq_true rfl) [_] rfl ?_
  intro X Γ σ sz P hX hpre hsz hP
  obtain ⟨hM, hT, h2, hp⟩ := hpre
  have hF : Fr m (m + 9) σ σ := Fr.rf
  refine S_aload_n (q := 1) hX dX12_here_0 rfl rfl ?_
  refine S_getf (fs := ?fs_1) (v := ?v_1) (q := 4) hX u_788 fo_X12_at dX12_here_1 ?hs_1 ?hv_1 rfl ?_
  case hs_1 => with_reducible first | exact MM.c0 hM | exact MM.c1 hM | exact MM.c5 hM | exact MM.c6 hM | exact MM.c7 hM | exact MM.c3 hM | exact MM.c4 hM | exact MM.c8 hM | exact MM.c2 hM
  case hv_1 => rfl
  refine S_aload_n (q := 5) hX dX12_here_4 rfl rfl ?_
  refine S_getf (fs := ?fs_2) (v := ?v_2) (q := 8) hX u_787 fo_X12_typed dX12_here_5 ?hs_2 ?hv_2 rfl ?_
  case hs_2 => with_reducible first | exact MM.c0 hM | exact MM.c1 hM | exact MM.c5 hM | exact MM.c6 hM | exact MM.c7 hM | exact MM.c3 hM | exact MM.c4 hM | exact MM.c8 hM | exact MM.c2 hM
  case hv_2 => rfl
  refine S_icmp_ge (q := 11) 27 hX dX12_here_8 rfl rfl (fun c8 => ?_) (fun c8 => ?_)
  · have hge : ¬ p < T.1 := by have := hT.2.1; rw [h2, hT.1, nI_leI (by omega) (by omega)] at c8; omega
    refine S_iconst (q := 28) (v := (-1)) hX dX12_here_27 ic_m1 rfl ?_
    refine S_iret hX dX12_here_28 (Nat.zero_le _) (Nat.zero_le _) ?_
    refine hP _ _ _ ?_
    unfold hrI
    rw [if_neg hge]
    exact ⟨rfl, rfl, rfl⟩
  · have hlt : p < T.1 := by have := hT.2.1; rw [h2, hT.1, nI_leI (by omega) (by omega)] at c8; omega
    refine S_aload_n (q := 12) hX dX12_here_11 rfl rfl ?_
    refine S_getf (fs := ?fs_3) (v := ?v_3) (q := 15) hX u_786 fo_X12_text dX12_here_12 ?hs_3 ?hv_3 rfl ?_
    case hs_3 => with_reducible first | exact MM.c0 hM | exact MM.c1 hM | exact MM.c5 hM | exact MM.c6 hM | exact MM.c7 hM | exact MM.c3 hM | exact MM.c4 hM | exact MM.c8 hM | exact MM.c2 hM
    case hv_3 => rfl
    refine S_aload_n (q := 16) hX dX12_here_15 rfl rfl ?_
    refine S_getf (fs := ?fs_4) (v := ?v_4) (q := 19) hX u_788 fo_X12_at dX12_here_16 ?hs_4 ?hv_4 rfl ?_
    case hs_4 => with_reducible first | exact MM.c0 hM | exact MM.c1 hM | exact MM.c5 hM | exact MM.c6 hM | exact MM.c7 hM | exact MM.c3 hM | exact MM.c4 hM | exact MM.c8 hM | exact MM.c2 hM
    case hv_4 => rfl
    refine S_bald (N := ?n_5) (f := ?f_5) (q := 20) hX dX12_here_19 ?hs_5 ?hi_5 rfl ?_
    case hs_5 => with_reducible first | exact MM.c0 hM | exact MM.c1 hM | exact MM.c5 hM | exact MM.c6 hM | exact MM.c7 hM | exact MM.c3 hM | exact MM.c4 hM | exact MM.c8 hM | exact MM.c2 hM
    case hi_5 => rw [h2]; exact vp_in_nI (by have := hT.2.1; omega) (by decide)
    refine S_sipush (q := 23) (v := 255) hX dX12_here_20 sp_255 rfl ?_
    refine S_iand (q := 24) hX dX12_here_23 rfl ?_
    refine S_goto 28 hX dX12_here_24 rfl ?_
    refine S_iret hX dX12_here_28 (Nat.zero_le _) (Nat.zero_le _) ?_
    refine hP _ _ _ ?_
    unfold hrI
    rw [if_pos hlt, h2, nI_clamp (by omega), (hT.2.2 p hlt).1]
    refine ⟨?_, rfl, rfl⟩
    exact congrArg (fun z => some (Value.int z)) (by_255 ⟨T.2 p, (hT.2.2 p hlt).2⟩)
theorem c_X12_isNumber (m : Nat) (μ : MF) (lo hi : Int32) (q v0 : Nat) : CT_X12_isNumber [.ref m, .int lo, .int hi] (fun Γ σ sz => MM σ m μ ∧ μ 0 4 = nI q ∧ q ≤ 6 ∧ μ 0 5 = nI v0) (fun Γ σ sz v σ' sz' => v = some (.int (bi (q = 3 ∧ lo.toInt ≤ (nI v0).toInt ∧ (nI v0).toInt ≤ hi.toInt))) ∧ σ' = σ ∧ sz' = sz) := by
  refine CT.mkP rfl (Nat.le_of_ble_eq_true rfl) [_, _, _] rfl ?_
  intro X Γ σ sz P hX hpre hsz hP
  obtain ⟨hM, h4, hq6, h5⟩ := hpre
  have hF : Fr m (m + 9) σ σ := Fr.rf
  refine S_aload_n (q := 1) hX dX12_isNumber_0 rfl rfl ?_
  refine S_getf (fs := ?fs_1) (v := ?v_1) (q := 4) hX u_790 fo_X12_sort dX12_isNumber_1 ?hs_1 ?hv_1 rfl ?_
  case hs_1 => with_reducible first | exact MM.c0 hM | exact MM.c1 hM | exact MM.c5 hM | exact MM.c6 hM | exact MM.c7 hM | exact MM.c3 hM | exact MM.c4 hM | exact MM.c8 hM | exact MM.c2 hM
  case hv_1 => rfl
  refine S_iconst (q := 5) (v := 3) hX dX12_isNumber_4 ic_3 rfl ?_
  refine S_icmp_ne (q := 8) 24 hX dX12_isNumber_5 rfl rfl (fun c5 => ?_) (fun c5 => ?_)
  · refine S_iconst (q := 25) (v := 0) hX dX12_isNumber_24 ic_0 rfl ?_
    refine S_xret hX dX12_isNumber_25 (Nat.zero_le _) (Nat.zero_le _) (by decide) ?_
    refine hP _ _ _ ?_
    refine ⟨?_, rfl, rfl⟩
    rw [bi_f (fun z => c5 (by rw [h4, z.1]; rfl))]
  · refine S_aload_n (q := 9) hX dX12_isNumber_8 rfl rfl ?_
    refine S_getf (fs := ?fs_2) (v := ?v_2) (q := 12) hX u_791 fo_X12_value dX12_isNumber_9 ?hs_2 ?hv_2 rfl ?_
    case hs_2 => with_reducible first | exact MM.c0 hM | exact MM.c1 hM | exact MM.c5 hM | exact MM.c6 hM | exact MM.c7 hM | exact MM.c3 hM | exact MM.c4 hM | exact MM.c8 hM | exact MM.c2 hM
    case hv_2 => rfl
    refine S_iload_n (q := 13) hX dX12_isNumber_12 rfl rfl ?_
    refine S_iload_n (q := 14) hX dX12_isNumber_13 rfl rfl ?_
    refine S_callS (q := 17) 0 0 hX (c_X12_in _ _ _) rfl u_858 u_859 u_12 u_860 ⟨by decide, by decide, rfl⟩ ⟨Nat.le_of_ble_eq_true rfl, Nat.le_of_ble_eq_true rfl⟩ ⟨Nat.le_of_ble_eq_true rfl, Nat.le_of_ble_eq_true rfl⟩ (Nat.le_of_ble_eq_true rfl) dX12_isNumber_14 ?hp_3 rfl rfl rfl ?_
    case hp_3 => trivial
    rintro v σ1 sz1 ⟨rfl, rfl, rfl⟩
    refine S_if_eq_b (q := 20) 24 hX dX12_isNumber_17 rfl rfl (fun c17 => ?_) (fun c17 => ?_)
    · refine S_iconst (q := 25) (v := 0) hX dX12_isNumber_24 ic_0 rfl ?_
      refine S_xret hX dX12_isNumber_25 (Nat.zero_le _) (Nat.zero_le _) (by decide) ?_
      refine hP _ _ _ ?_
      refine ⟨?_, rfl, rfl⟩
      rw [bi_f (fun z => c17 (by rw [h5]; exact z.2))]
    · refine S_iconst (q := 21) (v := 1) hX dX12_isNumber_20 ic_1 rfl ?_
      refine S_goto 25 hX dX12_isNumber_21 rfl ?_
      refine S_xret hX dX12_isNumber_25 (Nat.zero_le _) (Nat.zero_le _) (by decide) ?_
      refine hP _ _ _ ?_
      refine ⟨?_, rfl, rfl⟩
      rw [h5] at c17
      rw [bi_t ⟨nI_inj (by omega) (by decide) (h4.symm.trans c5), c17⟩]
/-- only the token has changed -/
def prs (μ0 μ : MF) : Prop := (∀ j, j ≠ 0 → μ j = μ0 j) ∧ ∀ i, i < 2 ∨ 5 < i → μ 0 i = μ0 0 i
theorem prs.rf {μ : MF} : prs μ μ := ⟨fun _ _ => rfl, fun _ _ => rfl⟩
theorem prs.st {μ0 μ : MF} {i : Nat} {x : Int32} (h : prs μ0 μ) (h1 : 2 ≤ i) (h2 : i ≤ 5) : prs μ0 (m2 μ 0 i x) := ⟨fun j hj => by rw [m2_o hj]; exact h.1 j hj, fun k hk => by rw [m2_at, if_neg (by omega)]; exact h.2 k hk⟩
theorem TxM.prs {μ0 μ : MF} {T : TxT} (h : TxM μ0 T) (e : prs μ0 μ) : TxM μ T := h.scr (e.2 1 (by omega)) (e.1 4 (by decide))
def TkM (μ : MF) (t : TkT) : Prop := μ 0 3 = nI t.1 ∧ μ 0 4 = nI t.2.1 ∧ μ 0 5 = nI t.2.2.1 ∧ μ 0 2 = nI t.2.2.2
theorem TxM.by {μ : MF} {T : TxT} (h : TxM μ T) : ∀ i, i < T.1 → T.2 i < 256 := fun i hi => (h.2.2 i hi).2
theorem hrI_in {T : TxT} {p lo hi : Nat} (h : ∀ i, i < T.1 → T.2 i < 256) (h0 : hi < 256) : ((lo : Int) ≤ (hrI T p).toInt ∧ (hrI T p).toInt ≤ hi) ↔ (lo ≤ hr T p ∧ hr T p ≤ hi) := by
  unfold hrI hr
  by_cases hp : p < T.1
  · have := h p hp
    rw [if_pos hp, if_pos hp, nI_toInt (by omega)]
    omega
  · rw [if_neg hp, if_neg hp, show ((-1 : Int32)).toInt = -1 by decide]
    omega
theorem hrI_eq {T : TxT} {p c : Nat} (h : ∀ i, i < T.1 → T.2 i < 256) (h0 : c < 256) : hrI T p = nI c ↔ hr T p = c := by
  unfold hrI hr
  by_cases hp : p < T.1
  · have := h p hp
    rw [if_pos hp, if_pos hp]
    exact nI_eq (by omega) (by omega)
  · rw [if_neg hp, if_neg hp]
    constructor
    · intro q
      have := congrArg Int32.toInt q
      rw [nI_toInt (by omega), show ((-1 : Int32)).toInt = -1 by decide] at this
      omega
    · intro q
      omega
theorem hrI_lt {T : TxT} {p : Nat} (h : ∀ i, i < T.1 → T.2 i < 256) : 0 ≤ hrI T p ↔ p < T.1 := by
  unfold hrI
  by_cases hp : p < T.1
  · have := h p hp
    rw [if_pos hp]
    exact ⟨fun _ => hp, fun _ => nI_pos' (by omega)⟩
  · rw [if_neg hp]
    exact ⟨fun q => absurd q (by decide), fun q => absurd q hp⟩
theorem skp_s {T : TxT} {f p : Nat} (h : hr T p = 32) : skp T (f + 1) p = skp T f (p + 1) := by
  rw [skp, if_pos h]
theorem skp_e {T : TxT} {f p : Nat} (h : ¬ hr T p = 32) : skp T (f + 1) p = p := by
  rw [skp, if_neg h]
theorem rnW_s {T : TxT} {lo hi f p : Nat} (h : lo ≤ hr T p ∧ hr T p ≤ hi) : rnW T lo hi (f + 1) p = rnW T lo hi f (p + 1) := by
  rw [rnW, if_pos h]
theorem rnW_e {T : TxT} {lo hi f p : Nat} (h : ¬ (lo ≤ hr T p ∧ hr T p ≤ hi)) : rnW T lo hi (f + 1) p = p := by
  rw [rnW, if_neg h]

