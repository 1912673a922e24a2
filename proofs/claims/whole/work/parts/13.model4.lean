/-! the reference's calls that read -/
/-- only what is looked at in passing has changed -/
def scr (μ μ' : MF) : Prop := (∀ j, j = 1 ∨ j = 2 ∨ j = 3 ∨ j = 4 ∨ j = 8 → μ' j = μ j) ∧ ∀ i, i ≠ 7 → i ≠ 8 → μ' 0 i = μ 0 i
theorem scr.rf {μ : MF} : scr μ μ := ⟨fun _ _ => rfl, fun _ _ _ => rfl⟩
theorem scr.trans {μ μ1 μ2 : MF} (h : scr μ μ1) (h2 : scr μ1 μ2) : scr μ μ2 := ⟨fun j hj => (h2.1 j hj).trans (h.1 j hj), fun i a b => (h2.2 i a b).trans (h.2 i a b)⟩
theorem MR.scr {μ μ' : MF} {S : ST} (h : MR μ S) (e : scr μ μ') : MR μ' S := by
  obtain ⟨h0, h1, h2, h3, h4, h5⟩ := h
  have e1 := e.1 1 (by decide)
  have e2 := e.1 2 (by decide)
  have e3 := e.1 3 (by decide)
  have e4 := e.1 4 (by decide)
  exact ⟨(e.2 0 (by decide) (by decide)).trans h0, by rw [e1]; exact h1, fun i hi => by rw [e1, e2]; exact h2 i hi, by rw [e3]; exact h3, (e.2 1 (by decide) (by decide)).trans h4, by rw [e4]; exact h5⟩
theorem scr.make {μ μ' : MF} {x : Int32} {g : Nat → Int32} (e : μ' = m1 (m2 μ 0 7 x) 5 g) : scr μ μ' := by
  subst e
  refine ⟨fun j hj => ?_, fun i h7 h8 => ?_⟩
  · rw [m1_ne (by omega), m2_o (by omega)]
  · rw [m1_ne (by decide), m2_at, if_neg (fun z => h7 z.2)]
theorem scr.read {μ μ' : MF} {x : Int32} {g h : Nat → Int32} (e : μ' = m2 (m1 (m1 μ 6 g) 7 h) 0 8 x) : scr μ μ' := by
  subst e
  refine ⟨fun j hj => ?_, fun i h7 h8 => ?_⟩
  · rw [m2_o (by omega), m1_ne (by omega), m1_ne (by omega)]
  · rw [m2_at, if_neg (fun z => h8 z.2), m1_ne (by decide), m1_ne (by decide)]
theorem sy_lt {S : ST} (ok : StOk S) : S.1.2.2.2.1 < 2147483648 := by
  rcases ok.1.2.2.2.2.2.1 with h | h
  · omega
  · have := ln_lt (show 0 < ln S.1.2.2.2.1 by omega)
    omega
theorem rdS_len (S : ST) (k c : Nat) : (rdS S k c).length ≤ 6 := by
  have h1 : (rdS S k c).length ≤ ln S.1.2.2.2.1 - 0 := rdL_len _ _
  have h2 := ln_6 S.1.2.2.2.1
  omega
theorem rdS_10 {S : ST} (ok : StOk S) {k c : Nat} (hc : c < S.1.1.1) : ∀ w ∈ rdS S k c, w < 10 := rdL_10 (ok.1.2.1.2.1 c hc) _ _
theorem getD_10 {L : List Nat} (h : ∀ w ∈ L, w < 10) (i : Nat) : L.getD i 0 < 10 := by
  rw [List.getD_eq_getElem?_getD]
  cases hi : L[i]? with
  | none => exact Nat.zero_lt_succ 9
  | some x => exact h x (List.mem_of_getElem? hi)

theorem c_X12_readSaying (m : Nat) (μ : MF) (S : ST) (x y : Int32) (kd c : Nat) (hx : x = nI kd) (hy : y = nI c) : CT_X12_readSaying [.ref m, .int x, .int y] (fun Γ σ sz => MM σ m μ ∧ MR μ S ∧ StOk S ∧ kd < 5 ∧ c < S.1.1.1) (fun Γ σ sz v σ' sz' => ∃ μ', MM σ' m μ' ∧ Fr m (m + 9) σ σ' ∧ v = none ∧ (scr μ μ' ∧ μ' 0 8 = nI (rdS S kd c).length ∧ WL (μ' 7) (rdS S kd c)) ∧ sz' = sz) := by
  refine CT.mkP rfl (Nat.le_of_ble_eq_true rfl) [_, _, _] rfl ?_
  intro X Γ σ sz P hX hpre hsz hP
  obtain ⟨hM, hR, ok, hkd, hc⟩ := hpre
  have hF : Fr m (m + 9) σ σ := Fr.rf
  subst hx
  subst hy
  have h0 := hR.1
  have hsy := sy_lt ok
  have hn3 := ok.1.1
  have hl6 := ln_6 S.1.2.2.2.1
  refine S_aload_n (q := 1) hX dX12_readSaying_0 rfl rfl ?_
  refine S_aload_n (q := 2) hX dX12_readSaying_1 rfl rfl ?_
  refine S_iconst (q := 3) (v := 2) hX dX12_readSaying_2 ic_2 rfl ?_
  refine S_callV (ci := 12) (C := "FanTalkModel") (T := TX12) (N := 17) (q := 6) 0 0 hX (c_X12_get _ μ _ 0 (2) (by first | rfl | (simp only [i0, i1, i2, i3, i4, i5, i6, i7, i8, i9, i10, i11, i12, i17, i20, i24, i26, i27, i31, i32, i36, i48, i57, i59, i60, i61, i63, i64, i87, i96, i97, i99, i122, i148, i250, i255, i305, i453, i999, i1359, i1812, pk_mul, nI_add]; done) | (simp only [i0, i1, i2, i3, i4, i5, i6, i7, i8, i9, i10, i11, i12, i17, i20, i24, i26, i27, i31, i32, i36, i48, i57, i59, i60, i61, i63, i64, i87, i96, i97, i99, i122, i148, i250, i255, i305, i453, i999, i1359, i1812, pk_mul, nI_add]; congr 1; omega))) rfl ?hs_1 rfl u_838 u_840 us_26 u_12 u_841 ⟨by decide, by decide, rfl⟩ ⟨Nat.le_of_ble_eq_true rfl, Nat.le_of_ble_eq_true rfl⟩ ⟨Nat.le_of_ble_eq_true rfl, Nat.le_of_ble_eq_true rfl⟩ (Nat.le_of_ble_eq_true rfl) dX12_readSaying_3 ?hp_1 rfl rfl rfl ?_
  case hs_1 => first | with_reducible assumption | exact ⟨_, by with_reducible assumption⟩ | exact MM.isO hM
  case hp_1 => exact ⟨hM, h0, by omega⟩
  rintro v σ1 sz1 ⟨rfl, rfl, rfl⟩
  rw [hR.2.1.2.2.1]
  refine S_callV (ci := 12) (C := "FanTalkModel") (T := TX12) (N := 17) (q := 9) 0 0 hX (c_X12_make _ μ _ S.1.2.2.2.1 rfl) rfl ?hs_2 rfl u_958 u_960 us_44 u_12 u_961 ⟨by decide, by decide, rfl⟩ ⟨Nat.le_of_ble_eq_true rfl, Nat.le_of_ble_eq_true rfl⟩ ⟨Nat.le_of_ble_eq_true rfl, Nat.le_of_ble_eq_true rfl⟩ (Nat.le_of_ble_eq_true rfl) dX12_readSaying_6 ?hp_2 rfl rfl rfl ?_
  case hs_2 => first | with_reducible assumption | exact ⟨_, by with_reducible assumption⟩ | exact MM.isO hM
  case hp_2 => exact ⟨hM, hsy⟩
  rintro v σ sz1 ⟨μ1, hM, hF1, rfl, ⟨g, e1, hg⟩, rfl⟩
  have hF := hF.trans hF1
  have s1 := scr.make e1
  have hR1 := hR.scr s1
  have h0 := hR1.1
  refine S_aload_n (q := 10) hX dX12_readSaying_9 rfl rfl ?_
  refine S_iload_n (q := 11) hX dX12_readSaying_10 rfl rfl ?_
  refine S_iload_n (q := 12) hX dX12_readSaying_11 rfl rfl ?_
  refine S_aload_n (q := 13) hX dX12_readSaying_12 rfl rfl ?_
  refine S_iconst (q := 14) (v := 1) hX dX12_readSaying_13 ic_1 rfl ?_
  refine S_callV (ci := 12) (C := "FanTalkModel") (T := TX12) (N := 17) (q := 17) 0 0 hX (c_X12_get _ μ1 _ 0 (1) (by first | rfl | (simp only [i0, i1, i2, i3, i4, i5, i6, i7, i8, i9, i10, i11, i12, i17, i20, i24, i26, i27, i31, i32, i36, i48, i57, i59, i60, i61, i63, i64, i87, i96, i97, i99, i122, i148, i250, i255, i305, i453, i999, i1359, i1812, pk_mul, nI_add]; done) | (simp only [i0, i1, i2, i3, i4, i5, i6, i7, i8, i9, i10, i11, i12, i17, i20, i24, i26, i27, i31, i32, i36, i48, i57, i59, i60, i61, i63, i64, i87, i96, i97, i99, i122, i148, i250, i255, i305, i453, i999, i1359, i1812, pk_mul, nI_add]; congr 1; omega))) rfl ?hs_3 rfl u_838 u_840 us_26 u_12 u_841 ⟨by decide, by decide, rfl⟩ ⟨Nat.le_of_ble_eq_true rfl, Nat.le_of_ble_eq_true rfl⟩ ⟨Nat.le_of_ble_eq_true rfl, Nat.le_of_ble_eq_true rfl⟩ (Nat.le_of_ble_eq_true rfl) dX12_readSaying_14 ?hp_3 rfl rfl rfl ?_
  case hs_3 => first | with_reducible assumption | exact ⟨_, by with_reducible assumption⟩ | exact MM.isO hM
  case hp_3 => exact ⟨hM, h0, by omega⟩
  rintro v σ1 sz1 ⟨rfl, rfl, rfl⟩
  rw [hR1.2.1.2.1]
  refine S_callV (ci := 12) (C := "FanTalkModel") (T := TX12) (N := 17) (q := 20) 0 0 hX (c_X12_readBy _ μ1 _ _ _ kd c S.1.2.2.1 (ln S.1.2.2.2.1) 0 (stN S.1.2.2.2.1 (ln S.1.2.2.2.1)) (S.1.1.2.1 c) rfl rfl rfl) rfl ?hs_4 rfl u_976 u_978 us_46 u_12 u_979 ⟨by decide, by decide, rfl⟩ ⟨Nat.le_of_ble_eq_true rfl, Nat.le_of_ble_eq_true rfl⟩ ⟨Nat.le_of_ble_eq_true rfl, Nat.le_of_ble_eq_true rfl⟩ (Nat.le_of_ble_eq_true rfl) dX12_readSaying_17 ?hp_4 rfl rfl rfl ?_
  case hs_4 => first | with_reducible assumption | exact ⟨_, by with_reducible assumption⟩ | exact MM.isO hM
  case hp_4 => refine ⟨hM, hkd, ok.1.2.2.2.2.1, by omega, h0, by omega, by rw [e1, m1_ne (by decide), m2_at, if_pos ⟨rfl, rfl⟩], fun i hi => ⟨by rw [e1, m1_eq]; exact hg i hi, stN_lt _ _ _⟩, hR1.2.1.code hc, ok.1.2.1.2.1 c hc⟩
  rintro v σ sz1 ⟨μ2, hM, hF1, rfl, ⟨vf, wf, e2, hw⟩, rfl⟩
  have hF := hF.trans hF1
  refine S_vret hX dX12_readSaying_20 (Nat.zero_le _) (Nat.zero_le _) ?_
  refine hP _ _ _ ?_
  exact ⟨_, hM, hF, rfl, ⟨s1.trans (scr.read e2), by rw [e2, m2_at, if_pos ⟨rfl, rfl⟩]; rfl, by rw [e2, m2_o (by decide), m1_eq]; exact hw⟩, rfl⟩
theorem c_X12_seen (m : Nat) (μ : MF) (S : ST) (x : Int32) : CT_X12_seen [.ref m, .int x] (fun Γ σ sz => MM σ m μ ∧ MR μ S ∧ StOk S) (fun Γ σ sz v σ' sz' => ∃ μ', MM σ' m μ' ∧ Fr m (m + 9) σ σ' ∧ v = some (.int (sp_seen S x).1) ∧ MR μ' (sp_seen S x).2 ∧ sz' = sz) := by
  refine CT.mkP rfl (Nat.le_of_ble_eq_true rfl) [_, _] rfl ?_
  intro X Γ σ sz P hX hpre hsz hP
  obtain ⟨hM, hR, ok⟩ := hpre
  have hF : Fr m (m + 9) σ σ := Fr.rf
  have h0 := hR.1
  have hC0 := hR.2.1.1
  obtain ⟨q0, q1, q2, q3, q4, q5, q6, q7, q8, q9⟩ := id hR.2.1
  obtain ⟨o1, o2, o3, o4, o5, o6, o7, o8, o9, o10⟩ := id ok.1
  refine S_iload_n (q := 1) hX dX12_seen_0 rfl rfl ?_
  refine S_if_ge (q := 4) 9 hX dX12_seen_1 rfl rfl (fun c1 => ?_) (fun c1 => ?_)
  · have hx0 : 0 ≤ x.toInt := by rw [le_i, toI0] at c1; exact c1
    have cx := tN_ex hx0
    have hsy := sy_lt ok
    have hl6 := ln_6 S.1.2.2.2.1
    refine S_aload_n (q := 10) hX dX12_seen_9 rfl rfl ?_
    refine S_aload_n (q := 11) hX dX12_seen_10 rfl rfl ?_
    refine S_iconst (q := 12) (v := 2) hX dX12_seen_11 ic_2 rfl ?_
    refine S_callV (ci := 12) (C := "FanTalkModel") (T := TX12) (N := 17) (q := 15) 0 0 hX (c_X12_get _ μ _ 0 (2) (by first | rfl | (simp only [i0, i1, i2, i3, i4, i5, i6, i7, i8, i9, i10, i11, i12, i17, i20, i24, i26, i27, i31, i32, i36, i48, i57, i59, i60, i61, i63, i64, i87, i96, i97, i99, i122, i148, i250, i255, i305, i453, i999, i1359, i1812, pk_mul, nI_add]; done) | (simp only [i0, i1, i2, i3, i4, i5, i6, i7, i8, i9, i10, i11, i12, i17, i20, i24, i26, i27, i31, i32, i36, i48, i57, i59, i60, i61, i63, i64, i87, i96, i97, i99, i122, i148, i250, i255, i305, i453, i999, i1359, i1812, pk_mul, nI_add]; congr 1; omega))) rfl ?hs_1 rfl u_838 u_840 us_26 u_12 u_841 ⟨by decide, by decide, rfl⟩ ⟨Nat.le_of_ble_eq_true rfl, Nat.le_of_ble_eq_true rfl⟩ ⟨Nat.le_of_ble_eq_true rfl, Nat.le_of_ble_eq_true rfl⟩ (Nat.le_of_ble_eq_true rfl) dX12_seen_12 ?hp_1 rfl rfl rfl ?_
    case hs_1 => first | with_reducible assumption | exact ⟨_, by with_reducible assumption⟩ | exact MM.isO hM
    case hp_1 => exact ⟨hM, h0, by omega⟩
    rintro v σ1 sz1 ⟨rfl, rfl, rfl⟩
    rw [q2]
    refine S_callV (ci := 12) (C := "FanTalkModel") (T := TX12) (N := 17) (q := 18) 0 0 hX (c_X12_make _ μ _ S.1.2.2.2.1 rfl) rfl ?hs_2 rfl u_958 u_960 us_44 u_12 u_961 ⟨by decide, by decide, rfl⟩ ⟨Nat.le_of_ble_eq_true rfl, Nat.le_of_ble_eq_true rfl⟩ ⟨Nat.le_of_ble_eq_true rfl, Nat.le_of_ble_eq_true rfl⟩ (Nat.le_of_ble_eq_true rfl) dX12_seen_15 ?hp_2 rfl rfl rfl ?_
    case hs_2 => first | with_reducible assumption | exact ⟨_, by with_reducible assumption⟩ | exact MM.isO hM
    case hp_2 => exact ⟨hM, hsy⟩
    rintro v σ sz1 ⟨μ1, hM, hF1, rfl, ⟨g, e1, hg⟩, rfl⟩
    have hF := hF.trans hF1
    have s1 := scr.make e1
    have hR1 := hR.scr s1
    have h0 := hR1.1
    have hb7 : μ1 0 7 = nI (ln S.1.2.2.2.1) := by rw [e1, m1_ne (by decide), m2_at, if_pos ⟨rfl, rfl⟩]
    refine S_iload_n (q := 19) hX dX12_seen_18 rfl rfl ?_
    refine S_aload_n (q := 20) hX dX12_seen_19 rfl rfl ?_
    refine S_getf (fs := ?fs_3) (v := ?v_3) (q := 23) hX u_794 fo_X12_beats dX12_seen_20 ?hs_3 ?hv_3 rfl ?_
    case hs_3 => with_reducible first | exact MM.c0 hM | exact MM.c1 hM | exact MM.c5 hM | exact MM.c6 hM | exact MM.c7 hM | exact MM.c3 hM | exact MM.c4 hM | exact MM.c8 hM | exact MM.c2 hM
    case hv_3 => rfl
    refine S_icmp_lt (q := 26) 30 hX dX12_seen_23 rfl rfl (fun c23 => ?_) (fun c23 => ?_)
    · have hlt : x.toInt < ln S.1.2.2.2.1 := by rw [hb7, lt_i, nI_toInt (by omega)] at c23; exact c23
      have hmk : μ1 5 x.toNatClampNeg = nI (stN S.1.2.2.2.1 (ln S.1.2.2.2.1) (tN x)) := by rw [e1, m1_eq]; exact hg (tN x) (by omega)
      refine S_aload_n (q := 31) hX dX12_seen_30 rfl rfl ?_
      refine S_iconst (q := 32) (v := 1) hX dX12_seen_31 ic_1 rfl ?_
      refine S_callV (ci := 12) (C := "FanTalkModel") (T := TX12) (N := 17) (q := 35) 0 0 hX (c_X12_get _ μ1 _ 0 (1) (by first | rfl | (simp only [i0, i1, i2, i3, i4, i5, i6, i7, i8, i9, i10, i11, i12, i17, i20, i24, i26, i27, i31, i32, i36, i48, i57, i59, i60, i61, i63, i64, i87, i96, i97, i99, i122, i148, i250, i255, i305, i453, i999, i1359, i1812, pk_mul, nI_add]; done) | (simp only [i0, i1, i2, i3, i4, i5, i6, i7, i8, i9, i10, i11, i12, i17, i20, i24, i26, i27, i31, i32, i36, i48, i57, i59, i60, i61, i63, i64, i87, i96, i97, i99, i122, i148, i250, i255, i305, i453, i999, i1359, i1812, pk_mul, nI_add]; congr 1; omega))) rfl ?hs_4 rfl u_838 u_840 us_26 u_12 u_841 ⟨by decide, by decide, rfl⟩ ⟨Nat.le_of_ble_eq_true rfl, Nat.le_of_ble_eq_true rfl⟩ ⟨Nat.le_of_ble_eq_true rfl, Nat.le_of_ble_eq_true rfl⟩ (Nat.le_of_ble_eq_true rfl) dX12_seen_32 ?hp_4 rfl rfl rfl ?_
      case hs_4 => first | with_reducible assumption | exact ⟨_, by with_reducible assumption⟩ | exact MM.isO hM
      case hp_4 => exact ⟨hM, h0, by omega⟩
      rintro v σ1 sz1 ⟨rfl, rfl, rfl⟩
      rw [hR1.2.1.2.1]
      refine S_iload_n (q := 36) hX dX12_seen_35 rfl rfl ?_
      refine S_ishr (q := 37) hX dX12_seen_36 rfl ?_
      refine S_iconst (q := 38) (v := 1) hX dX12_seen_37 ic_1 rfl ?_
      refine S_iand (q := 39) hX dX12_seen_38 rfl ?_
      refine S_top ((congrArg (fun z => (nI S.1.2.2.1 >>> (z &&& 31)) &&& 1) cx.1).trans (pk_bit o5 (by omega))) ?_
      refine S_iconst (q := 40) (v := 1) hX dX12_seen_39 ic_1 rfl ?_
      refine S_icmp_ne (q := 43) 55 hX dX12_seen_40 rfl rfl (fun c40 => ?_) (fun c40 => ?_)
      · refine S_aload_n (q := 56) hX dX12_seen_55 rfl rfl ?_
        refine S_getf (fs := ?fs_5) (v := ?v_5) (q := 59) hX u_793 fo_X12_made dX12_seen_56 ?hs_5 ?hv_5 rfl ?_
        case hs_5 => with_reducible first | exact MM.c0 hM | exact MM.c1 hM | exact MM.c5 hM | exact MM.c6 hM | exact MM.c7 hM | exact MM.c3 hM | exact MM.c4 hM | exact MM.c8 hM | exact MM.c2 hM
        case hv_5 => rfl
        refine S_iload_n (q := 60) hX dX12_seen_59 rfl rfl ?_
        refine S_iald (N := ?n_6) (f := ?f_6) (q := 61) hX dX12_seen_60 ?hs_6 ?hi_6 rfl ?_
        case hs_6 => with_reducible first | exact MM.c0 hM | exact MM.c1 hM | exact MM.c5 hM | exact MM.c6 hM | exact MM.c7 hM | exact MM.c3 hM | exact MM.c4 hM | exact MM.c8 hM | exact MM.c2 hM
        case hi_6 => rw [vp_in_iff]; omega
        refine S_iret hX dX12_seen_61 (Nat.zero_le _) (Nat.zero_le _) ?_
        refine hP _ _ _ ?_
        have hsp : sp_seen S x = (nI (drw S.1.2.2.1 (stN S.1.2.2.2.1 (ln S.1.2.2.2.1) (tN x)) (tN x)), S) := by unfold sp_seen; rw [if_neg (by omega), if_neg (by omega)]
        rw [hsp]
        refine ⟨_, hM, hF, ?_, hR1, rfl⟩
        refine congrArg (fun z => some (Value.int z)) ?_
        unfold drw
        rw [if_neg (fun z => c40 (by rw [z]; rfl))]
        exact hmk
      · refine S_aload_n (q := 44) hX dX12_seen_43 rfl rfl ?_
        refine S_getf (fs := ?fs_7) (v := ?v_7) (q := 47) hX u_793 fo_X12_made dX12_seen_44 ?hs_7 ?hv_7 rfl ?_
        case hs_7 => with_reducible first | exact MM.c0 hM | exact MM.c1 hM | exact MM.c5 hM | exact MM.c6 hM | exact MM.c7 hM | exact MM.c3 hM | exact MM.c4 hM | exact MM.c8 hM | exact MM.c2 hM
        case hv_7 => rfl
        refine S_iload_n (q := 48) hX dX12_seen_47 rfl rfl ?_
        refine S_iald (N := ?n_8) (f := ?f_8) (q := 49) hX dX12_seen_48 ?hs_8 ?hi_8 rfl ?_
        case hs_8 => with_reducible first | exact MM.c0 hM | exact MM.c1 hM | exact MM.c5 hM | exact MM.c6 hM | exact MM.c7 hM | exact MM.c3 hM | exact MM.c4 hM | exact MM.c8 hM | exact MM.c2 hM
        case hi_8 => rw [vp_in_iff]; omega
        refine S_callS (q := 52) 0 0 hX (c_X12_blown _ (stN S.1.2.2.2.1 (ln S.1.2.2.2.1) (tN x)) hmk) rfl u_962 u_963 u_12 u_964 ⟨by decide, by decide, rfl⟩ ⟨Nat.le_of_ble_eq_true rfl, Nat.le_of_ble_eq_true rfl⟩ ⟨Nat.le_of_ble_eq_true rfl, Nat.le_of_ble_eq_true rfl⟩ (Nat.le_of_ble_eq_true rfl) dX12_seen_49 ?hp_9 rfl rfl rfl ?_
        case hp_9 => exact stN_lt _ _ _
        rintro v σ1 sz1 ⟨rfl, rfl, rfl⟩
        refine S_goto 61 hX dX12_seen_52 rfl ?_
        refine S_iret hX dX12_seen_61 (Nat.zero_le _) (Nat.zero_le _) ?_
        refine hP _ _ _ ?_
        have hsp : sp_seen S x = (nI (drw S.1.2.2.1 (stN S.1.2.2.2.1 (ln S.1.2.2.2.1) (tN x)) (tN x)), S) := by unfold sp_seen; rw [if_neg (by omega), if_neg (by omega)]
        rw [hsp]
        refine ⟨_, hM, hF, ?_, hR1, rfl⟩
        refine congrArg (fun z => some (Value.int z)) ?_
        unfold drw
        rw [if_pos (nI_inj (by omega) (by decide) c40)]
    · refine S_iconst (q := 27) (v := (-1)) hX dX12_seen_26 ic_m1 rfl ?_
      refine S_goto 61 hX dX12_seen_27 rfl ?_
      refine S_iret hX dX12_seen_61 (Nat.zero_le _) (Nat.zero_le _) ?_
      refine hP _ _ _ ?_
      have hsp : sp_seen S x = (-1, S) := by unfold sp_seen; rw [if_neg (by omega), if_pos (by rw [hb7, lt_i, nI_toInt (by omega)] at c23; omega)]
      rw [hsp]
      exact ⟨_, hM, hF, rfl, hR1, rfl⟩
  · refine S_aload_n (q := 5) hX dX12_seen_4 rfl rfl ?_
    refine S_callV (ci := 12) (C := "FanTalkModel") (T := TX12) (N := 17) (q := 8) 0 0 hX (c_X12_bad _ μ) rfl ?hs_10 rfl u_864 u_866 us_30 u_12 u_867 ⟨by decide, by decide, rfl⟩ ⟨Nat.le_of_ble_eq_true rfl, Nat.le_of_ble_eq_true rfl⟩ ⟨Nat.le_of_ble_eq_true rfl, Nat.le_of_ble_eq_true rfl⟩ (Nat.le_of_ble_eq_true rfl) dX12_seen_5 ?hp_10 rfl rfl rfl ?_
    case hs_10 => first | with_reducible assumption | exact ⟨_, by with_reducible assumption⟩ | exact MM.isO hM
    case hp_10 => exact hM
    rintro v σ sz1 ⟨μ9, hM, hF1, rfl, e9, rfl⟩
    have hF := hF.trans hF1
    refine S_iret hX dX12_seen_8 (Nat.zero_le _) (Nat.zero_le _) ?_
    refine hP _ _ _ ?_
    have hsp : sp_seen S x = (-2, rfS S 0) := by unfold sp_seen; rw [if_pos (by rw [le_i, toI0] at c1; omega)]
    rw [hsp]
    exact ⟨_, hM, hF, rfl, hR.rf (by decide) e9, rfl⟩
theorem c_X12_reads (m : Nat) (μ : MF) (S : ST) (x y z : Int32) : CT_X12_reads [.ref m, .int x, .int y, .int z] (fun Γ σ sz => MM σ m μ ∧ MR μ S ∧ StOk S) (fun Γ σ sz v σ' sz' => ∃ μ', MM σ' m μ' ∧ Fr m (m + 9) σ σ' ∧ v = some (.int (sp_reads S x y z).1) ∧ MR μ' (sp_reads S x y z).2 ∧ sz' = sz) := by
  refine CT.mkP rfl (Nat.le_of_ble_eq_true rfl) [_, _, _, _] rfl ?_
  intro X Γ σ sz P hX hpre hsz hP
  obtain ⟨hM, hR, ok⟩ := hpre
  have hF : Fr m (m + 9) σ σ := Fr.rf
  have h0 := hR.1
  have hC0 := hR.2.1.1
  obtain ⟨q0, q1, q2, q3, q4, q5, q6, q7, q8, q9⟩ := id hR.2.1
  obtain ⟨o1, o2, o3, o4, o5, o6, o7, o8, o9, o10⟩ := id ok.1
  refine S_iload_n (q := 1) hX dX12_reads_0 rfl rfl ?_
  refine S_callS (q := 4) 0 0 hX (c_X12_isKind _) rfl u_969 u_970 u_12 u_971 ⟨by decide, by decide, rfl⟩ ⟨Nat.le_of_ble_eq_true rfl, Nat.le_of_ble_eq_true rfl⟩ ⟨Nat.le_of_ble_eq_true rfl, Nat.le_of_ble_eq_true rfl⟩ (Nat.le_of_ble_eq_true rfl) dX12_reads_1 ?hp_1 rfl rfl rfl ?_
  case hp_1 => trivial
  rintro v σ1 sz1 ⟨rfl, rfl, rfl⟩
  refine S_if_eq_b (q := 7) 20 hX dX12_reads_4 rfl rfl (fun c4 => ?_) (fun c4 => ?_)
  · refine S_aload_n (q := 21) hX dX12_reads_20 rfl rfl ?_
    refine S_callV (ci := 12) (C := "FanTalkModel") (T := TX12) (N := 17) (q := 24) 0 0 hX (c_X12_bad _ μ) rfl ?hs_2 rfl u_864 u_866 us_30 u_12 u_867 ⟨by decide, by decide, rfl⟩ ⟨Nat.le_of_ble_eq_true rfl, Nat.le_of_ble_eq_true rfl⟩ ⟨Nat.le_of_ble_eq_true rfl, Nat.le_of_ble_eq_true rfl⟩ (Nat.le_of_ble_eq_true rfl) dX12_reads_21 ?hp_2 rfl rfl rfl ?_
    case hs_2 => first | with_reducible assumption | exact ⟨_, by with_reducible assumption⟩ | exact MM.isO hM
    case hp_2 => exact hM
    rintro v σ sz1 ⟨μ9, hM, hF1, rfl, e9, rfl⟩
    have hF := hF.trans hF1
    refine S_pop (q := 25) hX dX12_reads_24 rfl rfl ?_
    refine S_bipush (q := 27) (v := (-10)) hX dX12_reads_25 bp_m10 rfl ?_
    refine S_iret hX dX12_reads_27 (Nat.zero_le _) (Nat.zero_le _) ?_
    refine hP _ _ _ ?_
    have hsp : sp_reads S x y z = (-10, rfS S 0) := by unfold sp_reads; rw [if_pos (Or.inl c4)]
    rw [hsp]
    exact ⟨_, hM, hF, rfl, hR.rf (by decide) e9, rfl⟩
  · have cx := tN_ex c4.1
    have hx4 := c4.2
    refine S_aload_n (q := 8) hX dX12_reads_7 rfl rfl ?_
    refine S_iload_n (q := 9) hX dX12_reads_8 rfl rfl ?_
    refine S_callV (ci := 12) (C := "FanTalkModel") (T := TX12) (N := 17) (q := 12) 0 0 hX (c_X12_isCode _ μ _ 0 S.1.1.1) rfl ?hs_3 rfl u_854 u_856 us_29 u_12 u_857 ⟨by decide, by decide, rfl⟩ ⟨Nat.le_of_ble_eq_true rfl, Nat.le_of_ble_eq_true rfl⟩ ⟨Nat.le_of_ble_eq_true rfl, Nat.le_of_ble_eq_true rfl⟩ (Nat.le_of_ble_eq_true rfl) dX12_reads_9 ?hp_3 rfl rfl rfl ?_
    case hs_3 => first | with_reducible assumption | exact ⟨_, by with_reducible assumption⟩ | exact MM.isO hM
    case hp_3 => exact ⟨hM, h0, by decide, hC0, ok.1.1⟩
    rintro v σ1 sz1 ⟨rfl, rfl, rfl⟩
    refine S_if_eq_b (q := 15) 20 hX dX12_reads_12 rfl rfl (fun c12 => ?_) (fun c12 => ?_)
    · refine S_aload_n (q := 21) hX dX12_reads_20 rfl rfl ?_
      refine S_callV (ci := 12) (C := "FanTalkModel") (T := TX12) (N := 17) (q := 24) 0 0 hX (c_X12_bad _ μ) rfl ?hs_4 rfl u_864 u_866 us_30 u_12 u_867 ⟨by decide, by decide, rfl⟩ ⟨Nat.le_of_ble_eq_true rfl, Nat.le_of_ble_eq_true rfl⟩ ⟨Nat.le_of_ble_eq_true rfl, Nat.le_of_ble_eq_true rfl⟩ (Nat.le_of_ble_eq_true rfl) dX12_reads_21 ?hp_4 rfl rfl rfl ?_
      case hs_4 => first | with_reducible assumption | exact ⟨_, by with_reducible assumption⟩ | exact MM.isO hM
      case hp_4 => exact hM
      rintro v σ sz1 ⟨μ9, hM, hF1, rfl, e9, rfl⟩
      have hF := hF.trans hF1
      refine S_pop (q := 25) hX dX12_reads_24 rfl rfl ?_
      refine S_bipush (q := 27) (v := (-10)) hX dX12_reads_25 bp_m10 rfl ?_
      refine S_iret hX dX12_reads_27 (Nat.zero_le _) (Nat.zero_le _) ?_
      refine hP _ _ _ ?_
      have hsp : sp_reads S x y z = (-10, rfS S 0) := by unfold sp_reads; rw [if_pos (Or.inr (Or.inl c12))]
      rw [hsp]
      exact ⟨_, hM, hF, rfl, hR.rf (by decide) e9, rfl⟩
    · have cy := okc.ex c12
      refine S_iload_n (q := 16) hX dX12_reads_15 rfl rfl ?_
      refine S_iconst (q := 17) (v := (-1)) hX dX12_reads_16 ic_m1 rfl ?_
      refine S_icmp_ge (q := 20) 28 hX dX12_reads_17 rfl rfl (fun c17 => ?_) (fun c17 => ?_)
      · have hz : -1 ≤ z.toInt := by rw [le_i, show ((-1 : Int32)).toInt = -1 by decide] at c17; exact c17
        refine S_aload_n (q := 29) hX dX12_reads_28 rfl rfl ?_
        refine S_iload_n (q := 30) hX dX12_reads_29 rfl rfl ?_
        refine S_iload_n (q := 31) hX dX12_reads_30 rfl rfl ?_
        refine S_callV (ci := 12) (C := "FanTalkModel") (T := TX12) (N := 17) (q := 34) 0 0 hX (c_X12_readSaying _ μ S _ _ (tN x) (tN y) cx.1 cy.1) rfl ?hs_5 rfl u_972 u_974 us_45 u_12 u_975 ⟨by decide, by decide, rfl⟩ ⟨Nat.le_of_ble_eq_true rfl, Nat.le_of_ble_eq_true rfl⟩ ⟨Nat.le_of_ble_eq_true rfl, Nat.le_of_ble_eq_true rfl⟩ (Nat.le_of_ble_eq_true rfl) dX12_reads_31 ?hp_5 rfl rfl rfl ?_
        case hs_5 => first | with_reducible assumption | exact ⟨_, by with_reducible assumption⟩ | exact MM.isO hM
        case hp_5 => exact ⟨hM, hR, ok, by omega, cy.2.1⟩
        rintro v σ sz1 ⟨μ1, hM, hF1, rfl, ⟨s1, hl1, hw1⟩, rfl⟩
        have hF := hF.trans hF1
        have hR1 := hR.scr s1
        refine S_iload_n (q := 35) hX dX12_reads_34 rfl rfl ?_
        refine S_iconst (q := 36) (v := (-1)) hX dX12_reads_35 ic_m1 rfl ?_
        refine S_icmp_ne (q := 39) 46 hX dX12_reads_36 rfl rfl (fun c36 => ?_) (fun c36 => ?_)
        · have hz0 : 0 ≤ z.toInt := by
            have : z.toInt ≠ -1 := fun q => c36 (eq_i.mpr (q.trans (by decide)))
            omega
          have cz := tN_ex hz0
          have hl6 := rdS_len S (tN x) (tN y)
          refine S_iload_n (q := 47) hX dX12_reads_46 rfl rfl ?_
          refine S_aload_n (q := 48) hX dX12_reads_47 rfl rfl ?_
          refine S_getf (fs := ?fs_6) (v := ?v_6) (q := 51) hX u_797 fo_X12_wordMany dX12_reads_48 ?hs_6 ?hv_6 rfl ?_
          case hs_6 => with_reducible first | exact MM.c0 hM | exact MM.c1 hM | exact MM.c5 hM | exact MM.c6 hM | exact MM.c7 hM | exact MM.c3 hM | exact MM.c4 hM | exact MM.c8 hM | exact MM.c2 hM
          case hv_6 => rfl
          refine S_icmp_ge (q := 54) 63 hX dX12_reads_51 rfl rfl (fun c51 => ?_) (fun c51 => ?_)
          · have hlt : ¬ z.toInt < (rdS S (tN x) (tN y)).length := by rw [hl1, le_i, nI_toInt (by omega)] at c51; omega
            refine S_bipush (q := 65) (v := (-5)) hX dX12_reads_63 bp_m5 rfl ?_
            refine S_iret hX dX12_reads_65 (Nat.zero_le _) (Nat.zero_le _) ?_
            refine hP _ _ _ ?_
            have hsp : sp_reads S x y z = (-5, S) := by unfold sp_reads; rw [if_neg (by rintro (q | q | q) <;> first | exact q c4 | exact q c12 | omega), if_neg (by omega), if_neg (by omega)]
            rw [hsp]
            exact ⟨_, hM, hF, rfl, hR1, rfl⟩
          · have hlt : z.toInt < (rdS S (tN x) (tN y)).length := by rw [hl1, le_i, nI_toInt (by omega)] at c51; omega
            refine S_aload_n (q := 55) hX dX12_reads_54 rfl rfl ?_
            refine S_getf (fs := ?fs_7) (v := ?v_7) (q := 58) hX u_796 fo_X12_words dX12_reads_55 ?hs_7 ?hv_7 rfl ?_
            case hs_7 => with_reducible first | exact MM.c0 hM | exact MM.c1 hM | exact MM.c5 hM | exact MM.c6 hM | exact MM.c7 hM | exact MM.c3 hM | exact MM.c4 hM | exact MM.c8 hM | exact MM.c2 hM
            case hv_7 => rfl
            refine S_iload_n (q := 59) hX dX12_reads_58 rfl rfl ?_
            refine S_iald (N := ?n_8) (f := ?f_8) (q := 60) hX dX12_reads_59 ?hs_8 ?hi_8 rfl ?_
            case hs_8 => with_reducible first | exact MM.c0 hM | exact MM.c1 hM | exact MM.c5 hM | exact MM.c6 hM | exact MM.c7 hM | exact MM.c3 hM | exact MM.c4 hM | exact MM.c8 hM | exact MM.c2 hM
            case hi_8 => rw [vp_in_iff]; omega
            refine S_goto 65 hX dX12_reads_60 rfl ?_
            refine S_iret hX dX12_reads_65 (Nat.zero_le _) (Nat.zero_le _) ?_
            refine hP _ _ _ ?_
            have hsp : sp_reads S x y z = (nI ((rdS S (tN x) (tN y)).getD (tN z) 0), S) := by unfold sp_reads; rw [if_neg (by rintro (q | q | q) <;> first | exact q c4 | exact q c12 | omega), if_neg (by omega), if_pos (by omega)]
            rw [hsp]
            refine ⟨_, hM, hF, ?_, hR1, rfl⟩
            refine congrArg (fun z => some (Value.int z)) ?_
            exact hw1 (tN z) (by omega)
        · refine S_aload_n (q := 40) hX dX12_reads_39 rfl rfl ?_
          refine S_getf (fs := ?fs_9) (v := ?v_9) (q := 43) hX u_797 fo_X12_wordMany dX12_reads_40 ?hs_9 ?hv_9 rfl ?_
          case hs_9 => with_reducible first | exact MM.c0 hM | exact MM.c1 hM | exact MM.c5 hM | exact MM.c6 hM | exact MM.c7 hM | exact MM.c3 hM | exact MM.c4 hM | exact MM.c8 hM | exact MM.c2 hM
          case hv_9 => rfl
          refine S_goto 65 hX dX12_reads_43 rfl ?_
          refine S_iret hX dX12_reads_65 (Nat.zero_le _) (Nat.zero_le _) ?_
          refine hP _ _ _ ?_
          have hsp : sp_reads S x y z = (nI (rdS S (tN x) (tN y)).length, S) := by unfold sp_reads; rw [if_neg (by rintro (q | q | q) <;> first | exact q c4 | exact q c12 | omega), if_pos (by rw [c36]; rfl)]
          rw [hsp]
          refine ⟨_, hM, hF, ?_, hR1, rfl⟩
          rw [hl1]
      · refine S_aload_n (q := 21) hX dX12_reads_20 rfl rfl ?_
        refine S_callV (ci := 12) (C := "FanTalkModel") (T := TX12) (N := 17) (q := 24) 0 0 hX (c_X12_bad _ μ) rfl ?hs_10 rfl u_864 u_866 us_30 u_12 u_867 ⟨by decide, by decide, rfl⟩ ⟨Nat.le_of_ble_eq_true rfl, Nat.le_of_ble_eq_true rfl⟩ ⟨Nat.le_of_ble_eq_true rfl, Nat.le_of_ble_eq_true rfl⟩ (Nat.le_of_ble_eq_true rfl) dX12_reads_21 ?hp_10 rfl rfl rfl ?_
        case hs_10 => first | with_reducible assumption | exact ⟨_, by with_reducible assumption⟩ | exact MM.isO hM
        case hp_10 => exact hM
        rintro v σ sz1 ⟨μ9, hM, hF1, rfl, e9, rfl⟩
        have hF := hF.trans hF1
        refine S_pop (q := 25) hX dX12_reads_24 rfl rfl ?_
        refine S_bipush (q := 27) (v := (-10)) hX dX12_reads_25 bp_m10 rfl ?_
        refine S_iret hX dX12_reads_27 (Nat.zero_le _) (Nat.zero_le _) ?_
        refine hP _ _ _ ?_
        have hsp : sp_reads S x y z = (-10, rfS S 0) := by unfold sp_reads; rw [if_pos (Or.inr (Or.inr (by rw [le_i, show ((-1 : Int32)).toInt = -1 by decide] at c17; omega)))]
        rw [hsp]
        exact ⟨_, hM, hF, rfl, hR.rf (by decide) e9, rfl⟩
