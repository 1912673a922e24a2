/-! THE CLASS: the script -/
abbrev shS (q : Nat) : SH := fun j f => if j = 0 then .inr (8, [.ref (q + 1), .int (f 0), .ref (q + 2), .int (f 1), .int (f 2), .int (f 3), .int (f 4), .int (f 5), .int (f 6)])
  else if j = 1 then ia 250 f
  else shC (q + 2) (j - 2) f
abbrev SK (σ : Sg) (q : Nat) (f : MF) : Prop := CL σ q 7 (shS q) f
theorem SK.c0 {σ : Sg} {q : Nat} {f : MF} (h : SK σ q f) : σ q = some (.inr (8, [.ref (q + 1), .int (f 0 0), .ref (q + 2), .int (f 0 1), .int (f 0 2), .int (f 0 3), .int (f 0 4), .int (f 0 5), .int (f 0 6)])) := h 0 (by decide)
theorem SK.c1 {σ : Sg} {q : Nat} {f : MF} (h : SK σ q f) : σ (q + 1) = some (ia 250 (f 1)) := h 1 (by decide)
theorem SK.c2 {σ : Sg} {q : Nat} {f : MF} (h : SK σ q f) : σ (q + 2) = some (.inr (2, [.int (f 2 0), .ref (q + 3), .ref (q + 4), .ref (q + 5), .ref (q + 6)])) := h 2 (by decide)
theorem SK.c3 {σ : Sg} {q : Nat} {f : MF} (h : SK σ q f) : σ (q + 3) = some (ia 3 (f 3)) := h 3 (by decide)
theorem SK.sh {q : Nat} : ∀ j, j < 5 → ∀ g, shS q (2 + j) g = shC (q + 2) j g := by
  intro j hj g
  unfold shS
  rw [if_neg (by omega), if_neg (by omega), show 2 + j - 2 = j by omega]
theorem SK.co {σ : Sg} {q : Nat} {f : MF} (h : SK σ q f) : CK σ (q + 2) (fun j => f (2 + j)) := CL.sub h (by decide) SK.sh
theorem SK.jn {σ σ' : Sg} {q : Nat} {f g : MF} (h : SK σ q f) (hF : Fr (q + 2) (q + 2 + 5) σ σ') (h' : CK σ' (q + 2) g) : SK σ' q (spl f 2 5 g) := CL.join h (by decide) SK.sh hF h'
def TxS (f : MF) (T : TxT) : Prop := f 0 0 = nI T.1 ∧ T.1 ≤ 250 ∧ ∀ i, i < T.1 → f 1 i = nI (T.2 i) ∧ T.2 i < 256
/-- only the token has changed -/
def sPr (f μ : MF) : Prop := (∀ j, j ≠ 0 → μ j = f j) ∧ ∀ i, i < 3 → μ 0 i = f 0 i
theorem sPr.rf {f : MF} : sPr f f := ⟨fun _ _ => rfl, fun _ _ => rfl⟩
theorem sPr.trans {f g h : MF} (a : sPr f g) (b : sPr g h) : sPr f h := ⟨fun j hj => (b.1 j hj).trans (a.1 j hj), fun i hi => (b.2 i hi).trans (a.2 i hi)⟩
theorem sPr.st {f μ : MF} {i : Nat} {x : Int32} (h : sPr f μ) (hi : 3 ≤ i) : sPr f (m2 μ 0 i x) := ⟨fun j hj => by rw [m2_o hj]; exact h.1 j hj, fun k hk => by rw [m2_00, if_neg (by omega)]; exact h.2 k hk⟩
theorem TxS.pr {f μ : MF} {T : TxT} (h : TxS f T) (e : sPr f μ) : TxS μ T := ⟨(e.2 0 (by decide)).trans h.1, h.2.1, fun i hi => by rw [e.1 1 (by decide)]; exact h.2.2 i hi⟩
theorem TxS.by {f : MF} {T : TxT} (h : TxS f T) : ∀ i, i < T.1 → T.2 i < 256 := fun i hi => (h.2.2 i hi).2
/-- a token's sort as the class tells it -/
def tcl (T : TxT) (t : TkT) : Nat := if t.2.1 = 5 then 0 else if t.2.1 = 3 then 2 else if t.2.1 = 4 then 3 else if 97 ≤ hr T t.1 ∧ hr T t.1 ≤ 122 then 1 else 4
theorem tcl_2 {T : TxT} {t : TkT} : tcl T t = 2 ↔ t.2.1 = 3 := by unfold tcl; constructor <;> intro h <;> (repeat (first | (split at h) | omega)) <;> (repeat (first | split | omega))
theorem tcl_3 {T : TxT} {t : TkT} : tcl T t = 3 ↔ t.2.1 = 4 := by unfold tcl; constructor <;> intro h <;> (repeat (first | (split at h) | omega)) <;> (repeat (first | split | omega))
theorem tcl_0 {T : TxT} {t : TkT} : tcl T t = 0 ↔ t.2.1 = 5 := by unfold tcl; constructor <;> intro h <;> (repeat (first | (split at h) | omega)) <;> (repeat (first | split | omega))
theorem tcl_le {T : TxT} {t : TkT} : tcl T t ≤ 4 := by unfold tcl; repeat (first | split | omega)
def TkS (f : MF) (T : TxT) (t : TkT) : Prop := f 0 4 = nI t.1 ∧ f 0 5 = nI t.2.2.2 ∧ f 0 3 = nI (tcl T t) ∧ (t.2.1 = 3 → f 0 6 = nI t.2.2.1)
theorem TkS.ext {f g : MF} {T : TxT} {t : TkT} (h : TkS f T t) (e : ∀ i, 3 ≤ i → g 0 i = f 0 i) : TkS g T t := ⟨(e 4 (by decide)).trans h.1, (e 5 (by decide)).trans h.2.1, (e 3 (by decide)).trans h.2.2.1, fun q => (e 6 (by decide)).trans (h.2.2.2 q)⟩
theorem nuA_nuV {T : TxT} {p e : Nat} (h : p < e) : nuA T p (e - p) = nuV T p e := by
  unfold nuA
  rw [if_neg (by omega), show p + (e - p) = e by omega]

theorem c_X8_isLetter (x : Int32) : CT_X8_isLetter [.int x] (fun Γ σ sz => True) (fun Γ σ sz v σ' sz' => v = some (.int (bi (97 ≤ x.toInt ∧ x.toInt ≤ 122))) ∧ σ' = σ ∧ sz' = sz) := by
  refine CT.mkP rfl (Nat.le_of_ble_eq_true rfl) [_] rfl ?_
  intro X Γ σ sz P hX hpre hsz hP
  refine S_iload_n (q := 1) hX dX8_isLetter_0 rfl rfl ?_
  refine S_bipush (q := 3) (v := 97) hX dX8_isLetter_1 bp_97 rfl ?_
  refine S_icmp_lt (q := 6) 16 hX dX8_isLetter_3 rfl rfl (fun c3 => ?_) (fun c3 => ?_)
  · refine S_iconst (q := 17) (v := 0) hX dX8_isLetter_16 ic_0 rfl ?_
    refine S_xret hX dX8_isLetter_17 (Nat.zero_le _) (Nat.zero_le _) (by decide) ?_
    refine hP _ _ _ ?_
    refine ⟨?_, rfl, rfl⟩
    rw [lt_i, show (97 : Int32).toInt = 97 by decide] at c3
    rw [bi_f (fun z => by omega)]
  · refine S_iload_n (q := 7) hX dX8_isLetter_6 rfl rfl ?_
    refine S_bipush (q := 9) (v := 122) hX dX8_isLetter_7 bp_122 rfl ?_
    refine S_icmp_gt (q := 12) 16 hX dX8_isLetter_9 rfl rfl (fun c9 => ?_) (fun c9 => ?_)
    · refine S_iconst (q := 17) (v := 0) hX dX8_isLetter_16 ic_0 rfl ?_
      refine S_xret hX dX8_isLetter_17 (Nat.zero_le _) (Nat.zero_le _) (by decide) ?_
      refine hP _ _ _ ?_
      refine ⟨?_, rfl, rfl⟩
      rw [lt_i, show (122 : Int32).toInt = 122 by decide] at c9
      rw [bi_f (fun z => by omega)]
    · refine S_iconst (q := 13) (v := 1) hX dX8_isLetter_12 ic_1 rfl ?_
      refine S_goto 17 hX dX8_isLetter_13 rfl ?_
      refine S_xret hX dX8_isLetter_17 (Nat.zero_le _) (Nat.zero_le _) (by decide) ?_
      refine hP _ _ _ ?_
      refine ⟨?_, rfl, rfl⟩
      rw [lt_i, show (97 : Int32).toInt = 97 by decide] at c3
      rw [lt_i, show (122 : Int32).toInt = 122 by decide] at c9
      rw [bi_t ⟨by omega, by omega⟩]
theorem c_X8_isFigure (x : Int32) : CT_X8_isFigure [.int x] (fun Γ σ sz => True) (fun Γ σ sz v σ' sz' => v = some (.int (bi (48 ≤ x.toInt ∧ x.toInt ≤ 57))) ∧ σ' = σ ∧ sz' = sz) := by
  refine CT.mkP rfl (Nat.le_of_ble_eq_true rfl) [_] rfl ?_
  intro X Γ σ sz P hX hpre hsz hP
  refine S_iload_n (q := 1) hX dX8_isFigure_0 rfl rfl ?_
  refine S_bipush (q := 3) (v := 48) hX dX8_isFigure_1 bp_48 rfl ?_
  refine S_icmp_lt (q := 6) 16 hX dX8_isFigure_3 rfl rfl (fun c3 => ?_) (fun c3 => ?_)
  · refine S_iconst (q := 17) (v := 0) hX dX8_isFigure_16 ic_0 rfl ?_
    refine S_xret hX dX8_isFigure_17 (Nat.zero_le _) (Nat.zero_le _) (by decide) ?_
    refine hP _ _ _ ?_
    refine ⟨?_, rfl, rfl⟩
    rw [lt_i, show (48 : Int32).toInt = 48 by decide] at c3
    rw [bi_f (fun z => by omega)]
  · refine S_iload_n (q := 7) hX dX8_isFigure_6 rfl rfl ?_
    refine S_bipush (q := 9) (v := 57) hX dX8_isFigure_7 bp_57 rfl ?_
    refine S_icmp_gt (q := 12) 16 hX dX8_isFigure_9 rfl rfl (fun c9 => ?_) (fun c9 => ?_)
    · refine S_iconst (q := 17) (v := 0) hX dX8_isFigure_16 ic_0 rfl ?_
      refine S_xret hX dX8_isFigure_17 (Nat.zero_le _) (Nat.zero_le _) (by decide) ?_
      refine hP _ _ _ ?_
      refine ⟨?_, rfl, rfl⟩
      rw [lt_i, show (57 : Int32).toInt = 57 by decide] at c9
      rw [bi_f (fun z => by omega)]
    · refine S_iconst (q := 13) (v := 1) hX dX8_isFigure_12 ic_1 rfl ?_
      refine S_goto 17 hX dX8_isFigure_13 rfl ?_
      refine S_xret hX dX8_isFigure_17 (Nat.zero_le _) (Nat.zero_le _) (by decide) ?_
      refine hP _ _ _ ?_
      refine ⟨?_, rfl, rfl⟩
      rw [lt_i, show (48 : Int32).toInt = 48 by decide] at c3
      rw [lt_i, show (57 : Int32).toInt = 57 by decide] at c9
      rw [bi_t ⟨by omega, by omega⟩]
theorem c_X8_put (q : Nat) (f : MF) (x : Int32) (n : Nat) : CT_X8_put [.ref q, .int x] (fun Γ σ sz => SK σ q f ∧ f 0 0 = nI n ∧ n < 250) (fun Γ σ sz v σ' sz' => ∃ f', SK σ' q f' ∧ Fr q (q + 7) σ σ' ∧ v = none ∧ (f' = m2 (m2 f 1 n x) 0 0 (nI (n + 1))) ∧ sz' = sz) := by
  refine CT.mkP rfl (Nat.le_of_ble_eq_true rfl) [_, _] rfl ?_
  intro X Γ σ sz P hX hpre hsz hP
  obtain ⟨hM, h0, hn⟩ := hpre
  obtain ⟨σ0, eσ0⟩ : ∃ z, z = σ := ⟨σ, rfl⟩
  rw [← eσ0] at hP
  have hF : Fr q (q + 7) σ0 σ := by rw [eσ0]; exact Fr.rf
  refine S_aload_n (q := 1) hX dX8_put_0 rfl rfl ?_
  refine S_getf (fs := ?fs_1) (v := ?v_1) (q := 4) hX u_135 fo_X8_length dX8_put_1 ?hs_1 ?hv_1 rfl ?_
  case hs_1 => with_reducible first | exact SK.c0 hM | exact SK.c1 hM | exact SK.c2 hM | exact SK.c3 hM
  case hv_1 => rfl
  refine S_aload_n (q := 5) hX dX8_put_4 rfl rfl ?_
  refine S_getf (fs := ?fs_2) (v := ?v_2) (q := 8) hX u_134 fo_X8_text dX8_put_5 ?hs_2 ?hv_2 rfl ?_
  case hs_2 => with_reducible first | exact SK.c0 hM | exact SK.c1 hM | exact SK.c2 hM | exact SK.c3 hM
  case hv_2 => rfl
  refine S_alen (t := ?t_3) (x := ?x_3) (q := 9) hX dX8_put_8 ?ht_3 ?hs_3 rfl ?_
  case hs_3 => with_reducible first | exact SK.c0 hM | exact SK.c1 hM | exact SK.c2 hM | exact SK.c3 hM
  case ht_3 => decide
  refine S_icmp_ge (q := 12) 32 hX dX8_put_9 rfl rfl (fun c9 => absurd c9 (by rw [h0]; exact fun z => by have z : nI 250 ≤ nI n := z; rw [nI_leI (by decide) (by omega)] at z; omega)) (fun c9 => ?_)
  refine S_aload_n (q := 13) hX dX8_put_12 rfl rfl ?_
  refine S_getf (fs := ?fs_4) (v := ?v_4) (q := 16) hX u_134 fo_X8_text dX8_put_13 ?hs_4 ?hv_4 rfl ?_
  case hs_4 => with_reducible first | exact SK.c0 hM | exact SK.c1 hM | exact SK.c2 hM | exact SK.c3 hM
  case hv_4 => rfl
  refine S_aload_n (q := 17) hX dX8_put_16 rfl rfl ?_
  refine S_getf (fs := ?fs_5) (v := ?v_5) (q := 20) hX u_135 fo_X8_length dX8_put_17 ?hs_5 ?hv_5 rfl ?_
  case hs_5 => with_reducible first | exact SK.c0 hM | exact SK.c1 hM | exact SK.c2 hM | exact SK.c3 hM
  case hv_5 => rfl
  refine S_iload_n (q := 21) hX dX8_put_20 rfl rfl ?_
  refine S_nm (fun x21 hx21 => ?_)
  refine S_iast (N := ?n_6) (f := ?f_6) (q := 22) hX dX8_put_21 ?hs_6 ?hi_6 rfl ?_
  case hs_6 => with_reducible first | exact SK.c0 hM | exact SK.c1 hM | exact SK.c2 hM | exact SK.c3 hM
  case hi_6 => rw [h0]; exact vp_in_nI (by omega) (by decide)
  refine S_stu (q0 := q) (j := 1) (i := _) hM hF (by decide) rfl (fun σ μ21 e21 hM hF => ?_)
  subst hx21
  refine S_aload_n (q := 23) hX dX8_put_22 rfl rfl ?_
  refine S_dup (q := 24) hX dX8_put_23 rfl rfl ?_
  refine S_getf (fs := ?fs_7) (v := ?v_7) (q := 27) hX u_135 fo_X8_length dX8_put_24 ?hs_7 ?hv_7 rfl ?_
  case hs_7 => with_reducible first | exact SK.c0 hM | exact SK.c1 hM | exact SK.c2 hM | exact SK.c3 hM
  case hv_7 => rfl
  refine S_iconst (q := 28) (v := 1) hX dX8_put_27 ic_1 rfl ?_
  refine S_iadd (q := 29) hX dX8_put_28 rfl ?_
  refine S_nm (fun x29 hx29 => ?_)
  refine S_putf (fs := ?fs_8) (q := 32) hX u_135 fo_X8_length rfl rfl ?hl_8 dX8_put_29 ?hs_8 rfl ?_
  case hs_8 => with_reducible first | exact SK.c0 hM | exact SK.c1 hM | exact SK.c2 hM | exact SK.c3 hM
  case hl_8 => exact Nat.le_of_ble_eq_true rfl
  refine S_stu (q0 := q) (j := 0) (i := 0) hM hF (by decide) rfl (fun σ μ29 e29 hM hF => ?_)
  subst hx29
  refine S_vret hX dX8_put_32 (Nat.zero_le _) (Nat.zero_le _) ?_
  refine hP _ _ _ ?_
  rw [e21, h0, nI_clamp (by omega), m2_o (by decide), h0, nI_1] at e29
  exact ⟨_, hM, hF, rfl, e29, rfl⟩
theorem c_X8_goOverLetters (q : Nat) (f : MF) (T : TxT) (p : Nat) : CT_X8_goOverLetters [.ref q] (fun Γ σ sz => SK σ q f ∧ TxS f T ∧ f 0 5 = nI p ∧ p ≤ T.1) (fun Γ σ sz v σ' sz' => ∃ f', SK σ' q f' ∧ Fr q (q + 7) σ σ' ∧ v = none ∧ (sPr f f' ∧ f' 0 4 = f 0 4 ∧ f' 0 6 = f 0 6 ∧ f' 0 3 = nI 1 ∧ f' 0 5 = nI (rnW T 97 122 (T.1 + 1) p)) ∧ sz' = sz) := by
  refine CT.mkP rfl (Nat.le_of_ble_eq_true rfl) [_] rfl ?_
  intro X Γ σ sz P hX hpre hsz hP
  obtain ⟨hM, hT, h5, hp⟩ := hpre
  obtain ⟨σ0, eσ0⟩ : ∃ z, z = σ := ⟨σ, rfl⟩
  rw [← eσ0] at hP
  have hF : Fr q (q + 7) σ0 σ := by rw [eσ0]; exact Fr.rf
  obtain ⟨E, eE⟩ : ∃ z, z = rnW T 97 122 (T.1 + 1) p := ⟨_, rfl⟩
  rw [← eE] at hP
  have h250 := hT.2.1
  have loop : ∀ (fl i : Nat) (σ : Sg) (μ : MF), sPr f μ → i ≤ T.1 → T.1 < fl + i → rnW T 97 122 fl i = E → μ 0 4 = f 0 4 → μ 0 3 = nI 1 → μ 0 6 = f 0 6 → μ 0 5 = nI i → SK σ q μ → Fr q (q + 7) σ0 σ → G X Γ P 0 0 5 [some (.ref q)] [] σ sz := by
    intro fl
    induction fl with
      | zero => intro i σ μ h1 h2 h3; omega
      | succ fl ih =>
        intro i σ μ hpr hi hfu hrn h4 h3 h6 hi5 hM hF
        refine S_aload_n (q := 6) hX dX8_goOverLetters_5 rfl rfl ?_
        refine S_getf (fs := ?fs_1) (v := ?v_1) (q := 9) hX u_145 fo_X8_end dX8_goOverLetters_6 ?hs_1 ?hv_1 rfl ?_
        case hs_1 => with_reducible first | exact SK.c0 hM | exact SK.c1 hM | exact SK.c2 hM | exact SK.c3 hM
        case hv_1 => rfl
        refine S_aload_n (q := 10) hX dX8_goOverLetters_9 rfl rfl ?_
        refine S_getf (fs := ?fs_2) (v := ?v_2) (q := 13) hX u_135 fo_X8_length dX8_goOverLetters_10 ?hs_2 ?hv_2 rfl ?_
        case hs_2 => with_reducible first | exact SK.c0 hM | exact SK.c1 hM | exact SK.c2 hM | exact SK.c3 hM
        case hv_2 => rfl
        refine S_icmp_ge (q := 16) 44 hX dX8_goOverLetters_13 rfl rfl (fun c13 => ?_) (fun c13 => ?_)
        · have hge : ¬ (97 ≤ hr T i ∧ hr T i ≤ 122) := fun z => by have := hr_256 hT.by (p := i) (by omega); have := hT.2.1; rw [hi5, hpr.2 0 (by decide), hT.1, nI_leI (by omega) (by omega)] at c13; omega
          refine S_vret hX dX8_goOverLetters_44 (Nat.zero_le _) (Nat.zero_le _) ?_
          refine hP _ _ _ ?_
          exact ⟨_, hM, hF, rfl, ⟨hpr, h4, h6, h3, by rw [← hrn, rnW_e hge]; exact hi5⟩, rfl⟩
        · have hlt : i < T.1 := by have := hT.2.1; rw [hi5, hpr.2 0 (by decide), hT.1, nI_leI (by omega) (by omega)] at c13; omega
          have hti : μ 1 (nI i).toNatClampNeg = nI (T.2 i) := by rw [nI_clamp (by omega), hpr.1 1 (by decide)]; exact (hT.2.2 i hlt).1
          have hhr : hr T i = T.2 i := if_pos hlt
          have hb2 := (hT.2.2 i hlt).2
          refine S_aload_n (q := 17) hX dX8_goOverLetters_16 rfl rfl ?_
          refine S_getf (fs := ?fs_3) (v := ?v_3) (q := 20) hX u_134 fo_X8_text dX8_goOverLetters_17 ?hs_3 ?hv_3 rfl ?_
          case hs_3 => with_reducible first | exact SK.c0 hM | exact SK.c1 hM | exact SK.c2 hM | exact SK.c3 hM
          case hv_3 => rfl
          refine S_aload_n (q := 21) hX dX8_goOverLetters_20 rfl rfl ?_
          refine S_getf (fs := ?fs_4) (v := ?v_4) (q := 24) hX u_145 fo_X8_end dX8_goOverLetters_21 ?hs_4 ?hv_4 rfl ?_
          case hs_4 => with_reducible first | exact SK.c0 hM | exact SK.c1 hM | exact SK.c2 hM | exact SK.c3 hM
          case hv_4 => rfl
          refine S_iald (N := ?n_5) (f := ?f_5) (q := 25) hX dX8_goOverLetters_24 ?hs_5 ?hi_5 rfl ?_
          case hs_5 => with_reducible first | exact SK.c0 hM | exact SK.c1 hM | exact SK.c2 hM | exact SK.c3 hM
          case hi_5 => rw [hi5]; exact vp_in_nI (by have := hT.2.1; omega) (by decide)
          refine S_callS (q := 28) 0 0 hX (c_X8_isLetter _) rfl u_389 u_390 u_5 u_391 ⟨by decide, by decide, rfl⟩ ⟨Nat.le_of_ble_eq_true rfl, Nat.le_of_ble_eq_true rfl⟩ ⟨Nat.le_of_ble_eq_true rfl, Nat.le_of_ble_eq_true rfl⟩ (Nat.le_of_ble_eq_true rfl) dX8_goOverLetters_25 ?hp_6 rfl rfl rfl ?_
          case hp_6 => trivial
          rintro v σ1 sz1 ⟨rfl, rfl, rfl⟩
          refine S_if_eq_b (q := 31) 44 hX dX8_goOverLetters_28 rfl rfl (fun c28 => ?_) (fun c28 => ?_)
          · have hc28 : ¬ (97 ≤ T.2 i ∧ T.2 i ≤ 122) := fun z => c28 (by rw [hi5, hti, nI_toInt (by omega)]; omega)
            refine S_vret hX dX8_goOverLetters_44 (Nat.zero_le _) (Nat.zero_le _) ?_
            refine hP _ _ _ ?_
            exact ⟨_, hM, hF, rfl, ⟨hpr, h4, h6, h3, by rw [← hrn, rnW_e (by rw [hhr]; exact hc28)]; exact hi5⟩, rfl⟩
          · have hc28 : 97 ≤ T.2 i ∧ T.2 i ≤ 122 := by rw [hi5, hti, nI_toInt (by omega)] at c28; omega
            refine S_aload_n (q := 32) hX dX8_goOverLetters_31 rfl rfl ?_
            refine S_dup (q := 33) hX dX8_goOverLetters_32 rfl rfl ?_
            refine S_getf (fs := ?fs_7) (v := ?v_7) (q := 36) hX u_145 fo_X8_end dX8_goOverLetters_33 ?hs_7 ?hv_7 rfl ?_
            case hs_7 => with_reducible first | exact SK.c0 hM | exact SK.c1 hM | exact SK.c2 hM | exact SK.c3 hM
            case hv_7 => rfl
            refine S_iconst (q := 37) (v := 1) hX dX8_goOverLetters_36 ic_1 rfl ?_
            refine S_iadd (q := 38) hX dX8_goOverLetters_37 rfl ?_
            refine S_nm (fun x38 hx38 => ?_)
            refine S_putf (fs := ?fs_8) (q := 41) hX u_145 fo_X8_end rfl rfl ?hl_8 dX8_goOverLetters_38 ?hs_8 rfl ?_
            case hs_8 => with_reducible first | exact SK.c0 hM | exact SK.c1 hM | exact SK.c2 hM | exact SK.c3 hM
            case hl_8 => exact Nat.le_of_ble_eq_true rfl
            refine S_stu (q0 := q) (j := 0) (i := 5) hM hF (by decide) rfl (fun σ μ38 e38 hM hF => ?_)
            subst hx38
            refine S_goto 5 hX dX8_goOverLetters_41 rfl ?_
            refine ih (i + 1) _ μ38 (by rw [e38]; exact hpr.st (by decide)) hlt (by omega) (by rw [← hrn, rnW_s (by rw [hhr]; exact hc28)]) (by rw [e38, m2_00, if_neg (by decide)]; exact h4) (by rw [e38, m2_00, if_neg (by decide)]; exact h3) (by rw [e38, m2_00, if_neg (by decide)]; exact h6) (by rw [e38, m2_00, if_pos rfl, hi5, nI_1]) hM hF
  refine S_aload_n (q := 1) hX dX8_goOverLetters_0 rfl rfl ?_
  refine S_iconst (q := 2) (v := 1) hX dX8_goOverLetters_1 ic_1 rfl ?_
  refine S_nm (fun x2 hx2 => ?_)
  refine S_putf (fs := ?fs_9) (q := 5) hX u_143 fo_X8_token rfl rfl ?hl_9 dX8_goOverLetters_2 ?hs_9 rfl ?_
  case hs_9 => with_reducible first | exact SK.c0 hM | exact SK.c1 hM | exact SK.c2 hM | exact SK.c3 hM
  case hl_9 => exact Nat.le_of_ble_eq_true rfl
  refine S_stu (q0 := q) (j := 0) (i := 3) hM hF (by decide) rfl (fun σ μ2 e2 hM hF => ?_)
  subst hx2
  exact loop (T.1 + 1) p _ μ2 (by rw [e2]; exact sPr.rf.st (by decide)) hp (by omega) eE.symm (by rw [e2, m2_00, if_neg (by decide)]) (by rw [e2, m2_00, if_pos rfl]; rfl) (by rw [e2, m2_00, if_neg (by decide)]) (by rw [e2, m2_00, if_neg (by decide)]; exact h5) hM hF
theorem c_X8_goOverFigures (q : Nat) (f : MF) (T : TxT) (p : Nat) : CT_X8_goOverFigures [.ref q] (fun Γ σ sz => SK σ q f ∧ TxS f T ∧ f 0 5 = nI p ∧ p ≤ T.1 ∧ f 0 4 = nI p ∧ f 0 6 = nI 0) (fun Γ σ sz v σ' sz' => ∃ f', SK σ' q f' ∧ Fr q (q + 7) σ σ' ∧ v = none ∧ (sPr f f' ∧ f' 0 4 = f 0 4 ∧ f' 0 5 = nI (rnW T 48 57 (T.1 + 1) p) ∧ f' 0 3 = nI (if rnW T 48 57 (T.1 + 1) p ≤ p + 2 then 2 else 4) ∧ (rnW T 48 57 (T.1 + 1) p ≤ p + 2 → f' 0 6 = nI (nuA T p (rnW T 48 57 (T.1 + 1) p - p)))) ∧ sz' = sz) := by
  refine CT.mkP rfl (Nat.le_of_ble_eq_true rfl) [_] rfl ?_
  intro X Γ σ sz P hX hpre hsz hP
  obtain ⟨hM, hT, h5, hp, h4p, h6⟩ := hpre
  obtain ⟨σ0, eσ0⟩ : ∃ z, z = σ := ⟨σ, rfl⟩
  rw [← eσ0] at hP
  have hF : Fr q (q + 7) σ0 σ := by rw [eσ0]; exact Fr.rf
  obtain ⟨E, eE⟩ : ∃ z, z = rnW T 48 57 (T.1 + 1) p := ⟨_, rfl⟩
  rw [← eE] at hP
  have h250 := hT.2.1
  have l63 : ∀ (i : Nat) (σ : Sg) (μ : MF), sPr f μ → p ≤ i → i ≤ T.1 → E = i → (i ≤ p + 2 → μ 0 6 = nI (nuA T p (i - p))) → μ 0 4 = nI p → μ 0 5 = nI i → SK σ q μ → Fr q (q + 7) σ0 σ → G X Γ P 0 0 63 [some (.ref q)] [] σ sz := by
    rintro i σ μ hpr hpi hi hE hv h4 hi5 hM hF
    refine S_aload_n (q := 64) hX dX8_goOverFigures_63 rfl rfl ?_
    refine S_aload_n (q := 65) hX dX8_goOverFigures_64 rfl rfl ?_
    refine S_getf (fs := ?fs_1) (v := ?v_1) (q := 68) hX u_145 fo_X8_end dX8_goOverFigures_65 ?hs_1 ?hv_1 rfl ?_
    case hs_1 => with_reducible first | exact SK.c0 hM | exact SK.c1 hM | exact SK.c2 hM | exact SK.c3 hM
    case hv_1 => rfl
    refine S_aload_n (q := 69) hX dX8_goOverFigures_68 rfl rfl ?_
    refine S_getf (fs := ?fs_2) (v := ?v_2) (q := 72) hX u_144 fo_X8_start dX8_goOverFigures_69 ?hs_2 ?hv_2 rfl ?_
    case hs_2 => with_reducible first | exact SK.c0 hM | exact SK.c1 hM | exact SK.c2 hM | exact SK.c3 hM
    case hv_2 => rfl
    refine S_isub (q := 73) hX dX8_goOverFigures_72 rfl ?_
    refine S_iconst (q := 74) (v := 2) hX dX8_goOverFigures_73 ic_2 rfl ?_
    refine S_icmp_gt (q := 77) 81 hX dX8_goOverFigures_74 rfl rfl (fun c74 => ?_) (fun c74 => ?_)
    · have hbig : ¬ i ≤ p + 2 := by rw [hi5, h4, pk_sub hpi, i2, nI_ltI (by decide) (by omega)] at c74; omega
      refine S_iconst (q := 82) (v := 4) hX dX8_goOverFigures_81 ic_4 rfl ?_
      refine S_nm (fun x82 hx82 => ?_)
      refine S_putf (fs := ?fs_3) (q := 85) hX u_143 fo_X8_token rfl rfl ?hl_3 dX8_goOverFigures_82 ?hs_3 rfl ?_
      case hs_3 => with_reducible first | exact SK.c0 hM | exact SK.c1 hM | exact SK.c2 hM | exact SK.c3 hM
      case hl_3 => exact Nat.le_of_ble_eq_true rfl
      refine S_stu (q0 := q) (j := 0) (i := 3) hM hF (by decide) rfl (fun σ μ82 e82 hM hF => ?_)
      subst hx82
      refine S_vret hX dX8_goOverFigures_85 (Nat.zero_le _) (Nat.zero_le _) ?_
      refine hP _ _ _ ?_
      rw [hE]
      exact ⟨_, hM, hF, rfl, ⟨by rw [e82]; exact hpr.st (by decide), by rw [e82, m2_00, if_neg (by decide), h4]; exact h4p.symm, by rw [e82, m2_00, if_neg (by decide)]; exact hi5, by rw [e82, m2_00, if_pos rfl, if_neg hbig]; rfl, fun z => by rw [e82, m2_00, if_neg (by decide)]; exact hv z⟩, rfl⟩
    · have hbig : i ≤ p + 2 := by rw [hi5, h4, pk_sub hpi, i2, nI_ltI (by decide) (by omega)] at c74; omega
      refine S_iconst (q := 78) (v := 2) hX dX8_goOverFigures_77 ic_2 rfl ?_
      refine S_goto 82 hX dX8_goOverFigures_78 rfl ?_
      refine S_nm (fun x82 hx82 => ?_)
      refine S_putf (fs := ?fs_4) (q := 85) hX u_143 fo_X8_token rfl rfl ?hl_4 dX8_goOverFigures_82 ?hs_4 rfl ?_
      case hs_4 => with_reducible first | exact SK.c0 hM | exact SK.c1 hM | exact SK.c2 hM | exact SK.c3 hM
      case hl_4 => exact Nat.le_of_ble_eq_true rfl
      refine S_stu (q0 := q) (j := 0) (i := 3) hM hF (by decide) rfl (fun σ μ82 e82 hM hF => ?_)
      subst hx82
      refine S_vret hX dX8_goOverFigures_85 (Nat.zero_le _) (Nat.zero_le _) ?_
      refine hP _ _ _ ?_
      rw [hE]
      exact ⟨_, hM, hF, rfl, ⟨by rw [e82]; exact hpr.st (by decide), by rw [e82, m2_00, if_neg (by decide), h4]; exact h4p.symm, by rw [e82, m2_00, if_neg (by decide)]; exact hi5, by rw [e82, m2_00, if_pos rfl, if_pos hbig]; rfl, fun z => by rw [e82, m2_00, if_neg (by decide)]; exact hv z⟩, rfl⟩
  have loop : ∀ (fl i : Nat) (σ : Sg) (μ : MF), sPr f μ → p ≤ i → i ≤ T.1 → T.1 < fl + i → rnW T 48 57 fl i = E → (i ≤ p + 2 → μ 0 6 = nI (nuA T p (i - p))) → μ 0 4 = nI p → μ 0 5 = nI i → SK σ q μ → Fr q (q + 7) σ0 σ → G X Γ P 0 0 0 [some (.ref q)] [] σ sz := by
    intro fl
    induction fl with
      | zero => intro i σ μ h1 h2 h3 h4; omega
      | succ fl ih =>
        intro i σ μ hpr hpi hi hfu hrn hv h4 hi5 hM hF
        refine S_aload_n (q := 1) hX dX8_goOverFigures_0 rfl rfl ?_
        refine S_getf (fs := ?fs_5) (v := ?v_5) (q := 4) hX u_145 fo_X8_end dX8_goOverFigures_1 ?hs_5 ?hv_5 rfl ?_
        case hs_5 => with_reducible first | exact SK.c0 hM | exact SK.c1 hM | exact SK.c2 hM | exact SK.c3 hM
        case hv_5 => rfl
        refine S_aload_n (q := 5) hX dX8_goOverFigures_4 rfl rfl ?_
        refine S_getf (fs := ?fs_6) (v := ?v_6) (q := 8) hX u_135 fo_X8_length dX8_goOverFigures_5 ?hs_6 ?hv_6 rfl ?_
        case hs_6 => with_reducible first | exact SK.c0 hM | exact SK.c1 hM | exact SK.c2 hM | exact SK.c3 hM
        case hv_6 => rfl
        refine S_icmp_ge (q := 11) 63 hX dX8_goOverFigures_8 rfl rfl (fun c8 => ?_) (fun c8 => ?_)
        · have hge : ¬ (48 ≤ hr T i ∧ hr T i ≤ 57) := fun z => by have := hr_256 hT.by (p := i) (by omega); have := hT.2.1; rw [hi5, hpr.2 0 (by decide), hT.1, nI_leI (by omega) (by omega)] at c8; omega
          exact l63 i _ μ hpr hpi hi (by rw [← hrn, rnW_e hge]) hv h4 hi5 hM hF
        · have hlt : i < T.1 := by have := hT.2.1; rw [hi5, hpr.2 0 (by decide), hT.1, nI_leI (by omega) (by omega)] at c8; omega
          have hti : μ 1 (nI i).toNatClampNeg = nI (T.2 i) := by rw [nI_clamp (by omega), hpr.1 1 (by decide)]; exact (hT.2.2 i hlt).1
          have hhr : hr T i = T.2 i := if_pos hlt
          have hb2 := (hT.2.2 i hlt).2
          refine S_aload_n (q := 12) hX dX8_goOverFigures_11 rfl rfl ?_
          refine S_getf (fs := ?fs_7) (v := ?v_7) (q := 15) hX u_134 fo_X8_text dX8_goOverFigures_12 ?hs_7 ?hv_7 rfl ?_
          case hs_7 => with_reducible first | exact SK.c0 hM | exact SK.c1 hM | exact SK.c2 hM | exact SK.c3 hM
          case hv_7 => rfl
          refine S_aload_n (q := 16) hX dX8_goOverFigures_15 rfl rfl ?_
          refine S_getf (fs := ?fs_8) (v := ?v_8) (q := 19) hX u_145 fo_X8_end dX8_goOverFigures_16 ?hs_8 ?hv_8 rfl ?_
          case hs_8 => with_reducible first | exact SK.c0 hM | exact SK.c1 hM | exact SK.c2 hM | exact SK.c3 hM
          case hv_8 => rfl
          refine S_iald (N := ?n_9) (f := ?f_9) (q := 20) hX dX8_goOverFigures_19 ?hs_9 ?hi_9 rfl ?_
          case hs_9 => with_reducible first | exact SK.c0 hM | exact SK.c1 hM | exact SK.c2 hM | exact SK.c3 hM
          case hi_9 => rw [hi5]; exact vp_in_nI (by have := hT.2.1; omega) (by decide)
          refine S_callS (q := 23) 0 0 hX (c_X8_isFigure _) rfl u_396 u_397 u_5 u_398 ⟨by decide, by decide, rfl⟩ ⟨Nat.le_of_ble_eq_true rfl, Nat.le_of_ble_eq_true rfl⟩ ⟨Nat.le_of_ble_eq_true rfl, Nat.le_of_ble_eq_true rfl⟩ (Nat.le_of_ble_eq_true rfl) dX8_goOverFigures_20 ?hp_10 rfl rfl rfl ?_
          case hp_10 => trivial
          rintro v σ1 sz1 ⟨rfl, rfl, rfl⟩
          refine S_if_eq_b (q := 26) 63 hX dX8_goOverFigures_23 rfl rfl (fun c23 => ?_) (fun c23 => ?_)
          · have hc23 : ¬ (48 ≤ T.2 i ∧ T.2 i ≤ 57) := fun z => c23 (by rw [hi5, hti, nI_toInt (by omega)]; omega)
            exact l63 i _ μ hpr hpi hi (by rw [← hrn, rnW_e (by rw [hhr]; exact hc23)]) hv h4 hi5 hM hF
          · have hc23 : 48 ≤ T.2 i ∧ T.2 i ≤ 57 := by rw [hi5, hti, nI_toInt (by omega)] at c23; omega
            refine S_aload_n (q := 27) hX dX8_goOverFigures_26 rfl rfl ?_
            refine S_aload_n (q := 28) hX dX8_goOverFigures_27 rfl rfl ?_
            refine S_getf (fs := ?fs_11) (v := ?v_11) (q := 31) hX u_146 fo_X8_value dX8_goOverFigures_28 ?hs_11 ?hv_11 rfl ?_
            case hs_11 => with_reducible first | exact SK.c0 hM | exact SK.c1 hM | exact SK.c2 hM | exact SK.c3 hM
            case hv_11 => rfl
            refine S_bipush (q := 33) (v := 10) hX dX8_goOverFigures_31 bp_10 rfl ?_
            refine S_imul (q := 34) hX dX8_goOverFigures_33 rfl ?_
            refine S_aload_n (q := 35) hX dX8_goOverFigures_34 rfl rfl ?_
            refine S_getf (fs := ?fs_12) (v := ?v_12) (q := 38) hX u_134 fo_X8_text dX8_goOverFigures_35 ?hs_12 ?hv_12 rfl ?_
            case hs_12 => with_reducible first | exact SK.c0 hM | exact SK.c1 hM | exact SK.c2 hM | exact SK.c3 hM
            case hv_12 => rfl
            refine S_aload_n (q := 39) hX dX8_goOverFigures_38 rfl rfl ?_
            refine S_getf (fs := ?fs_13) (v := ?v_13) (q := 42) hX u_145 fo_X8_end dX8_goOverFigures_39 ?hs_13 ?hv_13 rfl ?_
            case hs_13 => with_reducible first | exact SK.c0 hM | exact SK.c1 hM | exact SK.c2 hM | exact SK.c3 hM
            case hv_13 => rfl
            refine S_iald (N := ?n_14) (f := ?f_14) (q := 43) hX dX8_goOverFigures_42 ?hs_14 ?hi_14 rfl ?_
            case hs_14 => with_reducible first | exact SK.c0 hM | exact SK.c1 hM | exact SK.c2 hM | exact SK.c3 hM
            case hi_14 => rw [hi5]; exact vp_in_nI (by have := hT.2.1; omega) (by decide)
            refine S_iadd (q := 44) hX dX8_goOverFigures_43 rfl ?_
            refine S_bipush (q := 46) (v := 48) hX dX8_goOverFigures_44 bp_48 rfl ?_
            refine S_isub (q := 47) hX dX8_goOverFigures_46 rfl ?_
            refine S_nm (fun x47 hx47 => ?_)
            refine S_putf (fs := ?fs_15) (q := 50) hX u_146 fo_X8_value rfl rfl ?hl_15 dX8_goOverFigures_47 ?hs_15 rfl ?_
            case hs_15 => with_reducible first | exact SK.c0 hM | exact SK.c1 hM | exact SK.c2 hM | exact SK.c3 hM
            case hl_15 => exact Nat.le_of_ble_eq_true rfl
            refine S_stu (q0 := q) (j := 0) (i := 6) hM hF (by decide) rfl (fun σ μ47 e47 hM hF => ?_)
            subst hx47
            refine S_aload_n (q := 51) hX dX8_goOverFigures_50 rfl rfl ?_
            refine S_dup (q := 52) hX dX8_goOverFigures_51 rfl rfl ?_
            refine S_getf (fs := ?fs_16) (v := ?v_16) (q := 55) hX u_145 fo_X8_end dX8_goOverFigures_52 ?hs_16 ?hv_16 rfl ?_
            case hs_16 => with_reducible first | exact SK.c0 hM | exact SK.c1 hM | exact SK.c2 hM | exact SK.c3 hM
            case hv_16 => rfl
            refine S_iconst (q := 56) (v := 1) hX dX8_goOverFigures_55 ic_1 rfl ?_
            refine S_iadd (q := 57) hX dX8_goOverFigures_56 rfl ?_
            refine S_nm (fun x57 hx57 => ?_)
            refine S_putf (fs := ?fs_17) (q := 60) hX u_145 fo_X8_end rfl rfl ?hl_17 dX8_goOverFigures_57 ?hs_17 rfl ?_
            case hs_17 => with_reducible first | exact SK.c0 hM | exact SK.c1 hM | exact SK.c2 hM | exact SK.c3 hM
            case hl_17 => exact Nat.le_of_ble_eq_true rfl
            refine S_stu (q0 := q) (j := 0) (i := 5) hM hF (by decide) rfl (fun σ μ57 e57 hM hF => ?_)
            subst hx57
            refine S_goto 0 hX dX8_goOverFigures_60 rfl ?_
            refine ih (i + 1) _ μ57 (by rw [e57, e47]; exact (hpr.st (by decide)).st (by decide)) (by omega) hlt (by omega) (by rw [← hrn, rnW_s (by rw [hhr]; exact hc23)]) (fun z => ?_) (by rw [e57, m2_00, if_neg (by decide), e47, m2_00, if_neg (by decide)]; exact h4) (by rw [e57, m2_00, if_pos rfl, e47, m2_00, if_neg (by decide), hi5, nI_1]) hM hF
            rw [e57, m2_00, if_neg (by decide), e47, m2_00, if_pos rfl, hi5, hti, hv (by omega), show i + 1 - p = i - p + 1 by omega, nuA_s, if_pos (by omega), show p + (i - p) = i by omega, i10, pk_mul, nI_add, i48, pk_sub (by omega)]
            congr 1
            omega
  exact loop (T.1 + 1) p _ f sPr.rf (Nat.le_refl _) hp (by omega) eE.symm (fun _ => by rw [Nat.sub_self]; exact h6) h4p h5 hM hF
theorem wrS_in (T : TxT) (p e : Nat) : wrS T p e = 0 ∨ wrS T p e = 1 ∨ wrS T p e = 2 ∨ wrS T p e = 6 := by
  unfold wrS
  repeat (first | split | omega)

theorem c_X8_goOn (q : Nat) (f : MF) (T : TxT) (p : Nat) : CT_X8_goOn [.ref q] (fun Γ σ sz => SK σ q f ∧ TxS f T ∧ f 0 5 = nI p ∧ p ≤ T.1) (fun Γ σ sz v σ' sz' => ∃ f', SK σ' q f' ∧ Fr q (q + 7) σ σ' ∧ v = none ∧ (sPr f f' ∧ TkS f' T (tk T p)) ∧ sz' = sz) := by
  refine CT.mkP rfl (Nat.le_of_ble_eq_true rfl) [_] rfl ?_
  intro X Γ σ sz P hX hpre hsz hP
  obtain ⟨hM, hT, h5, hp⟩ := hpre
  obtain ⟨σ0, eσ0⟩ : ∃ z, z = σ := ⟨σ, rfl⟩
  rw [← eσ0] at hP
  have hF : Fr q (q + 7) σ0 σ := by rw [eσ0]; exact Fr.rf
  obtain ⟨P0, eP⟩ : ∃ z, z = skp T (T.1 + 1) p := ⟨_, rfl⟩
  have etk : tk T p = tkA T P0 := by rw [eP]; rfl
  rw [etk] at hP
  have h250 := hT.2.1
  have hP1 : P0 ≤ T.1 := by rw [eP]; exact skp_le hT.by hp
  have l46 : ∀ (σ : Sg) (μ : MF), sPr f μ → μ 0 4 = nI P0 → SK σ q μ → Fr q (q + 7) σ0 σ → G X Γ P 0 0 46 [some (.ref q)] [] σ sz := by
    intro σ μ hpr h4 hM hF
    refine S_aload_n (q := 47) hX dX8_goOn_46 rfl rfl ?_
    refine S_aload_n (q := 48) hX dX8_goOn_47 rfl rfl ?_
    refine S_getf (fs := ?fs_1) (v := ?v_1) (q := 51) hX u_144 fo_X8_start dX8_goOn_48 ?hs_1 ?hv_1 rfl ?_
    case hs_1 => with_reducible first | exact SK.c0 hM | exact SK.c1 hM | exact SK.c2 hM | exact SK.c3 hM
    case hv_1 => rfl
    refine S_nm (fun x51 hx51 => ?_)
    refine S_putf (fs := ?fs_2) (q := 54) hX u_145 fo_X8_end rfl rfl ?hl_2 dX8_goOn_51 ?hs_2 rfl ?_
    case hs_2 => with_reducible first | exact SK.c0 hM | exact SK.c1 hM | exact SK.c2 hM | exact SK.c3 hM
    case hl_2 => exact Nat.le_of_ble_eq_true rfl
    refine S_stu (q0 := q) (j := 0) (i := 5) hM hF (by decide) rfl (fun σ μ51 e51 hM hF => ?_)
    subst hx51
    refine S_aload_n (q := 55) hX dX8_goOn_54 rfl rfl ?_
    refine S_iconst (q := 56) (v := 0) hX dX8_goOn_55 ic_0 rfl ?_
    refine S_nm (fun x56 hx56 => ?_)
    refine S_putf (fs := ?fs_3) (q := 59) hX u_146 fo_X8_value rfl rfl ?hl_3 dX8_goOn_56 ?hs_3 rfl ?_
    case hs_3 => with_reducible first | exact SK.c0 hM | exact SK.c1 hM | exact SK.c2 hM | exact SK.c3 hM
    case hl_3 => exact Nat.le_of_ble_eq_true rfl
    refine S_stu (q0 := q) (j := 0) (i := 6) hM hF (by decide) rfl (fun σ μ56 e56 hM hF => ?_)
    subst hx56
    have hp2 : sPr f μ56 := by rw [e56, e51]; exact (hpr.st (by decide)).st (by decide)
    have g4 : μ56 0 4 = nI P0 := by rw [e56, m2_00, if_neg (by decide), e51, m2_00, if_neg (by decide)]; exact h4
    have g5 : μ56 0 5 = nI P0 := by rw [e56, m2_00, if_neg (by decide), e51, m2_00, if_pos rfl]; exact h4
    have g6 : μ56 0 6 = nI 0 := by rw [e56, m2_00, if_pos rfl]; rfl
    have hT2 := hT.pr hp2
    refine S_aload_n (q := 60) hX dX8_goOn_59 rfl rfl ?_
    refine S_getf (fs := ?fs_4) (v := ?v_4) (q := 63) hX u_144 fo_X8_start dX8_goOn_60 ?hs_4 ?hv_4 rfl ?_
    case hs_4 => with_reducible first | exact SK.c0 hM | exact SK.c1 hM | exact SK.c2 hM | exact SK.c3 hM
    case hv_4 => rfl
    refine S_aload_n (q := 64) hX dX8_goOn_63 rfl rfl ?_
    refine S_getf (fs := ?fs_5) (v := ?v_5) (q := 67) hX u_135 fo_X8_length dX8_goOn_64 ?hs_5 ?hv_5 rfl ?_
    case hs_5 => with_reducible first | exact SK.c0 hM | exact SK.c1 hM | exact SK.c2 hM | exact SK.c3 hM
    case hv_5 => rfl
    refine S_icmp_lt (q := 70) 78 hX dX8_goOn_67 rfl rfl (fun c67 => ?_) (fun c67 => ?_)
    · have hlt : P0 < T.1 := by rw [g4, hT2.1, nI_ltI (by omega) (by omega)] at c67; exact c67
      have hti : μ56 1 (nI P0).toNatClampNeg = nI (T.2 P0) := by rw [nI_clamp (by omega)]; exact (hT2.2.2 P0 hlt).1
      have hhr : hr T P0 = T.2 P0 := if_pos hlt
      have hb2 := (hT.2.2 P0 hlt).2
      refine S_aload_n (q := 79) hX dX8_goOn_78 rfl rfl ?_
      refine S_getf (fs := ?fs_6) (v := ?v_6) (q := 82) hX u_134 fo_X8_text dX8_goOn_79 ?hs_6 ?hv_6 rfl ?_
      case hs_6 => with_reducible first | exact SK.c0 hM | exact SK.c1 hM | exact SK.c2 hM | exact SK.c3 hM
      case hv_6 => rfl
      refine S_aload_n (q := 83) hX dX8_goOn_82 rfl rfl ?_
      refine S_getf (fs := ?fs_7) (v := ?v_7) (q := 86) hX u_144 fo_X8_start dX8_goOn_83 ?hs_7 ?hv_7 rfl ?_
      case hs_7 => with_reducible first | exact SK.c0 hM | exact SK.c1 hM | exact SK.c2 hM | exact SK.c3 hM
      case hv_7 => rfl
      refine S_iald (N := ?n_8) (f := ?f_8) (q := 87) hX dX8_goOn_86 ?hs_8 ?hi_8 rfl ?_
      case hs_8 => with_reducible first | exact SK.c0 hM | exact SK.c1 hM | exact SK.c2 hM | exact SK.c3 hM
      case hi_8 => rw [g4]; exact vp_in_nI (by omega) (by decide)
      refine S_callS (q := 90) 0 0 hX (c_X8_isLetter _) rfl u_389 u_390 u_5 u_391 ⟨by decide, by decide, rfl⟩ ⟨Nat.le_of_ble_eq_true rfl, Nat.le_of_ble_eq_true rfl⟩ ⟨Nat.le_of_ble_eq_true rfl, Nat.le_of_ble_eq_true rfl⟩ (Nat.le_of_ble_eq_true rfl) dX8_goOn_87 ?hp_9 rfl rfl rfl ?_
      case hp_9 => trivial
      rintro v σ1 sz1 ⟨rfl, rfl, rfl⟩
      refine S_if_eq_b (q := 93) 100 hX dX8_goOn_90 rfl rfl (fun c90 => ?_) (fun c90 => ?_)
      · have hnl : ¬ (97 ≤ hr T P0 ∧ hr T P0 ≤ 122) := fun z => c90 (by rw [g4, hti, nI_toInt (by omega)]; omega)
        refine S_aload_n (q := 101) hX dX8_goOn_100 rfl rfl ?_
        refine S_getf (fs := ?fs_10) (v := ?v_10) (q := 104) hX u_134 fo_X8_text dX8_goOn_101 ?hs_10 ?hv_10 rfl ?_
        case hs_10 => with_reducible first | exact SK.c0 hM | exact SK.c1 hM | exact SK.c2 hM | exact SK.c3 hM
        case hv_10 => rfl
        refine S_aload_n (q := 105) hX dX8_goOn_104 rfl rfl ?_
        refine S_getf (fs := ?fs_11) (v := ?v_11) (q := 108) hX u_144 fo_X8_start dX8_goOn_105 ?hs_11 ?hv_11 rfl ?_
        case hs_11 => with_reducible first | exact SK.c0 hM | exact SK.c1 hM | exact SK.c2 hM | exact SK.c3 hM
        case hv_11 => rfl
        refine S_iald (N := ?n_12) (f := ?f_12) (q := 109) hX dX8_goOn_108 ?hs_12 ?hi_12 rfl ?_
        case hs_12 => with_reducible first | exact SK.c0 hM | exact SK.c1 hM | exact SK.c2 hM | exact SK.c3 hM
        case hi_12 => rw [g4]; exact vp_in_nI (by omega) (by decide)
        refine S_callS (q := 112) 0 0 hX (c_X8_isFigure _) rfl u_396 u_397 u_5 u_398 ⟨by decide, by decide, rfl⟩ ⟨Nat.le_of_ble_eq_true rfl, Nat.le_of_ble_eq_true rfl⟩ ⟨Nat.le_of_ble_eq_true rfl, Nat.le_of_ble_eq_true rfl⟩ (Nat.le_of_ble_eq_true rfl) dX8_goOn_109 ?hp_13 rfl rfl rfl ?_
        case hp_13 => trivial
        rintro v σ1 sz1 ⟨rfl, rfl, rfl⟩
        refine S_if_eq_b (q := 115) 122 hX dX8_goOn_112 rfl rfl (fun c112 => ?_) (fun c112 => ?_)
        · have hnf : ¬ (48 ≤ hr T P0 ∧ hr T P0 ≤ 57) := fun z => c112 (by rw [g4, hti, nI_toInt (by omega)]; omega)
          refine S_aload_n (q := 123) hX dX8_goOn_122 rfl rfl ?_
          refine S_aload_n (q := 124) hX dX8_goOn_123 rfl rfl ?_
          refine S_getf (fs := ?fs_14) (v := ?v_14) (q := 127) hX u_134 fo_X8_text dX8_goOn_124 ?hs_14 ?hv_14 rfl ?_
          case hs_14 => with_reducible first | exact SK.c0 hM | exact SK.c1 hM | exact SK.c2 hM | exact SK.c3 hM
          case hv_14 => rfl
          refine S_aload_n (q := 128) hX dX8_goOn_127 rfl rfl ?_
          refine S_getf (fs := ?fs_15) (v := ?v_15) (q := 131) hX u_144 fo_X8_start dX8_goOn_128 ?hs_15 ?hv_15 rfl ?_
          case hs_15 => with_reducible first | exact SK.c0 hM | exact SK.c1 hM | exact SK.c2 hM | exact SK.c3 hM
          case hv_15 => rfl
          refine S_iald (N := ?n_16) (f := ?f_16) (q := 132) hX dX8_goOn_131 ?hs_16 ?hi_16 rfl ?_
          case hs_16 => with_reducible first | exact SK.c0 hM | exact SK.c1 hM | exact SK.c2 hM | exact SK.c3 hM
          case hi_16 => rw [g4]; exact vp_in_nI (by omega) (by decide)
          refine S_bipush (q := 134) (v := 59) hX dX8_goOn_132 bp_59 rfl ?_
          refine S_icmp_ne (q := 137) 141 hX dX8_goOn_134 rfl rfl (fun c134 => ?_) (fun c134 => ?_)
          · have hns : ¬ hr T P0 = 59 := fun z => c134 (by rw [g4, hti, ← hhr, z]; rfl)
            refine S_iconst (q := 142) (v := 4) hX dX8_goOn_141 ic_4 rfl ?_
            refine S_nm (fun x142 hx142 => ?_)
            refine S_putf (fs := ?fs_17) (q := 145) hX u_143 fo_X8_token rfl rfl ?hl_17 dX8_goOn_142 ?hs_17 rfl ?_
            case hs_17 => with_reducible first | exact SK.c0 hM | exact SK.c1 hM | exact SK.c2 hM | exact SK.c3 hM
            case hl_17 => exact Nat.le_of_ble_eq_true rfl
            refine S_stu (q0 := q) (j := 0) (i := 3) hM hF (by decide) rfl (fun σ μ142 e142 hM hF => ?_)
            subst hx142
            refine S_aload_n (q := 146) hX dX8_goOn_145 rfl rfl ?_
            refine S_dup (q := 147) hX dX8_goOn_146 rfl rfl ?_
            refine S_getf (fs := ?fs_18) (v := ?v_18) (q := 150) hX u_145 fo_X8_end dX8_goOn_147 ?hs_18 ?hv_18 rfl ?_
            case hs_18 => with_reducible first | exact SK.c0 hM | exact SK.c1 hM | exact SK.c2 hM | exact SK.c3 hM
            case hv_18 => rfl
            refine S_iconst (q := 151) (v := 1) hX dX8_goOn_150 ic_1 rfl ?_
            refine S_iadd (q := 152) hX dX8_goOn_151 rfl ?_
            refine S_nm (fun x152 hx152 => ?_)
            refine S_putf (fs := ?fs_19) (q := 155) hX u_145 fo_X8_end rfl rfl ?hl_19 dX8_goOn_152 ?hs_19 rfl ?_
            case hs_19 => with_reducible first | exact SK.c0 hM | exact SK.c1 hM | exact SK.c2 hM | exact SK.c3 hM
            case hl_19 => exact Nat.le_of_ble_eq_true rfl
            refine S_stu (q0 := q) (j := 0) (i := 5) hM hF (by decide) rfl (fun σ μ152 e152 hM hF => ?_)
            subst hx152
            refine S_vret hX dX8_goOn_155 (Nat.zero_le _) (Nat.zero_le _) ?_
            refine hP _ _ _ ?_
            have hA : tkA T P0 = (P0, 6, 0, P0 + 1) := by unfold tkA; rw [if_neg (by omega), if_neg hnl, if_neg hnf, if_neg hns]
            have hcl : tcl T (P0, 6, 0, P0 + 1) = 4 := by unfold tcl; rw [if_neg (by show ¬ 6 = 5; decide), if_neg (by show ¬ 6 = 3; decide), if_neg (by show ¬ 6 = 4; decide), if_neg hnl]
            rw [hA]
            exact ⟨_, hM, hF, rfl, ⟨by rw [e152, e142]; exact (hp2.st (by decide)).st (by decide), by rw [e152, m2_00, if_neg (by decide), e142, m2_00, if_neg (by decide)]; exact g4, by rw [e152, m2_00, if_pos rfl, e142, m2_00, if_neg (by decide), g5, nI_1], by rw [e152, m2_00, if_neg (by decide), e142, m2_00, if_pos rfl, hcl]; rfl, fun z => absurd (show 6 = 3 from z) (by decide)⟩, rfl⟩
          · have hns : hr T P0 = 59 := by rw [g4, hti] at c134; rw [hhr]; exact nI_inj (by omega) (by decide) c134
            refine S_iconst (q := 138) (v := 3) hX dX8_goOn_137 ic_3 rfl ?_
            refine S_goto 142 hX dX8_goOn_138 rfl ?_
            refine S_nm (fun x142 hx142 => ?_)
            refine S_putf (fs := ?fs_20) (q := 145) hX u_143 fo_X8_token rfl rfl ?hl_20 dX8_goOn_142 ?hs_20 rfl ?_
            case hs_20 => with_reducible first | exact SK.c0 hM | exact SK.c1 hM | exact SK.c2 hM | exact SK.c3 hM
            case hl_20 => exact Nat.le_of_ble_eq_true rfl
            refine S_stu (q0 := q) (j := 0) (i := 3) hM hF (by decide) rfl (fun σ μ142 e142 hM hF => ?_)
            subst hx142
            refine S_aload_n (q := 146) hX dX8_goOn_145 rfl rfl ?_
            refine S_dup (q := 147) hX dX8_goOn_146 rfl rfl ?_
            refine S_getf (fs := ?fs_21) (v := ?v_21) (q := 150) hX u_145 fo_X8_end dX8_goOn_147 ?hs_21 ?hv_21 rfl ?_
            case hs_21 => with_reducible first | exact SK.c0 hM | exact SK.c1 hM | exact SK.c2 hM | exact SK.c3 hM
            case hv_21 => rfl
            refine S_iconst (q := 151) (v := 1) hX dX8_goOn_150 ic_1 rfl ?_
            refine S_iadd (q := 152) hX dX8_goOn_151 rfl ?_
            refine S_nm (fun x152 hx152 => ?_)
            refine S_putf (fs := ?fs_22) (q := 155) hX u_145 fo_X8_end rfl rfl ?hl_22 dX8_goOn_152 ?hs_22 rfl ?_
            case hs_22 => with_reducible first | exact SK.c0 hM | exact SK.c1 hM | exact SK.c2 hM | exact SK.c3 hM
            case hl_22 => exact Nat.le_of_ble_eq_true rfl
            refine S_stu (q0 := q) (j := 0) (i := 5) hM hF (by decide) rfl (fun σ μ152 e152 hM hF => ?_)
            subst hx152
            refine S_vret hX dX8_goOn_155 (Nat.zero_le _) (Nat.zero_le _) ?_
            refine hP _ _ _ ?_
            have hA : tkA T P0 = (P0, 4, 0, P0 + 1) := by unfold tkA; rw [if_neg (by omega), if_neg hnl, if_neg hnf, if_pos hns]
            have hcl : tcl T (P0, 4, 0, P0 + 1) = 3 := by unfold tcl; rw [if_neg (by show ¬ 4 = 5; decide), if_neg (by show ¬ 4 = 3; decide), if_pos rfl]
            rw [hA]
            exact ⟨_, hM, hF, rfl, ⟨by rw [e152, e142]; exact (hp2.st (by decide)).st (by decide), by rw [e152, m2_00, if_neg (by decide), e142, m2_00, if_neg (by decide)]; exact g4, by rw [e152, m2_00, if_pos rfl, e142, m2_00, if_neg (by decide), g5, nI_1], by rw [e152, m2_00, if_neg (by decide), e142, m2_00, if_pos rfl, hcl]; rfl, fun z => absurd (show 4 = 3 from z) (by decide)⟩, rfl⟩
        · have hf : 48 ≤ hr T P0 ∧ hr T P0 ≤ 57 := by rw [g4, hti, nI_toInt (by omega)] at c112; omega
          refine S_aload_n (q := 116) hX dX8_goOn_115 rfl rfl ?_
          refine S_callV (ci := 8) (C := "FanTalk$Script") (T := TX8) (N := 9) (q := 119) 0 0 hX (c_X8_goOverFigures q μ56 T P0) rfl ?hs_23 rfl u_399 u_401 us_5 u_5 u_402 ⟨by decide, by decide, rfl⟩ ⟨Nat.le_of_ble_eq_true rfl, Nat.le_of_ble_eq_true rfl⟩ ⟨Nat.le_of_ble_eq_true rfl, Nat.le_of_ble_eq_true rfl⟩ (Nat.le_of_ble_eq_true rfl) dX8_goOn_116 ?hp_23 rfl rfl rfl ?_
          case hs_23 => first | with_reducible assumption | exact ⟨_, SK.c0 hM⟩ | exact ⟨_, SK.c2 hM⟩
          case hp_23 => exact ⟨hM, hT2, g5, hP1, g4, g6⟩
          rintro v σ sz1 ⟨μ1, hM, hF1, rfl, ⟨hp3, k4, k5, k3, k6⟩, rfl⟩
          have hF := hF.trans hF1
          refine S_goto 155 hX dX8_goOn_119 rfl ?_
          refine S_vret hX dX8_goOn_155 (Nat.zero_le _) (Nat.zero_le _) ?_
          refine hP _ _ _ ?_
          have hpn := (rnW_all (T := T) (lo := 48) (hi := 57) T.1 (P0 + 1)).1
          have hA : tkA T P0 = (P0, if rnW T 48 57 (T.1 + 1) P0 ≤ P0 + 2 then 3 else 6, nuV T P0 (rnW T 48 57 (T.1 + 1) P0), rnW T 48 57 (T.1 + 1) P0) := by unfold tkA; rw [if_neg (by omega), if_neg hnl, if_pos hf]
          rw [hA]
          by_cases h2 : rnW T 48 57 (T.1 + 1) P0 ≤ P0 + 2
          · rw [if_pos h2] at k3 ⊢
            have hcl : tcl T (P0, 3, nuV T P0 (rnW T 48 57 (T.1 + 1) P0), rnW T 48 57 (T.1 + 1) P0) = 2 := by unfold tcl; rw [if_neg (by show ¬ 3 = 5; decide), if_pos rfl]
            exact ⟨_, hM, hF, rfl, ⟨hp2.trans hp3, k4.trans g4, k5, by rw [hcl]; exact k3, fun _ => by rw [k6 h2, nuA_nuV (by rw [rnW_s hf]; omega)]⟩, rfl⟩
          · rw [if_neg h2] at k3 ⊢
            have hcl : tcl T (P0, 6, nuV T P0 (rnW T 48 57 (T.1 + 1) P0), rnW T 48 57 (T.1 + 1) P0) = 4 := by unfold tcl; rw [if_neg (by show ¬ 6 = 5; decide), if_neg (by show ¬ 6 = 3; decide), if_neg (by show ¬ 6 = 4; decide), if_neg hnl]
            exact ⟨_, hM, hF, rfl, ⟨hp2.trans hp3, k4.trans g4, k5, by rw [hcl]; exact k3, fun z => absurd (show 6 = 3 from z) (by decide)⟩, rfl⟩
      · have hl : 97 ≤ hr T P0 ∧ hr T P0 ≤ 122 := by rw [g4, hti, nI_toInt (by omega)] at c90; omega
        refine S_aload_n (q := 94) hX dX8_goOn_93 rfl rfl ?_
        refine S_callV (ci := 8) (C := "FanTalk$Script") (T := TX8) (N := 9) (q := 97) 0 0 hX (c_X8_goOverLetters q μ56 T P0) rfl ?hs_24 rfl u_392 u_394 us_4 u_5 u_395 ⟨by decide, by decide, rfl⟩ ⟨Nat.le_of_ble_eq_true rfl, Nat.le_of_ble_eq_true rfl⟩ ⟨Nat.le_of_ble_eq_true rfl, Nat.le_of_ble_eq_true rfl⟩ (Nat.le_of_ble_eq_true rfl) dX8_goOn_94 ?hp_24 rfl rfl rfl ?_
        case hs_24 => first | with_reducible assumption | exact ⟨_, SK.c0 hM⟩ | exact ⟨_, SK.c2 hM⟩
        case hp_24 => exact ⟨hM, hT2, g5, hP1⟩
        rintro v σ sz1 ⟨μ1, hM, hF1, rfl, ⟨hp3, k4, k6, k3, k5⟩, rfl⟩
        have hF := hF.trans hF1
        refine S_goto 155 hX dX8_goOn_97 rfl ?_
        refine S_vret hX dX8_goOn_155 (Nat.zero_le _) (Nat.zero_le _) ?_
        refine hP _ _ _ ?_
        have hA : tkA T P0 = (P0, wrS T P0 (rnW T 97 122 (T.1 + 1) P0), 0, rnW T 97 122 (T.1 + 1) P0) := by unfold tkA; rw [if_neg (by omega), if_pos hl]
        have hw := wrS_in T P0 (rnW T 97 122 (T.1 + 1) P0)
        have hcl : tcl T (P0, wrS T P0 (rnW T 97 122 (T.1 + 1) P0), 0, rnW T 97 122 (T.1 + 1) P0) = 1 := by
          unfold tcl
          rw [if_neg (by show ¬ wrS T P0 _ = 5; omega), if_neg (by show ¬ wrS T P0 _ = 3; omega), if_neg (by show ¬ wrS T P0 _ = 4; omega), if_pos hl]
        rw [hA]
        exact ⟨_, hM, hF, rfl, ⟨hp2.trans hp3, k4.trans g4, k5, by rw [hcl]; exact k3, fun z => by have z : wrS T P0 _ = 3 := z; omega⟩, rfl⟩
    · have hge : hr T P0 = 256 := if_neg (fun z => by rw [g4, hT2.1, nI_ltI (by omega) (by omega)] at c67; omega)
      refine S_aload_n (q := 71) hX dX8_goOn_70 rfl rfl ?_
      refine S_iconst (q := 72) (v := 0) hX dX8_goOn_71 ic_0 rfl ?_
      refine S_nm (fun x72 hx72 => ?_)
      refine S_putf (fs := ?fs_25) (q := 75) hX u_143 fo_X8_token rfl rfl ?hl_25 dX8_goOn_72 ?hs_25 rfl ?_
      case hs_25 => with_reducible first | exact SK.c0 hM | exact SK.c1 hM | exact SK.c2 hM | exact SK.c3 hM
      case hl_25 => exact Nat.le_of_ble_eq_true rfl
      refine S_stu (q0 := q) (j := 0) (i := 3) hM hF (by decide) rfl (fun σ μ72 e72 hM hF => ?_)
      subst hx72
      refine S_goto 155 hX dX8_goOn_75 rfl ?_
      refine S_vret hX dX8_goOn_155 (Nat.zero_le _) (Nat.zero_le _) ?_
      refine hP _ _ _ ?_
      have hA : tkA T P0 = (P0, 5, 0, P0) := by unfold tkA; rw [if_pos hge]
      have hcl : tcl T (P0, 5, 0, P0) = 0 := by unfold tcl; rw [if_pos rfl]
      rw [hA]
      exact ⟨_, hM, hF, rfl, ⟨by rw [e72]; exact hp2.st (by decide), by rw [e72, m2_00, if_neg (by decide)]; exact g4, by rw [e72, m2_00, if_neg (by decide)]; exact g5, by rw [e72, m2_00, if_pos rfl, hcl]; rfl, fun z => absurd (show 5 = 3 from z) (by decide)⟩, rfl⟩
  have l8 : ∀ (fl i : Nat) (σ : Sg) (μ : MF), sPr f μ → i ≤ T.1 → T.1 < fl + i → skp T fl i = P0 → μ 0 4 = nI i → SK σ q μ → Fr q (q + 7) σ0 σ → G X Γ P 0 0 8 [some (.ref q)] [] σ sz := by
    intro fl
    induction fl with
      | zero => intro i σ μ h1 h2 h3; omega
      | succ fl ih =>
        intro i σ μ hpr hi hfu hrn h4 hM hF
        refine S_aload_n (q := 9) hX dX8_goOn_8 rfl rfl ?_
        refine S_getf (fs := ?fs_26) (v := ?v_26) (q := 12) hX u_144 fo_X8_start dX8_goOn_9 ?hs_26 ?hv_26 rfl ?_
        case hs_26 => with_reducible first | exact SK.c0 hM | exact SK.c1 hM | exact SK.c2 hM | exact SK.c3 hM
        case hv_26 => rfl
        refine S_aload_n (q := 13) hX dX8_goOn_12 rfl rfl ?_
        refine S_getf (fs := ?fs_27) (v := ?v_27) (q := 16) hX u_135 fo_X8_length dX8_goOn_13 ?hs_27 ?hv_27 rfl ?_
        case hs_27 => with_reducible first | exact SK.c0 hM | exact SK.c1 hM | exact SK.c2 hM | exact SK.c3 hM
        case hv_27 => rfl
        refine S_icmp_ge (q := 19) 46 hX dX8_goOn_16 rfl rfl (fun c16 => ?_) (fun c16 => ?_)
        · have hge : ¬ hr T i = 32 := fun z => by have := hr_256 hT.by (p := i) (by omega); rw [h4, hpr.2 0 (by decide), hT.1, nI_leI (by omega) (by omega)] at c16; omega
          exact l46 _ μ hpr (by rw [h4, ← hrn, skp_e hge]) hM hF
        · have hlt : i < T.1 := by rw [h4, hpr.2 0 (by decide), hT.1, nI_leI (by omega) (by omega)] at c16; omega
          have hti : μ 1 (nI i).toNatClampNeg = nI (T.2 i) := by rw [nI_clamp (by omega), hpr.1 1 (by decide)]; exact (hT.2.2 i hlt).1
          have hhr : hr T i = T.2 i := if_pos hlt
          have hb2 := (hT.2.2 i hlt).2
          refine S_aload_n (q := 20) hX dX8_goOn_19 rfl rfl ?_
          refine S_getf (fs := ?fs_28) (v := ?v_28) (q := 23) hX u_134 fo_X8_text dX8_goOn_20 ?hs_28 ?hv_28 rfl ?_
          case hs_28 => with_reducible first | exact SK.c0 hM | exact SK.c1 hM | exact SK.c2 hM | exact SK.c3 hM
          case hv_28 => rfl
          refine S_aload_n (q := 24) hX dX8_goOn_23 rfl rfl ?_
          refine S_getf (fs := ?fs_29) (v := ?v_29) (q := 27) hX u_144 fo_X8_start dX8_goOn_24 ?hs_29 ?hv_29 rfl ?_
          case hs_29 => with_reducible first | exact SK.c0 hM | exact SK.c1 hM | exact SK.c2 hM | exact SK.c3 hM
          case hv_29 => rfl
          refine S_iald (N := ?n_30) (f := ?f_30) (q := 28) hX dX8_goOn_27 ?hs_30 ?hi_30 rfl ?_
          case hs_30 => with_reducible first | exact SK.c0 hM | exact SK.c1 hM | exact SK.c2 hM | exact SK.c3 hM
          case hi_30 => rw [h4]; exact vp_in_nI (by omega) (by decide)
          refine S_bipush (q := 30) (v := 32) hX dX8_goOn_28 bp_32 rfl ?_
          refine S_icmp_ne (q := 33) 46 hX dX8_goOn_30 rfl rfl (fun c30 => ?_) (fun c30 => ?_)
          · have hge : ¬ hr T i = 32 := fun z => c30 (by rw [h4, hti, ← hhr, z]; rfl)
            exact l46 _ μ hpr (by rw [h4, ← hrn, skp_e hge]) hM hF
          · have hbl : hr T i = 32 := by rw [h4, hti] at c30; rw [hhr]; exact nI_inj (by omega) (by decide) c30
            refine S_aload_n (q := 34) hX dX8_goOn_33 rfl rfl ?_
            refine S_dup (q := 35) hX dX8_goOn_34 rfl rfl ?_
            refine S_getf (fs := ?fs_31) (v := ?v_31) (q := 38) hX u_144 fo_X8_start dX8_goOn_35 ?hs_31 ?hv_31 rfl ?_
            case hs_31 => with_reducible first | exact SK.c0 hM | exact SK.c1 hM | exact SK.c2 hM | exact SK.c3 hM
            case hv_31 => rfl
            refine S_iconst (q := 39) (v := 1) hX dX8_goOn_38 ic_1 rfl ?_
            refine S_iadd (q := 40) hX dX8_goOn_39 rfl ?_
            refine S_nm (fun x40 hx40 => ?_)
            refine S_putf (fs := ?fs_32) (q := 43) hX u_144 fo_X8_start rfl rfl ?hl_32 dX8_goOn_40 ?hs_32 rfl ?_
            case hs_32 => with_reducible first | exact SK.c0 hM | exact SK.c1 hM | exact SK.c2 hM | exact SK.c3 hM
            case hl_32 => exact Nat.le_of_ble_eq_true rfl
            refine S_stu (q0 := q) (j := 0) (i := 4) hM hF (by decide) rfl (fun σ μ40 e40 hM hF => ?_)
            subst hx40
            refine S_goto 8 hX dX8_goOn_43 rfl ?_
            exact ih (i + 1) _ μ40 (by rw [e40]; exact hpr.st (by decide)) hlt (by omega) (by rw [← hrn, skp_s hbl]) (by rw [e40, m2_00, if_pos rfl, h4, nI_1]) hM hF
  refine S_aload_n (q := 1) hX dX8_goOn_0 rfl rfl ?_
  refine S_aload_n (q := 2) hX dX8_goOn_1 rfl rfl ?_
  refine S_getf (fs := ?fs_33) (v := ?v_33) (q := 5) hX u_145 fo_X8_end dX8_goOn_2 ?hs_33 ?hv_33 rfl ?_
  case hs_33 => with_reducible first | exact SK.c0 hM | exact SK.c1 hM | exact SK.c2 hM | exact SK.c3 hM
  case hv_33 => rfl
  refine S_nm (fun x5 hx5 => ?_)
  refine S_putf (fs := ?fs_34) (q := 8) hX u_144 fo_X8_start rfl rfl ?hl_34 dX8_goOn_5 ?hs_34 rfl ?_
  case hs_34 => with_reducible first | exact SK.c0 hM | exact SK.c1 hM | exact SK.c2 hM | exact SK.c3 hM
  case hl_34 => exact Nat.le_of_ble_eq_true rfl
  refine S_stu (q0 := q) (j := 0) (i := 4) hM hF (by decide) rfl (fun σ μ5 e5 hM hF => ?_)
  subst hx5
  exact l8 (T.1 + 1) p _ μ5 (by rw [e5]; exact sPr.rf.st (by decide)) hp (by omega) eP.symm (by rw [e5, m2_00, if_pos rfl]; exact h5) hM hF
theorem c_X8_isNumberBelow (q : Nat) (f : MF) (x : Int32) (n : Nat) (T : TxT) (t : TkT) (hx : x = nI n) : CT_X8_isNumberBelow [.ref q, .int x] (fun Γ σ sz => SK σ q f ∧ TkS f T t ∧ t.2.2.1 ≤ 99 ∧ n ≤ 100) (fun Γ σ sz v σ' sz' => v = some (.int (bi (t.2.1 = 3 ∧ t.2.2.1 < n))) ∧ σ' = σ ∧ sz' = sz) := by
  refine CT.mkP rfl (Nat.le_of_ble_eq_true rfl) [_, _] rfl ?_
  intro X Γ σ sz P hX hpre hsz hP
  obtain ⟨hM, ht, h99, hn⟩ := hpre
  subst hx
  obtain ⟨σ0, eσ0⟩ : ∃ z, z = σ := ⟨σ, rfl⟩
  rw [← eσ0] at hP
  have hF : Fr q (q + 7) σ0 σ := by rw [eσ0]; exact Fr.rf
  refine S_aload_n (q := 1) hX dX8_isNumberBelow_0 rfl rfl ?_
  refine S_getf (fs := ?fs_1) (v := ?v_1) (q := 4) hX u_143 fo_X8_token dX8_isNumberBelow_1 ?hs_1 ?hv_1 rfl ?_
  case hs_1 => with_reducible first | exact SK.c0 hM | exact SK.c1 hM | exact SK.c2 hM | exact SK.c3 hM
  case hv_1 => rfl
  refine S_iconst (q := 5) (v := 2) hX dX8_isNumberBelow_4 ic_2 rfl ?_
  refine S_icmp_ne (q := 8) 20 hX dX8_isNumberBelow_5 rfl rfl (fun c5 => ?_) (fun c5 => ?_)
  · have h3 : ¬ t.2.1 = 3 := fun z => c5 (by rw [ht.2.2.1, tcl_2.mpr z]; rfl)
    refine S_iconst (q := 21) (v := 0) hX dX8_isNumberBelow_20 ic_0 rfl ?_
    refine S_xret hX dX8_isNumberBelow_21 (Nat.zero_le _) (Nat.zero_le _) (by decide) ?_
    refine hP _ _ _ ?_
    exact ⟨by rw [bi_f (fun z => h3 z.1)], eσ0.symm, rfl⟩
  · have h3 : t.2.1 = 3 := tcl_2.mp (nI_inj (by have := tcl_le (T := T) (t := t); omega) (by decide) (ht.2.2.1.symm.trans c5))
    have hv := ht.2.2.2 h3
    refine S_aload_n (q := 9) hX dX8_isNumberBelow_8 rfl rfl ?_
    refine S_getf (fs := ?fs_2) (v := ?v_2) (q := 12) hX u_146 fo_X8_value dX8_isNumberBelow_9 ?hs_2 ?hv_2 rfl ?_
    case hs_2 => with_reducible first | exact SK.c0 hM | exact SK.c1 hM | exact SK.c2 hM | exact SK.c3 hM
    case hv_2 => rfl
    refine S_iload_n (q := 13) hX dX8_isNumberBelow_12 rfl rfl ?_
    refine S_icmp_ge (q := 16) 20 hX dX8_isNumberBelow_13 rfl rfl (fun c13 => ?_) (fun c13 => ?_)
    · refine S_iconst (q := 21) (v := 0) hX dX8_isNumberBelow_20 ic_0 rfl ?_
      refine S_xret hX dX8_isNumberBelow_21 (Nat.zero_le _) (Nat.zero_le _) (by decide) ?_
      refine hP _ _ _ ?_
      exact ⟨by rw [bi_f (fun z => by rw [hv, nI_leI (by omega) (by omega)] at c13; omega)], eσ0.symm, rfl⟩
    · refine S_iconst (q := 17) (v := 1) hX dX8_isNumberBelow_16 ic_1 rfl ?_
      refine S_goto 21 hX dX8_isNumberBelow_17 rfl ?_
      refine S_xret hX dX8_isNumberBelow_21 (Nat.zero_le _) (Nat.zero_le _) (by decide) ?_
      refine hP _ _ _ ?_
      exact ⟨by rw [bi_t ⟨h3, by rw [hv, nI_leI (by omega) (by omega)] at c13; omega⟩], eσ0.symm, rfl⟩
