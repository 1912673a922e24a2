/-! HOW AN ITEM IS READ, as the class goes: pure -/
theorem enP3_some {T : TxT} {c w r : Nat} {P : PsT} (h : P.2.1 ≠ none) : enP3 T c w r P = P := if_neg h
theorem rwP_some {T : TxT} {k r : Nat} {P : PsT} (h : P.2.1 ≠ none) : rwP T k (r, P) = (r, P) := by
  cases k with
  | zero => rfl
  | succ k => rw [rwP, if_neg (fun z => h z.1)]
theorem enP2_some {T : TxT} {c w : Nat} {P : PsT} (h : P.2.1 ≠ none) : enP2 T c w P = P := by
  unfold enP2
  rw [duP_some h, rwP_some h]
  exact enP3_some h
theorem enP1_some {T : TxT} {c : Nat} {P : PsT} (h : P.2.1 ≠ none) : enP1 T c P = P := by
  unfold enP1
  rw [duP_some h]
  exact enP2_some h
abbrev flt (P : PsT) : PsT := (P.1, some P.1.1, P.2.2)
abbrev nxt (T : TxT) (P : PsT) : PsT := (tk T P.1.2.2.2, none, P.2.2)
theorem flt_s {P : PsT} : (flt P).2.1 ≠ none := fun z => nomatch z
theorem it_code {T : TxT} {P : PsT} (hn : P.2.1 = none) (h0 : P.1.2.1 = 0) (h3 : P.2.2.1 < 3) : itP T P = duP T ((tk T P.1.2.2.2).2.1 == 4) (tk T P.1.2.2.2, none, P.2.2.1 + 1, fu P.2.2.2.1 P.2.2.1 (0, (P.2.2.2.1 P.2.2.1).2), P.2.2.2.2) := by
  show itP2 T P.1.2.1 (duP T (itC P) P) = _
  rw [show itC P = true from itC_t.mpr (Or.inl ⟨h0, h3⟩), duP_t hn, h0]
  rfl
theorem it_code3 {T : TxT} {P : PsT} (hn : P.2.1 = none) (h0 : P.1.2.1 = 0) (h3 : ¬ P.2.2.1 < 3) : itP T P = flt P := by
  show itP2 T P.1.2.1 (duP T (itC P) P) = _
  have : itC P = false := by
    have : ¬ itC P = true := fun z => by rcases itC_t.mp z with a | a | a <;> omega
    simpa using this
  rw [this, duP_f hn]
  exact if_pos flt_s
theorem it_no {T : TxT} {P : PsT} (hn : P.2.1 = none) (h0 : 3 ≤ P.1.2.1) : itP T P = flt P := by
  show itP2 T P.1.2.1 (duP T (itC P) P) = _
  have : itC P = false := by
    have : ¬ itC P = true := fun z => by rcases itC_t.mp z with a | a | a <;> omega
    simpa using this
  rw [this, duP_f hn]
  exact if_pos flt_s
theorem it_entry {T : TxT} {P : PsT} (hn : P.2.1 = none) (h1 : P.1.2.1 = 1) : itP T P = enP T (nxt T P) := by
  show itP2 T P.1.2.1 (duP T (itC P) P) = _
  rw [show itC P = true from itC_t.mpr (Or.inr (Or.inl h1)), duP_t hn, h1]
  rfl
theorem it_drt {T : TxT} {P : PsT} (hn : P.2.1 = none) (h2 : P.1.2.1 = 2) : itP T P = duP T ((duP T (nuB (nxt T P) 64) (nxt T P)).1.2.1 == 4) ((duP T (nuB (nxt T P) 64) (nxt T P)).1, (duP T (nuB (nxt T P) 64) (nxt T P)).2.1, P.2.2.1, P.2.2.2.1, (tk T P.1.2.2.2).2.2.1) := by
  show itP2 T P.1.2.1 (duP T (itC P) P) = _
  rw [show itC P = true from itC_t.mpr (Or.inr (Or.inr h2)), duP_t hn, h2]
  rfl
theorem en_n {T : TxT} {P : PsT} (hn : P.2.1 = none) (h : ¬ ((P.1.2.1 = 3 ∧ P.1.2.2.1 < P.2.2.1) ∧ (P.2.2.2.1 P.1.2.2.1).1 < 8)) : enP T P = flt P := by
  unfold enP
  have : (nuB P P.2.2.1 && decide ((P.2.2.2.1 P.1.2.2.1).1 < 8)) = false := by
    have : ¬ (nuB P P.2.2.1 && decide ((P.2.2.2.1 P.1.2.2.1).1 < 8)) = true := fun z => by
      rw [Bool.and_eq_true, decide_eq_true_eq] at z
      exact h ⟨nuB_t z.1, z.2⟩
    simpa using this
  rw [this, duP_f hn]
  exact enP1_some flt_s
theorem nuB_of {P : PsT} {n : Nat} (h : P.1.2.1 = 3 ∧ P.1.2.2.1 < n) : nuB P n = true := by
  show (P.1.2.1 == 3 && decide (P.1.2.2.1 < n)) = true
  rw [Bool.and_eq_true, beq_iff_eq, decide_eq_true_eq]
  exact h
theorem nuB_no {P : PsT} {n : Nat} (h : ¬ (P.1.2.1 = 3 ∧ P.1.2.2.1 < n)) : nuB P n = false := by
  have : ¬ nuB P n = true := fun z => h (nuB_t z)
  simpa using this
theorem en_y {T : TxT} {P : PsT} (hn : P.2.1 = none) (h : (P.1.2.1 = 3 ∧ P.1.2.2.1 < P.2.2.1) ∧ (P.2.2.2.1 P.1.2.2.1).1 < 8) : enP T P = enP1 T P.1.2.2.1 (nxt T P) := by
  unfold enP
  rw [nuB_of h.1, show decide ((P.2.2.2.1 P.1.2.2.1).1 < 8) = true from decide_eq_true h.2]
  show enP1 T P.1.2.2.1 (duP T true P) = _
  rw [duP_t hn]
theorem en1_n {T : TxT} {c : Nat} {P : PsT} (hn : P.2.1 = none) (h : ¬ (P.1.2.1 = 3 ∧ P.1.2.2.1 < 10)) : enP1 T c P = flt P := by
  unfold enP1
  rw [nuB_no h, duP_f hn]
  exact enP2_some flt_s
theorem en1_y {T : TxT} {c : Nat} {P : PsT} (hn : P.2.1 = none) (h : P.1.2.1 = 3 ∧ P.1.2.2.1 < 10) : enP1 T c P = enP2 T c P.1.2.2.1 (nxt T P) := by
  unfold enP1
  rw [nuB_of h, duP_t hn]
theorem en2_n {T : TxT} {c w : Nat} {P : PsT} (hn : P.2.1 = none) (h : ¬ (P.1.2.1 = 3 ∧ P.1.2.2.1 < 12)) : enP2 T c w P = flt P := by
  unfold enP2
  rw [nuB_no h, duP_f hn, rwP_some flt_s]
  exact enP3_some flt_s
abbrev rwE (T : TxT) (c w k r : Nat) (P : PsT) : PsT := enP3 T c w (rwP T k (r, P)).1 (rwP T k (r, P)).2
theorem en2_y {T : TxT} {c w : Nat} {P : PsT} (hn : P.2.1 = none) (h : P.1.2.1 = 3 ∧ P.1.2.2.1 < 12) : enP2 T c w P = rwE T c w 2 (12 + P.1.2.2.1) (nxt T P) := by
  unfold enP2
  rw [nuB_of h, duP_t hn]
theorem rwE_y {T : TxT} {c w k r : Nat} {P : PsT} (hn : P.2.1 = none) (h : P.1.2.1 = 3 ∧ P.1.2.2.1 < 12) : rwE T c w (k + 1) r P = rwE T c w k (12 * r + P.1.2.2.1) (nxt T P) := by
  show enP3 T c w (rwP T (k + 1) (r, P)).1 (rwP T (k + 1) (r, P)).2 = _
  rw [rwP, if_pos ⟨hn, h.1⟩]
  show enP3 T c w (rwP T k (12 * r + P.1.2.2.1, duP T (nuB P 12) P)).1 _ = _
  rw [nuB_of h, duP_t hn]
theorem rwE_n {T : TxT} {c w k r : Nat} {P : PsT} (hn : P.2.1 = none) (h : ¬ (P.1.2.1 = 3 ∧ P.1.2.2.1 < 12)) : rwE T c w k r P = if P.1.2.1 = 4 ∧ ¬ hasR (P.2.2.2.1 c) r then (tk T P.1.2.2.2, none, P.2.2.1, fu P.2.2.2.1 c (addC (P.2.2.2.1 c) r w), P.2.2.2.2) else flt P := by
  have e3 : enP3 T c w r P = if P.1.2.1 = 4 ∧ ¬ hasR (P.2.2.2.1 c) r then (tk T P.1.2.2.2, none, P.2.2.1, fu P.2.2.2.1 c (addC (P.2.2.2.1 c) r w), P.2.2.2.2) else flt P := by
    unfold enP3
    rw [if_pos hn]
    by_cases hc : P.1.2.1 = 4 ∧ ¬ hasR (P.2.2.2.1 c) r
    · have : (P.1.2.1 == 4 && ! hasN (P.2.2.2.1 c) r (P.2.2.2.1 c).1) = true := by
        rw [Bool.and_eq_true, beq_iff_eq]
        refine ⟨hc.1, ?_⟩
        have h2 : ¬ hasN (P.2.2.2.1 c) r (P.2.2.2.1 c).1 = true := hc.2
        simpa using h2
      rw [if_pos hc, this, duP_t hn]
      rfl
    · have : (P.1.2.1 == 4 && ! hasN (P.2.2.2.1 c) r (P.2.2.2.1 c).1) = false := by
        have : ¬ (P.1.2.1 == 4 && ! hasN (P.2.2.2.1 c) r (P.2.2.2.1 c).1) = true := fun z => by
          rw [Bool.and_eq_true, beq_iff_eq] at z
          refine hc ⟨z.1, fun y => ?_⟩
          have z2 := z.2
          rw [show hasN (P.2.2.2.1 c) r (P.2.2.2.1 c).1 = true from y] at z2
          exact absurd z2 (by decide)
        simpa using this
      rw [if_neg hc, this, duP_f hn]
      exact if_neg flt_s
  cases k with
  | zero => exact e3
  | succ k =>
    show enP3 T c w (rwP T (k + 1) (r, P)).1 (rwP T (k + 1) (r, P)).2 = _
    rw [rwP]
    by_cases h3 : P.1.2.1 = 3
    · rw [if_pos ⟨hn, h3⟩]
      show enP3 T c w (rwP T k (12 * r + P.1.2.2.1, duP T (nuB P 12) P)).1 _ = _
      rw [nuB_no h, duP_f hn, rwP_some flt_s, if_neg (fun z => by omega)]
      exact enP3_some flt_s
    · rw [if_neg (fun z => h3 z.2)]
      exact e3
theorem rwE_0 {T : TxT} {c w r : Nat} {P : PsT} (hn : P.2.1 = none) : rwE T c w 0 r P = if P.1.2.1 = 4 ∧ ¬ hasR (P.2.2.2.1 c) r then (tk T P.1.2.2.2, none, P.2.2.1, fu P.2.2.2.1 c (addC (P.2.2.2.1 c) r w), P.2.2.2.2) else flt P := by
  by_cases h : P.1.2.1 = 3 ∧ P.1.2.2.1 < 12
  · show enP3 T c w r P = _
    unfold enP3
    have : (P.1.2.1 == 4 && ! hasN (P.2.2.2.1 c) r (P.2.2.2.1 c).1) = false := by rw [h.1]; rfl
    rw [if_pos hn, this, duP_f hn, if_neg (fun z : P.1.2.1 = 4 ∧ _ => by omega)]
    exact if_neg flt_s
  · exact rwE_n hn h
/-- what the class's script holds of codes that are read, and of an item's end -/
def CdS (f : MF) (R : Nat × (Nat → CodT) × Nat) : Prop := CoR (fun j => f (2 + j)) (R.1, R.2.1, fun _ => 0) ∧ f 0 1 = nI R.2.2
def U0 (f : MF) : Prop := ∀ w, w < 10 → f 6 w = nI 0
theorem CdS.u0 {f : MF} {R : Nat × (Nat → CodT) × Nat} (h : CdS f R) : U0 f := fun w hw => h.1.2.2 w hw
def ItS (f : MF) (T : TxT) (X : PsT) : Prop := (X.2.1 = none → ∃ t, tkOk T t ∧ X.1 = tk T t.2.2.2 ∧ TkS f T t ∧ CdS f X.2.2) ∧ (∀ p, X.2.1 = some p → f 0 4 = nI p)
def sKp (f f' : MF) : Prop := f' 1 = f 1 ∧ f' 0 0 = f 0 0 ∧ f' 0 2 = f 0 2
theorem sKp.trans {f g h : MF} (a : sKp f g) (b : sKp g h) : sKp f h := ⟨b.1.trans a.1, b.2.1.trans a.2.1, b.2.2.trans a.2.2⟩
theorem sPr.kp {f g : MF} (h : sPr f g) : sKp f g := ⟨h.1 1 (by decide), h.2 0 (by decide), h.2 2 (by decide)⟩
theorem TxS.kp {f g : MF} {T : TxT} (h : TxS f T) (e : sKp f g) : TxS g T := ⟨e.2.1.trans h.1, h.2.1, fun i hi => by rw [e.1]; exact h.2.2 i hi⟩
theorem CdS.pr {f g : MF} {R : Nat × (Nat → CodT) × Nat} (h : CdS f R) (e : sPr f g) : CdS g R := ⟨h.1.ext (fun j hj => e.1 _ (by omega)), (e.2 1 (by decide)).trans h.2⟩
theorem ItS.no {f : MF} {T : TxT} {P X : PsT} (h : TkS f T P.1) (e : X = flt P) : ItS f T X := by
  subst e
  exact ⟨fun z => absurd z flt_s, fun p hp => by have hp := Option.some.inj (show some P.1.1 = some p from hp); rw [← hp]; exact h.1⟩
theorem ItS.yes {f : MF} {T : TxT} {X : PsT} {t : TkT} {R : Nat × (Nat → CodT) × Nat} (h : TkS f T t) (ht : tkOk T t) (hR : CdS f R) (e : X = (tk T t.2.2.2, none, R)) : ItS f T X := by
  subst e
  exact ⟨fun _ => ⟨t, ht, rfl, h, hR⟩, fun p hp => nomatch hp⟩
theorem spl0 {f g : MF} : spl f 2 5 g 0 = f 0 := spl_out (by omega)
theorem spl1 {f g : MF} : spl f 2 5 g 1 = f 1 := spl_out (by omega)

theorem c_X8_isCodeItem (q : Nat) (f : MF) (T : TxT) (P : PsT) : CT_X8_isCodeItem [.ref q] (fun Γ σ sz => SK σ q f ∧ TxS f T ∧ TkS f T P.1 ∧ CdS f P.2.2 ∧ PsOk T P ∧ P.2.1 = none ∧ P.1.2.1 = 0) (fun Γ σ sz v σ' sz' => ∃ f', SK σ' q f' ∧ Fr q (q + 7) σ σ' ∧ v = some (.int (bi ((itP T P).2.1 = none))) ∧ (ItS f' T (itP T P) ∧ sKp f f' ∧ U0 f') ∧ sz' = sz) := by
  refine CT.mkP rfl (Nat.le_of_ble_eq_true rfl) [_] rfl ?_
  intro X Γ σ sz P1 hX hpre hsz hP
  obtain ⟨hM, hT, ht, hR, ok, hn, h0⟩ := hpre
  obtain ⟨σ0, eσ0⟩ : ∃ z, z = σ := ⟨σ, rfl⟩
  rw [← eσ0] at hP
  have hF : Fr q (q + 7) σ0 σ := by rw [eσ0]; exact Fr.rf
  have hb := hT.by
  have h250 := hT.2.1
  have hat := ok.1.2.2.2
  have h3 := ok.2.2.1
  obtain ⟨PF, ePF⟩ : ∃ z, z = itP T P := ⟨_, rfl⟩
  rw [← ePF] at hP
  have hS : ∀ (R : Nat × (Nat → CodT) × Nat), (R.1 ≤ 3 ∧ ∀ c, c < R.1 → CodOk (R.2.1 c)) → BkS (R.1, R.2.1, fun _ => 0) := fun R h => ⟨h.1, fun c hc => (h.2 c hc).1⟩
  refine S_aload_n (q := 1) hX dX8_isCodeItem_0 rfl rfl ?_
  refine S_getf (fs := ?fs_1) (v := ?v_1) (q := 4) hX u_137 fo_X8_fresh dX8_isCodeItem_1 ?hs_1 ?hv_1 rfl ?_
  case hs_1 => with_reducible first | exact SK.c0 hM | exact SK.c1 hM | exact SK.c2 hM | exact SK.c3 hM
  case hv_1 => rfl
  refine S_getf (fs := ?fs_2) (v := ?v_2) (q := 7) hX u_42 fo_X2_codes dX8_isCodeItem_4 ?hs_2 ?hv_2 rfl ?_
  case hs_2 => with_reducible first | exact SK.c0 hM | exact SK.c1 hM | exact SK.c2 hM | exact SK.c3 hM
  case hv_2 => rfl
  refine S_iconst (q := 8) (v := 3) hX dX8_isCodeItem_7 ic_3 rfl ?_
  refine S_icmp_lt (q := 11) 13 hX dX8_isCodeItem_8 rfl rfl (fun c8 => ?_) (fun c8 => ?_)
  · have hc : P.2.2.1 < 3 := by have := hR.1.1; rw [show f 2 0 = nI P.2.2.1 from this, show (3 : Int32) = nI 3 from rfl, nI_ltI (by omega) (by omega)] at c8; exact c8
    have eX := ePF.trans (it_code hn h0 hc)
    refine S_aload_n (q := 14) hX dX8_isCodeItem_13 rfl rfl ?_
    refine S_callV (ci := 8) (C := "FanTalk$Script") (T := TX8) (N := 9) (q := 17) 0 0 hX (c_X8_goOn q f T (P.1.2.2.2)) rfl ?hs_3 rfl u_385 u_387 us_3 u_5 u_388 ⟨by decide, by decide, rfl⟩ ⟨Nat.le_of_ble_eq_true rfl, Nat.le_of_ble_eq_true rfl⟩ ⟨Nat.le_of_ble_eq_true rfl, Nat.le_of_ble_eq_true rfl⟩ (Nat.le_of_ble_eq_true rfl) dX8_isCodeItem_14 ?hp_3 rfl rfl rfl ?_
    case hs_3 => first | with_reducible assumption | exact ⟨_, SK.c0 hM⟩ | exact ⟨_, SK.c2 hM⟩
    case hp_3 => exact ⟨hM, hT, ht.2.1, hat⟩
    rintro v σ sz1 ⟨μ1, hM, hF1, rfl, ⟨hpr1, ht1⟩, rfl⟩
    have hF := hF.trans hF1
    refine S_aload_n (q := 18) hX dX8_isCodeItem_17 rfl rfl ?_
    refine S_getf (fs := ?fs_4) (v := ?v_4) (q := 21) hX u_143 fo_X8_token dX8_isCodeItem_18 ?hs_4 ?hv_4 rfl ?_
    case hs_4 => with_reducible first | exact SK.c0 hM | exact SK.c1 hM | exact SK.c2 hM | exact SK.c3 hM
    case hv_4 => rfl
    refine S_iconst (q := 22) (v := 3) hX dX8_isCodeItem_21 ic_3 rfl ?_
    refine S_icmp_eq (q := 25) 27 hX dX8_isCodeItem_22 rfl rfl (fun c22 => ?_) (fun c22 => ?_)
    · have h4 : (tk T P.1.2.2.2).2.1 = 4 := tcl_3.mp (nI_inj (by have := tcl_le (T := T) (t := tk T P.1.2.2.2); omega) (by decide) (ht1.2.2.1.symm.trans c22))
      have eX2 : PF = (tk T (tk T P.1.2.2.2).2.2.2, none, P.2.2.1 + 1, fu P.2.2.2.1 P.2.2.1 (0, (P.2.2.2.1 P.2.2.1).2), P.2.2.2.2) := by rw [eX, h4]; exact duP_t rfl
      have hR1 := hR.pr hpr1
      refine S_aload_n (q := 28) hX dX8_isCodeItem_27 rfl rfl ?_
      refine S_getf (fs := ?fs_5) (v := ?v_5) (q := 31) hX u_137 fo_X8_fresh dX8_isCodeItem_28 ?hs_5 ?hv_5 rfl ?_
      case hs_5 => with_reducible first | exact SK.c0 hM | exact SK.c1 hM | exact SK.c2 hM | exact SK.c3 hM
      case hv_5 => rfl
      refine S_callV (ci := 2) (C := "FanTalk$Codes") (T := TX2) (N := 5) (q := 34) 0 0 hX (c_X2_open (q + 2) (fun j => μ1 (2 + j)) (P.2.2.1, P.2.2.2.1, fun _ => 0)) rfl ?hs_6 rfl u_464 u_328 u_329 u_3 u_330 ⟨by decide, by decide, rfl⟩ ⟨Nat.le_of_ble_eq_true rfl, Nat.le_of_ble_eq_true rfl⟩ ⟨Nat.le_of_ble_eq_true rfl, Nat.le_of_ble_eq_true rfl⟩ (Nat.le_of_ble_eq_true rfl) dX8_isCodeItem_31 ?hp_6 rfl rfl rfl ?_
      case hs_6 => exact ⟨_, SK.c2 hM⟩
      case hp_6 => exact ⟨SK.co hM, hR1.1, hc⟩
      rintro v σ sz1 ⟨g1, hM1, hF1, rfl, hg1, rfl⟩
      have hM := SK.jn hM hF1 hM1
      have hF := hF.trans (hF1.mono (Nat.le_add_right _ _) (by omega))
      refine S_pop (q := 35) hX dX8_isCodeItem_34 rfl rfl ?_
      refine S_iconst (q := 36) (v := 1) hX dX8_isCodeItem_35 ic_1 rfl ?_
      refine S_xret hX dX8_isCodeItem_36 (Nat.zero_le _) (Nat.zero_le _) (by first | exact nb_bi | decide) ?_
      refine hP _ _ _ ?_
      have hCd : CdS (spl μ1 2 5 g1) (P.2.2.1 + 1, fu P.2.2.2.1 P.2.2.1 (0, (P.2.2.2.1 P.2.2.1).2), P.2.2.2.2) := ⟨CoR.sIn (f := μ1) (d := 2) hg1, by rw [spl0]; exact hR1.2⟩
      exact ⟨_, hM, hF, by rw [bi_t (by rw [eX2])], ⟨ItS.yes (ht1.ext (fun i hi => by rw [spl0])) (tk_ok hb hat).1 hCd eX2, hpr1.kp.trans ⟨spl1, by rw [spl0], by rw [spl0]⟩, hCd.u0⟩, rfl⟩
    · have h4 : ¬ (tk T P.1.2.2.2).2.1 = 4 := fun z => c22 (by rw [ht1.2.2.1, tcl_3.mpr z]; rfl)
      have eX2 : PF = flt (tk T P.1.2.2.2, none, P.2.2.1 + 1, fu P.2.2.2.1 P.2.2.1 (0, (P.2.2.2.1 P.2.2.1).2), P.2.2.2.2) := by rw [eX, show ((tk T P.1.2.2.2).2.1 == 4) = false from by simpa using h4]; exact duP_f rfl
      refine S_iconst (q := 26) (v := 0) hX dX8_isCodeItem_25 ic_0 rfl ?_
      refine S_xret hX dX8_isCodeItem_26 (Nat.zero_le _) (Nat.zero_le _) (by first | exact nb_bi | decide) ?_
      refine hP _ _ _ ?_
      exact ⟨_, hM, hF, by rw [bi_f (fun z => by rw [eX2] at z; exact absurd z flt_s)], ⟨ItS.no (P := (tk T P.1.2.2.2, none, P.2.2.1 + 1, fu P.2.2.2.1 P.2.2.1 (0, (P.2.2.2.1 P.2.2.1).2), P.2.2.2.2)) ht1 eX2, hpr1.kp, (hR.pr hpr1).u0⟩, rfl⟩
  · have hc : ¬ P.2.2.1 < 3 := by have := hR.1.1; rw [show f 2 0 = nI P.2.2.1 from this, show (3 : Int32) = nI 3 from rfl, nI_ltI (by omega) (by omega)] at c8; exact c8
    have eX : PF = flt P := by rw [ePF]; exact it_code3 hn h0 hc
    refine S_iconst (q := 12) (v := 0) hX dX8_isCodeItem_11 ic_0 rfl ?_
    refine S_xret hX dX8_isCodeItem_12 (Nat.zero_le _) (Nat.zero_le _) (by first | exact nb_bi | decide) ?_
    refine hP _ _ _ ?_
    exact ⟨_, hM, hF, by rw [bi_f (fun z => by rw [eX] at z; exact absurd z flt_s)], ⟨ItS.no ht eX, sPr.rf.kp, hR.u0⟩, rfl⟩
theorem c_X8_isDraughtItem (q : Nat) (f : MF) (T : TxT) (P : PsT) : CT_X8_isDraughtItem [.ref q] (fun Γ σ sz => SK σ q f ∧ TxS f T ∧ TkS f T P.1 ∧ CdS f P.2.2 ∧ PsOk T P ∧ P.2.1 = none ∧ P.1.2.1 = 2) (fun Γ σ sz v σ' sz' => ∃ f', SK σ' q f' ∧ Fr q (q + 7) σ σ' ∧ v = some (.int (bi ((itP T P).2.1 = none))) ∧ (ItS f' T (itP T P) ∧ sKp f f' ∧ U0 f') ∧ sz' = sz) := by
  refine CT.mkP rfl (Nat.le_of_ble_eq_true rfl) [_, _] rfl ?_
  intro X Γ σ sz P1 hX hpre hsz hP
  obtain ⟨hM, hT, ht, hR, ok, hn, h2⟩ := hpre
  obtain ⟨σ0, eσ0⟩ : ∃ z, z = σ := ⟨σ, rfl⟩
  rw [← eσ0] at hP
  have hF : Fr q (q + 7) σ0 σ := by rw [eσ0]; exact Fr.rf
  have hb := hT.by
  have h250 := hT.2.1
  have hat := ok.1.2.2.2
  have h3 := ok.2.2.1
  obtain ⟨PF, ePF⟩ : ∃ z, z = itP T P := ⟨_, rfl⟩
  rw [← ePF] at hP
  have hS : ∀ (R : Nat × (Nat → CodT) × Nat), (R.1 ≤ 3 ∧ ∀ c, c < R.1 → CodOk (R.2.1 c)) → BkS (R.1, R.2.1, fun _ => 0) := fun R h => ⟨h.1, fun c hc => (h.2 c hc).1⟩
  have eX := ePF.trans (it_drt hn h2)
  have ok1 := (tk_ok hb hat).1
  refine S_aload_n (q := 1) hX dX8_isDraughtItem_0 rfl rfl ?_
  refine S_callV (ci := 8) (C := "FanTalk$Script") (T := TX8) (N := 9) (q := 4) 0 0 hX (c_X8_goOn q f T (P.1.2.2.2)) rfl ?hs_1 rfl u_385 u_387 us_3 u_5 u_388 ⟨by decide, by decide, rfl⟩ ⟨Nat.le_of_ble_eq_true rfl, Nat.le_of_ble_eq_true rfl⟩ ⟨Nat.le_of_ble_eq_true rfl, Nat.le_of_ble_eq_true rfl⟩ (Nat.le_of_ble_eq_true rfl) dX8_isDraughtItem_1 ?hp_1 rfl rfl rfl ?_
  case hs_1 => first | with_reducible assumption | exact ⟨_, SK.c0 hM⟩ | exact ⟨_, SK.c2 hM⟩
  case hp_1 => exact ⟨hM, hT, ht.2.1, hat⟩
  rintro v σ sz1 ⟨μ1, hM, hF1, rfl, ⟨hpr1, ht1⟩, rfl⟩
  have hF := hF.trans hF1
  refine S_aload_n (q := 5) hX dX8_isDraughtItem_4 rfl rfl ?_
  refine S_getf (fs := ?fs_2) (v := ?v_2) (q := 8) hX u_146 fo_X8_value dX8_isDraughtItem_5 ?hs_2 ?hv_2 rfl ?_
  case hs_2 => with_reducible first | exact SK.c0 hM | exact SK.c1 hM | exact SK.c2 hM | exact SK.c3 hM
  case hv_2 => rfl
  refine S_istore_n (q := 9) [_, _] hX dX8_isDraughtItem_8 rfl (Nat.le_of_ble_eq_true rfl) rfl rfl ?_
  refine S_aload_n (q := 10) hX dX8_isDraughtItem_9 rfl rfl ?_
  refine S_bipush (q := 12) (v := 64) hX dX8_isDraughtItem_10 bp_64 rfl ?_
  refine S_callV (ci := 8) (C := "FanTalk$Script") (T := TX8) (N := 9) (q := 15) 0 0 hX (c_X8_isNumberBelow q μ1 _ (64) T (tk T P.1.2.2.2) rfl) rfl ?hs_3 rfl u_470 u_472 us_10 u_5 u_473 ⟨by decide, by decide, rfl⟩ ⟨Nat.le_of_ble_eq_true rfl, Nat.le_of_ble_eq_true rfl⟩ ⟨Nat.le_of_ble_eq_true rfl, Nat.le_of_ble_eq_true rfl⟩ (Nat.le_of_ble_eq_true rfl) dX8_isDraughtItem_12 ?hp_3 rfl rfl rfl ?_
  case hs_3 => first | with_reducible assumption | exact ⟨_, SK.c0 hM⟩ | exact ⟨_, SK.c2 hM⟩
  case hp_3 => exact ⟨hM, ht1, (ok1).2.2.1, by omega⟩
  rintro v σ1 sz1 ⟨rfl, rfl, rfl⟩
  refine S_if_ne_b (q := 18) 20 hX dX8_isDraughtItem_15 rfl rfl (fun c15 => ?_) (fun c15 => ?_)
  · have e1 : duP T (nuB (nxt T P) 64) (nxt T P) = nxt T (nxt T P) := by rw [nuB_of (P := nxt T P) c15, duP_t (P := nxt T P) rfl]
    rw [e1] at eX
    have ok2 := (tk_ok hb ok1.2.2.2).1
    refine S_aload_n (q := 21) hX dX8_isDraughtItem_20 rfl rfl ?_
    refine S_callV (ci := 8) (C := "FanTalk$Script") (T := TX8) (N := 9) (q := 24) 0 0 hX (c_X8_goOn q μ1 T ((tk T P.1.2.2.2).2.2.2)) rfl ?hs_4 rfl u_385 u_387 us_3 u_5 u_388 ⟨by decide, by decide, rfl⟩ ⟨Nat.le_of_ble_eq_true rfl, Nat.le_of_ble_eq_true rfl⟩ ⟨Nat.le_of_ble_eq_true rfl, Nat.le_of_ble_eq_true rfl⟩ (Nat.le_of_ble_eq_true rfl) dX8_isDraughtItem_21 ?hp_4 rfl rfl rfl ?_
    case hs_4 => first | with_reducible assumption | exact ⟨_, SK.c0 hM⟩ | exact ⟨_, SK.c2 hM⟩
    case hp_4 => exact ⟨hM, (hT.pr hpr1), ht1.2.1, ok1.2.2.2⟩
    rintro v σ sz1 ⟨μ2, hM, hF1, rfl, ⟨hpr2, ht2⟩, rfl⟩
    have hF := hF.trans hF1
    refine S_aload_n (q := 25) hX dX8_isDraughtItem_24 rfl rfl ?_
    refine S_getf (fs := ?fs_5) (v := ?v_5) (q := 28) hX u_143 fo_X8_token dX8_isDraughtItem_25 ?hs_5 ?hv_5 rfl ?_
    case hs_5 => with_reducible first | exact SK.c0 hM | exact SK.c1 hM | exact SK.c2 hM | exact SK.c3 hM
    case hv_5 => rfl
    refine S_iconst (q := 29) (v := 3) hX dX8_isDraughtItem_28 ic_3 rfl ?_
    refine S_icmp_eq (q := 32) 34 hX dX8_isDraughtItem_29 rfl rfl (fun c29 => ?_) (fun c29 => ?_)
    · have h4 : (tk T (tk T P.1.2.2.2).2.2.2).2.1 = 4 := tcl_3.mp (nI_inj (by have := tcl_le (T := T) (t := tk T (tk T P.1.2.2.2).2.2.2); omega) (by decide) (ht2.2.2.1.symm.trans c29))
      have eX2 : PF = (tk T (tk T (tk T P.1.2.2.2).2.2.2).2.2.2, none, P.2.2.1, P.2.2.2.1, (tk T P.1.2.2.2).2.2.1) := by rw [eX, show ((nxt T (nxt T P)).1.2.1 == 4) = true from by simpa using h4]; exact duP_t rfl
      have hR2 := (hR.pr hpr1).pr hpr2
      refine S_aload_n (q := 35) hX dX8_isDraughtItem_34 rfl rfl ?_
      refine S_iload_n (q := 36) hX dX8_isDraughtItem_35 rfl rfl ?_
      refine S_nm (fun x36 hx36 => ?_)
      refine S_putf (fs := ?fs_6) (q := 39) hX u_139 fo_X8_draughts rfl rfl ?hl_6 dX8_isDraughtItem_36 ?hs_6 rfl ?_
      case hs_6 => with_reducible first | exact SK.c0 hM | exact SK.c1 hM | exact SK.c2 hM | exact SK.c3 hM
      case hl_6 => exact Nat.le_of_ble_eq_true rfl
      refine S_stu (q0 := q) (j := 0) (i := 1) hM hF (by decide) rfl (fun σ μ36 e36 hM hF => ?_)
      subst hx36
      refine S_iconst (q := 40) (v := 1) hX dX8_isDraughtItem_39 ic_1 rfl ?_
      refine S_xret hX dX8_isDraughtItem_40 (Nat.zero_le _) (Nat.zero_le _) (by first | exact nb_bi | decide) ?_
      refine hP _ _ _ ?_
      have hCd : CdS μ36 (P.2.2.1, P.2.2.2.1, (tk T P.1.2.2.2).2.2.1) := ⟨hR2.1.ext (fun j hj => by show μ36 _ = μ2 _; rw [e36, m2_o (by omega)]), by rw [e36, m2_00, if_pos rfl]; exact ht1.2.2.2 c15.1⟩
      exact ⟨_, hM, hF, by rw [bi_t (by rw [eX2])], ⟨ItS.yes (ht2.ext (fun i hi => by rw [e36, m2_00, if_neg (by omega)])) ok2 hCd eX2, (hpr1.kp.trans hpr2.kp).trans ⟨by rw [e36, m2_o (by decide)], by rw [e36, m2_00, if_neg (by decide)], by rw [e36, m2_00, if_neg (by decide)]⟩, hCd.u0⟩, rfl⟩
    · have h4 : ¬ (tk T (tk T P.1.2.2.2).2.2.2).2.1 = 4 := fun z => c29 (by rw [ht2.2.2.1, tcl_3.mpr z]; rfl)
      have eX2 : PF = flt (tk T (tk T P.1.2.2.2).2.2.2, none, P.2.2.1, P.2.2.2.1, (tk T P.1.2.2.2).2.2.1) := by rw [eX, show ((nxt T (nxt T P)).1.2.1 == 4) = false from by simpa using h4]; exact duP_f rfl
      refine S_iconst (q := 33) (v := 0) hX dX8_isDraughtItem_32 ic_0 rfl ?_
      refine S_xret hX dX8_isDraughtItem_33 (Nat.zero_le _) (Nat.zero_le _) (by first | exact nb_bi | decide) ?_
      refine hP _ _ _ ?_
      exact ⟨_, hM, hF, by rw [bi_f (fun z => by rw [eX2] at z; exact absurd z flt_s)], ⟨ItS.no (P := (tk T (tk T P.1.2.2.2).2.2.2, none, P.2.2.1, P.2.2.2.1, (tk T P.1.2.2.2).2.2.1)) ht2 eX2, hpr1.kp.trans hpr2.kp, ((hR.pr hpr1).pr hpr2).u0⟩, rfl⟩
  · have eX2 : PF = flt (tk T P.1.2.2.2, none, P.2.2.1, P.2.2.2.1, (tk T P.1.2.2.2).2.2.1) := by rw [eX, nuB_no (P := nxt T P) c15, duP_f (P := nxt T P) rfl]; exact duP_some flt_s
    refine S_iconst (q := 19) (v := 0) hX dX8_isDraughtItem_18 ic_0 rfl ?_
    refine S_xret hX dX8_isDraughtItem_19 (Nat.zero_le _) (Nat.zero_le _) (by first | exact nb_bi | decide) ?_
    refine hP _ _ _ ?_
    exact ⟨_, hM, hF, by rw [bi_f (fun z => by rw [eX2] at z; exact absurd z flt_s)], ⟨ItS.no (P := (tk T P.1.2.2.2, none, P.2.2.1, P.2.2.2.1, (tk T P.1.2.2.2).2.2.1)) ht1 eX2, hpr1.kp, (hR.pr hpr1).u0⟩, rfl⟩
theorem c_X8_isEntryItem (q : Nat) (f : MF) (T : TxT) (P : PsT) : CT_X8_isEntryItem [.ref q] (fun Γ σ sz => SK σ q f ∧ TxS f T ∧ TkS f T P.1 ∧ CdS f P.2.2 ∧ PsOk T P ∧ P.2.1 = none ∧ P.1.2.1 = 1) (fun Γ σ sz v σ' sz' => ∃ f', SK σ' q f' ∧ Fr q (q + 7) σ σ' ∧ v = some (.int (bi ((itP T P).2.1 = none))) ∧ (ItS f' T (itP T P) ∧ sKp f f' ∧ U0 f') ∧ sz' = sz) := by
  refine CT.mkP rfl (Nat.le_of_ble_eq_true rfl) [_, _, _, _, _] rfl ?_
  intro X Γ σ sz P1 hX hpre hsz hP
  obtain ⟨hM, hT, ht, hR, ok, hn, h1⟩ := hpre
  obtain ⟨σ0, eσ0⟩ : ∃ z, z = σ := ⟨σ, rfl⟩
  rw [← eσ0] at hP
  have hF : Fr q (q + 7) σ0 σ := by rw [eσ0]; exact Fr.rf
  have hb := hT.by
  have h250 := hT.2.1
  have hat := ok.1.2.2.2
  have h3 := ok.2.2.1
  obtain ⟨PF, ePF⟩ : ∃ z, z = itP T P := ⟨_, rfl⟩
  rw [← ePF] at hP
  have hS : ∀ (R : Nat × (Nat → CodT) × Nat), (R.1 ≤ 3 ∧ ∀ c, c < R.1 → CodOk (R.2.1 c)) → BkS (R.1, R.2.1, fun _ => 0) := fun R h => ⟨h.1, fun c hc => (h.2 c hc).1⟩
  have eX := ePF.trans (it_entry hn h1)
  have ok1 := (tk_ok hb hat).1
  have l114 : ∀ (c ww r i : Nat) (Pc : PsT) (σ : Sg) (μ : MF), c < P.2.2.1 → (P.2.2.2.1 c).1 < 8 → ww < 10 → r < 2147483648 → Pc.2.1 = none → Pc.2.2 = P.2.2 → tkOk T Pc.1 → PF = (if Pc.1.2.1 = 4 ∧ ¬ hasR (P.2.2.2.1 c) r then (tk T Pc.1.2.2.2, none, P.2.2.1, fu P.2.2.2.1 c (addC (P.2.2.2.1 c) r ww), P.2.2.2.2) else flt Pc) → TkS μ T Pc.1 → sPr f μ → SK σ q μ → Fr q (q + 7) σ0 σ → G X Γ P1 0 0 114 [some (.ref q), some (.int (nI c)), some (.int (nI ww)), some (.int (nI (r))), some (.int (nI (i)))] [] σ sz := by
    intro c ww r i Pc σ μ hc h8 hw hr hPn hP2 hto eX htk hpr hM hF
    have hRm := hR.pr hpr
    have hBs := hS (P.2.2.1, P.2.2.2.1, 0) ⟨h3, ok.2.2.2.1⟩
    refine S_aload_n (q := 115) hX dX8_isEntryItem_114 rfl rfl ?_
    refine S_getf (fs := ?fs_1) (v := ?v_1) (q := 118) hX u_143 fo_X8_token dX8_isEntryItem_115 ?hs_1 ?hv_1 rfl ?_
    case hs_1 => with_reducible first | exact SK.c0 hM | exact SK.c1 hM | exact SK.c2 hM | exact SK.c3 hM
    case hv_1 => rfl
    refine S_iconst (q := 119) (v := 3) hX dX8_isEntryItem_118 ic_3 rfl ?_
    refine S_icmp_ne (q := 122) 134 hX dX8_isEntryItem_119 rfl rfl (fun c119 => ?_) (fun c119 => ?_)
    · have h4 : ¬ Pc.1.2.1 = 4 := fun z => c119 (by rw [htk.2.2.1, tcl_3.mpr z]; rfl)
      have eX2 : PF = flt Pc := by rw [eX, if_neg (fun z => h4 z.1)]
      refine S_iconst (q := 135) (v := 0) hX dX8_isEntryItem_134 ic_0 rfl ?_
      refine S_xret hX dX8_isEntryItem_135 (Nat.zero_le _) (Nat.zero_le _) (by first | exact nb_bi | decide) ?_
      refine hP _ _ _ ?_
      exact ⟨_, hM, hF, by rw [bi_f (fun z => by rw [eX2] at z; exact absurd z flt_s)], ⟨ItS.no htk eX2, hpr.kp, hRm.u0⟩, rfl⟩
    · have h4 : Pc.1.2.1 = 4 := tcl_3.mp (nI_inj (by have := tcl_le (T := T) (t := Pc.1); omega) (by decide) (htk.2.2.1.symm.trans c119))
      refine S_aload_n (q := 123) hX dX8_isEntryItem_122 rfl rfl ?_
      refine S_getf (fs := ?fs_2) (v := ?v_2) (q := 126) hX u_137 fo_X8_fresh dX8_isEntryItem_123 ?hs_2 ?hv_2 rfl ?_
      case hs_2 => with_reducible first | exact SK.c0 hM | exact SK.c1 hM | exact SK.c2 hM | exact SK.c3 hM
      case hv_2 => rfl
      refine S_iload_n (q := 127) hX dX8_isEntryItem_126 rfl rfl ?_
      refine S_iload_n (q := 128) hX dX8_isEntryItem_127 rfl rfl ?_
      refine S_callV (ci := 2) (C := "FanTalk$Codes") (T := TX2) (N := 5) (q := 131) 0 0 hX (c_X2_has (q + 2) (fun j => μ (2 + j)) _ _ c r (P.2.2.1, P.2.2.2.1, fun _ => 0) rfl rfl) rfl ?hs_3 rfl u_474 u_346 u_347 u_3 u_348 ⟨by decide, by decide, rfl⟩ ⟨Nat.le_of_ble_eq_true rfl, Nat.le_of_ble_eq_true rfl⟩ ⟨Nat.le_of_ble_eq_true rfl, Nat.le_of_ble_eq_true rfl⟩ (Nat.le_of_ble_eq_true rfl) dX8_isEntryItem_128 ?hp_3 rfl rfl rfl ?_
      case hs_3 => exact ⟨_, SK.c2 hM⟩
      case hp_3 => exact ⟨SK.co hM, hRm.1, hBs, hc, ok.2.2.2.1 c hc, hr⟩
      rintro v σ1 sz1 ⟨rfl, rfl, rfl⟩
      refine S_if_eq_b (q := 134) 136 hX dX8_isEntryItem_131 rfl rfl (fun c131 => ?_) (fun c131 => ?_)
      · have eX2 : PF = (tk T Pc.1.2.2.2, none, P.2.2.1, fu P.2.2.2.1 c (addC (P.2.2.2.1 c) r ww), P.2.2.2.2) := by rw [eX, if_pos ⟨h4, c131⟩]
        refine S_aload_n (q := 137) hX dX8_isEntryItem_136 rfl rfl ?_
        refine S_getf (fs := ?fs_4) (v := ?v_4) (q := 140) hX u_137 fo_X8_fresh dX8_isEntryItem_137 ?hs_4 ?hv_4 rfl ?_
        case hs_4 => with_reducible first | exact SK.c0 hM | exact SK.c1 hM | exact SK.c2 hM | exact SK.c3 hM
        case hv_4 => rfl
        refine S_iload_n (q := 141) hX dX8_isEntryItem_140 rfl rfl ?_
        refine S_iload_n (q := 142) hX dX8_isEntryItem_141 rfl rfl ?_
        refine S_iload_n (q := 143) hX dX8_isEntryItem_142 rfl rfl ?_
        refine S_callV (ci := 2) (C := "FanTalk$Codes") (T := TX2) (N := 5) (q := 146) 0 0 hX (c_X2_add (q + 2) (fun j => μ (2 + j)) _ _ _ c r ww (P.2.2.1, P.2.2.2.1, fun _ => 0) rfl rfl rfl) rfl ?hs_5 rfl u_475 u_350 u_351 u_3 u_352 ⟨by decide, by decide, rfl⟩ ⟨Nat.le_of_ble_eq_true rfl, Nat.le_of_ble_eq_true rfl⟩ ⟨Nat.le_of_ble_eq_true rfl, Nat.le_of_ble_eq_true rfl⟩ (Nat.le_of_ble_eq_true rfl) dX8_isEntryItem_143 ?hp_5 rfl rfl rfl ?_
        case hs_5 => exact ⟨_, SK.c2 hM⟩
        case hp_5 => exact ⟨SK.co hM, hRm.1, hBs, hc, h8⟩
        rintro v σ sz1 ⟨g1, hM1, hF1, rfl, hg1, rfl⟩
        have hM := SK.jn hM hF1 hM1
        have hF := hF.trans (hF1.mono (Nat.le_add_right _ _) (by omega))
        refine S_pop (q := 147) hX dX8_isEntryItem_146 rfl rfl ?_
        refine S_iconst (q := 148) (v := 1) hX dX8_isEntryItem_147 ic_1 rfl ?_
        refine S_xret hX dX8_isEntryItem_148 (Nat.zero_le _) (Nat.zero_le _) (by first | exact nb_bi | decide) ?_
        refine hP _ _ _ ?_
        have hCd : CdS (spl μ 2 5 g1) (P.2.2.1, fu P.2.2.2.1 c (addC (P.2.2.2.1 c) r ww), P.2.2.2.2) := ⟨CoR.sIn (f := μ) (d := 2) hg1, by rw [spl0]; exact hRm.2⟩
        exact ⟨_, hM, hF, by rw [bi_t (by rw [eX2])], ⟨ItS.yes (htk.ext (fun i hi => by rw [spl0])) hto hCd eX2, hpr.kp.trans ⟨spl1, by rw [spl0], by rw [spl0]⟩, hCd.u0⟩, rfl⟩
      · have eX2 : PF = flt Pc := by rw [eX, if_neg (fun z => z.2 c131)]
        refine S_iconst (q := 135) (v := 0) hX dX8_isEntryItem_134 ic_0 rfl ?_
        refine S_xret hX dX8_isEntryItem_135 (Nat.zero_le _) (Nat.zero_le _) (by first | exact nb_bi | decide) ?_
        refine hP _ _ _ ?_
        exact ⟨_, hM, hF, by rw [bi_f (fun z => by rw [eX2] at z; exact absurd z flt_s)], ⟨ItS.no htk eX2, hpr.kp, hRm.u0⟩, rfl⟩
  have l79 : ∀ (fl c ww r i : Nat) (Pc : PsT) (σ : Sg) (μ : MF), c < P.2.2.1 → (P.2.2.2.1 c).1 < 8 → ww < 10 → i ≤ 3 → 3 - i < fl → Pc.2.1 = none → Pc.2.2 = P.2.2 → tkOk T Pc.1 → (i = 0 → (Pc.1.2.1 = 3 ∧ Pc.1.2.2.1 < 12) ∧ r = 1) → (0 < i → ln r = i) → PF = (if i = 0 then enP2 T c ww Pc else rwE T c ww (3 - i) r Pc) → TkS μ T Pc.1 → sPr f μ → SK σ q μ → Fr q (q + 7) σ0 σ → G X Γ P1 0 0 79 [some (.ref q), some (.int (nI c)), some (.int (nI ww)), some (.int (nI (r))), some (.int (nI (i)))] [] σ sz := by
    intro fl
    induction fl with
      | zero => intro c ww r i Pc σ μ h1 h2 h3 h4 h5; omega
      | succ fl ih =>
        intro c ww r i Pc σ μ hc h8 hw hi hfu hPn hP2 hto hi0 hln eX htk hpr hM hF
        have hr : r < 2147483648 := by
          rcases Nat.eq_zero_or_pos i with z | z
          · have := (hi0 z).2; omega
          · have := ln_lt (r := r) (by have := hln z; omega); omega
        refine S_iload (q := 81) hX dX8_isEntryItem_79 rfl rfl ?_
        refine S_iconst (q := 82) (v := 3) hX dX8_isEntryItem_81 ic_3 rfl ?_
        refine S_icmp_ge (q := 85) 114 hX dX8_isEntryItem_82 rfl rfl (fun c82 => ?_) (fun c82 => ?_)
        · have hi3 : i = 3 := by rw [show (3 : Int32) = nI 3 from rfl, nI_leI (by decide) (by omega)] at c82; omega
          exact l114 c ww r i Pc _ μ hc h8 hw hr hPn hP2 hto (by rw [eX, if_neg (by omega), hi3, Nat.sub_self, rwE_0 hPn, hP2]) htk hpr hM hF
        · have hi3 : i < 3 := by rw [show (3 : Int32) = nI 3 from rfl, nI_leI (by decide) (by omega)] at c82; omega
          refine S_aload_n (q := 86) hX dX8_isEntryItem_85 rfl rfl ?_
          refine S_bipush (q := 88) (v := 12) hX dX8_isEntryItem_86 bp_12 rfl ?_
          refine S_callV (ci := 8) (C := "FanTalk$Script") (T := TX8) (N := 9) (q := 91) 0 0 hX (c_X8_isNumberBelow q μ _ (12) T (Pc.1) rfl) rfl ?hs_6 rfl u_470 u_472 us_10 u_5 u_473 ⟨by decide, by decide, rfl⟩ ⟨Nat.le_of_ble_eq_true rfl, Nat.le_of_ble_eq_true rfl⟩ ⟨Nat.le_of_ble_eq_true rfl, Nat.le_of_ble_eq_true rfl⟩ (Nat.le_of_ble_eq_true rfl) dX8_isEntryItem_88 ?hp_6 rfl rfl rfl ?_
          case hs_6 => first | with_reducible assumption | exact ⟨_, SK.c0 hM⟩ | exact ⟨_, SK.c2 hM⟩
          case hp_6 => exact ⟨hM, htk, (hto).2.2.1, by omega⟩
          rintro v σ1 sz1 ⟨rfl, rfl, rfl⟩
          refine S_if_eq_b (q := 94) 114 hX dX8_isEntryItem_91 rfl rfl (fun c91 => ?_) (fun c91 => ?_)
          · exact l114 c ww r i Pc _ μ hc h8 hw hr hPn hP2 hto (by rw [eX, if_neg (fun z => c91 (hi0 z).1), rwE_n hPn c91, hP2]) htk hpr hM hF
          · refine S_iload_n (q := 95) hX dX8_isEntryItem_94 rfl rfl ?_
            refine S_bipush (q := 97) (v := 12) hX dX8_isEntryItem_95 bp_12 rfl ?_
            refine S_imul (q := 98) hX dX8_isEntryItem_97 rfl ?_
            refine S_aload_n (q := 99) hX dX8_isEntryItem_98 rfl rfl ?_
            refine S_getf (fs := ?fs_7) (v := ?v_7) (q := 102) hX u_146 fo_X8_value dX8_isEntryItem_99 ?hs_7 ?hv_7 rfl ?_
            case hs_7 => with_reducible first | exact SK.c0 hM | exact SK.c1 hM | exact SK.c2 hM | exact SK.c3 hM
            case hv_7 => rfl
            refine S_iadd (q := 103) hX dX8_isEntryItem_102 rfl ?_
            refine S_istore_n (q := 104) [_, _, _, _, _] hX dX8_isEntryItem_103 rfl (Nat.le_of_ble_eq_true rfl) rfl rfl ?_
            refine S_aload_n (q := 105) hX dX8_isEntryItem_104 rfl rfl ?_
            refine S_callV (ci := 8) (C := "FanTalk$Script") (T := TX8) (N := 9) (q := 108) 0 0 hX (c_X8_goOn q μ T (Pc.1.2.2.2)) rfl ?hs_8 rfl u_385 u_387 us_3 u_5 u_388 ⟨by decide, by decide, rfl⟩ ⟨Nat.le_of_ble_eq_true rfl, Nat.le_of_ble_eq_true rfl⟩ ⟨Nat.le_of_ble_eq_true rfl, Nat.le_of_ble_eq_true rfl⟩ (Nat.le_of_ble_eq_true rfl) dX8_isEntryItem_105 ?hp_8 rfl rfl rfl ?_
            case hs_8 => first | with_reducible assumption | exact ⟨_, SK.c0 hM⟩ | exact ⟨_, SK.c2 hM⟩
            case hp_8 => exact ⟨hM, (hT.pr hpr), htk.2.1, hto.2.2.2⟩
            rintro v σ sz1 ⟨μ1, hM, hF1, rfl, ⟨hpr1, ht1⟩, rfl⟩
            have hF := hF.trans hF1
            refine S_iinc (q := 111) [_, _, _, _, _] hX dX8_isEntryItem_108 rfl (ii_1 _) rfl (Nat.le_of_ble_eq_true rfl) rfl rfl ?_
            refine S_goto 79 hX dX8_isEntryItem_111 rfl ?_
            have hv := htk.2.2.2 c91.1
            refine S_L (L' := [some (.ref q), some (.int (nI c)), some (.int (nI ww)), some (.int (nI (12 * r + Pc.1.2.2.1))), some (.int (nI (i + 1)))]) (by rw [hv, i12, pk_mul, nI_add, nI_1, Nat.mul_comm r 12]) ?_
            refine ih c ww (12 * r + Pc.1.2.2.1) (i + 1) (nxt T Pc) _ μ1 hc h8 hw (by omega) (by omega) rfl hP2 (tk_ok hb hto.2.2.2).1 (fun z => by omega) (fun _ => ?_) ?_ ht1 (hpr.trans hpr1) hM hF
            · rcases Nat.eq_zero_or_pos i with z | z
              · rw [(hi0 z).2, z, Nat.mul_one]
                exact ln_one c91.2
              · rw [ln_snoc (by have := hln z; omega) (by have := hln z; omega) c91.2, hln z]
            · rw [eX, if_neg (by omega : ¬ i + 1 = 0)]
              rcases Nat.eq_zero_or_pos i with z | z
              · rw [if_pos z, en2_y hPn c91, (hi0 z).2, z]
              · rw [if_neg (by omega), show 3 - i = (3 - (i + 1)) + 1 by omega, rwE_y hPn c91]
  refine S_aload_n (q := 1) hX dX8_isEntryItem_0 rfl rfl ?_
  refine S_callV (ci := 8) (C := "FanTalk$Script") (T := TX8) (N := 9) (q := 4) 0 0 hX (c_X8_goOn q f T (P.1.2.2.2)) rfl ?hs_9 rfl u_385 u_387 us_3 u_5 u_388 ⟨by decide, by decide, rfl⟩ ⟨Nat.le_of_ble_eq_true rfl, Nat.le_of_ble_eq_true rfl⟩ ⟨Nat.le_of_ble_eq_true rfl, Nat.le_of_ble_eq_true rfl⟩ (Nat.le_of_ble_eq_true rfl) dX8_isEntryItem_1 ?hp_9 rfl rfl rfl ?_
  case hs_9 => first | with_reducible assumption | exact ⟨_, SK.c0 hM⟩ | exact ⟨_, SK.c2 hM⟩
  case hp_9 => exact ⟨hM, hT, ht.2.1, hat⟩
  rintro v σ sz1 ⟨μ1, hM, hF1, rfl, ⟨hpr1, ht1⟩, rfl⟩
  have hF := hF.trans hF1
  refine S_aload_n (q := 5) hX dX8_isEntryItem_4 rfl rfl ?_
  refine S_getf (fs := ?fs_10) (v := ?v_10) (q := 8) hX u_146 fo_X8_value dX8_isEntryItem_5 ?hs_10 ?hv_10 rfl ?_
  case hs_10 => with_reducible first | exact SK.c0 hM | exact SK.c1 hM | exact SK.c2 hM | exact SK.c3 hM
  case hv_10 => rfl
  refine S_istore_n (q := 9) [_, _, _, _, _] hX dX8_isEntryItem_8 rfl (Nat.le_of_ble_eq_true rfl) rfl rfl ?_
  refine S_aload_n (q := 10) hX dX8_isEntryItem_9 rfl rfl ?_
  refine S_aload_n (q := 11) hX dX8_isEntryItem_10 rfl rfl ?_
  refine S_getf (fs := ?fs_11) (v := ?v_11) (q := 14) hX u_137 fo_X8_fresh dX8_isEntryItem_11 ?hs_11 ?hv_11 rfl ?_
  case hs_11 => with_reducible first | exact SK.c0 hM | exact SK.c1 hM | exact SK.c2 hM | exact SK.c3 hM
  case hv_11 => rfl
  refine S_getf (fs := ?fs_12) (v := ?v_12) (q := 17) hX u_42 fo_X2_codes dX8_isEntryItem_14 ?hs_12 ?hv_12 rfl ?_
  case hs_12 => with_reducible first | exact SK.c0 hM | exact SK.c1 hM | exact SK.c2 hM | exact SK.c3 hM
  case hv_12 => rfl
  refine S_callV (ci := 8) (C := "FanTalk$Script") (T := TX8) (N := 9) (q := 20) 0 0 hX (c_X8_isNumberBelow q μ1 _ (P.2.2.1) T (tk T P.1.2.2.2) (hR.pr hpr1).1.1) rfl ?hs_13 rfl u_470 u_472 us_10 u_5 u_473 ⟨by decide, by decide, rfl⟩ ⟨Nat.le_of_ble_eq_true rfl, Nat.le_of_ble_eq_true rfl⟩ ⟨Nat.le_of_ble_eq_true rfl, Nat.le_of_ble_eq_true rfl⟩ (Nat.le_of_ble_eq_true rfl) dX8_isEntryItem_17 ?hp_13 rfl rfl rfl ?_
  case hs_13 => first | with_reducible assumption | exact ⟨_, SK.c0 hM⟩ | exact ⟨_, SK.c2 hM⟩
  case hp_13 => exact ⟨hM, ht1, (ok1).2.2.1, by omega⟩
  rintro v σ1 sz1 ⟨rfl, rfl, rfl⟩
  refine S_if_eq_b (q := 23) 37 hX dX8_isEntryItem_20 rfl rfl (fun c20 => ?_) (fun c20 => ?_)
  · have eX2 : PF = flt (nxt T P) := by rw [eX]; exact en_n rfl (fun z => c20 z.1)
    refine S_iconst (q := 38) (v := 0) hX dX8_isEntryItem_37 ic_0 rfl ?_
    refine S_xret hX dX8_isEntryItem_38 (Nat.zero_le _) (Nat.zero_le _) (by first | exact nb_bi | decide) ?_
    refine hP _ _ _ ?_
    exact ⟨_, hM, hF, by rw [bi_f (fun z => by rw [eX2] at z; exact absurd z flt_s)], ⟨ItS.no (P := nxt T P) ht1 eX2, hpr1.kp, (hR.pr hpr1).u0⟩, rfl⟩
  · obtain ⟨c, ec⟩ : ∃ z, z = (tk T P.1.2.2.2).2.2.1 := ⟨_, rfl⟩
    have hc : c < P.2.2.1 := by rw [ec]; exact c20.2
    have hv1 : μ1 0 6 = nI c := by rw [ec]; exact ht1.2.2.2 c20.1
    have hcc := (hR.pr hpr1).1.2.1 c hc
    have hcn : μ1 3 c = nI (P.2.2.2.1 c).1 := hcc.1
    have hc8 := (ok.2.2.2.1 c hc).1
    rw [hv1]
    refine S_aload_n (q := 24) hX dX8_isEntryItem_23 rfl rfl ?_
    refine S_getf (fs := ?fs_14) (v := ?v_14) (q := 27) hX u_137 fo_X8_fresh dX8_isEntryItem_24 ?hs_14 ?hv_14 rfl ?_
    case hs_14 => with_reducible first | exact SK.c0 hM | exact SK.c1 hM | exact SK.c2 hM | exact SK.c3 hM
    case hv_14 => rfl
    refine S_getf (fs := ?fs_15) (v := ?v_15) (q := 30) hX u_46 fo_X2_entries dX8_isEntryItem_27 ?hs_15 ?hv_15 rfl ?_
    case hs_15 => with_reducible first | exact SK.c0 hM | exact SK.c1 hM | exact SK.c2 hM | exact SK.c3 hM
    case hv_15 => rfl
    refine S_iload_n (q := 31) hX dX8_isEntryItem_30 rfl rfl ?_
    refine S_iald (N := ?n_16) (f := ?f_16) (q := 32) hX dX8_isEntryItem_31 ?hs_16 ?hi_16 rfl ?_
    case hs_16 => with_reducible first | exact SK.c0 hM | exact SK.c1 hM | exact SK.c2 hM | exact SK.c3 hM
    case hi_16 => exact vp_in_nI (by omega) (by decide)
    refine S_bipush (q := 34) (v := 8) hX dX8_isEntryItem_32 bp_8 rfl ?_
    refine S_icmp_lt (q := 37) 39 hX dX8_isEntryItem_34 rfl rfl (fun c34 => ?_) (fun c34 => ?_)
    · have h8 : (P.2.2.2.1 c).1 < 8 := by rw [nI_clamp (by omega), hcn, i8, nI_ltI (by omega) (by decide)] at c34; exact c34
      have eX2 := eX.trans (en_y (P := nxt T P) rfl ⟨c20, by rw [← ec]; exact h8⟩)
      rw [← ec] at eX2
      refine S_aload_n (q := 40) hX dX8_isEntryItem_39 rfl rfl ?_
      refine S_callV (ci := 8) (C := "FanTalk$Script") (T := TX8) (N := 9) (q := 43) 0 0 hX (c_X8_goOn q μ1 T ((tk T P.1.2.2.2).2.2.2)) rfl ?hs_17 rfl u_385 u_387 us_3 u_5 u_388 ⟨by decide, by decide, rfl⟩ ⟨Nat.le_of_ble_eq_true rfl, Nat.le_of_ble_eq_true rfl⟩ ⟨Nat.le_of_ble_eq_true rfl, Nat.le_of_ble_eq_true rfl⟩ (Nat.le_of_ble_eq_true rfl) dX8_isEntryItem_40 ?hp_17 rfl rfl rfl ?_
      case hs_17 => first | with_reducible assumption | exact ⟨_, SK.c0 hM⟩ | exact ⟨_, SK.c2 hM⟩
      case hp_17 => exact ⟨hM, (hT.pr hpr1), ht1.2.1, ok1.2.2.2⟩
      rintro v σ sz1 ⟨μ2, hM, hF1, rfl, ⟨hpr2, ht2⟩, rfl⟩
      have hF := hF.trans hF1
      have ok2 := (tk_ok hb ok1.2.2.2).1
      refine S_aload_n (q := 44) hX dX8_isEntryItem_43 rfl rfl ?_
      refine S_getf (fs := ?fs_18) (v := ?v_18) (q := 47) hX u_146 fo_X8_value dX8_isEntryItem_44 ?hs_18 ?hv_18 rfl ?_
      case hs_18 => with_reducible first | exact SK.c0 hM | exact SK.c1 hM | exact SK.c2 hM | exact SK.c3 hM
      case hv_18 => rfl
      refine S_istore_n (q := 48) [_, _, _, _, _] hX dX8_isEntryItem_47 rfl (Nat.le_of_ble_eq_true rfl) rfl rfl ?_
      refine S_aload_n (q := 49) hX dX8_isEntryItem_48 rfl rfl ?_
      refine S_bipush (q := 51) (v := 10) hX dX8_isEntryItem_49 bp_10 rfl ?_
      refine S_callV (ci := 8) (C := "FanTalk$Script") (T := TX8) (N := 9) (q := 54) 0 0 hX (c_X8_isNumberBelow q μ2 _ (10) T (tk T (tk T P.1.2.2.2).2.2.2) rfl) rfl ?hs_19 rfl u_470 u_472 us_10 u_5 u_473 ⟨by decide, by decide, rfl⟩ ⟨Nat.le_of_ble_eq_true rfl, Nat.le_of_ble_eq_true rfl⟩ ⟨Nat.le_of_ble_eq_true rfl, Nat.le_of_ble_eq_true rfl⟩ (Nat.le_of_ble_eq_true rfl) dX8_isEntryItem_51 ?hp_19 rfl rfl rfl ?_
      case hs_19 => first | with_reducible assumption | exact ⟨_, SK.c0 hM⟩ | exact ⟨_, SK.c2 hM⟩
      case hp_19 => exact ⟨hM, ht2, (ok2).2.2.1, by omega⟩
      rintro v σ1 sz1 ⟨rfl, rfl, rfl⟩
      refine S_if_ne_b (q := 57) 59 hX dX8_isEntryItem_54 rfl rfl (fun c54 => ?_) (fun c54 => ?_)
      · have hv2 : μ2 0 6 = nI (tk T (tk T P.1.2.2.2).2.2.2).2.2.1 := ht2.2.2.2 c54.1
        rw [hv2]
        have eX3 := eX2.trans (en1_y (P := nxt T (nxt T P)) rfl c54)
        refine S_aload_n (q := 60) hX dX8_isEntryItem_59 rfl rfl ?_
        refine S_callV (ci := 8) (C := "FanTalk$Script") (T := TX8) (N := 9) (q := 63) 0 0 hX (c_X8_goOn q μ2 T ((tk T (tk T P.1.2.2.2).2.2.2).2.2.2)) rfl ?hs_20 rfl u_385 u_387 us_3 u_5 u_388 ⟨by decide, by decide, rfl⟩ ⟨Nat.le_of_ble_eq_true rfl, Nat.le_of_ble_eq_true rfl⟩ ⟨Nat.le_of_ble_eq_true rfl, Nat.le_of_ble_eq_true rfl⟩ (Nat.le_of_ble_eq_true rfl) dX8_isEntryItem_60 ?hp_20 rfl rfl rfl ?_
        case hs_20 => first | with_reducible assumption | exact ⟨_, SK.c0 hM⟩ | exact ⟨_, SK.c2 hM⟩
        case hp_20 => exact ⟨hM, ((hT.pr hpr1).pr hpr2), ht2.2.1, ok2.2.2.2⟩
        rintro v σ sz1 ⟨μ3, hM, hF1, rfl, ⟨hpr3, ht3⟩, rfl⟩
        have hF := hF.trans hF1
        have ok3 := (tk_ok hb ok2.2.2.2).1
        refine S_aload_n (q := 64) hX dX8_isEntryItem_63 rfl rfl ?_
        refine S_bipush (q := 66) (v := 12) hX dX8_isEntryItem_64 bp_12 rfl ?_
        refine S_callV (ci := 8) (C := "FanTalk$Script") (T := TX8) (N := 9) (q := 69) 0 0 hX (c_X8_isNumberBelow q μ3 _ (12) T (tk T (tk T (tk T P.1.2.2.2).2.2.2).2.2.2) rfl) rfl ?hs_21 rfl u_470 u_472 us_10 u_5 u_473 ⟨by decide, by decide, rfl⟩ ⟨Nat.le_of_ble_eq_true rfl, Nat.le_of_ble_eq_true rfl⟩ ⟨Nat.le_of_ble_eq_true rfl, Nat.le_of_ble_eq_true rfl⟩ (Nat.le_of_ble_eq_true rfl) dX8_isEntryItem_66 ?hp_21 rfl rfl rfl ?_
        case hs_21 => first | with_reducible assumption | exact ⟨_, SK.c0 hM⟩ | exact ⟨_, SK.c2 hM⟩
        case hp_21 => exact ⟨hM, ht3, (ok3).2.2.1, by omega⟩
        rintro v σ1 sz1 ⟨rfl, rfl, rfl⟩
        refine S_if_ne_b (q := 72) 74 hX dX8_isEntryItem_69 rfl rfl (fun c69 => ?_) (fun c69 => ?_)
        · refine S_iconst (q := 75) (v := 1) hX dX8_isEntryItem_74 ic_1 rfl ?_
          refine S_istore_n (q := 76) [_, _, _, _, _] hX dX8_isEntryItem_75 rfl (Nat.le_of_ble_eq_true rfl) rfl rfl ?_
          refine S_iconst (q := 77) (v := 0) hX dX8_isEntryItem_76 ic_0 rfl ?_
          refine S_istore (q := 79) [_, _, _, _, _] hX dX8_isEntryItem_77 rfl (Nat.le_of_ble_eq_true rfl) rfl rfl ?_
          exact l79 4 c _ 1 0 (nxt T (nxt T (nxt T P))) _ μ3 hc h8 c54.2 (by decide) (by decide) rfl rfl ok3 (fun _ => ⟨c69, rfl⟩) (fun z => absurd z (Nat.lt_irrefl 0)) (by rw [eX3]; rfl) ht3 ((hpr1.trans hpr2).trans hpr3) hM hF
        · have eX4 : PF = flt (nxt T (nxt T (nxt T P))) := by rw [eX3]; exact en2_n rfl c69
          refine S_iconst (q := 73) (v := 0) hX dX8_isEntryItem_72 ic_0 rfl ?_
          refine S_xret hX dX8_isEntryItem_73 (Nat.zero_le _) (Nat.zero_le _) (by first | exact nb_bi | decide) ?_
          refine hP _ _ _ ?_
          exact ⟨_, hM, hF, by rw [bi_f (fun z => by rw [eX4] at z; exact absurd z flt_s)], ⟨ItS.no (P := nxt T (nxt T (nxt T P))) ht3 eX4, ((hpr1.trans hpr2).trans hpr3).kp, (hR.pr ((hpr1.trans hpr2).trans hpr3)).u0⟩, rfl⟩
      · have eX3 : PF = flt (nxt T (nxt T P)) := by rw [eX2]; exact en1_n rfl c54
        refine S_iconst (q := 58) (v := 0) hX dX8_isEntryItem_57 ic_0 rfl ?_
        refine S_xret hX dX8_isEntryItem_58 (Nat.zero_le _) (Nat.zero_le _) (by first | exact nb_bi | decide) ?_
        refine hP _ _ _ ?_
        exact ⟨_, hM, hF, by rw [bi_f (fun z => by rw [eX3] at z; exact absurd z flt_s)], ⟨ItS.no (P := nxt T (nxt T P)) ht2 eX3, (hpr1.trans hpr2).kp, (hR.pr (hpr1.trans hpr2)).u0⟩, rfl⟩
    · have h8 : ¬ (P.2.2.2.1 c).1 < 8 := by rw [nI_clamp (by omega), hcn, i8, nI_ltI (by omega) (by decide)] at c34; exact c34
      have eX2 : PF = flt (nxt T P) := by rw [eX]; exact en_n rfl (fun z => h8 (by rw [ec]; exact z.2))
      refine S_iconst (q := 38) (v := 0) hX dX8_isEntryItem_37 ic_0 rfl ?_
      refine S_xret hX dX8_isEntryItem_38 (Nat.zero_le _) (Nat.zero_le _) (by first | exact nb_bi | decide) ?_
      refine hP _ _ _ ?_
      exact ⟨_, hM, hF, by rw [bi_f (fun z => by rw [eX2] at z; exact absurd z flt_s)], ⟨ItS.no (P := nxt T P) ht1 eX2, hpr1.kp, (hR.pr hpr1).u0⟩, rfl⟩
theorem c_X8_isItem (q : Nat) (f : MF) (T : TxT) (P : PsT) (p : Nat) : CT_X8_isItem [.ref q] (fun Γ σ sz => SK σ q f ∧ TxS f T ∧ TkS f T P.1 ∧ CdS f P.2.2 ∧ PsOk T P ∧ P.2.1 = none ∧ P.1 = tk T p ∧ p ≤ T.1) (fun Γ σ sz v σ' sz' => ∃ f', SK σ' q f' ∧ Fr q (q + 7) σ σ' ∧ v = some (.int (bi ((itP T P).2.1 = none))) ∧ (ItS f' T (itP T P) ∧ sKp f f' ∧ U0 f') ∧ sz' = sz) := by
  refine CT.mkP rfl (Nat.le_of_ble_eq_true rfl) [_] rfl ?_
  intro X Γ σ sz P1 hX hpre hsz hP
  obtain ⟨hM, hT, ht, hR, ok, hn, hp, hp1⟩ := hpre
  obtain ⟨σ0, eσ0⟩ : ∃ z, z = σ := ⟨σ, rfl⟩
  rw [← eσ0] at hP
  have hF : Fr q (q + 7) σ0 σ := by rw [eσ0]; exact Fr.rf
  have hb := hT.by
  have h250 := hT.2.1
  have hat := ok.1.2.2.2
  have h3 := ok.2.2.1
  have hS : ∀ (R : Nat × (Nat → CodT) × Nat), (R.1 ≤ 3 ∧ ∀ c, c < R.1 → CodOk (R.2.1 c)) → BkS (R.1, R.2.1, fun _ => 0) := fun R h => ⟨h.1, fun c hc => (h.2 c hc).1⟩
  refine S_aload_n (q := 1) hX dX8_isItem_0 rfl rfl ?_
  refine S_ldcs (q := 3) 0 hX dX8_isItem_1 (fun U h => h.2.2.1) rfl ?_
  refine S_callV (ci := 8) (C := "FanTalk$Script") (T := TX8) (N := 9) (q := 6) 0 0 hX (c_X8_isName q f (Γ.2.2.1 0) 0 p T) rfl ?hs_1 rfl u_408 u_410 us_7 u_5 u_411 ⟨by decide, by decide, rfl⟩ ⟨Nat.le_of_ble_eq_true rfl, Nat.le_of_ble_eq_true rfl⟩ ⟨Nat.le_of_ble_eq_true rfl, Nat.le_of_ble_eq_true rfl⟩ (Nat.le_of_ble_eq_true rfl) dX8_isItem_3 ?hp_1 rfl rfl rfl ?_
  case hs_1 => first | with_reducible assumption | exact ⟨_, SK.c0 hM⟩ | exact ⟨_, SK.c2 hM⟩
  case hp_1 => exact ⟨hM, rfl, by decide, hT, by rw [← hp]; exact ht, hp1⟩
  rintro v σ1 sz1 ⟨rfl, rfl, rfl⟩
  rw [← hp]
  refine S_if_eq_b (q := 9) 14 hX dX8_isItem_6 rfl rfl (fun c6 => ?_) (fun c6 => ?_)
  · refine S_aload_n (q := 15) hX dX8_isItem_14 rfl rfl ?_
    refine S_ldcs (q := 17) 1 hX dX8_isItem_15 (fun U h => h.2.2.2.1) rfl ?_
    refine S_callV (ci := 8) (C := "FanTalk$Script") (T := TX8) (N := 9) (q := 20) 0 0 hX (c_X8_isName q f (Γ.2.2.1 1) 1 p T) rfl ?hs_2 rfl u_408 u_410 us_7 u_5 u_411 ⟨by decide, by decide, rfl⟩ ⟨Nat.le_of_ble_eq_true rfl, Nat.le_of_ble_eq_true rfl⟩ ⟨Nat.le_of_ble_eq_true rfl, Nat.le_of_ble_eq_true rfl⟩ (Nat.le_of_ble_eq_true rfl) dX8_isItem_17 ?hp_2 rfl rfl rfl ?_
    case hs_2 => first | with_reducible assumption | exact ⟨_, SK.c0 hM⟩ | exact ⟨_, SK.c2 hM⟩
    case hp_2 => exact ⟨hM, rfl, by decide, hT, by rw [← hp]; exact ht, hp1⟩
    rintro v σ1 sz1 ⟨rfl, rfl, rfl⟩
    rw [← hp]
    refine S_if_eq_b (q := 23) 28 hX dX8_isItem_20 rfl rfl (fun c20 => ?_) (fun c20 => ?_)
    · refine S_aload_n (q := 29) hX dX8_isItem_28 rfl rfl ?_
      refine S_ldcs (q := 31) 2 hX dX8_isItem_29 (fun U h => h.2.2.2.2.1) rfl ?_
      refine S_callV (ci := 8) (C := "FanTalk$Script") (T := TX8) (N := 9) (q := 34) 0 0 hX (c_X8_isName q f (Γ.2.2.1 2) 2 p T) rfl ?hs_3 rfl u_408 u_410 us_7 u_5 u_411 ⟨by decide, by decide, rfl⟩ ⟨Nat.le_of_ble_eq_true rfl, Nat.le_of_ble_eq_true rfl⟩ ⟨Nat.le_of_ble_eq_true rfl, Nat.le_of_ble_eq_true rfl⟩ (Nat.le_of_ble_eq_true rfl) dX8_isItem_31 ?hp_3 rfl rfl rfl ?_
      case hs_3 => first | with_reducible assumption | exact ⟨_, SK.c0 hM⟩ | exact ⟨_, SK.c2 hM⟩
      case hp_3 => exact ⟨hM, rfl, by decide, hT, by rw [← hp]; exact ht, hp1⟩
      rintro v σ1 sz1 ⟨rfl, rfl, rfl⟩
      rw [← hp]
      refine S_if_eq_b (q := 37) 48 hX dX8_isItem_34 rfl rfl (fun c34 => ?_) (fun c34 => ?_)
      · refine S_iconst (q := 49) (v := 0) hX dX8_isItem_48 ic_0 rfl ?_
        refine S_xret hX dX8_isItem_49 (Nat.zero_le _) (Nat.zero_le _) (by first | exact nb_bi | decide) ?_
        refine hP _ _ _ ?_
        have eX : itP T P = flt P := it_no hn (by omega)
        exact ⟨_, hM, hF, by rw [bi_f (fun z => by rw [eX] at z; exact absurd z flt_s)], ⟨ItS.no ht eX, sPr.rf.kp, hR.u0⟩, rfl⟩
      · refine S_aload_n (q := 38) hX dX8_isItem_37 rfl rfl ?_
        refine S_callV (ci := 8) (C := "FanTalk$Script") (T := TX8) (N := 9) (q := 41) 0 0 hX (c_X8_isDraughtItem q f T P) rfl ?hs_4 rfl u_477 u_479 us_11 u_5 u_480 ⟨by decide, by decide, rfl⟩ ⟨Nat.le_of_ble_eq_true rfl, Nat.le_of_ble_eq_true rfl⟩ ⟨Nat.le_of_ble_eq_true rfl, Nat.le_of_ble_eq_true rfl⟩ (Nat.le_of_ble_eq_true rfl) dX8_isItem_38 ?hp_4 rfl rfl rfl ?_
        case hs_4 => first | with_reducible assumption | exact ⟨_, SK.c0 hM⟩ | exact ⟨_, SK.c2 hM⟩
        case hp_4 => exact ⟨hM, hT, ht, hR, ok, hn, c34⟩
        rintro v σ sz1 ⟨μ1, hM, hF1, rfl, ⟨hi, hk, hu⟩, rfl⟩
        have hF := hF.trans hF1
        refine S_if_eq_b (q := 44) 48 hX dX8_isItem_41 rfl rfl (fun c41 => ?_) (fun c41 => ?_)
        · refine S_iconst (q := 49) (v := 0) hX dX8_isItem_48 ic_0 rfl ?_
          refine S_xret hX dX8_isItem_49 (Nat.zero_le _) (Nat.zero_le _) (by first | exact nb_bi | decide) ?_
          refine hP _ _ _ ?_
          exact ⟨_, hM, hF, by rw [bi_f c41], ⟨hi, hk, hu⟩, rfl⟩
        · refine S_iconst (q := 45) (v := 1) hX dX8_isItem_44 ic_1 rfl ?_
          refine S_goto 49 hX dX8_isItem_45 rfl ?_
          refine S_xret hX dX8_isItem_49 (Nat.zero_le _) (Nat.zero_le _) (by first | exact nb_bi | decide) ?_
          refine hP _ _ _ ?_
          exact ⟨_, hM, hF, by rw [bi_t c41], ⟨hi, hk, hu⟩, rfl⟩
    · refine S_aload_n (q := 24) hX dX8_isItem_23 rfl rfl ?_
      refine S_callV (ci := 8) (C := "FanTalk$Script") (T := TX8) (N := 9) (q := 27) 0 0 hX (c_X8_isEntryItem q f T P) rfl ?hs_5 rfl u_466 u_468 us_9 u_5 u_469 ⟨by decide, by decide, rfl⟩ ⟨Nat.le_of_ble_eq_true rfl, Nat.le_of_ble_eq_true rfl⟩ ⟨Nat.le_of_ble_eq_true rfl, Nat.le_of_ble_eq_true rfl⟩ (Nat.le_of_ble_eq_true rfl) dX8_isItem_24 ?hp_5 rfl rfl rfl ?_
      case hs_5 => first | with_reducible assumption | exact ⟨_, SK.c0 hM⟩ | exact ⟨_, SK.c2 hM⟩
      case hp_5 => exact ⟨hM, hT, ht, hR, ok, hn, c20⟩
      rintro v σ sz1 ⟨μ1, hM, hF1, rfl, ⟨hi, hk, hu⟩, rfl⟩
      have hF := hF.trans hF1
      refine S_xret hX dX8_isItem_27 (Nat.zero_le _) (Nat.zero_le _) (by first | exact nb_bi | decide) ?_
      refine hP _ _ _ ?_
      exact ⟨_, hM, hF, rfl, ⟨hi, hk, hu⟩, rfl⟩
  · refine S_aload_n (q := 10) hX dX8_isItem_9 rfl rfl ?_
    refine S_callV (ci := 8) (C := "FanTalk$Script") (T := TX8) (N := 9) (q := 13) 0 0 hX (c_X8_isCodeItem q f T P) rfl ?hs_6 rfl u_460 u_462 us_8 u_5 u_463 ⟨by decide, by decide, rfl⟩ ⟨Nat.le_of_ble_eq_true rfl, Nat.le_of_ble_eq_true rfl⟩ ⟨Nat.le_of_ble_eq_true rfl, Nat.le_of_ble_eq_true rfl⟩ (Nat.le_of_ble_eq_true rfl) dX8_isItem_10 ?hp_6 rfl rfl rfl ?_
    case hs_6 => first | with_reducible assumption | exact ⟨_, SK.c0 hM⟩ | exact ⟨_, SK.c2 hM⟩
    case hp_6 => exact ⟨hM, hT, ht, hR, ok, hn, c6⟩
    rintro v σ sz1 ⟨μ1, hM, hF1, rfl, ⟨hi, hk, hu⟩, rfl⟩
    have hF := hF.trans hF1
    refine S_xret hX dX8_isItem_13 (Nat.zero_le _) (Nat.zero_le _) (by first | exact nb_bi | decide) ?_
    refine hP _ _ _ ?_
    exact ⟨_, hM, hF, rfl, ⟨hi, hk, hu⟩, rfl⟩
theorem c_X8_fault (q : Nat) (f : MF) (T : TxT) (Cs : Nat → CodT) : CT_X8_fault [.ref q] (fun Γ σ sz => SK σ q f ∧ TxS f T ∧ U0 f) (fun Γ σ sz v σ' sz' => ∃ f', SK σ' q f' ∧ Fr q (q + 7) σ σ' ∧ (((rdP T (T.1 + 1) 0 (tk T 0, none, 0, Cs, 0)).2.2.1 = none → v = some (.int (-1)) ∧ f' 0 2 = nI (rdP T (T.1 + 1) 0 (tk T 0, none, 0, Cs, 0)).1 ∧ CdS f' (rdP T (T.1 + 1) 0 (tk T 0, none, 0, Cs, 0)).2.2.2 ∧ PsOk T (rdP T (T.1 + 1) 0 (tk T 0, none, 0, Cs, 0)).2) ∧ (∀ p, (rdP T (T.1 + 1) 0 (tk T 0, none, 0, Cs, 0)).2.2.1 = some p → v = some (.int (nI p))) ∧ f' 1 = f 1 ∧ f' 0 0 = f 0 0 ∧ U0 f') ∧ sz' = sz) := by
  refine CT.mkP rfl (Nat.le_of_ble_eq_true rfl) [_, _] rfl ?_
  intro X Γ σ sz P1 hX hpre hsz hP
  obtain ⟨hM, hT, hu⟩ := hpre
  obtain ⟨σ0, eσ0⟩ : ∃ z, z = σ := ⟨σ, rfl⟩
  rw [← eσ0] at hP
  have hF : Fr q (q + 7) σ0 σ := by rw [eσ0]; exact Fr.rf
  obtain ⟨RS, eRS⟩ : ∃ z, z = rdP T (T.1 + 1) 0 (tk T 0, none, 0, Cs, 0) := ⟨_, rfl⟩
  rw [← eRS] at hP
  have hb := hT.by
  have h250 := hT.2.1
  have l29 : ∀ (fl i p : Nat) (P : PsT) (σ : Sg) (μ : MF), T.1 < fl + P.1.2.2.2 → RS = rdP T fl i P → P.2.1 = none → P.1 = tk T p → p ≤ T.1 → PsOk T P → (P.1.2.1 ≠ 5 → i + 1 ≤ P.1.2.2.2) → i ≤ 250 → TkS μ T P.1 → CdS μ P.2.2 → μ 1 = f 1 → μ 0 0 = f 0 0 → μ 0 2 = nI i → SK σ q μ → Fr q (q + 7) σ0 σ → G X Γ P1 0 0 29 [some (.ref q), some (.int (nI i))] [] σ sz := by
    intro fl
    induction fl with
      | zero => intro i p P σ μ h1 h2 h3 h4 h5 h6; have := h6.1.2.2.2; omega
      | succ fl ih =>
        intro i p P σ μ hfu eR hn hp hp1 ok hi5 hi ht hR g1 g0 g2 hM hF
        have hTm : TxS μ T := ⟨g0.trans hT.1, h250, fun i hi => by rw [g1]; exact hT.2.2 i hi⟩
        have hatT := ok.1.2.2.2
        rw [rdP] at eR
        refine S_iload_n (q := 30) hX dX8_fault_29 rfl rfl ?_
        refine S_sipush (q := 33) (v := 250) hX dX8_fault_30 sp_250 rfl ?_
        refine S_icmp_ge (q := 36) 75 hX dX8_fault_33 rfl rfl (fun c33 => ?_) (fun c33 => ?_)
        · have h5 : P.1.2.1 = 5 := by
            rcases Nat.decEq P.1.2.1 5 with z | z
            · exfalso; have := hi5 z; rw [show (250 : Int32) = nI 250 from rfl, nI_leI (by decide) (by omega)] at c33; omega
            · exact z
          refine S_iconst (q := 76) (v := (-1)) hX dX8_fault_75 ic_m1 rfl ?_
          refine S_iret hX dX8_fault_76 (Nat.zero_le _) (Nat.zero_le _) ?_
          refine hP _ _ _ ?_
          have eR2 : RS = (i, P) := by rw [eR, if_neg (fun z => z.2 h5)]
          rw [eR2]
          exact ⟨_, hM, hF, ⟨fun _ => ⟨rfl, g2, hR, ok⟩, fun p hp => by rw [hn] at hp; exact absurd hp (fun z => nomatch z), g1, g0, hR.u0⟩, rfl⟩
        · refine S_aload_n (q := 37) hX dX8_fault_36 rfl rfl ?_
          refine S_getf (fs := ?fs_1) (v := ?v_1) (q := 40) hX u_143 fo_X8_token dX8_fault_37 ?hs_1 ?hv_1 rfl ?_
          case hs_1 => with_reducible first | exact SK.c0 hM | exact SK.c1 hM | exact SK.c2 hM | exact SK.c3 hM
          case hv_1 => rfl
          refine S_if_eq (q := 43) 75 hX dX8_fault_40 rfl rfl (fun c40 => ?_) (fun c40 => ?_)
          · have h5 : P.1.2.1 = 5 := tcl_0.mp (nI_inj (by have := tcl_le (T := T) (t := P.1); omega) (by decide) (ht.2.2.1.symm.trans c40))
            refine S_iconst (q := 76) (v := (-1)) hX dX8_fault_75 ic_m1 rfl ?_
            refine S_iret hX dX8_fault_76 (Nat.zero_le _) (Nat.zero_le _) ?_
            refine hP _ _ _ ?_
            have eR2 : RS = (i, P) := by rw [eR, if_neg (fun z => z.2 h5)]
            rw [eR2]
            exact ⟨_, hM, hF, ⟨fun _ => ⟨rfl, g2, hR, ok⟩, fun p hp => by rw [hn] at hp; exact absurd hp (fun z => nomatch z), g1, g0, hR.u0⟩, rfl⟩
          · have h5 : ¬ P.1.2.1 = 5 := fun z => c40 (by rw [ht.2.2.1, tcl_0.mpr z]; rfl)
            rw [if_pos ⟨hn, h5⟩] at eR
            have ho := itP_ok hb ok
            refine S_aload_n (q := 44) hX dX8_fault_43 rfl rfl ?_
            refine S_callV (ci := 8) (C := "FanTalk$Script") (T := TX8) (N := 9) (q := 47) 0 0 hX (c_X8_isItem q μ T P p) rfl ?hs_2 rfl u_403 u_405 us_6 u_5 u_406 ⟨by decide, by decide, rfl⟩ ⟨Nat.le_of_ble_eq_true rfl, Nat.le_of_ble_eq_true rfl⟩ ⟨Nat.le_of_ble_eq_true rfl, Nat.le_of_ble_eq_true rfl⟩ (Nat.le_of_ble_eq_true rfl) dX8_fault_44 ?hp_2 rfl rfl rfl ?_
            case hs_2 => first | with_reducible assumption | exact ⟨_, SK.c0 hM⟩ | exact ⟨_, SK.c2 hM⟩
            case hp_2 => exact ⟨hM, hTm, ht, hR, ok, hn, hp, hp1⟩
            rintro v σ sz1 ⟨μ1, hM, hF1, rfl, ⟨hi2, hk, hu⟩, rfl⟩
            have hF := hF.trans hF1
            refine S_if_ne_b (q := 50) 55 hX dX8_fault_47 rfl rfl (fun c47 => ?_) (fun c47 => ?_)
            · obtain ⟨t, t1, t2, t3, t4⟩ := hi2.1 c47
              refine S_aload_n (q := 56) hX dX8_fault_55 rfl rfl ?_
              refine S_dup (q := 57) hX dX8_fault_56 rfl rfl ?_
              refine S_getf (fs := ?fs_3) (v := ?v_3) (q := 60) hX u_141 fo_X8_items dX8_fault_57 ?hs_3 ?hv_3 rfl ?_
              case hs_3 => with_reducible first | exact SK.c0 hM | exact SK.c1 hM | exact SK.c2 hM | exact SK.c3 hM
              case hv_3 => rfl
              refine S_iconst (q := 61) (v := 1) hX dX8_fault_60 ic_1 rfl ?_
              refine S_iadd (q := 62) hX dX8_fault_61 rfl ?_
              refine S_nm (fun x62 hx62 => ?_)
              refine S_putf (fs := ?fs_4) (q := 65) hX u_141 fo_X8_items rfl rfl ?hl_4 dX8_fault_62 ?hs_4 rfl ?_
              case hs_4 => with_reducible first | exact SK.c0 hM | exact SK.c1 hM | exact SK.c2 hM | exact SK.c3 hM
              case hl_4 => exact Nat.le_of_ble_eq_true rfl
              refine S_stu (q0 := q) (j := 0) (i := 2) hM hF (by decide) rfl (fun σ μ62 e62 hM hF => ?_)
              subst hx62
              refine S_aload_n (q := 66) hX dX8_fault_65 rfl rfl ?_
              refine S_callV (ci := 8) (C := "FanTalk$Script") (T := TX8) (N := 9) (q := 69) 0 0 hX (c_X8_goOn q μ62 T t.2.2.2) rfl ?hs_5 rfl u_385 u_387 us_3 u_5 u_388 ⟨by decide, by decide, rfl⟩ ⟨Nat.le_of_ble_eq_true rfl, Nat.le_of_ble_eq_true rfl⟩ ⟨Nat.le_of_ble_eq_true rfl, Nat.le_of_ble_eq_true rfl⟩ (Nat.le_of_ble_eq_true rfl) dX8_fault_66 ?hp_5 rfl rfl rfl ?_
              case hs_5 => first | with_reducible assumption | exact ⟨_, SK.c0 hM⟩ | exact ⟨_, SK.c2 hM⟩
              case hp_5 => exact ⟨hM, ⟨by rw [e62, m2_00, if_neg (by decide), hk.2.1]; exact hTm.1, h250, fun i hi => by rw [e62, m2_o (by decide), hk.1]; exact hTm.2.2 i hi⟩, by rw [e62, m2_00, if_neg (by decide)]; exact t3.2.1, t1.2.2.2⟩
              rintro v σ sz1 ⟨μ2, hM, hF1, rfl, ⟨hpr2, ht2⟩, rfl⟩
              have hF := hF.trans hF1
              refine S_iinc (q := 72) [_, _] hX dX8_fault_69 rfl (ii_1 _) rfl (Nat.le_of_ble_eq_true rfl) rfl rfl ?_
              refine S_goto 29 hX dX8_fault_72 rfl ?_
              rw [nI_1]
              have hat2 := ho.2 c47
              have h1 := hi5 h5
              refine ih (i + 1) t.2.2.2 (itP T P) _ μ2 (by omega) eR c47 t2 t1.2.2.2 ho.1 (fun _ => by omega) (by omega) (by rw [t2]; exact ht2) ⟨t4.1.ext (fun j hj => by show μ2 _ = μ1 _; rw [hpr2.1 _ (by omega), e62, m2_o (by omega)]), by rw [hpr2.2 1 (by decide), e62, m2_00, if_neg (by decide)]; exact t4.2⟩ (by rw [hpr2.1 1 (by decide), e62, m2_o (by decide), hk.1]; exact g1) (by rw [hpr2.2 0 (by decide), e62, m2_00, if_neg (by decide), hk.2.1]; exact g0) (by rw [hpr2.2 2 (by decide), e62, m2_00, if_pos rfl, hk.2.2, g2, nI_1]) hM hF
            · obtain ⟨pf, hpf⟩ : ∃ z, (itP T P).2.1 = some z := by
                cases hh : (itP T P).2.1 with
                | none => exact absurd hh c47
                | some z => exact ⟨z, rfl⟩
              have eR2 : RS = (i + 1, itP T P) := by
                rw [eR]
                cases fl with
                | zero => rfl
                | succ fl => rw [rdP, if_neg (fun z => c47 z.1)]
              refine S_aload_n (q := 51) hX dX8_fault_50 rfl rfl ?_
              refine S_getf (fs := ?fs_6) (v := ?v_6) (q := 54) hX u_144 fo_X8_start dX8_fault_51 ?hs_6 ?hv_6 rfl ?_
              case hs_6 => with_reducible first | exact SK.c0 hM | exact SK.c1 hM | exact SK.c2 hM | exact SK.c3 hM
              case hv_6 => rfl
              refine S_iret hX dX8_fault_54 (Nat.zero_le _) (Nat.zero_le _) ?_
              refine hP _ _ _ ?_
              rw [eR2]
              exact ⟨_, hM, hF, ⟨fun z => absurd z c47, fun p hp => by rw [hi2.2 p hp], by rw [hk.1]; exact g1, by rw [hk.2.1]; exact g0, hu⟩, rfl⟩
  refine S_aload_n (q := 1) hX dX8_fault_0 rfl rfl ?_
  refine S_getf (fs := ?fs_7) (v := ?v_7) (q := 4) hX u_137 fo_X8_fresh dX8_fault_1 ?hs_7 ?hv_7 rfl ?_
  case hs_7 => with_reducible first | exact SK.c0 hM | exact SK.c1 hM | exact SK.c2 hM | exact SK.c3 hM
  case hv_7 => rfl
  refine S_iconst (q := 5) (v := 0) hX dX8_fault_4 ic_0 rfl ?_
  refine S_nm (fun x5 hx5 => ?_)
  refine S_putf (fs := ?fs_8) (q := 8) hX u_42 fo_X2_codes rfl rfl ?hl_8 dX8_fault_5 ?hs_8 rfl ?_
  case hs_8 => with_reducible first | exact SK.c0 hM | exact SK.c1 hM | exact SK.c2 hM | exact SK.c3 hM
  case hl_8 => exact Nat.le_of_ble_eq_true rfl
  refine S_stu (q0 := q) (j := 2) (i := 0) hM hF (by decide) rfl (fun σ μ5 e5 hM hF => ?_)
  subst hx5
  refine S_aload_n (q := 9) hX dX8_fault_8 rfl rfl ?_
  refine S_iconst (q := 10) (v := 0) hX dX8_fault_9 ic_0 rfl ?_
  refine S_nm (fun x10 hx10 => ?_)
  refine S_putf (fs := ?fs_9) (q := 13) hX u_139 fo_X8_draughts rfl rfl ?hl_9 dX8_fault_10 ?hs_9 rfl ?_
  case hs_9 => with_reducible first | exact SK.c0 hM | exact SK.c1 hM | exact SK.c2 hM | exact SK.c3 hM
  case hl_9 => exact Nat.le_of_ble_eq_true rfl
  refine S_stu (q0 := q) (j := 0) (i := 1) hM hF (by decide) rfl (fun σ μ10 e10 hM hF => ?_)
  subst hx10
  refine S_aload_n (q := 14) hX dX8_fault_13 rfl rfl ?_
  refine S_iconst (q := 15) (v := 0) hX dX8_fault_14 ic_0 rfl ?_
  refine S_nm (fun x15 hx15 => ?_)
  refine S_putf (fs := ?fs_10) (q := 18) hX u_141 fo_X8_items rfl rfl ?hl_10 dX8_fault_15 ?hs_10 rfl ?_
  case hs_10 => with_reducible first | exact SK.c0 hM | exact SK.c1 hM | exact SK.c2 hM | exact SK.c3 hM
  case hl_10 => exact Nat.le_of_ble_eq_true rfl
  refine S_stu (q0 := q) (j := 0) (i := 2) hM hF (by decide) rfl (fun σ μ15 e15 hM hF => ?_)
  subst hx15
  refine S_aload_n (q := 19) hX dX8_fault_18 rfl rfl ?_
  refine S_iconst (q := 20) (v := 0) hX dX8_fault_19 ic_0 rfl ?_
  refine S_nm (fun x20 hx20 => ?_)
  refine S_putf (fs := ?fs_11) (q := 23) hX u_145 fo_X8_end rfl rfl ?hl_11 dX8_fault_20 ?hs_11 rfl ?_
  case hs_11 => with_reducible first | exact SK.c0 hM | exact SK.c1 hM | exact SK.c2 hM | exact SK.c3 hM
  case hl_11 => exact Nat.le_of_ble_eq_true rfl
  refine S_stu (q0 := q) (j := 0) (i := 5) hM hF (by decide) rfl (fun σ μ20 e20 hM hF => ?_)
  subst hx20
  refine S_aload_n (q := 24) hX dX8_fault_23 rfl rfl ?_
  refine S_callV (ci := 8) (C := "FanTalk$Script") (T := TX8) (N := 9) (q := 27) 0 0 hX (c_X8_goOn q μ20 T 0) rfl ?hs_12 rfl u_385 u_387 us_3 u_5 u_388 ⟨by decide, by decide, rfl⟩ ⟨Nat.le_of_ble_eq_true rfl, Nat.le_of_ble_eq_true rfl⟩ ⟨Nat.le_of_ble_eq_true rfl, Nat.le_of_ble_eq_true rfl⟩ (Nat.le_of_ble_eq_true rfl) dX8_fault_24 ?hp_12 rfl rfl rfl ?_
  case hs_12 => first | with_reducible assumption | exact ⟨_, SK.c0 hM⟩ | exact ⟨_, SK.c2 hM⟩
  case hp_12 => exact ⟨hM, ⟨by rw [e20, m2_00, if_neg (by decide), e15, m2_00, if_neg (by decide), e10, m2_00, if_neg (by decide), e5, m2_o (by decide)]; exact hT.1, h250, fun i hi => by rw [e20, m2_o (by decide), e15, m2_o (by decide), e10, m2_o (by decide), e5, m2_o (by decide)]; exact hT.2.2 i hi⟩, by rw [e20, m2_00, if_pos rfl]; rfl, Nat.zero_le _⟩
  rintro v σ sz1 ⟨μ2, hM, hF1, rfl, ⟨hpr2, ht2⟩, rfl⟩
  have hF := hF.trans hF1
  refine S_iconst (q := 28) (v := 0) hX dX8_fault_27 ic_0 rfl ?_
  refine S_istore_n (q := 29) [_, _] hX dX8_fault_28 rfl (Nat.le_of_ble_eq_true rfl) rfl rfl ?_
  have o2 : ∀ j, j ≠ 0 → j ≠ 2 → μ2 j = f j := fun j a b => by rw [hpr2.1 j a, e20, m2_o a, e15, m2_o a, e10, m2_o a, e5, m2_o b]
  have o0 : ∀ i, i < 3 → μ2 0 i = μ20 0 i := fun i hi => hpr2.2 i hi
  have c2 : μ2 2 0 = nI 0 := by rw [hpr2.1 2 (by decide), e20, m2_o (by decide), e15, m2_o (by decide), e10, m2_o (by decide), e5, m2_at, if_pos ⟨rfl, rfl⟩]; rfl
  refine l29 (T.1 + 1) 0 0 (tk T 0, none, 0, Cs, 0) _ μ2 (by omega) eRS rfl rfl (Nat.zero_le _) ⟨(tk_ok hb (Nat.zero_le _)).1, fun p hp => (nomatch hp), Nat.zero_le _, fun c hc => absurd hc (Nat.not_lt_zero _), Nat.zero_le _, fun _ => Nat.zero_lt_succ 63⟩ (fun z => (tk_ok hb (Nat.zero_le _)).2.2 z) (by decide) ht2 ⟨⟨c2, fun c hc => absurd hc (Nat.not_lt_zero _), fun w hw => by show μ2 (2 + 4) w = nI 0; rw [o2 6 (by decide) (by decide)]; exact hu w hw⟩, by rw [o0 1 (by decide), e20, m2_00, if_neg (by decide), e15, m2_00, if_neg (by decide), e10, m2_00, if_pos rfl]; rfl⟩ (o2 1 (by decide) (by decide)) (by rw [o0 0 (by decide), e20, m2_00, if_neg (by decide), e15, m2_00, if_neg (by decide), e10, m2_00, if_neg (by decide), e5, m2_o (by decide)]) (by rw [o0 2 (by decide), e20, m2_00, if_neg (by decide), e15, m2_00, if_pos rfl]; rfl) hM hF
