/-! HOW A READING GOES: pure -/
theorem hr_256 {T : TxT} (hb : ∀ i, i < T.1 → T.2 i < 256) {p : Nat} (h : hr T p < 256) : p < T.1 := by
  have := (hr_le hb p).2.1
  omega
theorem rnW_all {T : TxT} {lo hi : Nat} : ∀ f p, p ≤ rnW T lo hi f p ∧ ∀ i, p ≤ i → i < rnW T lo hi f p → lo ≤ hr T i ∧ hr T i ≤ hi := by
  intro f
  induction f with
  | zero =>
    intro p
    show p ≤ p ∧ ∀ i, p ≤ i → i < p → _
    exact ⟨Nat.le_refl _, fun i a b => by omega⟩
  | succ f ih =>
    intro p
    rw [rnW]
    by_cases h : lo ≤ hr T p ∧ hr T p ≤ hi
    · rw [if_pos h]
      have := ih (p + 1)
      refine ⟨by omega, fun i a b => ?_⟩
      by_cases hi : i = p
      · rw [hi]; exact h
      · exact this.2 i (by omega) b
    · rw [if_neg h]
      exact ⟨Nat.le_refl _, fun i a b => by omega⟩
theorem rnW_le {T : TxT} (hb : ∀ i, i < T.1 → T.2 i < 256) {lo hi f p : Nat} (hh : hi < 256) (hp : p ≤ T.1) : rnW T lo hi f p ≤ T.1 := by
  rcases Nat.lt_or_ge T.1 (rnW T lo hi f p) with q | q
  · have h1 := (rnW_all (T := T) (lo := lo) (hi := hi) f p).2 T.1 hp q
    have h2 := hr_256 hb (p := T.1) (by omega)
    omega
  · exact q
theorem skp_all {T : TxT} : ∀ f p, p ≤ skp T f p ∧ ∀ i, p ≤ i → i < skp T f p → hr T i = 32 := by
  intro f
  induction f with
  | zero =>
    intro p
    show p ≤ p ∧ ∀ i, p ≤ i → i < p → _
    exact ⟨Nat.le_refl _, fun i a b => by omega⟩
  | succ f ih =>
    intro p
    rw [skp]
    by_cases h : hr T p = 32
    · rw [if_pos h]
      have := ih (p + 1)
      refine ⟨by omega, fun i a b => ?_⟩
      by_cases hi : i = p
      · rw [hi]; exact h
      · exact this.2 i (by omega) b
    · rw [if_neg h]
      exact ⟨Nat.le_refl _, fun i a b => by omega⟩
theorem skp_le {T : TxT} (hb : ∀ i, i < T.1 → T.2 i < 256) {f p : Nat} (hp : p ≤ T.1) : skp T f p ≤ T.1 := by
  rcases Nat.lt_or_ge T.1 (skp T f p) with q | q
  · have h1 := (skp_all (T := T) f p).2 T.1 hp q
    have h2 := hr_256 hb (p := T.1) (by omega)
    omega
  · exact q
theorem wrS_le (T : TxT) (p e : Nat) : wrS T p e ≤ 6 := by
  unfold wrS
  repeat (first | (split) | omega)
def tkOk (T : TxT) (t : TkT) : Prop := t.1 ≤ T.1 ∧ t.2.1 ≤ 6 ∧ t.2.2.1 ≤ 99 ∧ t.2.2.2 ≤ T.1
theorem tkA_ok {T : TxT} (hb : ∀ i, i < T.1 → T.2 i < 256) {p : Nat} (hp : p ≤ T.1) : tkOk T (tkA T p) ∧ p ≤ (tkA T p).2.2.2 ∧ ((tkA T p).2.1 ≠ 5 → p < (tkA T p).2.2.2) := by
  unfold tkA
  by_cases h1 : hr T p = 256
  · rw [if_pos h1]
    exact ⟨⟨hp, by show 5 ≤ 6; decide, Nat.zero_le _, hp⟩, Nat.le_refl _, fun q => absurd rfl q⟩
  · rw [if_neg h1]
    have hpT : p < T.1 := by have := (hr_le hb p).2.1; omega
    by_cases h2 : 97 ≤ hr T p ∧ hr T p ≤ 122
    · rw [if_pos h2]
      have h3 := (rnW_all (T := T) (lo := 97) (hi := 122) T.1 (p + 1)).1
      have h4 := rnW_le hb (lo := 97) (hi := 122) (f := T.1 + 1) (p := p) (by decide) hp
      rw [rnW_s h2] at h4 ⊢
      exact ⟨⟨hp, wrS_le _ _ _, Nat.zero_le _, h4⟩, by show p ≤ rnW T 97 122 T.1 (p + 1); omega, fun _ => h3⟩
    · rw [if_neg h2]
      by_cases h5 : 48 ≤ hr T p ∧ hr T p ≤ 57
      · rw [if_pos h5]
        have h3 := rnW_all (T := T) (lo := 48) (hi := 57) T.1 (p + 1)
        have h4 := rnW_le hb (lo := 48) (hi := 57) (f := T.1 + 1) (p := p) (by decide) hp
        rw [rnW_s h5] at h4 ⊢
        refine ⟨⟨hp, by show (if _ then 3 else 6) ≤ 6; split <;> decide, ?_, h4⟩, by show p ≤ rnW T 48 57 T.1 (p + 1); omega, fun _ => h3.1⟩
        show nuV T p _ ≤ 99
        have d0 := (hr_le hb p).2.2 hpT
        unfold nuV
        by_cases e1 : rnW T 48 57 T.1 (p + 1) = p + 1
        · rw [if_pos e1]; omega
        · rw [if_neg e1]
          by_cases e2 : rnW T 48 57 T.1 (p + 1) = p + 2
          · rw [if_pos e2]
            have d1 := h3.2 (p + 1) (Nat.le_refl _) (by omega)
            have d2 := (hr_le hb (p + 1)).2.2 (by omega)
            omega
          · rw [if_neg e2]; decide
      · rw [if_neg h5]
        exact ⟨⟨hp, by show (if _ then 4 else 6) ≤ 6; split <;> decide, Nat.zero_le _, hpT⟩, Nat.le_succ _, fun _ => Nat.lt_succ_self _⟩
theorem tk_ok {T : TxT} (hb : ∀ i, i < T.1 → T.2 i < 256) {p : Nat} (hp : p ≤ T.1) : tkOk T (tk T p) ∧ p ≤ (tk T p).2.2.2 ∧ ((tk T p).2.1 ≠ 5 → p < (tk T p).2.2.2) := by
  have h := tkA_ok hb (skp_le hb (f := T.1 + 1) hp)
  have h2 := (skp_all (T := T) (T.1 + 1) p).1
  exact ⟨h.1, Nat.le_trans h2 h.2.1, fun q => Nat.lt_of_le_of_lt h2 (h.2.2 q)⟩
theorem ln_snoc {r s : Nat} (h1 : 1 ≤ ln r) (h5 : ln r ≤ 5) (hs : s < 12) : ln (12 * r + s) = ln r + 1 := by
  have hn := ln_pow (r := r) rfl h1
  have h6 : ln r = 1 ∨ ln r = 2 ∨ ln r = 3 ∨ ln r = 4 ∨ ln r = 5 := by omega
  rcases h6 with q | q | q | q | q <;> rw [q] at hn ⊢ <;> (unfold ln lnZ; repeat (first | rw [if_neg (by omega)] | rw [if_pos (by omega)]))
theorem ln_one {s : Nat} (hs : s < 12) : ln (12 + s) = 1 := by
  unfold ln lnZ
  rw [if_pos (by omega)]
/-- a reading as it can be -/
def PsOk (T : TxT) (P : PsT) : Prop := tkOk T P.1 ∧ (∀ p, P.2.1 = some p → p ≤ T.1) ∧ P.2.2.1 ≤ 3 ∧ (∀ c, c < P.2.2.1 → CodOk (P.2.2.2.1 c)) ∧ P.2.2.2.2 ≤ 99 ∧ (P.2.1 = none → P.2.2.2.2 < 64)
theorem duP_22 (T : TxT) (b : Bool) (P : PsT) : (duP T b P).2.2 = P.2.2 := by
  obtain ⟨t, f, r⟩ := P
  cases f <;> cases b <;> rfl
theorem duP_some {T : TxT} {b : Bool} {P : PsT} (h : P.2.1 ≠ none) : duP T b P = P := by
  obtain ⟨t, f, r⟩ := P
  cases f with
  | none => exact absurd rfl h
  | some q => rfl
theorem duP_t {T : TxT} {P : PsT} (h : P.2.1 = none) : duP T true P = (tk T P.1.2.2.2, none, P.2.2) := by
  obtain ⟨t, f, r⟩ := P
  have h : f = none := h
  subst h
  rfl
theorem duP_f {T : TxT} {P : PsT} (h : P.2.1 = none) : duP T false P = (P.1, some P.1.1, P.2.2) := by
  obtain ⟨t, f, r⟩ := P
  have h : f = none := h
  subst h
  rfl
theorem duP_n {T : TxT} {b : Bool} {P : PsT} (h : (duP T b P).2.1 = none) : b = true ∧ P.2.1 = none ∧ duP T b P = (tk T P.1.2.2.2, none, P.2.2) := by
  obtain ⟨t, f, r⟩ := P
  cases f with
  | some q => cases h
  | none =>
    cases b with
    | false => cases h
    | true => exact ⟨rfl, rfl, rfl⟩
theorem duP_ok {T : TxT} (hb : ∀ i, i < T.1 → T.2 i < 256) {b : Bool} {P : PsT} (h : PsOk T P) : PsOk T (duP T b P) := by
  obtain ⟨t, f, r⟩ := P
  obtain ⟨h1, h2, h3, h4, h5, h6⟩ := h
  cases f with
  | some q => exact ⟨h1, h2, h3, h4, h5, h6⟩
  | none =>
    cases b with
    | false => exact ⟨h1, fun p hp => by have hp : some t.1 = some p := hp; have hp := Option.some.inj hp; rw [← hp]; exact h1.1, h3, h4, h5, fun q => nomatch q⟩
    | true => exact ⟨(tk_ok hb h1.2.2.2).1, h2, h3, h4, h5, h6⟩
/-- behind what was due: the text has gone on -/
theorem duP_at {T : TxT} (hb : ∀ i, i < T.1 → T.2 i < 256) {b : Bool} {P : PsT} (h : PsOk T P) (hn : (duP T b P).2.1 = none) : P.1.2.2.2 ≤ (duP T b P).1.2.2.2 ∧ ((duP T b P).1.2.1 ≠ 5 → P.1.2.2.2 < (duP T b P).1.2.2.2) := by
  have h1 := (duP_n hn).2.2
  rw [h1]
  exact (tk_ok hb h.1.2.2.2).2
theorem nuB_t {P : PsT} {n : Nat} (h : nuB P n = true) : P.1.2.1 = 3 ∧ P.1.2.2.1 < n := by
  have h : (P.1.2.1 == 3 && decide (P.1.2.2.1 < n)) = true := h
  rw [Bool.and_eq_true, beq_iff_eq, decide_eq_true_eq] at h
  exact h
theorem addC_ok {C : CodT} {r w : Nat} (h : CodOk C) (h8 : C.1 < 8) (h1 : 1 ≤ ln r) (h3 : ln r ≤ 3) (hw : w < 10) : CodOk (addC C r w) := by
  refine ⟨h8, fun e he => ?_⟩
  have he : e < C.1 + 1 := he
  show 1 ≤ ln (fu C.2 C.1 (r, w) e).1 ∧ ln (fu C.2 C.1 (r, w) e).1 ≤ 3 ∧ (fu C.2 C.1 (r, w) e).1 < 2147483648 ∧ (fu C.2 C.1 (r, w) e).2 < 10
  by_cases hec : e = C.1
  · subst hec
    rw [fu_eq]
    exact ⟨h1, h3, by have := ln_lt (r := r) (by omega); show r < _; omega, hw⟩
  · rw [fu_ne hec]
    exact h.2 e (by omega)
theorem enP3_ok {T : TxT} (hb : ∀ i, i < T.1 → T.2 i < 256) {c w r : Nat} {P : PsT} (h : PsOk T P) (hold : P.2.1 = none → c < P.2.2.1 ∧ (P.2.2.2.1 c).1 < 8 ∧ w < 10 ∧ 1 ≤ ln r ∧ ln r ≤ 3) : PsOk T (enP3 T c w r P) ∧ ((enP3 T c w r P).2.1 = none → P.2.1 = none ∧ P.1.2.2.2 ≤ (enP3 T c w r P).1.2.2.2) := by
  unfold enP3
  by_cases h0 : P.2.1 = none
  · rw [if_pos h0]
    obtain ⟨b, eb⟩ : ∃ z, z = (P.1.2.1 == 4 && ! hasN (P.2.2.2.1 c) r (P.2.2.2.1 c).1) := ⟨_, rfl⟩
    rw [← eb]
    have hQ := duP_ok hb (b := b) h
    have h22 := duP_22 T b P
    by_cases hq : (duP T b P).2.1 = none
    · rw [if_pos hq]
      obtain ⟨a1, a2, a3, a4, a5⟩ := hold h0
      obtain ⟨q1, q2, q3, q4, q5, q6⟩ := hQ
      have hat := (duP_at hb h hq).1
      refine ⟨⟨q1, fun p hp => (nomatch hp), h.2.2.1, fun k hk => ?_, h.2.2.2.2.1, fun _ => h.2.2.2.2.2 h0⟩, fun _ => ⟨h0, hat⟩⟩
      show CodOk (fu P.2.2.2.1 c (addC (P.2.2.2.1 c) r w) k)
      by_cases hkc : k = c
      · subst hkc
        rw [fu_eq]
        exact addC_ok (h.2.2.2.1 k a1) a2 a4 a5 a3
      · rw [fu_ne hkc]
        exact h.2.2.2.1 k hk
    · rw [if_neg hq]
      exact ⟨hQ, fun q => absurd q hq⟩
  · rw [if_neg h0]
    exact ⟨h, fun q => absurd q h0⟩
theorem rwP_ok {T : TxT} (hb : ∀ i, i < T.1 → T.2 i < 256) : ∀ k r P, PsOk T P → (P.2.1 = none → 1 ≤ ln r ∧ ln r + k ≤ 3) → PsOk T (rwP T k (r, P)).2 ∧ (rwP T k (r, P)).2.2.2 = P.2.2 ∧ ((rwP T k (r, P)).2.2.1 = none → P.2.1 = none ∧ 1 ≤ ln (rwP T k (r, P)).1 ∧ ln (rwP T k (r, P)).1 ≤ 3 ∧ P.1.2.2.2 ≤ (rwP T k (r, P)).2.1.2.2.2) := by
  intro k
  induction k with
  | zero =>
    intro r P h hr
    exact ⟨h, rfl, fun q => by have := hr q; exact ⟨q, this.1, by show ln r ≤ 3; omega, Nat.le_refl _⟩⟩
  | succ k ih =>
    intro r P h hr
    rw [rwP]
    by_cases hc : P.2.1 = none ∧ P.1.2.1 = 3
    · rw [if_pos hc]
      have hr2 := hr hc.1
      have e1 := ih (12 * r + P.1.2.2.1) (duP T (nuB P 12) P) (duP_ok hb h) (fun q => by
        have hd := duP_n q
        have hs := (nuB_t hd.1).2
        rw [ln_snoc hr2.1 (by omega) hs]
        omega)
      refine ⟨e1.1, e1.2.1.trans (duP_22 _ _ _), fun q => ?_⟩
      have e2 := e1.2.2 q
      exact ⟨hc.1, e2.2.1, e2.2.2.1, Nat.le_trans (duP_at hb h e2.1).1 e2.2.2.2⟩
    · rw [if_neg hc]
      exact ⟨h, rfl, fun q => by have := hr q; exact ⟨q, this.1, by show ln r ≤ 3; omega, Nat.le_refl _⟩⟩
theorem enP2_ok {T : TxT} (hb : ∀ i, i < T.1 → T.2 i < 256) {c w : Nat} {P : PsT} (h : PsOk T P) (hold : P.2.1 = none → c < P.2.2.1 ∧ (P.2.2.2.1 c).1 < 8 ∧ w < 10) : PsOk T (enP2 T c w P) ∧ ((enP2 T c w P).2.1 = none → P.2.1 = none ∧ P.1.2.2.2 ≤ (enP2 T c w P).1.2.2.2) := by
  unfold enP2
  have e1 := rwP_ok hb 2 (12 + P.1.2.2.1) (duP T (nuB P 12) P) (duP_ok hb h) (fun q => by
    have hs := (nuB_t (duP_n q).1).2
    rw [ln_one hs]
    omega)
  have e22 := e1.2.1.trans (duP_22 T (nuB P 12) P)
  have e2 := enP3_ok hb (c := c) (w := w) (r := (rwP T 2 (12 + P.1.2.2.1, duP T (nuB P 12) P)).1) e1.1 (fun q => by
    have q1 := e1.2.2 q
    have q2 := hold (duP_n q1.1).2.1
    rw [e22]
    exact ⟨q2.1, q2.2.1, q2.2.2, q1.2.1, q1.2.2.1⟩)
  refine ⟨e2.1, fun q => ?_⟩
  have q1 := e2.2 q
  have q2 := e1.2.2 q1.1
  exact ⟨(duP_n q2.1).2.1, Nat.le_trans (duP_at hb h q2.1).1 (Nat.le_trans q2.2.2.2 q1.2)⟩
theorem enP1_ok {T : TxT} (hb : ∀ i, i < T.1 → T.2 i < 256) {c : Nat} {P : PsT} (h : PsOk T P) (hold : P.2.1 = none → c < P.2.2.1 ∧ (P.2.2.2.1 c).1 < 8) : PsOk T (enP1 T c P) ∧ ((enP1 T c P).2.1 = none → P.2.1 = none ∧ P.1.2.2.2 ≤ (enP1 T c P).1.2.2.2) := by
  unfold enP1
  have e1 := enP2_ok hb (c := c) (w := P.1.2.2.1) (duP_ok hb (b := nuB P 10) h) (fun q => by
    have d := duP_n q
    have q2 := hold d.2.1
    rw [duP_22]
    exact ⟨q2.1, q2.2, (nuB_t d.1).2⟩)
  refine ⟨e1.1, fun q => ?_⟩
  have q1 := e1.2 q
  exact ⟨(duP_n q1.1).2.1, Nat.le_trans (duP_at hb h q1.1).1 q1.2⟩
theorem enP_ok {T : TxT} (hb : ∀ i, i < T.1 → T.2 i < 256) {P : PsT} (h : PsOk T P) : PsOk T (enP T P) ∧ ((enP T P).2.1 = none → P.1.2.1 = 3 ∧ P.1.2.2.2 ≤ (enP T P).1.2.2.2) := by
  unfold enP
  have hbb : ∀ q : (duP T (nuB P P.2.2.1 && decide ((P.2.2.2.1 P.1.2.2.1).1 < 8)) P).2.1 = none, P.1.2.1 = 3 ∧ P.1.2.2.1 < P.2.2.1 ∧ (P.2.2.2.1 P.1.2.2.1).1 < 8 := fun q => by
    have d := (duP_n q).1
    rw [Bool.and_eq_true, decide_eq_true_eq] at d
    exact ⟨(nuB_t d.1).1, (nuB_t d.1).2, d.2⟩
  have e1 := enP1_ok hb (c := P.1.2.2.1) (duP_ok hb (b := nuB P P.2.2.1 && decide ((P.2.2.2.1 P.1.2.2.1).1 < 8)) h) (fun q => by
    rw [duP_22]
    exact (hbb q).2)
  refine ⟨e1.1, fun q => ?_⟩
  have q1 := e1.2 q
  exact ⟨(hbb q1.1).1, Nat.le_trans (duP_at hb h q1.1).1 q1.2⟩
abbrev itC (P : PsT) : Bool := (P.1.2.1 == 0 && decide (P.2.2.1 < 3)) || P.1.2.1 == 1 || P.1.2.1 == 2
theorem itC_t {P : PsT} : itC P = true ↔ ((P.1.2.1 = 0 ∧ P.2.2.1 < 3) ∨ P.1.2.1 = 1 ∨ P.1.2.1 = 2) := by
  show ((P.1.2.1 == 0 && decide (P.2.2.1 < 3)) || P.1.2.1 == 1 || P.1.2.1 == 2) = true ↔ _
  rw [Bool.or_eq_true, Bool.or_eq_true, Bool.and_eq_true, beq_iff_eq, beq_iff_eq, beq_iff_eq, decide_eq_true_eq, or_assoc]
theorem itP_ok {T : TxT} (hb : ∀ i, i < T.1 → T.2 i < 256) {P : PsT} (h : PsOk T P) : PsOk T (itP T P) ∧ ((itP T P).2.1 = none → P.1.2.2.2 < (itP T P).1.2.2.2) := by
  show PsOk T (itP2 T P.1.2.1 (duP T (itC P) P)) ∧ ((itP2 T P.1.2.1 (duP T (itC P) P)).2.1 = none → P.1.2.2.2 < (itP2 T P.1.2.1 (duP T (itC P) P)).1.2.2.2)
  have hQ := duP_ok hb (b := itC P) h
  have h22 := duP_22 T (itC P) P
  by_cases hq : (duP T (itC P) P).2.1 = none
  · have hd := duP_n hq
    have hat := duP_at hb h hq
    have hc := itC_t.mp hd.1
    obtain ⟨Q, eQ⟩ : ∃ z, z = duP T (itC P) P := ⟨_, rfl⟩
    rw [← eQ] at hQ h22 hq hat ⊢
    unfold itP2
    rw [if_neg (fun z => z hq)]
    by_cases h1 : P.1.2.1 = 1
    · rw [if_pos h1]
      have e := enP_ok hb hQ
      refine ⟨e.1, fun q => ?_⟩
      have e2 := e.2 q
      exact Nat.lt_of_lt_of_le (hat.2 (by rw [e2.1]; decide)) e2.2
    · rw [if_neg h1]
      obtain ⟨q1, q2, q3, q4, q5, q6⟩ := hQ
      by_cases h0 : P.1.2.1 = 0
      · rw [if_pos h0]
        have h3 : Q.2.2.1 < 3 := by rw [h22]; rcases hc with a | a | a <;> omega
        have hN : PsOk T (Q.1, none, Q.2.2.1 + 1, fu Q.2.2.2.1 Q.2.2.1 (0, (Q.2.2.2.1 Q.2.2.1).2), Q.2.2.2.2) := ⟨q1, fun p hp => (nomatch hp), h3, fun k hk => by
          show CodOk (fu Q.2.2.2.1 Q.2.2.1 (0, (Q.2.2.2.1 Q.2.2.1).2) k)
          have hk : k < Q.2.2.1 + 1 := hk
          by_cases hkc : k = Q.2.2.1
          · subst hkc
            rw [fu_eq]
            exact ⟨Nat.zero_le _, fun e he => absurd he (Nat.not_lt_zero _)⟩
          · rw [fu_ne hkc]
            exact q4 k (by omega), q5, fun _ => q6 hq⟩
        refine ⟨duP_ok hb hN, fun q => ?_⟩
        have hs : Q.1.2.1 = 4 := beq_iff_eq.mp (duP_n q).1
        exact Nat.lt_of_lt_of_le (hat.2 (by rw [hs]; decide)) (duP_at hb hN q).1
      · rw [if_neg h0]
        obtain ⟨R, eR⟩ : ∃ z, z = duP T (nuB Q 64) Q := ⟨_, rfl⟩
        have hR := duP_ok hb (b := nuB Q 64) (P := Q) ⟨q1, q2, q3, q4, q5, q6⟩
        have hR64 : R.2.1 = none → Q.1.2.1 = 3 ∧ Q.1.2.2.1 < 64 ∧ Q.1.2.2.2 ≤ R.1.2.2.2 := fun z => by
          rw [eR] at z ⊢
          have := nuB_t (duP_n z).1
          exact ⟨this.1, this.2, (duP_at hb ⟨q1, q2, q3, q4, q5, q6⟩ z).1⟩
        rw [← eR] at hR ⊢
        have hN : PsOk T (R.1, R.2.1, Q.2.2.1, Q.2.2.2.1, Q.1.2.2.1) := ⟨hR.1, hR.2.1, q3, q4, q1.2.2.1, fun z => (hR64 z).2.1⟩
        refine ⟨duP_ok hb hN, fun q => ?_⟩
        have hz : R.2.1 = none := (duP_n q).2.1
        have h6 := hR64 hz
        exact Nat.lt_of_lt_of_le (hat.2 (by rw [h6.1]; decide)) (Nat.le_trans h6.2.2 (duP_at hb hN q).1)
  · unfold itP2
    rw [if_pos hq]
    exact ⟨hQ, fun q => absurd q hq⟩

/-! the reference: what is due -/
def fI (f : Option Nat) : Int32 := match f with
  | none => -1
  | some p => nI p
theorem fI_n {f : Option Nat} (h : ∀ p, f = some p → p ≤ 300) : fI f = -1 ↔ f = none := by
  cases f with
  | none => exact ⟨fun _ => rfl, fun _ => rfl⟩
  | some p =>
    have := h p rfl
    refine ⟨fun q => ?_, fun q => nomatch q⟩
    have q2 := congrArg Int32.toInt (show nI p = -1 from q)
    rw [nI_toInt (by omega), show ((-1 : Int32)).toInt = -1 by decide] at q2
    omega
/-- the memory while a text is read: P, and what else was in it -/
def PsM (μ0 μ : MF) (T : TxT) (P : PsT) : Prop := (μ 0 0 = nI 1359 ∧ TxM μ T) ∧ TkM μ P.1 ∧ μ 0 6 = fI P.2.1 ∧ μ 1 (1359 + 0) = nI P.2.2.1 ∧ μ 1 (1359 + 1) = nI P.2.2.2.2 ∧ (∀ c, c < P.2.2.1 → MCode (μ 1) 1359 c (P.2.2.2.1 c)) ∧ (∀ j, j ≠ 0 → j ≠ 1 → μ j = μ0 j) ∧ (∀ i, i = 1 ∨ 6 < i → μ 0 i = μ0 0 i) ∧ ∀ i, i ≠ 1359 → i ≠ 1360 → (i < 1395 ∨ 1446 ≤ i) → μ 1 i = μ0 1 i
abbrev PR (μ0 μ : MF) (T : TxT) (P : PsT) : Prop := PsM μ0 μ T P ∧ PsOk T P
theorem PsM.tok {μ0 μ μ' : MF} {T : TxT} {P : PsT} {t : TkT} (h : PsM μ0 μ T P) (e : prs μ μ') (ht : TkM μ' t) : PsM μ0 μ' T (t, P.2) := by
  obtain ⟨⟨h0, hT⟩, h1, h2, h3, h4, h5, h6, h7, h8⟩ := h
  have e1 := e.1 1 (by decide)
  refine ⟨⟨(e.2 0 (by omega)).trans h0, hT.prs e⟩, ht, (e.2 6 (by omega)).trans h2, by rw [e1]; exact h3, by rw [e1]; exact h4, fun c hc => by rw [e1]; exact h5 c hc, fun j a b => (e.1 j a).trans (h6 j a b), fun i hi => (e.2 i (by omega)).trans (h7 i hi), fun i a b c => by rw [e1]; exact h8 i a b c⟩
theorem PsM.flt {μ0 μ : MF} {T : TxT} {P : PsT} {p : Nat} (h : PsM μ0 μ T P) (e : nI p = μ 0 3) : PsM μ0 (m2 μ 0 6 (μ 0 3)) T (P.1, some p, P.2.2) := by
  obtain ⟨⟨h0, hT⟩, h1, h2, h3, h4, h5, h6, h7, h8⟩ := h
  have g : ∀ i, i ≠ 6 → m2 μ 0 6 (μ 0 3) 0 i = μ 0 i := fun i hi => by rw [m2_00, if_neg hi]
  refine ⟨⟨(g 0 (by decide)).trans h0, hT.scr (g 1 (by decide)) (m2_o (by decide))⟩, ⟨(g 3 (by decide)).trans h1.1, (g 4 (by decide)).trans h1.2.1, (g 5 (by decide)).trans h1.2.2.1, (g 2 (by decide)).trans h1.2.2.2⟩, by rw [m2_00, if_pos rfl, ← e]; rfl, h3, h4, h5, fun j a b => (m2_o a).trans (h6 j a b), fun i hi => (g i (by omega)).trans (h7 i hi), h8⟩
theorem PsM.t300 {μ0 μ : MF} {T : TxT} {P : PsT} (h : PsM μ0 μ T P) (ok : PsOk T P) : ∀ p, P.2.1 = some p → p ≤ 300 := fun p hp => by
  have := ok.2.1 p hp
  have := h.1.2.2.1
  omega

theorem c_X12_due (m : Nat) (μ : MF) (μ0 : MF) (x : Int32) (b : Bool) (T : TxT) (P : PsT) (hx : x = bi (b = true)) : CT_X12_due [.ref m, .int x] (fun Γ σ sz => MM σ m μ ∧ PR μ0 μ T P) (fun Γ σ sz v σ' sz' => ∃ μ', MM σ' m μ' ∧ Fr m (m + 9) σ σ' ∧ v = some (.int (nI P.1.2.2.1)) ∧ PR μ0 μ' T (duP T b P) ∧ sz' = sz) := by
  refine CT.mkP rfl (Nat.le_of_ble_eq_true rfl) [_, _, _] rfl ?_
  intro X Γ σ sz P1 hX hpre hsz hP
  obtain ⟨hM, hR, ok⟩ := hpre
  have hF : Fr m (m + 9) σ σ := Fr.rf
  subst hx
  have hb := hR.1.2.by
  have hv := hR.2.1.2.2.1
  have hf := fI_n (hR.t300 ok)
  have h6 := hR.2.2.1
  have h250 := hR.1.2.2.1
  refine S_aload_n (q := 1) hX dX12_due_0 rfl rfl ?_
  refine S_getf (fs := ?fs_1) (v := ?v_1) (q := 4) hX u_791 fo_X12_value dX12_due_1 ?hs_1 ?hv_1 rfl ?_
  case hs_1 => with_reducible first | exact MM.c0 hM | exact MM.c1 hM | exact MM.c5 hM | exact MM.c6 hM | exact MM.c7 hM | exact MM.c3 hM | exact MM.c4 hM | exact MM.c8 hM | exact MM.c2 hM
  case hv_1 => rfl
  refine S_istore_n (q := 5) [_, _, _] hX dX12_due_4 rfl (Nat.le_of_ble_eq_true rfl) rfl rfl ?_
  refine S_aload_n (q := 6) hX dX12_due_5 rfl rfl ?_
  refine S_getf (fs := ?fs_2) (v := ?v_2) (q := 9) hX u_792 fo_X12_fault dX12_due_6 ?hs_2 ?hv_2 rfl ?_
  case hs_2 => with_reducible first | exact MM.c0 hM | exact MM.c1 hM | exact MM.c5 hM | exact MM.c6 hM | exact MM.c7 hM | exact MM.c3 hM | exact MM.c4 hM | exact MM.c8 hM | exact MM.c2 hM
  case hv_2 => rfl
  refine S_iconst (q := 10) (v := (-1)) hX dX12_due_9 ic_m1 rfl ?_
  refine S_icmp_ne (q := 13) 32 hX dX12_due_10 rfl rfl (fun c10 => ?_) (fun c10 => ?_)
  · have hs : P.2.1 ≠ none := fun z => c10 (by rw [h6]; exact hf.mpr z)
    refine S_iload_n (q := 33) hX dX12_due_32 rfl rfl ?_
    refine S_iret hX dX12_due_33 (Nat.zero_le _) (Nat.zero_le _) ?_
    refine hP _ _ _ ?_
    exact ⟨_, hM, hF, by rw [hv], ⟨by rw [duP_some hs]; exact hR, duP_ok hb ok⟩, rfl⟩
  · have hn : P.2.1 = none := by rw [h6] at c10; exact hf.mp c10
    refine S_iload_n (q := 14) hX dX12_due_13 rfl rfl ?_
    refine S_if_eq_b (q := 17) 24 hX dX12_due_14 rfl rfl (fun c14 => ?_) (fun c14 => ?_)
    · have hbf : b = false := by simpa using c14
      refine S_aload_n (q := 25) hX dX12_due_24 rfl rfl ?_
      refine S_aload_n (q := 26) hX dX12_due_25 rfl rfl ?_
      refine S_getf (fs := ?fs_3) (v := ?v_3) (q := 29) hX u_789 fo_X12_start dX12_due_26 ?hs_3 ?hv_3 rfl ?_
      case hs_3 => with_reducible first | exact MM.c0 hM | exact MM.c1 hM | exact MM.c5 hM | exact MM.c6 hM | exact MM.c7 hM | exact MM.c3 hM | exact MM.c4 hM | exact MM.c8 hM | exact MM.c2 hM
      case hv_3 => rfl
      refine S_nm (fun x29 hx29 => ?_)
      refine S_putf (fs := ?fs_4) (q := 32) hX u_792 fo_X12_fault rfl rfl ?hl_4 dX12_due_29 ?hs_4 rfl ?_
      case hs_4 => with_reducible first | exact MM.c0 hM | exact MM.c1 hM | exact MM.c5 hM | exact MM.c6 hM | exact MM.c7 hM | exact MM.c3 hM | exact MM.c4 hM | exact MM.c8 hM | exact MM.c2 hM
      case hl_4 => exact Nat.le_of_ble_eq_true rfl
      refine S_stu (q0 := m) (j := 0) (i := 6) hM hF (by decide) rfl (fun σ μ29 e29 hM hF => ?_)
      subst hx29
      refine S_iload_n (q := 33) hX dX12_due_32 rfl rfl ?_
      refine S_iret hX dX12_due_33 (Nat.zero_le _) (Nat.zero_le _) ?_
      refine hP _ _ _ ?_
      exact ⟨_, hM, hF, by rw [hv], ⟨by rw [hbf, duP_f hn, e29]; exact hR.flt hR.2.1.1.symm, duP_ok hb ok⟩, rfl⟩
    · have hbt : b = true := c14
      refine S_aload_n (q := 18) hX dX12_due_17 rfl rfl ?_
      refine S_callV (ci := 12) (C := "FanTalkModel") (T := TX12) (N := 17) (q := 21) 0 0 hX (c_X12_next _ μ T P.1.2.2.2) rfl ?hs_5 rfl u_917 u_919 us_38 u_12 u_920 ⟨by decide, by decide, rfl⟩ ⟨Nat.le_of_ble_eq_true rfl, Nat.le_of_ble_eq_true rfl⟩ ⟨Nat.le_of_ble_eq_true rfl, Nat.le_of_ble_eq_true rfl⟩ (Nat.le_of_ble_eq_true rfl) dX12_due_18 ?hp_5 rfl rfl rfl ?_
      case hs_5 => first | with_reducible assumption | exact ⟨_, by with_reducible assumption⟩ | exact MM.isO hM
      case hp_5 => exact ⟨hM, hR.1.2, hR.2.1.2.2.2, ok.1.2.2.2⟩
      rintro v σ sz1 ⟨μ1, hM, hF1, rfl, ⟨e1, ht⟩, rfl⟩
      have hF := hF.trans hF1
      refine S_goto 32 hX dX12_due_21 rfl ?_
      refine S_iload_n (q := 33) hX dX12_due_32 rfl rfl ?_
      refine S_iret hX dX12_due_33 (Nat.zero_le _) (Nat.zero_le _) ?_
      refine hP _ _ _ ?_
      exact ⟨_, hM, hF, by rw [hv], ⟨by rw [hbt, duP_t hn]; have := hR.tok e1 ht; rw [show P.2 = (none, P.2.2) from by rw [← hn]] at this; exact this, duP_ok hb ok⟩, rfl⟩
