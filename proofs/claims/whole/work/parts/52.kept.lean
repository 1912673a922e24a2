/-! what every call keeps -/
theorem rfS_ok {S : ST} (h : StOk S) (k : Nat) : StOk (rfS S k) := h
theorem stC_ok {S : ST} {C : CtT} (h : StOk S) (hC : CtOk C) : StOk (stC S C) := ⟨hC, h.2⟩
theorem newB_ok {C : CtT} {B : BkT} (h : CtOk C) (h3 : B.1 ≤ 3) (hB : BkOk B.1 B) : CtOk (newB C B) := by
  obtain ⟨o1, o2, o3, o4, o5⟩ := h
  exact ⟨h3, hB, Nat.zero_le _, fun k hk => absurd hk (Nat.not_lt_zero _), o5⟩
theorem ok_code {S : ST} (ok : StOk S) : StOk (sp_code S).2 := by
  unfold sp_code
  split
  · exact rfS_ok ok _
  · next h =>
    obtain ⟨o1, o2, o3⟩ := id ok.1
    refine stC_ok ok (newB_ok ok.1 (by show S.1.1.1 + 1 ≤ 3; omega) ⟨rfl, fun c hc => ?_, o2.2.2⟩)
    have hc : c < S.1.1.1 + 1 := hc
    show CodOk (fu S.1.1.2.1 S.1.1.1 (0, (S.1.1.2.1 S.1.1.1).2) c)
    by_cases hcn : c = S.1.1.1
    · rw [hcn, fu_eq]; exact ⟨Nat.zero_le _, fun e he => absurd he (Nat.not_lt_zero _)⟩
    · rw [fu_ne hcn]; exact o2.2.1 c (by omega)
theorem ok_entry {S : ST} {x y z : Int32} (ok : StOk S) : StOk (sp_entry S x y z).2 := by
  unfold sp_entry
  split
  · exact rfS_ok ok _
  split
  · exact rfS_ok ok _
  split
  · exact rfS_ok ok _
  next hb _ h8 =>
    obtain ⟨o1, o2, o3⟩ := id ok.1
    have hx : okc x S.1.1.1 := Classical.byContradiction fun w => hb (Or.inl w)
    have hy : inb y 0 9 := Classical.byContradiction fun w => hb (Or.inr (Or.inl w))
    have hz : 1 ≤ lnZ z.toInt ∧ lnZ z.toInt ≤ 3 := Classical.byContradiction fun w => hb (Or.inr (Or.inr w))
    have cx := okc.ex hx
    have cy := tN_ex hy.1
    have cz := lnZ_row hz.1
    have hcx := o2.2.1 (tN x) cx.2.1
    refine stC_ok ok (newB_ok ok.1 o1 ⟨rfl, fun c hc => ?_, o2.2.2⟩)
    show CodOk (fu S.1.1.2.1 (tN x) (addC (S.1.1.2.1 (tN x)) (tN z) (tN y)) c)
    by_cases hcn : c = tN x
    · rw [hcn, fu_eq]
      exact addC_ok hcx (by have := hcx.1; omega) (by omega) (by omega) (by have := hy.2; omega)
    · rw [fu_ne hcn]; exact o2.2.1 c hc
theorem ok_told {S : ST} {x y z : Int32} (ok : StOk S) : StOk (sp_told S x y z).2 := by
  unfold sp_told; split <;> exact ok
theorem ok_draughts {S : ST} {x : Int32} (ok : StOk S) : StOk (sp_draughts S x).2 := by
  unfold sp_draughts
  split
  · exact rfS_ok ok _
  · next h =>
    have h : inb x 0 63 := Classical.not_not.mp h
    obtain ⟨o1, o2, o3, o4, o5, o6⟩ := id ok.1
    have cx := tN_ex h.1
    exact stC_ok ok ⟨o1, o2, o3, o4, by show tN x < 64; have := h.2; omega, o6⟩
theorem tyT_ok {v : Int64} : ∀ (k : Nat) (t : Nat × (Nat → Nat)), (∀ i, i < t.1 → t.2 i < 256) → ∀ i, i < (tyT v k t).1 → (tyT v k t).2 i < 256 := by
  intro k
  induction k with
  | zero => intro t h; exact h
  | succ k ih =>
    intro t h
    rw [tyT]
    refine ih _ (fun i hi => ?_)
    have hi : i < t.1 + 1 := hi
    show fu t.2 t.1 (byN v k) i < 256
    by_cases hin : i = t.1
    · rw [hin, fu_eq]; exact byN_lt v k
    · rw [fu_ne hin]; exact h i (by omega)
theorem ok_type {S : ST} {v : Int64} {x : Int32} (ok : StOk S) : StOk (sp_type S v x).2 := by
  unfold sp_type
  split
  · exact rfS_ok ok _
  split
  · exact rfS_ok ok _
  next _ h => exact ⟨ok.1, ok.2.1, by show (tyT v (tN x) S.2.2.2).1 ≤ 250; rw [tyT_len]; omega, tyT_ok _ _ ok.2.2.2⟩
theorem ok_clear {S : ST} (ok : StOk S) : StOk (sp_clear S).2 := ⟨ok.1, ok.2.1, Nat.zero_le _, fun i hi => absurd hi (Nat.not_lt_zero _)⟩
theorem ok_say {S : ST} {x : Int32} (ok : StOk S) : StOk (sp_say S x).2 := by
  unfold sp_say
  split
  · exact rfS_ok ok _
  split
  · exact rfS_ok ok _
  next h0 h1 =>
    obtain ⟨o1, o2, o3, o4, o5, o6, o7⟩ := id ok.1
    have cx := lnZ_row (x := x) (by omega)
    exact stC_ok ok ⟨o1, o2, o3, o4, o5, Or.inr ⟨by show 1 ≤ ln (tN x); omega, Classical.not_not.mp h1⟩, o7⟩
theorem ok_seen {S : ST} {x : Int32} (ok : StOk S) : StOk (sp_seen S x).2 := by unfold sp_seen; split; exact ok; split <;> exact ok
theorem ok_reads {S : ST} {x y z : Int32} (ok : StOk S) : StOk (sp_reads S x y z).2 := by unfold sp_reads; split <;> exact ok
theorem ok_otherwise {S : ST} {x y z u : Int32} (ok : StOk S) : StOk (sp_otherwise S x y z u).2 := by unfold sp_otherwise; split <;> exact ok
theorem ok_uses {S : ST} {x : Int32} (ok : StOk S) : StOk (sp_uses S x).2 := by unfold sp_uses; split <;> exact ok
theorem ok_status {S : ST} {x : Int32} (ok : StOk S) : StOk (sp_status S x).2 := by unfold sp_status; split <;> exact ok
theorem ok_count {S : ST} {x : Int32} (ok : StOk S) : StOk (sp_count S x).2 := by unfold sp_count; split <;> exact ok
theorem ok_safe {S : ST} {x : Int32} (ok : StOk S) : StOk (sp_safe S x).2 := by unfold sp_safe; split <;> exact ok
theorem ok_mayBe {S : ST} (ok : StOk S) : StOk (sp_mayBe S).2 := ok
theorem ok_heat {S : ST} {x y z u s : Int32} (ok : StOk S) : StOk (sp_heat S x y z u s).2 := by unfold sp_heat; split <;> exact ok
theorem ok_digest {S : ST} (ok : StOk S) : StOk (sp_digest S).2 := ok
theorem ok_utter {S : ST} {x : Int32} (ok : StOk S) : StOk (sp_utter S x).2 := by
  unfold sp_utter
  split
  · exact rfS_ok ok _
  · next h =>
    have hx : okc x S.1.1.1 := Classical.not_not.mp h
    have cx := okc.ex hx
    obtain ⟨o1, o2, o3, o4, o5⟩ := id ok.1
    exact stC_ok ok ⟨o1, ⟨rfl, o2.2.1, fun w hw => usL_le (u := fun _ => 0) _ _ o2.2.2 w hw⟩, psh_le o3, psh_ok o4 o2, o5⟩
theorem yrI_okk {u : Nat → Nat} {es : Nat → Nat × Nat} : ∀ n, (∀ e, e < n → 1 ≤ ln (es e).1 ∧ ln (es e).1 ≤ 3 ∧ (es e).1 < 2147483648 ∧ (es e).2 < 10) → (yrI u es n).1 ≤ n ∧ ∀ e, e < (yrI u es n).1 → 1 ≤ ln ((yrI u es n).2 e).1 ∧ ln ((yrI u es n).2 e).1 ≤ 3 ∧ ((yrI u es n).2 e).1 < 2147483648 ∧ ((yrI u es n).2 e).2 < 10 := by
  intro n
  induction n with
  | zero => intro _; exact ⟨Nat.le_refl _, fun e he => absurd he (Nat.not_lt_zero _)⟩
  | succ n ih =>
    intro h
    have h1 := ih (fun e he => h e (by omega))
    rw [yrI]
    split
    · refine ⟨by show (yrI u es n).1 + 1 ≤ n + 1; omega, fun e he => ?_⟩
      have he : e < (yrI u es n).1 + 1 := he
      show 1 ≤ ln (fu (yrI u es n).2 (yrI u es n).1 (es n) e).1 ∧ ln (fu (yrI u es n).2 (yrI u es n).1 (es n) e).1 ≤ 3 ∧ (fu (yrI u es n).2 (yrI u es n).1 (es n) e).1 < 2147483648 ∧ (fu (yrI u es n).2 (yrI u es n).1 (es n) e).2 < 10
      by_cases hen : e = (yrI u es n).1
      · rw [hen, fu_eq]; exact h n (Nat.lt_succ_self n)
      · rw [fu_ne hen]; exact h1.2 e (by omega)
    · exact ⟨by omega, h1.2⟩
theorem yrC_okk {u : Nat → Nat} {C : CodT} (h : CodOk C) : CodOk (yrC u C) := by
  have h1 := yrI_okk (u := u) (es := C.2) C.1 h.2
  exact ⟨Nat.le_trans h1.1 h.1, h1.2⟩
theorem ok_year {S : ST} (ok : StOk S) : StOk (sp_year S).2 := by
  obtain ⟨o1, o2, o3, o4, o5⟩ := id ok.1
  exact stC_ok ok ⟨o1, ⟨rfl, fun c hc => yrC_okk (o2.2.1 c hc), fun w hw => Nat.zero_le _⟩, psh_le o3, psh_ok o4 o2, o5⟩
theorem ok_undo {S : ST} (ok : StOk S) : StOk (sp_undo S).2 := by
  unfold sp_undo
  split
  · exact rfS_ok ok _
  · next h =>
    obtain ⟨o1, o2, o3, o4, o5⟩ := id ok.1
    have hb := o4 (S.1.2.1.1 - 1) (by omega)
    refine stC_ok ok ⟨by show (S.1.2.1.2 (S.1.2.1.1 - 1)).1 ≤ 3; rw [hb.1]; exact o1, ?_, by show S.1.2.1.1 - 1 ≤ 6; omega, fun k hk => ?_, o5⟩
    · show BkOk (S.1.2.1.2 (S.1.2.1.1 - 1)).1 _; rw [hb.1]; exact hb
    · have hk : k < S.1.2.1.1 - 1 := hk
      show BkOk (S.1.2.1.2 (S.1.2.1.1 - 1)).1 _; rw [hb.1]; exact o4 k (by omega)
theorem ok_want {S : ST} {x : Int32} (ok : StOk S) : StOk (sp_want S x).2 := by
  unfold sp_want
  split
  · exact rfS_ok ok _
  split
  · exact rfS_ok ok _
  next h h4 =>
    have hx : inb x 0 9 := Classical.not_not.mp h
    have cx := tN_ex hx.1
    obtain ⟨o1, o2, o3, o4, o5, o6, o7, o8, o9⟩ := id ok.1
    refine stC_ok ok ⟨o1, o2, o3, o4, o5, o6, by show S.1.2.2.2.2.1.1 + 1 ≤ 4; omega, fun k hk => ?_, o9⟩
    have hk : k < S.1.2.2.2.2.1.1 + 1 := hk
    show fu S.1.2.2.2.2.1.2 S.1.2.2.2.2.1.1 (tN x) k < 10
    by_cases hkn : k = S.1.2.2.2.2.1.1
    · rw [hkn, fu_eq]; have := hx.2; omega
    · rw [fu_ne hkn]; exact o8 k (by omega)
theorem ok_forget {S : ST} (ok : StOk S) : StOk (sp_forget S).2 := by
  obtain ⟨o1, o2, o3, o4, o5, o6, o7, o8, o9⟩ := id ok.1
  exact stC_ok ok ⟨o1, o2, o3, o4, o5, o6, Nat.zero_le _, fun k hk => absurd hk (Nat.not_lt_zero _), o9⟩
theorem ok_fact {S : ST} {x y : Int32} (ok : StOk S) : StOk (sp_fact S x y).2 := by
  unfold sp_fact
  split
  · exact rfS_ok ok _
  split
  · exact rfS_ok ok _
  next h h8 =>
    have hx : 1 ≤ lnZ x.toInt ∧ lnZ x.toInt ≤ 5 := Classical.byContradiction fun w => h (Or.inl w)
    have hy : inb y 0 9 := Classical.byContradiction fun w => h (Or.inr w)
    have cx := lnZ_row hx.1
    have cy := tN_ex hy.1
    obtain ⟨o1, o2, o3, o4, o5, o6, o7, o8, o9, o10⟩ := id ok.1
    refine stC_ok ok ⟨o1, o2, o3, o4, o5, o6, o7, o8, by show S.1.2.2.2.2.2.1 + 1 ≤ 8; omega, fun k hk => ?_⟩
    have hk : k < S.1.2.2.2.2.2.1 + 1 := hk
    show 1 ≤ ln (fu S.1.2.2.2.2.2.2 S.1.2.2.2.2.2.1 (tN x, tN y) k).1 ∧ ln (fu S.1.2.2.2.2.2.2 S.1.2.2.2.2.2.1 (tN x, tN y) k).1 ≤ 5 ∧ (fu S.1.2.2.2.2.2.2 S.1.2.2.2.2.2.1 (tN x, tN y) k).2 < 10
    by_cases hkn : k = S.1.2.2.2.2.2.1
    · rw [hkn, fu_eq]; exact ⟨by show 1 ≤ ln (tN x); omega, by show ln (tN x) ≤ 5; omega, by show tN y < 10; have := hy.2; omega⟩
    · rw [fu_ne hkn]; exact o10 k (by omega)
theorem ok_image {S : ST} {x : Int32} (ok : StOk S) : StOk (sp_image S x).2 := by
  unfold sp_image
  split
  · exact rfS_ok ok _
  · refine ⟨ok.1, fun i hi C hC => ?_, ok.2.2⟩
    have hC : fu S.2.1 (tN x) (some S.1) i = some C := hC
    by_cases hix : i = tN x
    · rw [hix, fu_eq] at hC; rw [← Option.some.inj hC]; exact ok.1
    · rw [fu_ne hix] at hC; exact ok.2.1 i hi C hC
theorem ok_from {S : ST} {x : Int32} (ok : StOk S) : StOk (sp_from S x).2 := by
  unfold sp_from
  split
  · exact rfS_ok ok _
  · next h =>
    have hx : inb x 0 1 := Classical.not_not.mp h
    have cx := tN_ex hx.1
    split
    · exact rfS_ok ok _
    · next C hC => exact stC_ok ok (ok.2.1 (tN x) (by have := hx.2; omega) C hC)
theorem ok_read {S : ST} (ok : StOk S) : StOk (sp_read S).2 := by
  have hb : ∀ i, i < S.2.2.2.1 → S.2.2.2.2 i < 256 := ok.2.2.2
  have hps : PsOk S.2.2.2 (rdAll S).2 := rdP_ok hb _ _ _ ⟨(tk_ok hb (Nat.zero_le _)).1, fun p hp => (nomatch hp), Nat.zero_le _, fun c hc => absurd hc (Nat.not_lt_zero _), Nat.zero_le _, fun _ => Nat.zero_lt_succ _⟩
  unfold sp_read
  split
  · exact ok
  · next hq =>
    obtain ⟨o1, o2, o3, o4, o5, o6⟩ := id ok.1
    exact stC_ok ok ⟨hps.2.2.1, ⟨rfl, hps.2.2.2.1, fun w hw => Nat.zero_le _⟩, Nat.zero_le _, fun k hk => absurd hk (Nat.not_lt_zero _), hps.2.2.2.2.2 hq, o6⟩
