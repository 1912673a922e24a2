/-! THE CLASS: readers. What a reader has learned; what was looked at -/
abbrev shR (ci q : Nat) : SH := fun j f => match j with
  | 0 => .inr (ci, [.ref (q + 1), .ref (q + 2), .int (f 0), .int (f 1), .ref (q + 3), .ref (q + 4), .ref (q + 5), .ref (q + 6), .int (f 2)])
  | 1 => ia 60 f
  | 2 => ia 60 f
  | 3 => ia 60 f
  | 4 => ia 8 f
  | 5 => ia 8 f
  | _ => ia 24 f
abbrev RK (σ : Sg) (q kd : Nat) (f : MF) : Prop := CL σ q 7 (shR (cik kd) q) f
theorem RK.c0 {σ : Sg} {q kd : Nat} {f : MF} (h : RK σ q kd f) : σ q = some (.inr (cik kd, [.ref (q + 1), .ref (q + 2), .int (f 0 0), .int (f 0 1), .ref (q + 3), .ref (q + 4), .ref (q + 5), .ref (q + 6), .int (f 0 2)])) := h 0 (by decide)
theorem RK.c1 {σ : Sg} {q kd : Nat} {f : MF} (h : RK σ q kd f) : σ (q + 1) = some (ia 60 (f 1)) := h 1 (by decide)
theorem RK.c2 {σ : Sg} {q kd : Nat} {f : MF} (h : RK σ q kd f) : σ (q + 2) = some (ia 60 (f 2)) := h 2 (by decide)
theorem RK.c3 {σ : Sg} {q kd : Nat} {f : MF} (h : RK σ q kd f) : σ (q + 3) = some (ia 60 (f 3)) := h 3 (by decide)
theorem RK.c4 {σ : Sg} {q kd : Nat} {f : MF} (h : RK σ q kd f) : σ (q + 4) = some (ia 8 (f 4)) := h 4 (by decide)
theorem RK.c5 {σ : Sg} {q kd : Nat} {f : MF} (h : RK σ q kd f) : σ (q + 5) = some (ia 8 (f 5)) := h 5 (by decide)
theorem RK.c6 {σ : Sg} {q kd : Nat} {f : MF} (h : RK σ q kd f) : σ (q + 6) = some (ia 24 (f 6)) := h 6 (by decide)
def FdC (f : MF) (C : CodT) : Prop := f 0 2 = nI C.1 ∧ ∀ e, e < C.1 → f 4 e = nI (C.2 e).2 ∧ f 5 e = nI (ln (C.2 e).1) ∧ ∀ k, k < ln (C.2 e).1 → f 6 (3 * e + k) = nI (stN (C.2 e).1 (ln (C.2 e).1) k)
theorem FdC.of {f f' : MF} {C : CodT} (h : FdC f C) (h2 : f' 0 2 = f 0 2) (h4 : f' 4 = f 4) (h5 : f' 5 = f 5) (h6 : f' 6 = f 6) : FdC f' C := by
  refine ⟨h2.trans h.1, fun e he => ?_⟩
  rw [h4, h5, h6]
  exact h.2 e he
theorem mxI (lk b i : Nat) (h1 : lk < 1000) (h2 : b + i < 1000) : (if nI lk - 1 < nI b + nI i then nI b + nI i else nI lk - 1) = nI (if lk ≤ b + i then b + i + 1 else lk) - 1 := by
  rw [nI_add]
  have e : nI lk - 1 < nI (b + i) ↔ lk ≤ b + i := by rw [lt_i, s1_toInt (by omega), nI_toInt (by omega)]; omega
  by_cases h : lk ≤ b + i
  · rw [if_pos (e.mpr h), if_pos h, s1_s]
  · rw [if_neg (fun z => h (e.mp z)), if_neg h]
/-- the choice, as an entry's number -/
def BE (C : CodT) (p : Nat × Nat) (x : Int32) : Prop := (x = -1 ∧ p.1 = 0) ∨ ∃ e, e < C.1 ∧ x = nI e ∧ p = (ln (C.2 e).1, (C.2 e).2)
theorem m1n {e : Nat} (h : e < 100) : ¬ nI e = -1 := fun z => by
  have := congrArg Int32.toInt z
  rw [nI_toInt (by omega), show ((-1 : Int32)).toInt = -1 by decide] at this
  omega
/-- what one that prefers answers -/
abbrev prf (kd : Nat) (x y : Int32) : Prop := (srt kd = true ∧ x < y) ∨ (srt kd = false ∧ y < x)
theorem prf_nI {kd a b : Nat} (ha : a < 1000) (hb : b < 1000) : prf kd (nI a) (nI b) ↔ (srt kd = true ∧ a < b) ∨ (srt kd = false ∧ b < a) := by
  show ((srt kd = true ∧ nI a < nI b) ∨ (srt kd = false ∧ nI b < nI a)) ↔ _
  rw [nI_ltI (by omega) (by omega), nI_ltI (by omega) (by omega)]
def LM (f : MF) (g : Nat → Int32) (μ : MF) (dn : List Nat) (lk : Nat) (lf : Nat → Nat) : Prop := μ 0 0 = nI lk - 1 ∧ μ 0 1 = nI dn.length ∧ μ 0 2 = f 0 2 ∧ μ 3 = g ∧ μ 4 = f 4 ∧ μ 5 = f 5 ∧ μ 6 = f 6 ∧ WL (μ 1) dn ∧ ∀ j, j < dn.length → μ 2 j = nI (lf j) - 1
theorem LM.fd {f μ : MF} {g : Nat → Int32} {dn : List Nat} {lk : Nat} {lf : Nat → Nat} {C : CodT} (h : LM f g μ dn lk lf) (hf : FdC f C) : FdC μ C := hf.of h.2.2.1 h.2.2.2.2.1 h.2.2.2.2.2.1 h.2.2.2.2.2.2.1
theorem LM.lk {f μ μ' : MF} {g : Nat → Int32} {dn : List Nat} {lk lk' : Nat} {lf : Nat → Nat} (h : LM f g μ dn lk lf) (e : μ' = m2 μ 0 0 (nI lk' - 1)) : LM f g μ' dn lk' lf := by
  subst e
  obtain ⟨a1, a2, a3, a4, a5, a6, a7, a8, a9⟩ := h
  exact ⟨by rw [m2_00, if_pos rfl], by rw [m2_00, if_neg (by decide)]; exact a2, by rw [m2_00, if_neg (by decide)]; exact a3, a4, a5, a6, a7, a8, a9⟩
theorem LM.push {f μ μ' : MF} {g : Nat → Int32} {dn : List Nat} {lk w : Nat} {lf : Nat → Nat} (h : LM f g μ dn lk lf) (e : μ' = m2 (m2 (m2 μ 1 dn.length (nI w)) 2 dn.length (nI lk - 1)) 0 1 (nI (dn.length + 1))) : LM f g μ' (dn ++ [w]) lk (fu lf dn.length lk) := by
  subst e
  obtain ⟨a1, a2, a3, a4, a5, a6, a7, a8, a9⟩ := h
  have o : ∀ j, j ≠ 0 → j ≠ 1 → j ≠ 2 → m2 (m2 (m2 μ 1 dn.length (nI w)) 2 dn.length (nI lk - 1)) 0 1 (nI (dn.length + 1)) j = μ j := fun j x y z => by rw [m2_o x, m2_o z, m2_o y]
  have o0 : ∀ i, i ≠ 1 → m2 (m2 (m2 μ 1 dn.length (nI w)) 2 dn.length (nI lk - 1)) 0 1 (nI (dn.length + 1)) 0 i = μ 0 i := fun i x => by rw [m2_00, if_neg x, m2_o (by decide), m2_o (by decide)]
  refine ⟨(o0 0 (by decide)).trans a1, by rw [m2_00, if_pos rfl, List.length_append, List.length_singleton], (o0 2 (by decide)).trans a3, (o 3 (by decide) (by decide) (by decide)).trans a4, (o 4 (by decide) (by decide) (by decide)).trans a5, (o 5 (by decide) (by decide) (by decide)).trans a6, (o 6 (by decide) (by decide) (by decide)).trans a7, ?_, ?_⟩
  · have e1 : m2 (m2 (m2 μ 1 dn.length (nI w)) 2 dn.length (nI lk - 1)) 0 1 (nI (dn.length + 1)) 1 = upd (μ 1) dn.length (nI w) := by rw [m2_o (by decide), m2_o (by decide)]; exact m1_eq _ _ _
    rw [e1]
    exact a8.snoc
  · intro j hj
    rw [List.length_append, List.length_singleton] at hj
    rw [m2_o (by decide), m2_at]
    by_cases hjd : j = dn.length
    · rw [if_pos ⟨rfl, hjd⟩, hjd, fu_eq]
    · rw [if_neg (fun z => hjd z.2), m2_o (by decide), fu_ne hjd]
      exact a9 j (by omega)
/-- what a reader holds who has listened to a row w of n beats: the words, and that they hang on no more than what was looked at -/
def LisP (f : MF) (kd : Nat) (C : CodT) (w : Nat → Nat) (n : Nat) : Prop := FdC f C ∧ ∃ (lk : Nat) (lf : Nat → Nat), f 0 0 = nI lk - 1 ∧ lk ≤ n ∧ f 0 1 = nI (rdK kd w n C).length ∧ WL (f 1) (rdK kd w n C) ∧ (∀ j, j < (rdK kd w n C).length → f 2 j = nI (lf j) - 1 ∧ lf j ≤ n) ∧ (∀ w' : Nat → Nat, (∀ i, i < lk → w' i = w i) → rdK kd w' n C = rdK kd w n C) ∧ ∀ j, j < (rdK kd w n C).length → ∀ w' : Nat → Nat, (∀ i, i < lf j → w' i = w i) → ∃ rest, rdK kd w' n C = (rdK kd w n C).take (j + 1) ++ rest
section CALLK
variable {X : CX} {Γ : Gm} {P : PO} {k n pc q : Nat} {L : List (Option Value)} {st : List Value} {σ : Sg} {sz : Nat} {own nm : String} {cc : ByteArray} {nL : Nat} {ret : Option FieldType} {R0 : Room}
/-- a method of all readers, of whatever kind -/
theorem S_callK {kd : Nat} {y : MethodName} {cc' : ByteArray} {nL' ix b : Nat} {ret' : Option FieldType} {rm : Room} {As : List Value} {Pr : Gm → Sg → Nat → Prop} {Po : Gm → Sg → Nat → PO} {st0 : List Value} (k' n' : Nat) (hkd : kd < 5) (hX : Ok X Γ (own, nm, cc, nL, ret, R0)) (hC : CT y cc' nL' ret' rm (.ref b :: As) Pr Po) (hst : st0 = As.reverse ++ .ref b :: st) (hσ : isO σ b (cik kd)) (w1 : Cond.methodLink own ix y ∈ UW) (w6 : Cond.sameMethod y.cls y.cls y.name y.desc ∈ UW) (w2 : Cond.instanceMethod y ∈ UW) (w3 : Cond.initialized y.cls ∈ UW) (w4 : Cond.code y cc' nL' ret' ∈ UW) (v0 : Cond.selects "FanTalk$Friend" y y ∈ UW) (v1 : Cond.selects "FanTalk$Hasty" y y ∈ UW) (v2 : Cond.selects "FanTalk$Chaperone" y y ∈ UW) (v3 : Cond.selects "FanTalk$Mirror" y y ∈ UW) (v4 : Cond.selects "FanTalk$Aunt" y y ∈ UW) (hy : y.cls ≠ "java/lang/invoke/MethodHandle" ∧ y.cls ≠ "java/lang/invoke/VarHandle" ∧ (parseMethodDescriptor y.desc).map (fun d => d.parameters.length) = some As.length) (hRm : rm.frames + 1 ≤ R0.frames ∧ 8 + (nL' + 11) + rm.locals ≤ R0.locals) (hcs : k + rm.cells ≤ R0.cells ∧ n + rm.slots ≤ R0.slots) (hcat : (st.map fun v => v.category).sum ≤ 8) (hd : decode cc pc = .ok (.invokevirtual ix, 3)) (hpre : Pr Γ σ sz) (hq : pc + 3 = q) (hk' : k + rm.cells = k') (hn' : n + rm.slots = n') (kk : ∀ (v : Option Value) (σ' : Sg) (sz' : Nat), Po Γ σ sz v σ' sz' → G X Γ P k' n' q L (vst v st) σ' sz') : G X Γ P k n pc L st0 σ sz := by
  rcases (show kd = 0 ∨ kd = 1 ∨ kd = 2 ∨ kd = 3 ∨ kd = 4 by omega) with rfl | rfl | rfl | rfl | rfl
  · exact S_callU (ci := 3) (C := "FanTalk$Friend") (T := TX3) (N := 9) k' n' hX hC hst hσ rfl w1 w6 w2 w4 v0 w2 w3 w4 hy hRm hcs hcat hd hpre hq hk' hn' kk
  · exact S_callU (ci := 4) (C := "FanTalk$Hasty") (T := TX4) (N := 9) k' n' hX hC hst hσ rfl w1 w6 w2 w4 v1 w2 w3 w4 hy hRm hcs hcat hd hpre hq hk' hn' kk
  · exact S_callU (ci := 1) (C := "FanTalk$Chaperone") (T := TX1) (N := 9) k' n' hX hC hst hσ rfl w1 w6 w2 w4 v2 w2 w3 w4 hy hRm hcs hcat hd hpre hq hk' hn' kk
  · exact S_callU (ci := 5) (C := "FanTalk$Mirror") (T := TX5) (N := 9) k' n' hX hC hst hσ rfl w1 w6 w2 w4 v3 w2 w3 w4 hy hRm hcs hcat hd hpre hq hk' hn' kk
  · exact S_callU (ci := 0) (C := "FanTalk$Aunt") (T := TX0) (N := 9) k' n' hX hC hst hσ rfl w1 w6 w2 w4 v4 w2 w3 w4 hy hRm hcs hcat hd hpre hq hk' hn' kk
end CALLK

theorem sp_see {X : CX} {Γ : Gm} {P : PO} {L : List (Option Value)} {st : List Value} {σ : Sg} {sz : Nat} {q kd : Nat} {x y : Int32} {s b : Nat} (hx : x = nI s) (hy : y = nI b) (hs : s < 12) (hb : b < 60) (hkd : kd < 5) (hX : Ok X Γ (yX3_listen.cls, yX3_listen.name, cX3_listen, 7, none, { frames := 3, cells := 0, slots := 0, locals := 68 })) (hO : isO σ q (cik kd)) (hcat : (st.map fun v => v.category).sum ≤ 8) (kk : G X Γ P 0 0 40 L (.int (vw kd s b) :: st) σ sz) : G X Γ P 0 0 37 L (.int y :: .int x :: .ref q :: st) σ sz := by
  rcases (show kd = 0 ∨ kd = 1 ∨ kd = 2 ∨ kd = 3 ∨ kd = 4 by omega) with rfl | rfl | rfl | rfl | rfl
  · refine S_callU (q := 40) (ci := 3) (C := "FanTalk$Friend") (T := TX3) (N := 9) 0 0 hX (c_X3_sees_0 q x y s b hx hy) rfl ?hs_1 rfl u_548 u_551 u_549 u_566 u_550 u_549 u_6 u_566 ⟨by decide, by decide, rfl⟩ ⟨Nat.le_of_ble_eq_true rfl, Nat.le_of_ble_eq_true rfl⟩ ⟨Nat.le_of_ble_eq_true rfl, Nat.le_of_ble_eq_true rfl⟩ hcat dX3_listen_37 ?hp_1 rfl rfl rfl ?_
    case hs_1 => exact hO
    case hp_1 => exact ⟨hs, hb⟩
    rintro v σ1 sz1 ⟨rfl, rfl, rfl⟩
    exact kk
  · refine S_callU (q := 40) (ci := 4) (C := "FanTalk$Hasty") (T := TX4) (N := 9) 0 0 hX (c_X3_sees_1 q x y s b hx hy) rfl ?hs_2 rfl u_548 u_551 u_549 u_566 u_559 u_549 u_6 u_566 ⟨by decide, by decide, rfl⟩ ⟨Nat.le_of_ble_eq_true rfl, Nat.le_of_ble_eq_true rfl⟩ ⟨Nat.le_of_ble_eq_true rfl, Nat.le_of_ble_eq_true rfl⟩ hcat dX3_listen_37 ?hp_2 rfl rfl rfl ?_
    case hs_2 => exact hO
    case hp_2 => exact ⟨hs, hb⟩
    rintro v σ1 sz1 ⟨rfl, rfl, rfl⟩
    exact kk
  · refine S_callU (q := 40) (ci := 1) (C := "FanTalk$Chaperone") (T := TX1) (N := 9) 0 0 hX (c_X1_sees_2 q x y s b hx hy) rfl ?hs_3 rfl u_548 u_551 u_549 u_566 u_558 u_556 u_8 u_557 ⟨by decide, by decide, rfl⟩ ⟨Nat.le_of_ble_eq_true rfl, Nat.le_of_ble_eq_true rfl⟩ ⟨Nat.le_of_ble_eq_true rfl, Nat.le_of_ble_eq_true rfl⟩ hcat dX3_listen_37 ?hp_3 rfl rfl rfl ?_
    case hs_3 => exact hO
    case hp_3 => exact ⟨hs, hb⟩
    rintro v σ1 sz1 ⟨rfl, rfl, rfl⟩
    exact kk
  · refine S_callU (q := 40) (ci := 5) (C := "FanTalk$Mirror") (T := TX5) (N := 9) 0 0 hX (c_X5_sees_3 q x y s b hx hy) rfl ?hs_4 rfl u_548 u_551 u_549 u_566 u_560 u_561 u_9 u_562 ⟨by decide, by decide, rfl⟩ ⟨Nat.le_of_ble_eq_true rfl, Nat.le_of_ble_eq_true rfl⟩ ⟨Nat.le_of_ble_eq_true rfl, Nat.le_of_ble_eq_true rfl⟩ hcat dX3_listen_37 ?hp_4 rfl rfl rfl ?_
    case hs_4 => exact hO
    case hp_4 => exact ⟨hs, hb, hO⟩
    rintro v σ1 sz1 ⟨rfl, rfl, rfl⟩
    exact kk
  · refine S_callU (q := 40) (ci := 0) (C := "FanTalk$Aunt") (T := TX0) (N := 9) 0 0 hX (c_X0_sees_4 q x y s b hx hy) rfl ?hs_5 rfl u_548 u_551 u_549 u_566 u_552 u_553 u_10 u_554 ⟨by decide, by decide, rfl⟩ ⟨Nat.le_of_ble_eq_true rfl, Nat.le_of_ble_eq_true rfl⟩ ⟨Nat.le_of_ble_eq_true rfl, Nat.le_of_ble_eq_true rfl⟩ hcat dX3_listen_37 ?hp_5 rfl rfl rfl ?_
    case hs_5 => exact hO
    case hp_5 => exact ⟨hs, hb, hO⟩
    rintro v σ1 sz1 ⟨rfl, rfl, rfl⟩
    exact kk
theorem sp_prf {X : CX} {Γ : Gm} {P : PO} {L : List (Option Value)} {st : List Value} {σ : Sg} {sz : Nat} {q kd : Nat} {x y : Int32} (hkd : kd < 5) (hX : Ok X Γ (yX3_choice.cls, yX3_choice.name, cX3_choice, 5, some .int, { frames := 2, cells := 0, slots := 0, locals := 44 })) (hO : isO σ q (cik kd)) (hcat : (st.map fun v => v.category).sum ≤ 8) (kk : G X Γ P 0 0 59 L (.int (bi (prf kd x y)) :: st) σ sz) : G X Γ P 0 0 56 L (.int y :: .int x :: .ref q :: st) σ sz := by
  rcases (show kd = 0 ∨ kd = 1 ∨ kd = 2 ∨ kd = 3 ∨ kd = 4 by omega) with rfl | rfl | rfl | rfl | rfl
  · refine S_callU (q := 59) (ci := 3) (C := "FanTalk$Friend") (T := TX3) (N := 9) 0 0 hX (c_X3_prefers q x y) rfl ?hs_1 rfl u_578 u_581 u_579 u_588 u_580 u_579 u_6 u_588 ⟨by decide, by decide, rfl⟩ ⟨Nat.le_of_ble_eq_true rfl, Nat.le_of_ble_eq_true rfl⟩ ⟨Nat.le_of_ble_eq_true rfl, Nat.le_of_ble_eq_true rfl⟩ hcat dX3_choice_56 ?hp_1 rfl rfl rfl ?_
    case hs_1 => exact hO
    case hp_1 => trivial
    rintro v σ1 sz1 ⟨rfl, rfl, rfl⟩
    refine S_top (bi_congr ?_) kk
    exact ⟨fun z => Or.inr ⟨rfl, z⟩, fun z => z.elim (fun r => absurd r.1 (by decide)) (fun r => r.2)⟩
  · refine S_callU (q := 59) (ci := 4) (C := "FanTalk$Hasty") (T := TX4) (N := 9) 0 0 hX (c_X4_prefers q x y) rfl ?hs_2 rfl u_578 u_581 u_579 u_588 u_584 u_585 u_7 u_586 ⟨by decide, by decide, rfl⟩ ⟨Nat.le_of_ble_eq_true rfl, Nat.le_of_ble_eq_true rfl⟩ ⟨Nat.le_of_ble_eq_true rfl, Nat.le_of_ble_eq_true rfl⟩ hcat dX3_choice_56 ?hp_2 rfl rfl rfl ?_
    case hs_2 => exact hO
    case hp_2 => trivial
    rintro v σ1 sz1 ⟨rfl, rfl, rfl⟩
    refine S_top (bi_congr ?_) kk
    exact ⟨fun z => Or.inl ⟨rfl, z⟩, fun z => z.elim (fun r => r.2) (fun r => absurd r.1 (by decide))⟩
  · refine S_callU (q := 59) (ci := 1) (C := "FanTalk$Chaperone") (T := TX1) (N := 9) 0 0 hX (c_X3_prefers q x y) rfl ?hs_3 rfl u_578 u_581 u_579 u_588 u_583 u_579 u_6 u_588 ⟨by decide, by decide, rfl⟩ ⟨Nat.le_of_ble_eq_true rfl, Nat.le_of_ble_eq_true rfl⟩ ⟨Nat.le_of_ble_eq_true rfl, Nat.le_of_ble_eq_true rfl⟩ hcat dX3_choice_56 ?hp_3 rfl rfl rfl ?_
    case hs_3 => exact hO
    case hp_3 => trivial
    rintro v σ1 sz1 ⟨rfl, rfl, rfl⟩
    refine S_top (bi_congr ?_) kk
    exact ⟨fun z => Or.inr ⟨rfl, z⟩, fun z => z.elim (fun r => absurd r.1 (by decide)) (fun r => r.2)⟩
  · refine S_callU (q := 59) (ci := 5) (C := "FanTalk$Mirror") (T := TX5) (N := 9) 0 0 hX (c_X4_prefers q x y) rfl ?hs_4 rfl u_578 u_581 u_579 u_588 u_587 u_585 u_7 u_586 ⟨by decide, by decide, rfl⟩ ⟨Nat.le_of_ble_eq_true rfl, Nat.le_of_ble_eq_true rfl⟩ ⟨Nat.le_of_ble_eq_true rfl, Nat.le_of_ble_eq_true rfl⟩ hcat dX3_choice_56 ?hp_4 rfl rfl rfl ?_
    case hs_4 => exact hO
    case hp_4 => trivial
    rintro v σ1 sz1 ⟨rfl, rfl, rfl⟩
    refine S_top (bi_congr ?_) kk
    exact ⟨fun z => Or.inl ⟨rfl, z⟩, fun z => z.elim (fun r => r.2) (fun r => absurd r.1 (by decide))⟩
  · refine S_callU (q := 59) (ci := 0) (C := "FanTalk$Aunt") (T := TX0) (N := 9) 0 0 hX (c_X3_prefers q x y) rfl ?hs_5 rfl u_578 u_581 u_579 u_588 u_582 u_579 u_6 u_588 ⟨by decide, by decide, rfl⟩ ⟨Nat.le_of_ble_eq_true rfl, Nat.le_of_ble_eq_true rfl⟩ ⟨Nat.le_of_ble_eq_true rfl, Nat.le_of_ble_eq_true rfl⟩ hcat dX3_choice_56 ?hp_5 rfl rfl rfl ?_
    case hs_5 => exact hO
    case hp_5 => trivial
    rintro v σ1 sz1 ⟨rfl, rfl, rfl⟩
    refine S_top (bi_congr ?_) kk
    exact ⟨fun z => Or.inr ⟨rfl, z⟩, fun z => z.elim (fun r => absurd r.1 (by decide)) (fun r => r.2)⟩
theorem m2_id {f : MF} {j i : Nat} {x : Int32} (h : f j i = x) : f = m2 f j i x := by
  funext a b
  rw [m2_at]
  by_cases hc : a = j ∧ b = i
  · rw [if_pos hc, hc.1, hc.2]; exact h
  · rw [if_neg hc]

theorem c_X3_shows (q : Nat) (f : MF) (kd : Nat) (e b n lk : Nat) (x y : Int32) (v : Nat → Int32) (C : CodT) (hx : x = nI e) (hy : y = nI b) : CT_X3_shows [.ref q, .int x, .int y] (fun Γ σ sz => RK σ q kd f ∧ FdC f C ∧ CodOk C ∧ e < C.1 ∧ b + ln (C.2 e).1 ≤ n ∧ n ≤ 60 ∧ (∀ i, i < n → f 3 i = v i) ∧ f 0 0 = nI lk - 1 ∧ lk ≤ 60) (fun Γ σ sz v_ σ' sz' => ∃ f', RK σ' q kd f' ∧ Fr q (q + 7) σ σ' ∧ v_ = some (.int (bi (shw v n (C.2 e).1 b))) ∧ (∃ lk', f' = m2 f 0 0 (nI lk' - 1) ∧ lk ≤ lk' ∧ (lk ≤ n → lk' ≤ n) ∧ lk' ≤ 60 ∧ ∀ v' : Nat → Int32, (∀ i, i < lk' → v' i = v i) → (shw v' n (C.2 e).1 b ↔ shw v n (C.2 e).1 b)) ∧ sz' = sz) := by
  refine CT.mkP rfl (Nat.le_of_ble_eq_true rfl) [_, _, _, _] rfl ?_
  intro X Γ σ sz P hX hpre hsz hP
  obtain ⟨hM, hfd, hok, he, hbn, hn, hv, hlk, hlk60⟩ := hpre
  subst hx
  subst hy
  obtain ⟨σ0, eσ0⟩ : ∃ z, z = σ := ⟨σ, rfl⟩
  rw [← eσ0] at hP
  have hF : Fr q (q + 7) σ0 σ := by rw [eσ0]; exact Fr.rf
  have hci := cik_F kd
  have hfe := hfd.2 e he
  have hoe := hok.2 e he
  have h8 := hok.1
  have loop : ∀ (fl : Nat) (i lk1 : Nat) (σ : Sg) (μ : MF), μ = m2 f 0 0 (nI lk1 - 1) → lk ≤ lk1 → (lk ≤ n → lk1 ≤ n) → lk1 ≤ 60 → (i = 0 ∨ b + i ≤ lk1) → (∀ j, j < i → v (b + j) = nI (stN (C.2 e).1 (ln (C.2 e).1) j)) → i ≤ ln (C.2 e).1 → ln (C.2 e).1 - i < fl → RK σ q kd μ → Fr q (q + 7) σ0 σ → G X Γ P 0 0 2 [some (.ref q), some (.int (nI e)), some (.int (nI b)), some (.int (nI i))] [] σ sz := by
    intro fl
    induction fl with
    | zero =>
      rintro i lk1 σ μ eμ h1 h2 h3 h4 hm hi hfu hM hF
      exact absurd hfu (Nat.not_lt_zero _)
    | succ fl ih =>
      rintro i lk1 σ μ eμ h1 h2 h3 h4 hm hi hfu hM hF
      have hmx := mxI lk1 b i (by omega) (by omega)
      have e0 : μ 0 0 = nI lk1 - 1 := by rw [eμ, m2_00, if_pos rfl]
      have e5 : μ 5 e = nI (ln (C.2 e).1) := by rw [eμ, m2_o (by decide)]; exact hfe.2.1
      refine S_iload_n (q := 3) hX dX3_shows_2 rfl rfl ?_
      refine S_aload_n (q := 4) hX dX3_shows_3 rfl rfl ?_
      refine S_getf (fs := ?fs_1) (v := ?v_1) (q := 7) hX u_184 (fo_F_lengths hci) dX3_shows_4 ?hs_1 ?hv_1 rfl ?_
      case hs_1 => with_reducible first | exact RK.c0 hM | exact RK.c3 hM | exact RK.c1 hM | exact RK.c2 hM | exact RK.c4 hM | exact RK.c5 hM | exact RK.c6 hM
      case hv_1 => rfl
      refine S_iload_n (q := 8) hX dX3_shows_7 rfl rfl ?_
      refine S_iald (N := ?n_2) (f := ?f_2) (q := 9) hX dX3_shows_8 ?hs_2 ?hi_2 rfl ?_
      case hs_2 => with_reducible first | exact RK.c0 hM | exact RK.c3 hM | exact RK.c1 hM | exact RK.c2 hM | exact RK.c4 hM | exact RK.c5 hM | exact RK.c6 hM
      case hi_2 => exact vp_in_nI (by omega) (by decide)
      refine S_icmp_ge (q := 12) 55 hX dX3_shows_9 rfl rfl (fun c9 => ?_) (fun c9 => ?_)
      · have hge : i = ln (C.2 e).1 := by rw [nI_clamp (by omega), e5, nI_leI (by omega) (by omega)] at c9; omega
        refine S_iconst (q := 56) (v := 1) hX dX3_shows_55 ic_1 rfl ?_
        refine S_xret hX dX3_shows_56 (Nat.zero_le _) (Nat.zero_le _) (by first | exact nb_bi | decide) ?_
        refine hP _ _ _ ?_
        subst hge
        refine ⟨_, hM, hF, ?_, ⟨_, eμ, h1, h2, h3, fun v' hv' => ?_⟩, rfl⟩
        · rw [bi_t ⟨hbn, hm⟩]
        · exact ⟨fun _ => ⟨hbn, hm⟩, fun _ => ⟨hbn, fun j hj => (hv' (b + j) (by omega)).trans (hm j hj)⟩⟩
      · have hlt : i < ln (C.2 e).1 := by rw [nI_clamp (by omega), e5, nI_leI (by omega) (by omega)] at c9; omega
        refine S_aload_n (q := 13) hX dX3_shows_12 rfl rfl ?_
        refine S_aload_n (q := 14) hX dX3_shows_13 rfl rfl ?_
        refine S_getf (fs := ?fs_3) (v := ?v_3) (q := 17) hX u_178 (fo_F_looked hci) dX3_shows_14 ?hs_3 ?hv_3 rfl ?_
        case hs_3 => with_reducible first | exact RK.c0 hM | exact RK.c3 hM | exact RK.c1 hM | exact RK.c2 hM | exact RK.c4 hM | exact RK.c5 hM | exact RK.c6 hM
        case hv_3 => rfl
        refine S_iload_n (q := 18) hX dX3_shows_17 rfl rfl ?_
        refine S_iload_n (q := 19) hX dX3_shows_18 rfl rfl ?_
        refine S_iadd (q := 20) hX dX3_shows_19 rfl ?_
        refine S_max (q := 23) hX u_575 u_576 u_19 u_577 (by decide) (Nat.le_of_ble_eq_true rfl) ⟨Nat.zero_le _, Nat.zero_le _⟩ dX3_shows_20 rfl ?_
        refine S_nm (fun x23 hx23 => ?_)
        refine S_putf (fs := ?fs_4) (q := 26) hX u_178 (fo_F_looked hci) rfl rfl ?hl_4 dX3_shows_23 ?hs_4 rfl ?_
        case hs_4 => with_reducible first | exact RK.c0 hM | exact RK.c3 hM | exact RK.c1 hM | exact RK.c2 hM | exact RK.c4 hM | exact RK.c5 hM | exact RK.c6 hM
        case hl_4 => exact Nat.le_of_ble_eq_true rfl
        refine S_stu (q0 := q) (j := 0) (i := 0) hM hF (by decide) rfl (fun σ μ23 e23 hM hF => ?_)
        subst hx23
        refine S_aload_n (q := 27) hX dX3_shows_26 rfl rfl ?_
        refine S_getf (fs := ?fs_5) (v := ?v_5) (q := 30) hX u_182 (fo_F_seen hci) dX3_shows_27 ?hs_5 ?hv_5 rfl ?_
        case hs_5 => with_reducible first | exact RK.c0 hM | exact RK.c3 hM | exact RK.c1 hM | exact RK.c2 hM | exact RK.c4 hM | exact RK.c5 hM | exact RK.c6 hM
        case hv_5 => rfl
        refine S_iload_n (q := 31) hX dX3_shows_30 rfl rfl ?_
        refine S_iload_n (q := 32) hX dX3_shows_31 rfl rfl ?_
        refine S_iadd (q := 33) hX dX3_shows_32 rfl ?_
        refine S_iald (N := ?n_6) (f := ?f_6) (q := 34) hX dX3_shows_33 ?hs_6 ?hi_6 rfl ?_
        case hs_6 => with_reducible first | exact RK.c0 hM | exact RK.c3 hM | exact RK.c1 hM | exact RK.c2 hM | exact RK.c4 hM | exact RK.c5 hM | exact RK.c6 hM
        case hi_6 => rw [nI_add]; exact vp_in_nI (by omega) (by decide)
        refine S_aload_n (q := 35) hX dX3_shows_34 rfl rfl ?_
        refine S_getf (fs := ?fs_7) (v := ?v_7) (q := 38) hX u_185 (fo_F_states hci) dX3_shows_35 ?hs_7 ?hv_7 rfl ?_
        case hs_7 => with_reducible first | exact RK.c0 hM | exact RK.c3 hM | exact RK.c1 hM | exact RK.c2 hM | exact RK.c4 hM | exact RK.c5 hM | exact RK.c6 hM
        case hv_7 => rfl
        refine S_iload_n (q := 39) hX dX3_shows_38 rfl rfl ?_
        refine S_iconst (q := 40) (v := 3) hX dX3_shows_39 ic_3 rfl ?_
        refine S_imul (q := 41) hX dX3_shows_40 rfl ?_
        refine S_iload_n (q := 42) hX dX3_shows_41 rfl rfl ?_
        refine S_iadd (q := 43) hX dX3_shows_42 rfl ?_
        refine S_iald (N := ?n_8) (f := ?f_8) (q := 44) hX dX3_shows_43 ?hs_8 ?hi_8 rfl ?_
        case hs_8 => with_reducible first | exact RK.c0 hM | exact RK.c3 hM | exact RK.c1 hM | exact RK.c2 hM | exact RK.c4 hM | exact RK.c5 hM | exact RK.c6 hM
        case hi_8 => rw [i3, pk_mul, nI_add]; exact vp_in_nI (by omega) (by decide)
        refine S_icmp_eq (q := 47) 49 hX dX3_shows_44 rfl rfl (fun c44 => ?_) (fun c44 => ?_)
        · have e23x := e23
          have hmt : v (b + i) = nI (stN (C.2 e).1 (ln (C.2 e).1) i) := by
            rw [e23, m2_o (by decide), m2_o (by decide), eμ, m2_o (by decide), m2_o (by decide), nI_add, nI_clamp (by omega), hv _ (by omega), i3, pk_mul, nI_add, nI_clamp (by omega), Nat.mul_comm e 3, hfe.2.2 i hlt] at c44
            exact c44
          refine S_iinc (q := 52) [_, _, _, _] hX dX3_shows_49 rfl (ii_1 _) rfl (Nat.le_of_ble_eq_true rfl) rfl rfl ?_
          refine S_goto 2 hX dX3_shows_52 rfl ?_
          rw [e0, hmx, eμ, m2_m2] at e23x
          rw [nI_1]
          exact ih (i + 1) _ _ μ23 e23x (by split <;> omega) (fun z => by have := h2 z; split <;> omega) (by split <;> omega) (by right; split <;> omega) (fun j hj => by
            by_cases hji : j = i
            · rw [hji]; exact hmt
            · exact hm j (by omega)) (by omega) (by omega) hM hF
        · have hmt : ¬ v (b + i) = nI (stN (C.2 e).1 (ln (C.2 e).1) i) := by
            rw [e23, m2_o (by decide), m2_o (by decide), eμ, m2_o (by decide), m2_o (by decide), nI_add, nI_clamp (by omega), hv _ (by omega), i3, pk_mul, nI_add, nI_clamp (by omega), Nat.mul_comm e 3, hfe.2.2 i hlt] at c44
            exact c44
          refine S_iconst (q := 48) (v := 0) hX dX3_shows_47 ic_0 rfl ?_
          refine S_xret hX dX3_shows_48 (Nat.zero_le _) (Nat.zero_le _) (by first | exact nb_bi | decide) ?_
          refine hP _ _ _ ?_
          rw [e0, hmx, eμ, m2_m2] at e23
          refine ⟨_, hM, hF, ?_, ⟨_, e23, by split <;> omega, fun z => by have := h2 z; split <;> omega, by split <;> omega, fun v' hv' => ?_⟩, rfl⟩
          · rw [bi_f (fun z => hmt (z.2 i hlt))]
          · have e1 := hv' (b + i) (by split <;> omega)
            exact ⟨fun z => absurd (e1 ▸ z.2 i hlt) hmt, fun z => absurd (z.2 i hlt) hmt⟩
  refine S_iconst (q := 1) (v := 0) hX dX3_shows_0 ic_0 rfl ?_
  refine S_istore_n (q := 2) [_, _, _, _] hX dX3_shows_1 rfl (Nat.le_of_ble_eq_true rfl) rfl rfl ?_
  exact loop (ln (C.2 e).1 + 1) 0 lk σ f (m2_id hlk) (Nat.le_refl _) id hlk60 (Or.inl rfl) (fun j hj => absurd hj (Nat.not_lt_zero _)) (Nat.zero_le _) (by omega) hM hF
theorem c_X3_choice (q : Nat) (f : MF) (kd : Nat) (b n lk : Nat) (x y : Int32) (v : Nat → Int32) (C : CodT) (hx : x = nI b) (hy : y = nI n) : CT_X3_choice [.ref q, .int x, .int y] (fun Γ σ sz => RK σ q kd f ∧ kd < 5 ∧ FdC f C ∧ CodOk C ∧ b < n ∧ n ≤ 60 ∧ (∀ i, i < n → f 3 i = v i) ∧ f 0 0 = nI lk - 1 ∧ lk ≤ n) (fun Γ σ sz v_ σ' sz' => ∃ f', RK σ' q kd f' ∧ Fr q (q + 7) σ σ' ∧ (∃ xb, v_ = some (.int xb) ∧ BE C (chI (srt kd) v n b C.2 C.1) xb) ∧ (∃ lk', f' = m2 f 0 0 (nI lk' - 1) ∧ lk ≤ lk' ∧ lk' ≤ n ∧ ∀ v' : Nat → Int32, (∀ j, j < lk' → v' j = v j) → chI (srt kd) v' n b C.2 C.1 = chI (srt kd) v n b C.2 C.1) ∧ sz' = sz) := by
  refine CT.mkP rfl (Nat.le_of_ble_eq_true rfl) [_, _, _, _, _] rfl ?_
  intro X Γ σ sz P hX hpre hsz hP
  obtain ⟨hM, hkd, hfd, hok, hbn, hn, hv, hlk, hlkn⟩ := hpre
  subst hx
  subst hy
  obtain ⟨σ0, eσ0⟩ : ∃ z, z = σ := ⟨σ, rfl⟩
  rw [← eσ0] at hP
  have hF : Fr q (q + 7) σ0 σ := by rw [eσ0]; exact Fr.rf
  have hci := cik_F kd
  have loop : ∀ (fl : Nat) (i lk1 : Nat) (xb : Int32) (σ : Sg) (μ : MF), μ = m2 f 0 0 (nI lk1 - 1) → BE C (chI (srt kd) v n b C.2 i) xb → lk ≤ lk1 → (∀ v' : Nat → Int32, (∀ j, j < lk1 → v' j = v j) → chI (srt kd) v' n b C.2 i = chI (srt kd) v n b C.2 i) → i ≤ C.1 → C.1 - i < fl → lk1 ≤ n → RK σ q kd μ → Fr q (q + 7) σ0 σ → G X Γ P 0 0 5 [some (.ref q), some (.int (nI b)), some (.int (nI n)), some (.int xb), some (.int (nI i))] [] σ sz := by
    intro fl
    induction fl with
    | zero =>
      rintro i lk1 xb σ μ eμ hbe h1 hdet hi hfu h3 hM hF
      exact absurd hfu (Nat.not_lt_zero _)
    | succ fl ih =>
      rintro i lk1 xb σ μ eμ hbe h1 hdet hi hfu h3 hM hF
      have hfd1 : FdC μ C := hfd.of (by rw [eμ, m2_00, if_neg (by decide)]) (by rw [eμ, m2_o (by decide)]) (by rw [eμ, m2_o (by decide)]) (by rw [eμ, m2_o (by decide)])
      have e0 : μ 0 0 = nI lk1 - 1 := by rw [eμ, m2_00, if_pos rfl]
      have e3 : ∀ j, j < n → μ 3 j = v j := fun j hj => by rw [eμ, m2_o (by decide)]; exact hv j hj
      have h8 := hok.1
      refine S_iload (q := 7) hX dX3_choice_5 rfl rfl ?_
      refine S_aload_n (q := 8) hX dX3_choice_7 rfl rfl ?_
      refine S_getf (fs := ?fs_1) (v := ?v_1) (q := 11) hX u_186 (fo_F_entries hci) dX3_choice_8 ?hs_1 ?hv_1 rfl ?_
      case hs_1 => with_reducible first | exact RK.c0 hM | exact RK.c3 hM | exact RK.c1 hM | exact RK.c2 hM | exact RK.c4 hM | exact RK.c5 hM | exact RK.c6 hM
      case hv_1 => rfl
      refine S_icmp_ge (q := 14) 71 hX dX3_choice_11 rfl rfl (fun c11 => ?_) (fun c11 => ?_)
      · have hge : i = C.1 := by rw [hfd1.1, nI_leI (by omega) (by omega)] at c11; omega
        refine S_iload_n (q := 72) hX dX3_choice_71 rfl rfl ?_
        refine S_iret hX dX3_choice_72 (Nat.zero_le _) (Nat.zero_le _) ?_
        refine hP _ _ _ ?_
        subst hge
        exact ⟨_, hM, hF, ⟨_, rfl, hbe⟩, ⟨_, eμ, h1, h3, hdet⟩, rfl⟩
      · have hlt : i < C.1 := by rw [hfd1.1, nI_leI (by omega) (by omega)] at c11; omega
        have hfe := hfd1.2 i hlt
        have hoe := hok.2 i hlt
        have el : μ 5 (nI i).toNatClampNeg = nI (ln (C.2 i).1) := by rw [nI_clamp (by omega)]; exact hfe.2.1
        refine S_iload_n (q := 15) hX dX3_choice_14 rfl rfl ?_
        refine S_aload_n (q := 16) hX dX3_choice_15 rfl rfl ?_
        refine S_getf (fs := ?fs_2) (v := ?v_2) (q := 19) hX u_184 (fo_F_lengths hci) dX3_choice_16 ?hs_2 ?hv_2 rfl ?_
        case hs_2 => with_reducible first | exact RK.c0 hM | exact RK.c3 hM | exact RK.c1 hM | exact RK.c2 hM | exact RK.c4 hM | exact RK.c5 hM | exact RK.c6 hM
        case hv_2 => rfl
        refine S_iload (q := 21) hX dX3_choice_19 rfl rfl ?_
        refine S_iald (N := ?n_3) (f := ?f_3) (q := 22) hX dX3_choice_21 ?hs_3 ?hi_3 rfl ?_
        case hs_3 => with_reducible first | exact RK.c0 hM | exact RK.c3 hM | exact RK.c1 hM | exact RK.c2 hM | exact RK.c4 hM | exact RK.c5 hM | exact RK.c6 hM
        case hi_3 => exact vp_in_nI (by omega) (by decide)
        refine S_iadd (q := 23) hX dX3_choice_22 rfl ?_
        refine S_iload_n (q := 24) hX dX3_choice_23 rfl rfl ?_
        refine S_icmp_gt (q := 27) 65 hX dX3_choice_24 rfl rfl (fun c24 => ?_) (fun c24 => ?_)
        · have hbig : ¬ b + ln (C.2 i).1 ≤ n := by rw [el, nI_add, nI_ltI (by omega) (by omega)] at c24; omega
          refine S_iinc (q := 68) [_, _, _, _, _] hX dX3_choice_65 rfl (ii_1 _) rfl (Nat.le_of_ble_eq_true rfl) rfl rfl ?_
          refine S_goto 5 hX dX3_choice_68 rfl ?_
          have hNo : chI (srt kd) v n b C.2 (i + 1) = chI (srt kd) v n b C.2 i := by rw [chI, if_neg (fun z => hbig z.1.1)]
          rw [nI_1]
          refine ih (i + 1) lk1 xb _ _ eμ (by rw [hNo]; exact hbe) h1 (fun v' hv' => ?_) hlt (by omega) h3 hM hF
          rw [hNo, chI, if_neg (fun z => hbig z.1.1)]
          exact hdet v' hv'
        · have hle : b + ln (C.2 i).1 ≤ n := by rw [el, nI_add, nI_ltI (by omega) (by omega)] at c24; omega
          refine S_aload_n (q := 28) hX dX3_choice_27 rfl rfl ?_
          refine S_iload (q := 30) hX dX3_choice_28 rfl rfl ?_
          refine S_iload_n (q := 31) hX dX3_choice_30 rfl rfl ?_
          refine S_callK (q := 34) 0 0 (hkd) hX (c_X3_shows q μ kd i b n lk1 _ _ v C rfl rfl) rfl ?hs_4 u_571 u_1106 u_573 u_6 u_574 us_15 uz_6 uz_5 uz_7 uz_4 ⟨by decide, by decide, rfl⟩ ⟨Nat.le_of_ble_eq_true rfl, Nat.le_of_ble_eq_true rfl⟩ ⟨Nat.le_of_ble_eq_true rfl, Nat.le_of_ble_eq_true rfl⟩ (Nat.le_of_ble_eq_true rfl) dX3_choice_31 ?hp_4 rfl rfl rfl ?_
          case hs_4 => first | with_reducible assumption | exact ⟨_, RK.c0 hM⟩
          case hp_4 => exact ⟨hM, hfd1, hok, hlt, hle, by omega, e3, e0, by omega⟩
          rintro v_ σ sz1 ⟨μ2, hM, hF1, rfl, ⟨lk2, e2, g1, g2, g3, gd⟩, rfl⟩
          have hF := hF.trans hF1
          rw [eμ, m2_m2] at e2
          refine S_if_eq_b (q := 37) 65 hX dX3_choice_34 rfl rfl (fun c34 => ?_) (fun c34 => ?_)
          · refine S_iinc (q := 68) [_, _, _, _, _] hX dX3_choice_65 rfl (ii_1 _) rfl (Nat.le_of_ble_eq_true rfl) rfl rfl ?_
            refine S_goto 5 hX dX3_choice_68 rfl ?_
            have hNo : chI (srt kd) v n b C.2 (i + 1) = chI (srt kd) v n b C.2 i := by rw [chI, if_neg (fun z => c34 z.1)]
            rw [nI_1]
            refine ih (i + 1) lk2 xb _ _ e2 (by rw [hNo]; exact hbe) (by omega) (fun v' hv' => ?_) hlt (by omega) (g2 h3) hM hF
            rw [hNo, chI, if_neg (fun z => c34 ((gd v' hv').mp z.1))]
            exact hdet v' (fun j hj => hv' j (by omega))
          · refine S_iload_n (q := 38) hX dX3_choice_37 rfl rfl ?_
            refine S_iconst (q := 39) (v := (-1)) hX dX3_choice_38 ic_m1 rfl ?_
            refine S_icmp_eq (q := 42) 62 hX dX3_choice_39 rfl rfl (fun c39 => ?_) (fun c39 => ?_)
            · refine S_iload (q := 64) hX dX3_choice_62 rfl rfl ?_
              refine S_istore_n (q := 65) [_, _, _, _, _] hX dX3_choice_64 rfl (Nat.le_of_ble_eq_true rfl) rfl rfl ?_
              refine S_iinc (q := 68) [_, _, _, _, _] hX dX3_choice_65 rfl (ii_1 _) rfl (Nat.le_of_ble_eq_true rfl) rfl rfl ?_
              refine S_goto 5 hX dX3_choice_68 rfl ?_
              have hbet : bet (srt kd) (ln (C.2 i).1) (chI (srt kd) v n b C.2 i).1 := by
                rcases hbe with z | ⟨e', e1', e2', e3'⟩
                · exact Or.inl z.2
                · exact absurd (e2'.symm.trans c39) (m1n (by have := hok.1; omega))
              have hYes : chI (srt kd) v n b C.2 (i + 1) = (ln (C.2 i).1, (C.2 i).2) := by rw [chI, if_pos ⟨c34, hbet⟩]
              rw [nI_1]
              refine ih (i + 1) lk2 (nI i) _ _ e2 (by rw [hYes]; exact Or.inr ⟨i, hlt, rfl, rfl⟩) (by omega) (fun v' hv' => ?_) hlt (by omega) (g2 h3) hM hF
              rw [hYes, chI, hdet v' (fun j hj => hv' j (by omega)), if_pos ⟨(gd v' hv').mpr c34, hbet⟩]
            · obtain ⟨e', e1', e2', e3'⟩ : ∃ e', e' < C.1 ∧ xb = nI e' ∧ chI (srt kd) v n b C.2 i = (ln (C.2 e').1, (C.2 e').2) := by
                rcases hbe with z | z
                · exact absurd z.1 c39
                · exact z
              subst e2'
              have hoe2 := hok.2 e' e1'
              have hl2 : μ2 5 (nI i).toNatClampNeg = nI (ln (C.2 i).1) := by rw [e2, m2_o (by decide), nI_clamp (by omega)]; exact (hfd.2 i hlt).2.1
              have hl3 : μ2 5 (nI e').toNatClampNeg = nI (ln (C.2 e').1) := by rw [e2, m2_o (by decide), nI_clamp (by omega)]; exact (hfd.2 e' e1').2.1
              have hpb : prf kd (μ2 5 (nI i).toNatClampNeg) (μ2 5 (nI e').toNatClampNeg) ↔ bet (srt kd) (ln (C.2 i).1) (chI (srt kd) v n b C.2 i).1 := by
                rw [hl2, hl3, e3', prf_nI (by omega) (by omega)]
                show _ ↔ (ln (C.2 e').1 = 0 ∨ _ ∨ _)
                constructor
                · exact Or.inr
                · rintro (z | z)
                  · omega
                  · exact z
              refine S_aload_n (q := 43) hX dX3_choice_42 rfl rfl ?_
              refine S_aload_n (q := 44) hX dX3_choice_43 rfl rfl ?_
              refine S_getf (fs := ?fs_5) (v := ?v_5) (q := 47) hX u_184 (fo_F_lengths hci) dX3_choice_44 ?hs_5 ?hv_5 rfl ?_
              case hs_5 => with_reducible first | exact RK.c0 hM | exact RK.c3 hM | exact RK.c1 hM | exact RK.c2 hM | exact RK.c4 hM | exact RK.c5 hM | exact RK.c6 hM
              case hv_5 => rfl
              refine S_iload (q := 49) hX dX3_choice_47 rfl rfl ?_
              refine S_iald (N := ?n_6) (f := ?f_6) (q := 50) hX dX3_choice_49 ?hs_6 ?hi_6 rfl ?_
              case hs_6 => with_reducible first | exact RK.c0 hM | exact RK.c3 hM | exact RK.c1 hM | exact RK.c2 hM | exact RK.c4 hM | exact RK.c5 hM | exact RK.c6 hM
              case hi_6 => exact vp_in_nI (by omega) (by decide)
              refine S_aload_n (q := 51) hX dX3_choice_50 rfl rfl ?_
              refine S_getf (fs := ?fs_7) (v := ?v_7) (q := 54) hX u_184 (fo_F_lengths hci) dX3_choice_51 ?hs_7 ?hv_7 rfl ?_
              case hs_7 => with_reducible first | exact RK.c0 hM | exact RK.c3 hM | exact RK.c1 hM | exact RK.c2 hM | exact RK.c4 hM | exact RK.c5 hM | exact RK.c6 hM
              case hv_7 => rfl
              refine S_iload_n (q := 55) hX dX3_choice_54 rfl rfl ?_
              refine S_iald (N := ?n_8) (f := ?f_8) (q := 56) hX dX3_choice_55 ?hs_8 ?hi_8 rfl ?_
              case hs_8 => with_reducible first | exact RK.c0 hM | exact RK.c3 hM | exact RK.c1 hM | exact RK.c2 hM | exact RK.c4 hM | exact RK.c5 hM | exact RK.c6 hM
              case hi_8 => exact vp_in_nI (by omega) (by decide)
              refine sp_prf hkd hX ⟨_, RK.c0 hM⟩ (by decide) ?_
              refine S_if_eq_b (q := 62) 65 hX dX3_choice_59 rfl rfl (fun c59 => ?_) (fun c59 => ?_)
              · have hno := c59
                refine S_iinc (q := 68) [_, _, _, _, _] hX dX3_choice_65 rfl (ii_1 _) rfl (Nat.le_of_ble_eq_true rfl) rfl rfl ?_
                refine S_goto 5 hX dX3_choice_68 rfl ?_
                have hnb : ¬ bet (srt kd) (ln (C.2 i).1) (chI (srt kd) v n b C.2 i).1 := fun z => hno (hpb.mpr z)
                have hNo : chI (srt kd) v n b C.2 (i + 1) = chI (srt kd) v n b C.2 i := by rw [chI, if_neg (fun z => hnb z.2)]
                rw [nI_1]
                refine ih (i + 1) lk2 (nI e') _ _ e2 (by rw [hNo]; exact Or.inr ⟨e', e1', rfl, e3'⟩) (by omega) (fun v' hv' => ?_) hlt (by omega) (g2 h3) hM hF
                rw [hNo, chI, hdet v' (fun j hj => hv' j (by omega)), if_neg (fun z => hnb z.2)]
              · have hno := c59
                refine S_iload (q := 64) hX dX3_choice_62 rfl rfl ?_
                refine S_istore_n (q := 65) [_, _, _, _, _] hX dX3_choice_64 rfl (Nat.le_of_ble_eq_true rfl) rfl rfl ?_
                refine S_iinc (q := 68) [_, _, _, _, _] hX dX3_choice_65 rfl (ii_1 _) rfl (Nat.le_of_ble_eq_true rfl) rfl rfl ?_
                refine S_goto 5 hX dX3_choice_68 rfl ?_
                have hbet : bet (srt kd) (ln (C.2 i).1) (chI (srt kd) v n b C.2 i).1 := hpb.mp hno
                have hYes : chI (srt kd) v n b C.2 (i + 1) = (ln (C.2 i).1, (C.2 i).2) := by rw [chI, if_pos ⟨c34, hbet⟩]
                rw [nI_1]
                refine ih (i + 1) lk2 (nI i) _ _ e2 (by rw [hYes]; exact Or.inr ⟨i, hlt, rfl, rfl⟩) (by omega) (fun v' hv' => ?_) hlt (by omega) (g2 h3) hM hF
                rw [hYes, chI, hdet v' (fun j hj => hv' j (by omega)), if_pos ⟨(gd v' hv').mpr c34, hbet⟩]
  refine S_iconst (q := 1) (v := (-1)) hX dX3_choice_0 ic_m1 rfl ?_
  refine S_istore_n (q := 2) [_, _, _, _, _] hX dX3_choice_1 rfl (Nat.le_of_ble_eq_true rfl) rfl rfl ?_
  refine S_iconst (q := 3) (v := 0) hX dX3_choice_2 ic_0 rfl ?_
  refine S_istore (q := 5) [_, _, _, _, _] hX dX3_choice_3 rfl (Nat.le_of_ble_eq_true rfl) rfl rfl ?_
  exact loop (C.1 + 1) 0 lk (-1) σ f (m2_id hlk) (Or.inl ⟨rfl, rfl⟩) (Nat.le_refl _) (fun v' hv' => rfl) (Nat.zero_le _) (by omega) hlkn hM hF
