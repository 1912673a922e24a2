/-! WHERE THE LAW BEGINS: what the tables and the Statement give at its entry; its end as the claim has it -/
theorem wk_prim {args : Array Value} {s : State} {ty : FieldType} (h : (Cond.arrayClass ty).before args s = true) : ∃ cA : ClassId, ArrOfT s cA ty ∧ s.vm.findClass ("[" ++ ty.toString) = some cA := by
  obtain ⟨cA, kA, comp, h1, h2, h3⟩ := Cond.arrayClass_spec h
  exact ⟨cA, fun n z => ⟨fun k h => (by cases h), kA, h2, comp, h3⟩, h1⟩
theorem wk_obj {args : Array Value} {s : State} {C : String} (h : (Cond.arrayOver (.object C)).before args s = true) : ∃ cA : ClassId, ArrOfT s cA (.object C) ∧ va_RA s cA (.object C) := by
  obtain ⟨comp, cA, kA, f4, -, f2, f3, f1⟩ := Cond.arrayOver_spec h
  exact ⟨cA, fun N z => ⟨(fun k h => by cases h), kA, f2, comp, f3⟩, kA, comp, f2, f3, f4, f1⟩
theorem wk_cls {args : Array Value} {s : State} (hU : ∀ w ∈ UW, w.before args s = true) (hT : ∀ w ∈ tables_1, w.before args s = true) : ∃ D : va_G, ∀ (c : Nat) (q : vw_C), clss[c]? = some q → u_Kn s q.1 q.2.1 q.2.2 (D.1 c) (D.2 c) := by
  have k0 := u_known (C := RX0) (T := TX0) (N := 9) (n := 9) hU uw_X0 (hT _ (tm2 15 rfl))
  have k1 := u_known (C := RX1) (T := TX1) (N := 9) (n := 9) hU uw_X1 (hT _ (tm1 223 rfl))
  have k2 := u_known (C := RX2) (T := TX2) (N := 5) (n := 5) hU uw_X2 (hT _ (tm1 35 rfl))
  have k3 := u_known (C := RX3) (T := TX3) (N := 9) (n := 9) hU uw_X3 (hT _ (tm1 169 rfl))
  have k4 := u_known (C := RX4) (T := TX4) (N := 9) (n := 9) hU uw_X4 (hT _ (tm1 207 rfl))
  have k5 := u_known (C := RX5) (T := TX5) (N := 9) (n := 9) hU uw_X5 (hT _ (tm1 239 rfl))
  have k6 := u_known (C := RX6) (T := TX6) (N := 2) (n := 2) hU uw_X6 (hT _ (tm1 68 rfl))
  have k8 := u_known (C := RX8) (T := TX8) (N := 9) (n := 9) hU uw_X8 (hT _ (tm1 127 rfl))
  have k9 := u_known (C := RX9) (T := TX9) (N := 10) (n := 10) hU uw_X9 (hT _ (tm1 29 rfl))
  have k10 := u_known (C := RX10) (T := TX10) (N := 2) (n := 2) hU uw_X10 (hT _ (tm2 31 rfl))
  have k11 := u_known (C := RX11) (T := TX11) (N := 11) (n := 11) hU uw_X11 (hT _ (tm1 21 rfl))
  have k12 := u_known (C := RX12) (T := TX12) (N := 17) (n := 17) hU uw_X12 (hT _ (tm4 57 rfl))
  have hc : ∀ k : Nat, ∃ x : ClassId × (Nat → Nat), ∀ q : vw_C, clss[k]? = some q → u_Kn s q.1 q.2.1 q.2.2 x.1 x.2 := by
    intro k
    match k with
    | 0 => obtain ⟨c, i, h⟩ := k0; exact ⟨(c, i), fun q hq => by cases hq; exact h⟩
    | 1 => obtain ⟨c, i, h⟩ := k1; exact ⟨(c, i), fun q hq => by cases hq; exact h⟩
    | 2 => obtain ⟨c, i, h⟩ := k2; exact ⟨(c, i), fun q hq => by cases hq; exact h⟩
    | 3 => obtain ⟨c, i, h⟩ := k3; exact ⟨(c, i), fun q hq => by cases hq; exact h⟩
    | 4 => obtain ⟨c, i, h⟩ := k4; exact ⟨(c, i), fun q hq => by cases hq; exact h⟩
    | 5 => obtain ⟨c, i, h⟩ := k5; exact ⟨(c, i), fun q hq => by cases hq; exact h⟩
    | 6 => obtain ⟨c, i, h⟩ := k6; exact ⟨(c, i), fun q hq => by cases hq; exact h⟩
    | 7 => obtain ⟨c, i, h⟩ := k2; exact ⟨(c, i), fun q hq => by cases hq; exact h⟩
    | 8 => obtain ⟨c, i, h⟩ := k8; exact ⟨(c, i), fun q hq => by cases hq; exact h⟩
    | 9 => obtain ⟨c, i, h⟩ := k9; exact ⟨(c, i), fun q hq => by cases hq; exact h⟩
    | 10 => obtain ⟨c, i, h⟩ := k10; exact ⟨(c, i), fun q hq => by cases hq; exact h⟩
    | 11 => obtain ⟨c, i, h⟩ := k11; exact ⟨(c, i), fun q hq => by cases hq; exact h⟩
    | 12 => obtain ⟨c, i, h⟩ := k12; exact ⟨(c, i), fun q hq => by cases hq; exact h⟩
    | k + 13 => exact ⟨(0, fun _ => 0), fun q hq => by
        have hl := (List.getElem?_eq_some_iff.mp hq).1
        have hl : k + 13 < 13 := hl
        omega⟩
  obtain ⟨dd, hd⟩ := Classical.axiomOfChoice hc
  exact ⟨(fun k => (dd k).1, fun k => (dd k).2), hd⟩
theorem wk_tys {args : Array Value} {s : State} (hT : ∀ w ∈ tables_1, w.before args s = true) : ∃ tA : Nat → ClassId, ∀ t : Nat, ArrOfT s (tA t) (kt t) ∧ va_RA s (tA t) (kt t) := by
  have ht : ∀ t : Nat, ∃ cA : ClassId, ArrOfT s cA (kt t) ∧ va_RA s cA (kt t) := by
    intro t
    match t with
    | 0 => obtain ⟨c, h1, h2⟩ := wk_prim (hT _ (tm1 66 rfl)); exact ⟨c, h1, h2⟩
    | 1 => obtain ⟨c, h1, h2⟩ := wk_prim (hT _ (tm1 166 rfl)); exact ⟨c, h1, h2⟩
    | 2 => obtain ⟨c, h1, h2⟩ := wk_prim (hT _ (tm3 8 rfl)); exact ⟨c, h1, h2⟩
    | 3 => exact wk_obj (hT _ (tm1 168 rfl))
    | 4 => exact wk_obj (hT _ (tm1 74 rfl))
    | t + 5 => exact wk_obj (hT _ (tm1 125 rfl))
  exact Classical.axiomOfChoice ht
abbrev wk_t : Nat → Term := fun i => match i with
  | 0 => .string "FanTalk$Script" 51
  | 1 => .string "FanTalk$Script" 60
  | _ => .string "FanTalk$Script" 65
theorem wk_txt {args : Array Value} {s : State} {A : Nat → Prop} (hgv : (Jvm.Cond.and given_1 narrow_1).before args s = true) (hA : ∀ a : Nat, a < s.heap.size → ¬ A a) : ∃ adK adV : Nat → Nat, vk_S 3 sLen sByt adK adV A s s.heap ∧ ∀ i : Nat, i < 3 → (wk_t i).eval args s none [] s = some (.ref (adK i)) := by
  have hs := flat_of_before _ hgv
  refine vk_Sof (args := args) (tm := wk_t) ?_ ?_ ?_ ?_ ?_ ?_ ?_ hA
  · intro i hi
    rcases (show i = 0 ∨ i = 1 ∨ i = 2 by omega) with rfl | rfl | rfl <;> decide
  · intro i hi
    rcases (show i = 0 ∨ i = 1 ∨ i = 2 by omega) with rfl | rfl | rfl <;> exact hs _ (by decide +kernel)
  · intro i hi
    rcases (show i = 0 ∨ i = 1 ∨ i = 2 by omega) with rfl | rfl | rfl <;> exact hs _ (by decide +kernel)
  · intro i hi
    rcases (show i = 0 ∨ i = 1 ∨ i = 2 by omega) with rfl | rfl | rfl <;> exact hs _ (by decide +kernel)
  · intro i hi
    rcases (show i = 0 ∨ i = 1 ∨ i = 2 by omega) with rfl | rfl | rfl <;> exact hs _ (by decide +kernel)
  · intro i hi j hj
    rcases (show i = 0 ∨ i = 1 ∨ i = 2 by omega) with rfl | rfl | rfl
    · have hj : j < 4 := hj
      rcases (show j = 0 ∨ j = 1 ∨ j = 2 ∨ j = 3 by omega) with rfl | rfl | rfl | rfl <;> exact hs _ (by decide +kernel)
    · have hj : j < 5 := hj
      rcases (show j = 0 ∨ j = 1 ∨ j = 2 ∨ j = 3 ∨ j = 4 by omega) with rfl | rfl | rfl | rfl | rfl <;> exact hs _ (by decide +kernel)
    · have hj : j < 7 := hj
      rcases (show j = 0 ∨ j = 1 ∨ j = 2 ∨ j = 3 ∨ j = 4 ∨ j = 5 ∨ j = 6 by omega) with rfl | rfl | rfl | rfl | rfl | rfl | rfl <;> exact hs _ (by decide +kernel)
  · intro i j hi hj hij
    rcases (show (i = 0 ∧ j = 1) ∨ (i = 0 ∧ j = 2) ∨ (i = 1 ∧ j = 2) ∨ (i = 1 ∧ j = 0) ∨ (i = 2 ∧ j = 0) ∨ (i = 2 ∧ j = 1) by omega) with ⟨rfl, rfl⟩ | ⟨rfl, rfl⟩ | ⟨rfl, rfl⟩ | ⟨rfl, rfl⟩ | ⟨rfl, rfl⟩ | ⟨rfl, rfl⟩
    · exact Or.inl (hs _ (by decide +kernel))
    · exact Or.inl (hs _ (by decide +kernel))
    · exact Or.inl (hs _ (by decide +kernel))
    · exact Or.inr (hs _ (by decide +kernel))
    · exact Or.inr (hs _ (by decide +kernel))
    · exact Or.inr (hs _ (by decide +kernel))
theorem wk_nest : ∀ q ∈ nestL, Cond.methodLinkNest q.1 q.2.1 q.2.2.1 q.2.2.2 ∈ tables_1 := by decide +kernel
theorem wk_cast : ∀ q ∈ castL, Cond.castable q.1 q.2 ∈ tables_1 := by decide +kernel
theorem wk_over : ∀ C ∈ aoL, Cond.arrayOver (.object C) ∈ tables_1 := by decide +kernel
theorem wk_KN {args : Array Value} {s : State} (hts : ∀ w ∈ lw_tbl, w.before args s = true) (hgv : (Jvm.Cond.and given_1 narrow_1).before args s = true) : ∃ Γ : Gm, KN Γ s ∧ Γ.2.2.2.2 = s.heap.size := by
  have hT : ∀ w ∈ tables_1, w.before args s = true := fun w hw => hts w (List.mem_append_right _ hw)
  have hU : ∀ w ∈ UW, w.before args s = true := fun w hw => z_tbl_ok hts w (UW_lw w hw)
  have hs := flat_of_before _ hgv
  obtain ⟨D, hD⟩ := wk_cls hU hT
  obtain ⟨tA, hA⟩ := wk_tys hT
  have ho : ∀ a : Nat, a < s.heap.size → ¬ (fun q : Nat => s.heap.size ≤ q) a := fun a h => Nat.not_le.mpr h
  obtain ⟨adK, adV, hS, hR⟩ := wk_txt hgv ho
  refine ⟨(D, tA, adK, adV, s.heap.size), ⟨⟨hD, ?_⟩, ⟨hS, va_Zof (hT _ (tm2 181 rfl)) (hT _ (tm1 14 rfl)) (va_eqt (hs _ (by decide +kernel))) ho, ?_⟩, vk_R.of (hT _ (tm2 167 rfl)) (hR 0 (by decide)), vk_R.of (hT _ (tm2 225 rfl)) (hR 1 (by decide)), vk_R.of (hT _ (tm2 236 rfl)) (hR 2 (by decide)), fun q hq => va_Nw.of rfl (hT _ (wk_nest q hq)), fun q hq => va_Nw.of rfl (hT _ (wk_cast q hq)), fun C hC => va_AO.of (hT _ (wk_over C hC))⟩, rfl⟩
  · intro k q hk
    have hl : k < 6 := (List.getElem?_eq_some_iff.mp hk).1
    rcases (show k = 0 ∨ k = 1 ∨ k = 2 ∨ k = 3 ∨ k = 4 ∨ k = 5 by omega) with rfl | rfl | rfl | rfl | rfl | rfl <;> cases hk <;> exact hA _
  · rcases va_Zqof (A := fun q : Nat => s.heap.size ≤ q) (hT _ (tm2 197 rfl)) (hT _ (tm1 16 rfl)) (hs (Cond.isRef (.static "jdk/internal/util/Preconditions" "SIOOBE_FORMATTER" "Ljava/util/function/BiFunction;")) (by decide +kernel)) ho with h | ⟨t, h⟩
    · exact ⟨.null, Or.inl rfl, h⟩
    · exact ⟨.ref t, Or.inr ⟨t, rfl⟩, h⟩
theorem wk_end {s t : State} {o : Outcome} {L : List Loc} {k n : Nat} (h : FrameEnd s o t L k n) (hL : ∀ q ∈ L, s.heap.size ≤ q.base) : Framed s o t [] k n := by
  obtain ⟨h1, h2, a, b, c, d, e, f⟩ := h
  refine ⟨h1, h2, a, b, c, d, e, fun x cl hx => ?_⟩
  obtain ⟨c', q1, q2, q3, q4⟩ := f x cl hx
  refine ⟨c', q1, q2, q3, fun i _ => q4 i fun hm => ?_⟩
  exact absurd (Array.getElem?_eq_some_iff.mp hx).1 (Nat.not_lt.mpr (hL _ hm))
