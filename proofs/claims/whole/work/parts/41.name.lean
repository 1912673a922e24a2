/-! THE CLASS: words of a text: the JDK's String over the class's three constants -/
section JST
variable {X : CX} {Γ : Gm} {P : PO} {k n pc q : Nat} {L : List (Option Value)} {st : List Value} {σ : Sg} {sz : Nat} {own nm : String} {cc : ByteArray} {nL : Nat} {ret : Option FieldType} {R0 : Room}
theorem S_gcomp {ix : Nat} (hX : Ok X Γ (own, nm, cc, nL, ret, R0)) (hw : Cond.fieldLink own ix "java/lang/String" "COMPACT_STRINGS" "Z" ∈ UW) (hd : decode cc pc = .ok (.getstatic ix, 3)) (hq : pc + 3 = q) (kk : G X Γ P k n q L (.int 1 :: st) σ sz) : G X Γ P k n pc L st σ sz := by
  obtain ⟨p, l, e, R, s, m, args, below, meth, c⟩ := X
  obtain ⟨hx, hb, hml, hr, hR, hown, hts, hKN, hlk, hnm, hbs⟩ := hX
  subst hR
  subst hq
  intro H locs ls hP hS hl
  exact va_gets hx hb hKN.2.1.2.1 hS hown (hts _ hw) (fun _ z => z) hd (kk H locs ls hP hS hl)
theorem S_gsio {ix : Nat} (hX : Ok X Γ (own, nm, cc, nL, ret, R0)) (hw : Cond.fieldLink own ix "jdk/internal/util/Preconditions" "SIOOBE_FORMATTER" "Ljava/util/function/BiFunction;" ∈ UW) (hd : decode cc pc = .ok (.getstatic ix, 3)) (hq : pc + 3 = q) (k1 : G X Γ P k n q L (.null :: st) σ sz) (k2 : ∀ a : Nat, G X Γ P k n q L (.ref a :: st) σ sz) : G X Γ P k n pc L st σ sz := by
  obtain ⟨p, l, e, R, s, m, args, below, meth, c⟩ := X
  obtain ⟨hx, hb, hml, hr, hR, hown, hts, hKN, hlk, hnm, hbs⟩ := hX
  subst hR
  subst hq
  obtain ⟨v, hv, hZ⟩ := hKN.2.1.2.2
  intro H locs ls hP hS hl
  refine va_gets hx hb hZ hS hown (hts _ hw) (fun _ z => z) hd ?_
  rcases hv with rfl | ⟨a, rfl⟩
  · exact k1 H locs ls hP hS hl
  · exact k2 a H locs ls hP hS hl
theorem S_scod {ix j : Nat} (hj : j < 3) (hX : Ok X Γ (own, nm, cc, nL, ret, R0)) (hw : Cond.fieldLink own ix "java/lang/String" "coder" "B" ∈ UW) (hd : decode cc pc = .ok (.getfield ix, 3)) (hq : pc + 3 = q) (kk : G X Γ P k n q L (.int 0 :: st) σ sz) : G X Γ P k n pc L (.ref (Γ.2.2.1 j) :: st) σ sz := by
  obtain ⟨p, l, e, R, s, m, args, below, meth, c⟩ := X
  obtain ⟨hx, hb, hml, hr, hR, hown, hts, hKN, hlk, hnm, hbs⟩ := hX
  subst hR
  subst hq
  intro H locs ls hP hS hl
  exact vk_getf hx hb (hKN.2.1.1.1 j hj).2.1 hS hown (hts _ hw) (fun _ z => z) hd (kk H locs ls hP hS hl)
theorem S_sval {ix j : Nat} (hj : j < 3) (hX : Ok X Γ (own, nm, cc, nL, ret, R0)) (hw : Cond.fieldLink own ix "java/lang/String" "value" "[B" ∈ UW) (hd : decode cc pc = .ok (.getfield ix, 3)) (hq : pc + 3 = q) (kk : G X Γ P k n q L (.ref (Γ.2.2.2.1 j) :: st) σ sz) : G X Γ P k n pc L (.ref (Γ.2.2.1 j) :: st) σ sz := by
  obtain ⟨p, l, e, R, s, m, args, below, meth, c⟩ := X
  obtain ⟨hx, hb, hml, hr, hR, hown, hts, hKN, hlk, hnm, hbs⟩ := hX
  subst hR
  subst hq
  intro H locs ls hP hS hl
  exact vk_getf hx hb (hKN.2.1.1.1 j hj).2.2.1 hS hown (hts _ hw) (fun _ z => z) hd (kk H locs ls hP hS hl)
theorem S_slen {j : Nat} (hj : j < 3) (hX : Ok X Γ (own, nm, cc, nL, ret, R0)) (hd : decode cc pc = .ok (.arraylength, 1)) (hq : pc + 1 = q) (kk : G X Γ P k n q L (.int (nI (sLen.getD j 0)) :: st) σ sz) : G X Γ P k n pc L (.ref (Γ.2.2.2.1 j) :: st) σ sz := by
  obtain ⟨p, l, e, R, s, m, args, below, meth, c⟩ := X
  obtain ⟨hx, hb, hml, hr, hR, hown, hts, hKN, hlk, hnm, hbs⟩ := hX
  subst hR
  subst hq
  intro H locs ls hP hS hl
  exact va_tlen hx hb (hKN.2.1.1.1 j hj).2.2.2 hS rfl hd (kk H locs ls hP hS hl)
theorem S_sbal {j : Nat} {i : Int32} (hj : j < 3) (hX : Ok X Γ (own, nm, cc, nL, ret, R0)) (hin : vp_in i (sLen.getD j 0)) (hd : decode cc pc = .ok (.baload, 1)) (hq : pc + 1 = q) (kk : G X Γ P k n q L (.int ((sByt.getD j []).getD i.toNatClampNeg 0) :: st) σ sz) : G X Γ P k n pc L (.int i :: .ref (Γ.2.2.2.1 j) :: st) σ sz := by
  obtain ⟨p, l, e, R, s, m, args, below, meth, c⟩ := X
  obtain ⟨hx, hb, hml, hr, hR, hown, hts, hKN, hlk, hnm, hbs⟩ := hX
  subst hR
  subst hq
  intro H locs ls hP hS hl
  exact va_tb hx hb (hKN.2.1.1.1 j hj).2.2.2 hS hin rfl hd (kk H locs ls hP hS hl)
theorem S_callVS {y : MethodName} {cc' : ByteArray} {nL' ix j : Nat} {ret' : Option FieldType} {rm : Room} {As : List Value} {Pr : Gm → Sg → Nat → Prop} {Po : Gm → Sg → Nat → PO} {st0 : List Value} (k' n' : Nat) (hj : j < 3) (hX : Ok X Γ (own, nm, cc, nL, ret, R0)) (hC : CT y cc' nL' ret' rm (.ref (Γ.2.2.1 j) :: As) Pr Po) (hst : st0 = As.reverse ++ .ref (Γ.2.2.1 j) :: st) (w1 : Cond.methodLink own ix y ∈ UW) (w2 : Cond.instanceMethod y ∈ UW) (w5 : Cond.selects "java/lang/String" y y ∈ UW) (w3 : Cond.initialized y.cls ∈ UW) (w4 : Cond.code y cc' nL' ret' ∈ UW) (hy : y.cls ≠ "java/lang/invoke/MethodHandle" ∧ y.cls ≠ "java/lang/invoke/VarHandle" ∧ (parseMethodDescriptor y.desc).map (fun d => d.parameters.length) = some As.length) (hRm : rm.frames + 1 ≤ R0.frames ∧ 8 + (nL' + 11) + rm.locals ≤ R0.locals) (hcs : k + rm.cells ≤ R0.cells ∧ n + rm.slots ≤ R0.slots) (hcat : (st.map fun v => v.category).sum ≤ 8) (hd : decode cc pc = .ok (.invokevirtual ix, 3)) (hpre : Pr Γ σ sz) (hq : pc + 3 = q) (hk' : k + rm.cells = k') (hn' : n + rm.slots = n') (kk : ∀ (v : Option Value) (σ' : Sg) (sz' : Nat), Po Γ σ sz v σ' sz' → G X Γ P k' n' q L (vst v st) σ' sz') : G X Γ P k n pc L st0 σ sz := by
  obtain ⟨p, l, e, R, s, m, args, below, meth, c⟩ := X
  obtain ⟨hx, hb, hml, hr, hR, hown, hts, hKN, hlk, hnm, hbs⟩ := hX
  subst hR
  subst hq
  subst hk'
  subst hn'
  intro H locs ls hP hS hl
  have hcb := callB_of (R := R) (own := own) (index := ix) (y := y) As.length hts (UW_code w4) rfl rfl rfl (hts _ w3) (hts _ w1) hy hRm
  have hpr := S_pre (args2 := .ref (Γ.2.2.1 j) :: As) hP hS hKN hbs
  exact S_call_aux (va_runV (As := As) (rest := st) (C := "java/lang/String") ⟨hx, hb, hml, hown, hts⟩ (hC l Γ σ sz hpre) ⟨hcb, hts _ w2, hts _ w5⟩ ⟨hpr.1, vk_recv hKN.2.1.1 hj hS, hpr.2⟩ rfl rfl (by show ls.size = nL; rw [← hml]; exact hl.1) hst (lv_room hcat) hd hcs) hS (fun v σ' sz' H1 locs1 h1 h2 h3 => kk v σ' sz' h1 H1 locs1 ls h2 h3 hl)
end JST

def yJlength : MethodName := ⟨"java/lang/String", "length", "()I"⟩
theorem dJlength_0 : decode prog_16_method_54_code 0 = .ok (.aload_n 0, 1) := by decide +kernel
theorem dJlength_1 : decode prog_16_method_54_code 1 = .ok (.getfield 9, 3) := by decide +kernel
theorem dJlength_4 : decode prog_16_method_54_code 4 = .ok (.arraylength, 1) := by decide +kernel
theorem dJlength_5 : decode prog_16_method_54_code 5 = .ok (.aload_n 0, 1) := by decide +kernel
theorem dJlength_6 : decode prog_16_method_54_code 6 = .ok (.invokevirtual 335, 3) := by decide +kernel
theorem dJlength_9 : decode prog_16_method_54_code 9 = .ok (.ishr, 1) := by decide +kernel
theorem dJlength_10 : decode prog_16_method_54_code 10 = .ok (.ireturn, 1) := by decide +kernel
abbrev CT_Jlength : List Value → (Gm → Sg → Nat → Prop) → (Gm → Sg → Nat → PO) → Prop := CT yJlength prog_16_method_54_code 1 (some .int) { frames := 2, cells := 0, slots := 0, locals := 60 }
def yJcoder : MethodName := ⟨"java/lang/String", "coder", "()B"⟩
theorem dJcoder_0 : decode prog_16_method_152_code 0 = .ok (.getstatic 38, 3) := by decide +kernel
theorem dJcoder_3 : decode prog_16_method_152_code 3 = .ok (.ifCond .eq 10, 3) := by decide +kernel
theorem dJcoder_6 : decode prog_16_method_152_code 6 = .ok (.aload_n 0, 1) := by decide +kernel
theorem dJcoder_7 : decode prog_16_method_152_code 7 = .ok (.getfield 15, 3) := by decide +kernel
theorem dJcoder_10 : decode prog_16_method_152_code 10 = .ok (.goto 4, 3) := by decide +kernel
theorem dJcoder_14 : decode prog_16_method_152_code 14 = .ok (.ireturn, 1) := by decide +kernel
abbrev CT_Jcoder : List Value → (Gm → Sg → Nat → Prop) → (Gm → Sg → Nat → PO) → Prop := CT yJcoder prog_16_method_152_code 1 (some .byte) { frames := 0, cells := 0, slots := 0, locals := 0 }
def yJcharAt : MethodName := ⟨"java/lang/String", "charAt", "(I)C"⟩
theorem dJcharAt_0 : decode prog_16_method_56_code 0 = .ok (.aload_n 0, 1) := by decide +kernel
theorem dJcharAt_1 : decode prog_16_method_56_code 1 = .ok (.invokevirtual 492, 3) := by decide +kernel
theorem dJcharAt_4 : decode prog_16_method_56_code 4 = .ok (.ifCond .eq 12, 3) := by decide +kernel
theorem dJcharAt_7 : decode prog_16_method_56_code 7 = .ok (.aload_n 0, 1) := by decide +kernel
theorem dJcharAt_8 : decode prog_16_method_56_code 8 = .ok (.getfield 9, 3) := by decide +kernel
theorem dJcharAt_11 : decode prog_16_method_56_code 11 = .ok (.iload_n 1, 1) := by decide +kernel
theorem dJcharAt_12 : decode prog_16_method_56_code 12 = .ok (.invokestatic 495, 3) := by decide +kernel
theorem dJcharAt_15 : decode prog_16_method_56_code 15 = .ok (.ireturn, 1) := by decide +kernel
abbrev CT_JcharAt : List Value → (Gm → Sg → Nat → Prop) → (Gm → Sg → Nat → PO) → Prop := CT yJcharAt prog_16_method_56_code 2 (some .char) { frames := 5, cells := 0, slots := 0, locals := 120 }
def yJisLatin1 : MethodName := ⟨"java/lang/String", "isLatin1", "()Z"⟩
theorem dJisLatin1_0 : decode prog_16_method_154_code 0 = .ok (.getstatic 38, 3) := by decide +kernel
theorem dJisLatin1_3 : decode prog_16_method_154_code 3 = .ok (.ifCond .eq 14, 3) := by decide +kernel
theorem dJisLatin1_6 : decode prog_16_method_154_code 6 = .ok (.aload_n 0, 1) := by decide +kernel
theorem dJisLatin1_7 : decode prog_16_method_154_code 7 = .ok (.getfield 15, 3) := by decide +kernel
theorem dJisLatin1_10 : decode prog_16_method_154_code 10 = .ok (.ifCond .ne 7, 3) := by decide +kernel
theorem dJisLatin1_13 : decode prog_16_method_154_code 13 = .ok (.iconst 1, 1) := by decide +kernel
theorem dJisLatin1_14 : decode prog_16_method_154_code 14 = .ok (.goto 4, 3) := by decide +kernel
theorem dJisLatin1_18 : decode prog_16_method_154_code 18 = .ok (.ireturn, 1) := by decide +kernel
abbrev CT_JisLatin1 : List Value → (Gm → Sg → Nat → Prop) → (Gm → Sg → Nat → PO) → Prop := CT yJisLatin1 prog_16_method_154_code 1 (some .boolean) { frames := 0, cells := 0, slots := 0, locals := 0 }
def yJlcharAt : MethodName := ⟨"java/lang/StringLatin1", "charAt", "([BI)C"⟩
theorem dJlcharAt_0 : decode prog_17_method_2_code 0 = .ok (.iload_n 1, 1) := by decide +kernel
theorem dJlcharAt_1 : decode prog_17_method_2_code 1 = .ok (.aload_n 0, 1) := by decide +kernel
theorem dJlcharAt_2 : decode prog_17_method_2_code 2 = .ok (.arraylength, 1) := by decide +kernel
theorem dJlcharAt_3 : decode prog_17_method_2_code 3 = .ok (.invokestatic 9, 3) := by decide +kernel
theorem dJlcharAt_6 : decode prog_17_method_2_code 6 = .ok (.aload_n 0, 1) := by decide +kernel
theorem dJlcharAt_7 : decode prog_17_method_2_code 7 = .ok (.iload_n 1, 1) := by decide +kernel
theorem dJlcharAt_8 : decode prog_17_method_2_code 8 = .ok (.baload, 1) := by decide +kernel
theorem dJlcharAt_9 : decode prog_17_method_2_code 9 = .ok (.sipush 255, 3) := by decide +kernel
theorem dJlcharAt_12 : decode prog_17_method_2_code 12 = .ok (.iand, 1) := by decide +kernel
theorem dJlcharAt_13 : decode prog_17_method_2_code 13 = .ok (.i2c, 1) := by decide +kernel
theorem dJlcharAt_14 : decode prog_17_method_2_code 14 = .ok (.ireturn, 1) := by decide +kernel
abbrev CT_JlcharAt : List Value → (Gm → Sg → Nat → Prop) → (Gm → Sg → Nat → PO) → Prop := CT yJlcharAt prog_17_method_2_code 2 (some .char) { frames := 3, cells := 0, slots := 0, locals := 80 }
def yJscheck : MethodName := ⟨"java/lang/String", "checkIndex", "(II)V"⟩
theorem dJscheck_0 : decode prog_16_method_155_code 0 = .ok (.iload_n 0, 1) := by decide +kernel
theorem dJscheck_1 : decode prog_16_method_155_code 1 = .ok (.iload_n 1, 1) := by decide +kernel
theorem dJscheck_2 : decode prog_16_method_155_code 2 = .ok (.getstatic 1053, 3) := by decide +kernel
theorem dJscheck_5 : decode prog_16_method_155_code 5 = .ok (.invokestatic 1059, 3) := by decide +kernel
theorem dJscheck_8 : decode prog_16_method_155_code 8 = .ok (.pop, 1) := by decide +kernel
theorem dJscheck_9 : decode prog_16_method_155_code 9 = .ok (.return_, 1) := by decide +kernel
abbrev CT_Jscheck : List Value → (Gm → Sg → Nat → Prop) → (Gm → Sg → Nat → PO) → Prop := CT yJscheck prog_16_method_155_code 2 (none) { frames := 2, cells := 0, slots := 0, locals := 50 }
def yJpcheck : MethodName := ⟨"jdk/internal/util/Preconditions", "checkIndex", "(IILjava/util/function/BiFunction;)I"⟩
theorem dJpcheck_0 : decode prog_20_method_11_code 0 = .ok (.iload_n 0, 1) := by decide +kernel
theorem dJpcheck_1 : decode prog_20_method_11_code 1 = .ok (.ifCond .lt 8, 3) := by decide +kernel
theorem dJpcheck_4 : decode prog_20_method_11_code 4 = .ok (.iload_n 0, 1) := by decide +kernel
theorem dJpcheck_5 : decode prog_20_method_11_code 5 = .ok (.iload_n 1, 1) := by decide +kernel
theorem dJpcheck_6 : decode prog_20_method_11_code 6 = .ok (.if_icmp .lt 10, 3) := by decide +kernel
theorem dJpcheck_16 : decode prog_20_method_11_code 16 = .ok (.iload_n 0, 1) := by decide +kernel
theorem dJpcheck_17 : decode prog_20_method_11_code 17 = .ok (.ireturn, 1) := by decide +kernel
abbrev CT_Jpcheck : List Value → (Gm → Sg → Nat → Prop) → (Gm → Sg → Nat → PO) → Prop := CT yJpcheck prog_20_method_11_code 3 (some .int) { frames := 0, cells := 0, slots := 0, locals := 0 }
/-- the three words as bytes -/
def sW (j : Nat) : List Nat := match j with
  | 0 => [99, 111, 100, 101]
  | 1 => [101, 110, 116, 114, 121]
  | _ => [100, 114, 97, 117, 103, 104, 116]
theorem sW_len {j : Nat} (h : j < 3) : sLen.getD j 0 = (sW j).length := by
  rcases (show j = 0 ∨ j = 1 ∨ j = 2 by omega) with rfl | rfl | rfl <;> rfl
theorem sW_ch {j i : Nat} (h : j < 3) (hi : i < (sW j).length) : ((((sByt.getD j []).getD i 0) &&& 255).toUInt32 % 65536).toInt32 = nI ((sW j).getD i 0) := by
  have : ∀ j : Fin 3, ∀ i : Fin 7, i.val < (sW j.val).length → ((((sByt.getD j.val []).getD i.val 0) &&& 255).toUInt32 % 65536).toInt32 = nI ((sW j.val).getD i.val 0) := by decide +kernel
  have h7 : (sW j).length ≤ 7 := by rcases (show j = 0 ∨ j = 1 ∨ j = 2 by omega) with rfl | rfl | rfl <;> decide
  exact this ⟨j, h⟩ ⟨i, by omega⟩ hi
theorem sW_7 (j : Nat) : 1 ≤ (sW j).length ∧ (sW j).length ≤ 7 := by
  unfold sW
  split <;> decide
theorem sW_256 (j i : Nat) : (sW j).getD i 0 < 256 := by
  by_cases hi : i < (sW j).length
  · have h7 := (sW_7 j).2
    have : ∀ i : Fin 7, (sW j).getD i.val 0 < 256 := by
      unfold sW
      split <;> decide
    exact this ⟨i, by omega⟩
  · rw [List.getD_eq_getElem?_getD, List.getElem?_eq_none (by omega)]
    decide

theorem c_Jpcheck (i n : Nat) (w : Value) (hw : w = .null ∨ ∃ a : Nat, w = .ref a) : CT_Jpcheck [.int (nI i), .int (nI n), w] (fun Γ σ sz => i < n ∧ n < 1000) (fun Γ σ sz v σ' sz' => v = some (.int (nI i)) ∧ σ' = σ ∧ sz' = sz) := by
  rcases hw with rfl | ⟨a, rfl⟩
  · refine CT.mkP rfl (Nat.le_of_ble_eq_true rfl) [_, _, _] rfl ?_
    intro X Γ σ sz P hX hpre hsz hP
    have h0 : ¬ nI i < 0 := nI_pos (by omega)
    have h1 : nI i < nI n := nI_lt hpre.1 (by omega)
    refine S_iload_n (q := 1) hX dJpcheck_0 rfl rfl ?_
    refine S_if_lt (q := 4) 9 hX dJpcheck_1 rfl rfl (fun c => absurd c h0) (fun _ => ?_)
    refine S_iload_n (q := 5) hX dJpcheck_4 rfl rfl ?_
    refine S_iload_n (q := 6) hX dJpcheck_5 rfl rfl ?_
    refine S_icmp_lt (q := 9) 16 hX dJpcheck_6 rfl rfl (fun _ => ?_) (fun c => absurd h1 c)
    refine S_iload_n (q := 17) hX dJpcheck_16 rfl rfl ?_
    refine S_iret hX dJpcheck_17 (Nat.zero_le _) (Nat.zero_le _) ?_
    exact hP _ _ _ ⟨rfl, rfl, rfl⟩
  · refine CT.mkP rfl (Nat.le_of_ble_eq_true rfl) [_, _, _] rfl ?_
    intro X Γ σ sz P hX hpre hsz hP
    have h0 : ¬ nI i < 0 := nI_pos (by omega)
    have h1 : nI i < nI n := nI_lt hpre.1 (by omega)
    refine S_iload_n (q := 1) hX dJpcheck_0 rfl rfl ?_
    refine S_if_lt (q := 4) 9 hX dJpcheck_1 rfl rfl (fun c => absurd c h0) (fun _ => ?_)
    refine S_iload_n (q := 5) hX dJpcheck_4 rfl rfl ?_
    refine S_iload_n (q := 6) hX dJpcheck_5 rfl rfl ?_
    refine S_icmp_lt (q := 9) 16 hX dJpcheck_6 rfl rfl (fun _ => ?_) (fun c => absurd h1 c)
    refine S_iload_n (q := 17) hX dJpcheck_16 rfl rfl ?_
    refine S_iret hX dJpcheck_17 (Nat.zero_le _) (Nat.zero_le _) ?_
    exact hP _ _ _ ⟨rfl, rfl, rfl⟩

theorem c_Jscheck (i n : Nat) : CT_Jscheck [.int (nI i), .int (nI n)] (fun Γ σ sz => i < n ∧ n < 1000) (fun Γ σ sz v σ' sz' => v = none ∧ σ' = σ ∧ sz' = sz) := by
  refine CT.mkP rfl (Nat.le_of_ble_eq_true rfl) [_, _] rfl ?_
  intro X Γ σ sz P hX hpre hsz hP
  refine S_iload_n (q := 1) hX dJscheck_0 rfl rfl ?_
  refine S_iload_n (q := 2) hX dJscheck_1 rfl rfl ?_
  refine S_gsio (q := 5) hX u_436 dJscheck_2 rfl ?_ (fun a => ?_)
  · refine S_callS (q := 8) 0 0 hX (c_Jpcheck i n _ (Or.inl rfl)) rfl u_438 u_439 u_16 u_440 ⟨by decide, by decide, rfl⟩ ⟨Nat.le_of_ble_eq_true rfl, Nat.le_of_ble_eq_true rfl⟩ ⟨Nat.le_of_ble_eq_true rfl, Nat.le_of_ble_eq_true rfl⟩ (Nat.le_of_ble_eq_true rfl) dJscheck_5 ?hp rfl rfl rfl ?_
    case hp => exact hpre
    rintro v σ1 sz1 ⟨rfl, rfl, rfl⟩
    refine S_pop (q := 9) hX dJscheck_8 rfl rfl ?_
    refine S_vret hX dJscheck_9 (Nat.zero_le _) (Nat.zero_le _) ?_
    exact hP _ _ _ ⟨rfl, rfl, rfl⟩
  · refine S_callS (q := 8) 0 0 hX (c_Jpcheck i n _ (Or.inr ⟨a, rfl⟩)) rfl u_438 u_439 u_16 u_440 ⟨by decide, by decide, rfl⟩ ⟨Nat.le_of_ble_eq_true rfl, Nat.le_of_ble_eq_true rfl⟩ ⟨Nat.le_of_ble_eq_true rfl, Nat.le_of_ble_eq_true rfl⟩ (Nat.le_of_ble_eq_true rfl) dJscheck_5 ?hp rfl rfl rfl ?_
    case hp => exact hpre
    rintro v σ1 sz1 ⟨rfl, rfl, rfl⟩
    refine S_pop (q := 9) hX dJscheck_8 rfl rfl ?_
    refine S_vret hX dJscheck_9 (Nat.zero_le _) (Nat.zero_le _) ?_
    exact hP _ _ _ ⟨rfl, rfl, rfl⟩

theorem c_Jlcharat (a j i : Nat) : CT_JlcharAt [.ref a, .int (nI i)] (fun Γ σ sz => a = Γ.2.2.2.1 j ∧ j < 3 ∧ i < (sW j).length) (fun Γ σ sz v σ' sz' => v = some (.int (nI ((sW j).getD i 0))) ∧ σ' = σ ∧ sz' = sz) := by
  refine CT.mkP rfl (Nat.le_of_ble_eq_true rfl) [_, _] rfl ?_
  intro X Γ σ sz P hX hpre hsz hP
  obtain ⟨rfl, hj, hi⟩ := hpre
  have h7 := (sW_7 j).2
  have hl := sW_len hj
  refine S_iload_n (q := 1) hX dJlcharAt_0 rfl rfl ?_
  refine S_aload_n (q := 2) hX dJlcharAt_1 rfl rfl ?_
  refine S_slen (q := 3) hj hX dJlcharAt_2 rfl ?_
  rw [hl]
  refine S_callS (q := 6) 0 0 hX (c_Jscheck i (sW j).length) rfl u_433 u_434 u_14 u_435 ⟨by decide, by decide, rfl⟩ ⟨Nat.le_of_ble_eq_true rfl, Nat.le_of_ble_eq_true rfl⟩ ⟨Nat.le_of_ble_eq_true rfl, Nat.le_of_ble_eq_true rfl⟩ (Nat.le_of_ble_eq_true rfl) dJlcharAt_3 ?hp rfl rfl rfl ?_
  case hp => exact ⟨hi, by omega⟩
  rintro v σ1 sz1 ⟨rfl, rfl, rfl⟩
  refine S_aload_n (q := 7) hX dJlcharAt_6 rfl rfl ?_
  refine S_iload_n (q := 8) hX dJlcharAt_7 rfl rfl ?_
  refine S_sbal (q := 9) hj hX (by rw [hl]; exact vp_in_nI hi (by omega)) dJlcharAt_8 rfl ?_
  rw [nI_clamp (by omega)]
  refine S_sipush (q := 12) (v := 255) hX dJlcharAt_9 sp_255 rfl ?_
  refine S_iand (q := 13) hX dJlcharAt_12 rfl ?_
  refine S_i2c (q := 14) hX dJlcharAt_13 rfl ?_
  refine S_top (sW_ch hj hi) ?_
  refine S_xret hX dJlcharAt_14 (Nat.zero_le _) (Nat.zero_le _) (pk_charN (by have := sW_256 j i; omega)).1 ?_
  exact hP _ _ _ ⟨rfl, rfl, rfl⟩

theorem c_Jcoder (a j : Nat) : CT_Jcoder [.ref a] (fun Γ σ sz => a = Γ.2.2.1 j ∧ j < 3) (fun Γ σ sz v σ' sz' => v = some (.int 0) ∧ σ' = σ ∧ sz' = sz) := by
  refine CT.mkP rfl (Nat.le_of_ble_eq_true rfl) [_] rfl ?_
  intro X Γ σ sz P hX hpre hsz hP
  obtain ⟨rfl, hj⟩ := hpre
  refine S_gcomp (q := 3) hX u_420 dJcoder_0 rfl ?_
  refine S_if_eq (q := 6) 13 hX dJcoder_3 rfl rfl (fun c => absurd c (by decide)) (fun _ => ?_)
  refine S_aload_n (q := 7) hX dJcoder_6 rfl rfl ?_
  refine S_scod (q := 10) hj hX u_1112 dJcoder_7 rfl ?_
  refine S_goto 14 hX dJcoder_10 rfl ?_
  refine S_xret hX dJcoder_14 (Nat.zero_le _) (Nat.zero_le _) (by decide) ?_
  exact hP _ _ _ ⟨rfl, rfl, rfl⟩

theorem c_JisLatin1 (a j : Nat) : CT_JisLatin1 [.ref a] (fun Γ σ sz => a = Γ.2.2.1 j ∧ j < 3) (fun Γ σ sz v σ' sz' => v = some (.int 1) ∧ σ' = σ ∧ sz' = sz) := by
  refine CT.mkP rfl (Nat.le_of_ble_eq_true rfl) [_] rfl ?_
  intro X Γ σ sz P hX hpre hsz hP
  obtain ⟨rfl, hj⟩ := hpre
  refine S_gcomp (q := 3) hX u_420 dJisLatin1_0 rfl ?_
  refine S_if_eq (q := 6) 17 hX dJisLatin1_3 rfl rfl (fun c => absurd c (by decide)) (fun _ => ?_)
  refine S_aload_n (q := 7) hX dJisLatin1_6 rfl rfl ?_
  refine S_scod (q := 10) hj hX u_1112 dJisLatin1_7 rfl ?_
  refine S_if_ne (q := 13) 17 hX dJisLatin1_10 rfl rfl (fun c => absurd rfl c) (fun _ => ?_)
  refine S_iconst (q := 14) (v := 1) hX dJisLatin1_13 ic_1 rfl ?_
  refine S_goto 18 hX dJisLatin1_14 rfl ?_
  refine S_xret hX dJisLatin1_18 (Nat.zero_le _) (Nat.zero_le _) (by decide) ?_
  exact hP _ _ _ ⟨rfl, rfl, rfl⟩

theorem c_Jlength (a j : Nat) : CT_Jlength [.ref a] (fun Γ σ sz => a = Γ.2.2.1 j ∧ j < 3) (fun Γ σ sz v σ' sz' => v = some (.int (nI (sW j).length)) ∧ σ' = σ ∧ sz' = sz) := by
  refine CT.mkP rfl (Nat.le_of_ble_eq_true rfl) [_] rfl ?_
  intro X Γ σ sz P hX hpre hsz hP
  obtain ⟨rfl, hj⟩ := hpre
  have h7 := (sW_7 j).2
  refine S_aload_n (q := 1) hX dJlength_0 rfl rfl ?_
  refine S_sval (q := 4) hj hX u_1111 dJlength_1 rfl ?_
  refine S_slen (q := 5) hj hX dJlength_4 rfl ?_
  rw [sW_len hj]
  refine S_aload_n (q := 6) hX dJlength_5 rfl rfl ?_
  refine S_callVS (q := 9) 0 0 hj hX (c_Jcoder _ j) rfl u_416 u_417 u_418 u_14 u_419 ⟨by decide, by decide, rfl⟩ ⟨Nat.le_of_ble_eq_true rfl, Nat.le_of_ble_eq_true rfl⟩ ⟨Nat.le_of_ble_eq_true rfl, Nat.le_of_ble_eq_true rfl⟩ (Nat.le_of_ble_eq_true rfl) dJlength_6 ?hp rfl rfl rfl ?_
  case hp => exact ⟨rfl, hj⟩
  rintro v σ1 sz1 ⟨rfl, rfl, rfl⟩
  refine S_ishr (q := 10) hX dJlength_9 rfl ?_
  refine S_top (y := nI (sW j).length) ?_ ?_
  · rw [pk_shrN (by omega) _ 0 (by decide), Nat.pow_zero, Nat.div_one]
  refine S_iret hX dJlength_10 (Nat.zero_le _) (Nat.zero_le _) ?_
  exact hP _ _ _ ⟨rfl, rfl, rfl⟩

theorem c_JcharAt (a j i : Nat) : CT_JcharAt [.ref a, .int (nI i)] (fun Γ σ sz => a = Γ.2.2.1 j ∧ j < 3 ∧ i < (sW j).length) (fun Γ σ sz v σ' sz' => v = some (.int (nI ((sW j).getD i 0))) ∧ σ' = σ ∧ sz' = sz) := by
  refine CT.mkP rfl (Nat.le_of_ble_eq_true rfl) [_, _] rfl ?_
  intro X Γ σ sz P hX hpre hsz hP
  obtain ⟨rfl, hj, hi⟩ := hpre
  refine S_aload_n (q := 1) hX dJcharAt_0 rfl rfl ?_
  refine S_callVS (q := 4) 0 0 hj hX (c_JisLatin1 _ j) rfl u_426 u_427 u_428 u_14 u_429 ⟨by decide, by decide, rfl⟩ ⟨Nat.le_of_ble_eq_true rfl, Nat.le_of_ble_eq_true rfl⟩ ⟨Nat.le_of_ble_eq_true rfl, Nat.le_of_ble_eq_true rfl⟩ (Nat.le_of_ble_eq_true rfl) dJcharAt_1 ?hp rfl rfl rfl ?_
  case hp => exact ⟨rfl, hj⟩
  rintro v σ1 sz1 ⟨rfl, rfl, rfl⟩
  refine S_if_eq (q := 7) 16 hX dJcharAt_4 rfl rfl (fun c => absurd c (by decide)) (fun _ => ?_)
  refine S_aload_n (q := 8) hX dJcharAt_7 rfl rfl ?_
  refine S_sval (q := 11) hj hX u_1111 dJcharAt_8 rfl ?_
  refine S_iload_n (q := 12) hX dJcharAt_11 rfl rfl ?_
  refine S_callS (q := 15) 0 0 hX (c_Jlcharat _ j i) rfl u_430 u_431 u_15 u_432 ⟨by decide, by decide, rfl⟩ ⟨Nat.le_of_ble_eq_true rfl, Nat.le_of_ble_eq_true rfl⟩ ⟨Nat.le_of_ble_eq_true rfl, Nat.le_of_ble_eq_true rfl⟩ (Nat.le_of_ble_eq_true rfl) dJcharAt_12 ?hp rfl rfl rfl ?_
  case hp => exact ⟨rfl, hj, hi⟩
  rintro v σ1 sz1 ⟨rfl, rfl, rfl⟩
  refine S_xret hX dJcharAt_15 (Nat.zero_le _) (Nat.zero_le _) (pk_charN (by have := sW_256 j i; omega)).1 ?_
  exact hP _ _ _ ⟨rfl, rfl, rfl⟩

section LDS
variable {X : CX} {Γ : Gm} {P : PO} {k n pc q : Nat} {L : List (Option Value)} {st : List Value} {σ : Sg} {sz : Nat} {own nm : String} {cc : ByteArray} {nL : Nat} {ret : Option FieldType} {R0 : Room}
theorem S_ldcs {ix : Nat} {tx : String} (j : Nat) (hX : Ok X Γ (own, nm, cc, nL, ret, R0)) (hd : decode cc pc = .ok (.ldc ix, 2)) (hk : ∀ U, KN Γ U → vk_R own ix tx (Γ.2.2.1 j) U) (hq : pc + 2 = q) (kk : G X Γ P k n q L (.ref (Γ.2.2.1 j) :: st) σ sz) : G X Γ P k n pc L st σ sz := by
  obtain ⟨p, l, e, R, s, m, args, below, meth, c⟩ := X
  obtain ⟨hx, hb, hml, hr, hR, hown, hts, hKN, hlk, hnm, hbs⟩ := hX
  subst hR
  subst hq
  intro H locs ls hP hS hl
  exact va_ldcS hx hb hown (hk s hKN) hd (kk H locs ls hP hS hl)
end LDS
theorem isW_iff {T : TxT} {p e : Nat} {w : List Nat} : isW T p e w = true ↔ (e = p + w.length ∧ ∀ i, i < w.length → T.2 (p + i) = w.getD i 0) := by
  refine ⟨isW_e, fun h => ?_⟩
  unfold isW
  rw [Bool.and_eq_true, beq_iff_eq, List.all_eq_true]
  exact ⟨h.1, fun i hi => beq_iff_eq.mpr (h.2 i (List.mem_range.mp hi))⟩
/-- a token is the j-th word -/
theorem tk_word {T : TxT} {p j : Nat} (hj : j < 3) (hp : p ≤ T.1) (hb : ∀ i, i < T.1 → T.2 i < 256) : (tk T p).2.1 = j ↔ (tcl T (tk T p) = 1 ∧ isW T (tk T p).1 (tk T p).2.2.2 (sW j) = true) := by
  obtain ⟨P0, eP⟩ : ∃ z, z = skp T (T.1 + 1) p := ⟨_, rfl⟩
  have etk : tk T p = tkA T P0 := by rw [eP]; rfl
  rw [etk]
  unfold tkA tcl
  by_cases h1 : hr T P0 = 256
  · rw [if_pos h1]
    constructor
    · intro z; have z : 5 = j := z; omega
    · intro z; have z1 : (0 : Nat) = 1 := z.1; exact absurd z1 (by decide)
  · rw [if_neg h1]
    by_cases h2 : 97 ≤ hr T P0 ∧ hr T P0 ≤ 122
    · rw [if_pos h2]
      have hin := wrS_in T P0 (rnW T 97 122 (T.1 + 1) P0)
      show wrS T P0 (rnW T 97 122 (T.1 + 1) P0) = j ↔ ((if wrS T P0 (rnW T 97 122 (T.1 + 1) P0) = 5 then 0 else if wrS T P0 (rnW T 97 122 (T.1 + 1) P0) = 3 then 2 else if wrS T P0 (rnW T 97 122 (T.1 + 1) P0) = 4 then 3 else if 97 ≤ hr T P0 ∧ hr T P0 ≤ 122 then 1 else 4) = 1 ∧ isW T P0 (rnW T 97 122 (T.1 + 1) P0) (sW j) = true)
      rw [if_neg (by omega), if_neg (by omega), if_neg (by omega), if_pos h2]
      obtain ⟨E, eE⟩ : ∃ z, z = rnW T 97 122 (T.1 + 1) P0 := ⟨_, rfl⟩
      rw [← eE]
      have hx : ∀ a b : Nat, a < 3 → b < 3 → isW T P0 E (sW a) = true → isW T P0 E (sW b) = true → a = b := by
        intro a b ha hb2 h3 h4
        have e3 := (isW_e h3).1
        have e4 := (isW_e h4).1
        have : (sW a).length = (sW b).length := by omega
        rcases (show a = 0 ∨ a = 1 ∨ a = 2 by omega) with rfl | rfl | rfl <;> rcases (show b = 0 ∨ b = 1 ∨ b = 2 by omega) with rfl | rfl | rfl <;> first | rfl | exact absurd this (by decide)
      have hw : wrS T P0 E = if isW T P0 E (sW 2) then 2 else if isW T P0 E (sW 0) then 0 else if isW T P0 E (sW 1) then 1 else 6 := rfl
      rw [hw]
      constructor
      · intro z
        refine ⟨rfl, ?_⟩
        split at z
        · rw [← z]; assumption
        · split at z
          · rw [← z]; assumption
          · split at z
            · rw [← z]; assumption
            · omega
      · rintro ⟨-, z⟩
        split
        · exact hx 2 j (by decide) hj (by assumption) z
        · split
          · exact hx 0 j (by decide) hj (by assumption) z
          · split
            · exact hx 1 j (by decide) hj (by assumption) z
            · rcases (show j = 0 ∨ j = 1 ∨ j = 2 by omega) with rfl | rfl | rfl <;> contradiction
    · rw [if_neg h2]
      by_cases h5 : 48 ≤ hr T P0 ∧ hr T P0 ≤ 57
      · rw [if_pos h5]
        constructor
        · intro z
          have z : (if rnW T 48 57 (T.1 + 1) P0 ≤ P0 + 2 then 3 else 6) = j := z
          split at z <;> omega
        · intro z
          have z1 : (if (if rnW T 48 57 (T.1 + 1) P0 ≤ P0 + 2 then 3 else 6) = 5 then 0 else if (if rnW T 48 57 (T.1 + 1) P0 ≤ P0 + 2 then 3 else 6) = 3 then 2 else if (if rnW T 48 57 (T.1 + 1) P0 ≤ P0 + 2 then 3 else 6) = 4 then 3 else if 97 ≤ hr T P0 ∧ hr T P0 ≤ 122 then 1 else 4) = 1 := z.1
          rw [if_neg h2] at z1
          repeat (first | (split at z1) | omega)
      · rw [if_neg h5]
        constructor
        · intro z
          have z : (if hr T P0 = 59 then 4 else 6) = j := z
          split at z <;> omega
        · intro z
          have z1 : (if (if hr T P0 = 59 then 4 else 6) = 5 then 0 else if (if hr T P0 = 59 then 4 else 6) = 3 then 2 else if (if hr T P0 = 59 then 4 else 6) = 4 then 3 else if 97 ≤ hr T P0 ∧ hr T P0 ≤ 122 then 1 else 4) = 1 := z.1
          rw [if_neg h2] at z1
          repeat (first | (split at z1) | omega)

theorem tk_se {T : TxT} {p : Nat} : (tk T p).1 ≤ (tk T p).2.2.2 := by
  obtain ⟨P0, eP⟩ : ∃ z, z = skp T (T.1 + 1) p := ⟨_, rfl⟩
  have etk : tk T p = tkA T P0 := by rw [eP]; rfl
  rw [etk]
  unfold tkA
  have h1 := (rnW_all (T := T) (lo := 97) (hi := 122) (T.1 + 1) P0).1
  have h2 := (rnW_all (T := T) (lo := 48) (hi := 57) (T.1 + 1) P0).1
  split
  · exact Nat.le_refl _
  · split
    · exact h1
    · split
      · exact h2
      · exact Nat.le_succ _

theorem c_X8_isName (q : Nat) (f : MF) (a j p : Nat) (T : TxT) : CT_X8_isName [.ref q, .ref a] (fun Γ σ sz => SK σ q f ∧ a = Γ.2.2.1 j ∧ j < 3 ∧ TxS f T ∧ TkS f T (tk T p) ∧ p ≤ T.1) (fun Γ σ sz v σ' sz' => v = some (.int (bi ((tk T p).2.1 = j))) ∧ σ' = σ ∧ sz' = sz) := by
  refine CT.mkP rfl (Nat.le_of_ble_eq_true rfl) [_, _, _] rfl ?_
  intro X Γ σ sz P hX hpre hsz hP
  obtain ⟨hM, hea, hj, hT, ht, hp⟩ := hpre
  subst hea
  obtain ⟨σ0, eσ0⟩ : ∃ z, z = σ := ⟨σ, rfl⟩
  rw [← eσ0] at hP
  have hF : Fr q (q + 7) σ0 σ := by rw [eσ0]; exact Fr.rf
  have h7 := sW_7 j
  have h250 := hT.2.1
  have hok := (tk_ok hT.by hp).1
  have hat := (tk_ok hT.by hp).2.1
  have hwd := tk_word hj hp hT.by
  obtain ⟨S0, eS⟩ : ∃ z, z = (tk T p).1 := ⟨_, rfl⟩
  obtain ⟨E0, eE⟩ : ∃ z, z = (tk T p).2.2.2 := ⟨_, rfl⟩
  rw [← eS, ← eE, isW_iff] at hwd
  have g4 : f 0 4 = nI S0 := by rw [eS]; exact ht.1
  have g5 : f 0 5 = nI E0 := by rw [eE]; exact ht.2.1
  have hE : E0 ≤ T.1 := by rw [eE]; exact hok.2.2.2
  have hS : S0 ≤ E0 := by rw [eS, eE]; exact tk_se
  have loop : tcl T (tk T p) = 1 → E0 = S0 + (sW j).length → ∀ (fl i : Nat), i ≤ (sW j).length → (sW j).length - i < fl → (∀ m, m < i → T.2 (S0 + m) = (sW j).getD m 0) → G X Γ P 0 0 28 [some (.ref q), some (.ref (Γ.2.2.1 j)), some (.int (nI i))] [] σ sz := by
    intro h1 hlen fl
    induction fl with
      | zero => intro i h1 h2; omega
      | succ fl ih =>
        intro i hi hfu hm
        refine S_iload_n (q := 29) hX dX8_isName_28 rfl rfl ?_
        refine S_aload_n (q := 30) hX dX8_isName_29 rfl rfl ?_
        refine S_callVS (q := 33) 0 0 hj hX (c_Jlength _ j) rfl u_412 u_413 u_414 u_14 u_415 ⟨by decide, by decide, rfl⟩ ⟨Nat.le_of_ble_eq_true rfl, Nat.le_of_ble_eq_true rfl⟩ ⟨Nat.le_of_ble_eq_true rfl, Nat.le_of_ble_eq_true rfl⟩ (Nat.le_of_ble_eq_true rfl) dX8_isName_30 ?hp_1 rfl rfl rfl ?_
        case hp_1 => exact ⟨rfl, hj⟩
        rintro v σ1 sz1 ⟨rfl, rfl, rfl⟩
        refine S_icmp_ge (q := 36) 63 hX dX8_isName_33 rfl rfl (fun c33 => ?_) (fun c33 => ?_)
        · have hge : i = (sW j).length := by rw [nI_leI (by omega) (by omega)] at c33; omega
          refine S_iconst (q := 64) (v := 1) hX dX8_isName_63 ic_1 rfl ?_
          refine S_xret hX dX8_isName_64 (Nat.zero_le _) (Nat.zero_le _) (by decide) ?_
          refine hP _ _ _ ?_
          exact ⟨by rw [bi_t (hwd.mpr ⟨h1, hlen, fun m hm2 => hm m (by omega)⟩)], eσ0.symm, rfl⟩
        · have hlt : i < (sW j).length := by rw [nI_leI (by omega) (by omega)] at c33; omega
          have hti : f 1 (f 0 4 + nI i).toNatClampNeg = nI (T.2 (S0 + i)) := by rw [g4, nI_add, nI_clamp (by omega)]; exact (hT.2.2 _ (by omega)).1
          have htb := (hT.2.2 (S0 + i) (by omega)).2
          have hsb := sW_256 j i
          refine S_aload_n (q := 37) hX dX8_isName_36 rfl rfl ?_
          refine S_getf (fs := ?fs_2) (v := ?v_2) (q := 40) hX u_134 fo_X8_text dX8_isName_37 ?hs_2 ?hv_2 rfl ?_
          case hs_2 => with_reducible first | exact SK.c0 hM | exact SK.c1 hM | exact SK.c2 hM | exact SK.c3 hM
          case hv_2 => rfl
          refine S_aload_n (q := 41) hX dX8_isName_40 rfl rfl ?_
          refine S_getf (fs := ?fs_3) (v := ?v_3) (q := 44) hX u_144 fo_X8_start dX8_isName_41 ?hs_3 ?hv_3 rfl ?_
          case hs_3 => with_reducible first | exact SK.c0 hM | exact SK.c1 hM | exact SK.c2 hM | exact SK.c3 hM
          case hv_3 => rfl
          refine S_iload_n (q := 45) hX dX8_isName_44 rfl rfl ?_
          refine S_iadd (q := 46) hX dX8_isName_45 rfl ?_
          refine S_iald (N := ?n_4) (f := ?f_4) (q := 47) hX dX8_isName_46 ?hs_4 ?hi_4 rfl ?_
          case hs_4 => with_reducible first | exact SK.c0 hM | exact SK.c1 hM | exact SK.c2 hM | exact SK.c3 hM
          case hi_4 => rw [g4, nI_add]; exact vp_in_nI (by omega) (by decide)
          refine S_aload_n (q := 48) hX dX8_isName_47 rfl rfl ?_
          refine S_iload_n (q := 49) hX dX8_isName_48 rfl rfl ?_
          refine S_callVS (q := 52) 0 0 hj hX (c_JcharAt _ j i) rfl u_422 u_423 u_424 u_14 u_425 ⟨by decide, by decide, rfl⟩ ⟨Nat.le_of_ble_eq_true rfl, Nat.le_of_ble_eq_true rfl⟩ ⟨Nat.le_of_ble_eq_true rfl, Nat.le_of_ble_eq_true rfl⟩ (Nat.le_of_ble_eq_true rfl) dX8_isName_49 ?hp_5 rfl rfl rfl ?_
          case hp_5 => exact ⟨rfl, hj, hlt⟩
          rintro v σ1 sz1 ⟨rfl, rfl, rfl⟩
          refine S_icmp_eq (q := 55) 57 hX dX8_isName_52 rfl rfl (fun c52 => ?_) (fun c52 => ?_)
          · have heq : T.2 (S0 + i) = (sW j).getD i 0 := by rw [hti] at c52; exact nI_inj (by omega) (by omega) c52
            refine S_iinc (q := 60) [_, _, _] hX dX8_isName_57 rfl (ii_1 _) rfl (Nat.le_of_ble_eq_true rfl) rfl rfl ?_
            refine S_goto 28 hX dX8_isName_60 rfl ?_
            rw [nI_1]
            exact ih (i + 1) hlt (by omega) (fun m hm2 => by
              by_cases hmi : m = i
              · rw [hmi]; exact heq
              · exact hm m (by omega))
          · have heq : ¬ T.2 (S0 + i) = (sW j).getD i 0 := fun z => c52 (by rw [hti, z])
            refine S_iconst (q := 56) (v := 0) hX dX8_isName_55 ic_0 rfl ?_
            refine S_xret hX dX8_isName_56 (Nat.zero_le _) (Nat.zero_le _) (by decide) ?_
            refine hP _ _ _ ?_
            exact ⟨by rw [bi_f (fun z => heq ((hwd.mp z).2.2 i hlt))], eσ0.symm, rfl⟩
  refine S_aload_n (q := 1) hX dX8_isName_0 rfl rfl ?_
  refine S_getf (fs := ?fs_6) (v := ?v_6) (q := 4) hX u_143 fo_X8_token dX8_isName_1 ?hs_6 ?hv_6 rfl ?_
  case hs_6 => with_reducible first | exact SK.c0 hM | exact SK.c1 hM | exact SK.c2 hM | exact SK.c3 hM
  case hv_6 => rfl
  refine S_iconst (q := 5) (v := 1) hX dX8_isName_4 ic_1 rfl ?_
  refine S_icmp_ne (q := 8) 24 hX dX8_isName_5 rfl rfl (fun c5 => ?_) (fun c5 => ?_)
  · have h1 : ¬ tcl T (tk T p) = 1 := fun z => c5 (by rw [ht.2.2.1, z]; rfl)
    refine S_iconst (q := 25) (v := 0) hX dX8_isName_24 ic_0 rfl ?_
    refine S_xret hX dX8_isName_25 (Nat.zero_le _) (Nat.zero_le _) (by decide) ?_
    refine hP _ _ _ ?_
    exact ⟨by rw [bi_f (fun z => h1 (hwd.mp z).1)], eσ0.symm, rfl⟩
  · have h1 : tcl T (tk T p) = 1 := nI_inj (by have := tcl_le (T := T) (t := tk T p); omega) (by decide) (ht.2.2.1.symm.trans c5)
    refine S_aload_n (q := 9) hX dX8_isName_8 rfl rfl ?_
    refine S_getf (fs := ?fs_7) (v := ?v_7) (q := 12) hX u_145 fo_X8_end dX8_isName_9 ?hs_7 ?hv_7 rfl ?_
    case hs_7 => with_reducible first | exact SK.c0 hM | exact SK.c1 hM | exact SK.c2 hM | exact SK.c3 hM
    case hv_7 => rfl
    refine S_aload_n (q := 13) hX dX8_isName_12 rfl rfl ?_
    refine S_getf (fs := ?fs_8) (v := ?v_8) (q := 16) hX u_144 fo_X8_start dX8_isName_13 ?hs_8 ?hv_8 rfl ?_
    case hs_8 => with_reducible first | exact SK.c0 hM | exact SK.c1 hM | exact SK.c2 hM | exact SK.c3 hM
    case hv_8 => rfl
    refine S_isub (q := 17) hX dX8_isName_16 rfl ?_
    refine S_aload_n (q := 18) hX dX8_isName_17 rfl rfl ?_
    refine S_callVS (q := 21) 0 0 hj hX (c_Jlength _ j) rfl u_412 u_413 u_414 u_14 u_415 ⟨by decide, by decide, rfl⟩ ⟨Nat.le_of_ble_eq_true rfl, Nat.le_of_ble_eq_true rfl⟩ ⟨Nat.le_of_ble_eq_true rfl, Nat.le_of_ble_eq_true rfl⟩ (Nat.le_of_ble_eq_true rfl) dX8_isName_18 ?hp_9 rfl rfl rfl ?_
    case hp_9 => exact ⟨rfl, hj⟩
    rintro v σ1 sz1 ⟨rfl, rfl, rfl⟩
    refine S_icmp_eq (q := 24) 26 hX dX8_isName_21 rfl rfl (fun c21 => ?_) (fun c21 => ?_)
    · have hlen : E0 = S0 + (sW j).length := by rw [g4, g5, pk_sub hS] at c21; have := nI_inj (by omega) (by omega) c21; omega
      refine S_iconst (q := 27) (v := 0) hX dX8_isName_26 ic_0 rfl ?_
      refine S_istore_n (q := 28) [_, _, _] hX dX8_isName_27 rfl (Nat.le_of_ble_eq_true rfl) rfl rfl ?_
      exact loop h1 hlen ((sW j).length + 1) 0 (Nat.zero_le _) (by omega) (fun m hm => absurd hm (Nat.not_lt_zero _))
    · have hlen : ¬ E0 = S0 + (sW j).length := fun z => c21 (by rw [g4, g5, pk_sub hS, z, Nat.add_sub_cancel_left])
      refine S_iconst (q := 25) (v := 0) hX dX8_isName_24 ic_0 rfl ?_
      refine S_xret hX dX8_isName_25 (Nat.zero_le _) (Nat.zero_le _) (by decide) ?_
      refine hP _ _ _ ?_
      exact ⟨by rw [bi_f (fun z => hlen (hwd.mp z).2.1)], eσ0.symm, rfl⟩
