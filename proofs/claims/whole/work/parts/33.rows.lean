/-! super.m(..), where the superclass has it from its own superclass -/
theorem z_sub2 {vm : Vm} {a b : ClassId} {k : Class} (hk : vm.classes[a]? = some k) (hs : k.super = some b) : vm.isSubclass a b = true := by
  have h1 : ∃ n, vm.classes.size = n + 1 := by
    have := (Array.getElem?_eq_some_iff.mp hk).1
    exact ⟨vm.classes.size - 1, by omega⟩
  obtain ⟨n, hn⟩ := h1
  unfold Vm.isSubclass
  rw [hn]
  simp [Vm.isSubclassAux, hk, hs]
theorem z_runSI {p : Program} {l : Launch} {e : Env} {R : Room} {s : State} {m : MethodId} {args : Array Value} {below : List Frame} {meth : Method} {c : Code} {H : Heap} {locs : List Loc} {cells slots : Nat} {x y : MethodName} {bytes cc : ByteArray} {maxL nL index : Nat} {ret : Option FieldType} {ws : List Cond} {rm : Room} {Pc : Array Value → State → Prop} {Qc : Array Value → State → Outcome → State → Prop} {free : Addr → Prop} {Ts : List Cond} {own C : String} {cC : ClassId} {b : Addr} {As rest : List Value} {g : JFrame}
    (hat : ClassAt s C cC) (S : CallFix p m c cc nL s args Ts own) (hM : Met l y ws rm Pc Qc rm.cells rm.slots free) (hfr : rm.frames + 1 ≤ R.frames ∧ 8 + (maxL + 11) + rm.locals ≤ R.locals) (hws : ∀ w ∈ ws, ∀ (a' : Array Value) (U : State), s.WarmedH U.vm → w.before a' U = true) (hcw : Cond.code y bytes maxL ret ∈ ws)
    (w1 : (Cond.methodLink own index x).before args s = true) (w2 : (Cond.sameMethod x.cls y.cls x.name x.desc).before args s = true) (w3 : (Cond.superclass own x.cls).before args s = true) (w4 : (Cond.superclass x.cls y.cls).before args s = true) (w5 : (Cond.instanceMethod y).before args s = true) (w6 : (Cond.initialized y.cls).before args s = true) (w7 : (Cond.code y bytes maxL ret).before args s = true)
    (hxy : y = ⟨y.cls, x.name, x.desc⟩) (hno : x.name ≠ "<init>") (hlen : (parseMethodDescriptor y.desc).map (fun d => d.parameters.length) = some As.length)
    (hp : PreV s H C b Pc As) (hg : g.method = m) (hsize : g.locals.size = nL) (hstack : g.stack = As.reverse ++ .ref b :: rest) (hW : 2 * g.monitorRoom + (rest.map fun v => v.category).sum ≤ 8) (hdg : decode cc g.pc = .ok (.invokespecial index, 3)) (hf : cells + rm.cells ≤ R.cells ∧ slots + rm.slots ≤ R.slots) :
    va_Run p l e R s m args below meth c H locs cells slots rm.cells rm.slots g rest (Qc (Value.ref b :: As).toArray) free := by
  have hK : Back l R p e below s args y 3 8 (PreOf R rm.cells rm.slots Pc) (PostOf Qc rm.cells rm.slots free) := back_of (bytes := bytes) (maxL := maxL) (ret := ret) hM hp.1 rfl rfl hfr.1 hfr.2 hws hcw (fun a' U hW => word_at hW (Or.inl (by first | rfl | simp [Cond.onTables, Cond.keeps, Cond.steady])) w6)
  obtain ⟨hx, hb, hml, ho, -⟩ := S
  obtain ⟨-, ⟨cellB, hcB, hoB, hclB⟩, hPc⟩ := hp
  obtain ⟨hfc, kB, hkB, -⟩ := hat
  cases hfc.symm.trans hclB
  intro T hT X
  obtain ⟨mk, methM, hnamed, hmethM, hstM, habM⟩ := Cond.instanceMethod_spec w5
  obtain ⟨methM', cM, hmethM', -, -, -, -, -, -, hsigM⟩ := Cond.code_spec hnamed w7
  cases hmethM.symm.trans hmethM'
  obtain ⟨ps, dk, kp, hps, hdk, hkp, hsuper, -, -, hnid⟩ := Cond.superclass_spec ho w3
  obtain ⟨ps2, dk2, kp2, hps2, hdk2, hkp2, hsuper2, -, -, -⟩ := Cond.superclass_spec hps w4
  have hn : s.methodNamed? ⟨y.cls, x.name, x.desc⟩ = some mk := by rw [← hxy]; exact hnamed
  have hpm : ps2 = mk.cls := Option.some.inj (hps2.symm.trans (findClass_of_methodNamed hnamed))
  have hsub : s.vm.isSubclass ps mk.cls = true := by rw [← hpm]; exact z_sub2 hdk2 hsuper2
  have hcB' : T.heap[b]? = some cellB := by rw [hT]; exact hcB
  obtain ⟨vm₁, X₁, hstep₁⟩ := X.invokespecialUp hx (owner := y.cls) ho w1 w2 hn hmethM hstM habM hno hdk hnid hps hsuper hsub (a := b) (cell := cellB) hcB'
    (fun z h => by rw [h] at hoB; cases hoB) hkB (g := g) hg (argsL := As) (rest := rest) (by
      have h2 := hlen
      rw [hsigM] at h2
      exact (Option.some.inj h2).symm) hstack (by rw [hb]; exact hdg)
  obtain ⟨v, ⟨U', l2, c2, s2⟩, X', ⟨g', mk', t, L, e1, e2, hq, h1, hL, h2, h3⟩, hsteps⟩ := hK m meth c ⟨T.setVm vm₁, locs, cells, slots⟩ { g with stack := rest } (.invokespecial index) mk (Value.ref b :: As).toArray X₁ hg (hsize.trans hml.symm) (by rw [hb]; exact hdg) hW (X₁.named hnamed) ⟨hf.1, hf.2, hPc (T.setVm vm₁) hT X₁.warmed⟩
  dsimp only [Pt.U, Pt.locs, Pt.cells, Pt.slots] at X' e1 e2 h1 h2 h3 hsteps
  subst h1; subst h2; subst h3
  exact ⟨v, (T.setVm vm₁).calling g' mk' (Value.ref b :: As).toArray, t, U', L, hT, X', hL, e1, e2, hq, fun target h => hstep₁ _ (by rw [doInvoke_state]; exact hsteps.trans h)⟩
section SSI
variable {X : CX} {Γ : Gm} {P : PO} {k n pc q : Nat} {L : List (Option Value)} {st : List Value} {σ : Sg} {sz : Nat} {own nm : String} {cc : ByteArray} {nL : Nat} {ret : Option FieldType} {R0 : Room}
theorem S_callSI {x y : MethodName} {cc' : ByteArray} {nL' ix b ci N : Nat} {C : String} {T : u_T} {ret' : Option FieldType} {rm : Room} {As : List Value} {Pr : Gm → Sg → Nat → Prop} {Po : Gm → Sg → Nat → PO} {st0 : List Value} (k' n' : Nat) (hX : Ok X Γ (own, nm, cc, nL, ret, R0)) (hC : CT y cc' nL' ret' rm (.ref b :: As) Pr Po) (hst : st0 = As.reverse ++ .ref b :: st) (hσ : isO σ b ci) (hc : clss[ci]? = some (C, T, N)) (w1 : Cond.methodLink own ix x ∈ UW) (w6 : Cond.sameMethod x.cls y.cls x.name x.desc ∈ UW) (w7 : Cond.superclass own x.cls ∈ UW) (w8 : Cond.superclass x.cls y.cls ∈ UW) (w2 : Cond.instanceMethod y ∈ UW) (w3 : Cond.initialized y.cls ∈ UW) (w4 : Cond.code y cc' nL' ret' ∈ UW) (hxy : y = ⟨y.cls, x.name, x.desc⟩) (hy : x.name ≠ "<init>" ∧ (parseMethodDescriptor y.desc).map (fun d => d.parameters.length) = some As.length) (hRm : rm.frames + 1 ≤ R0.frames ∧ 8 + (nL' + 11) + rm.locals ≤ R0.locals) (hcs : k + rm.cells ≤ R0.cells ∧ n + rm.slots ≤ R0.slots) (hcat : (st.map fun v => v.category).sum ≤ 8) (hd : decode cc pc = .ok (.invokespecial ix, 3)) (hpre : Pr Γ σ sz) (hq : pc + 3 = q) (hk' : k + rm.cells = k') (hn' : n + rm.slots = n') (kk : ∀ (v : Option Value) (σ' : Sg) (sz' : Nat), Po Γ σ sz v σ' sz' → G X Γ P k' n' q L (vst v st) σ' sz') : G X Γ P k n pc L st0 σ sz := by
  obtain ⟨p, l, e, R, s, m, args, below, meth, c⟩ := X
  obtain ⟨hx, hb, hml, hr, hR, hown, hts, hKN, hlk, hnm, hbs⟩ := hX
  subst hR
  subst hq
  subst hk'
  subst hn'
  intro H locs ls hP hS hl
  have hG := UW_code w4
  have hpr := S_pre (args2 := .ref b :: As) hP hS hKN hbs
  exact S_call_aux (z_runSI (As := As) (rest := st) (C := C) (Ts := UW) (hKN.1.1 ci _ hc).2 ⟨hx, hb, hml, hown, hts⟩ (hC l Γ σ sz hpre) hRm (pay_in hts hG) List.mem_cons_self (hts _ w1) (hts _ w6) (hts _ w7) (hts _ w8) (hts _ w2) (hts _ w3) (hts _ w4) hxy hy.1 hy.2 ⟨hpr.1, S_rcv hKN hP hσ hc, hpr.2⟩ rfl (by show ls.size = nL; rw [← hml]; exact hl.1) hst (lv_room hcat) hd hcs) hS (fun v σ' sz' H1 locs1 h1 h2 h3 => kk v σ' sz' h1 H1 locs1 ls h2 h3 hl)
end SSI

/-! THE CLASS: rows -/
section ABS
variable {X : CX} {Γ : Gm} {P : PO} {k n pc q : Nat} {L : List (Option Value)} {st : List Value} {σ : Sg} {sz : Nat} {own nm : String} {cc : ByteArray} {nL : Nat} {ret : Option FieldType} {R0 : Room}
theorem S_abs {x : Int32} {ix : Nat} (hX : Ok X Γ (own, nm, cc, nL, ret, R0)) (w1 : Cond.methodLink own ix Lib.Math.abs.name ∈ UW) (w2 : Cond.static Lib.Math.abs.name ∈ UW) (w3 : Cond.initialized "java/lang/Math" ∈ UW) (w4 : Cond.code Lib.Math.abs.name Lib.Math.abs.code 1 (some .int) ∈ UW) (hf : 1 ≤ R0.frames) (hlo : (st.map fun v => v.category).sum + 13 ≤ R0.locals) (hcs : k ≤ R0.cells ∧ n ≤ R0.slots) (hd : decode cc pc = .ok (.invokestatic ix, 3)) (hq : pc + 3 = q) (kk : G X Γ P k n q L (.int (if 0 ≤ x then x else 0 - x) :: st) σ sz) : G X Γ P k n pc L (.int x :: st) σ sz := by
  obtain ⟨p, l, e, R, s, m, args, below, meth, c⟩ := X
  obtain ⟨hx, hb, hml, hr, hR, hown, hts, hKN, hlk, hnm, hbs⟩ := hX
  subst hR
  subst hq
  intro H locs ls hP hS hl
  exact va_mabs hx hb hl.1.symm hown (hts _ w1) (hts _ w2) (hts _ w3) (hts _ w4) hf hlo hcs.1 hcs.2 hd (kk H locs ls hP hS hl)
end ABS
theorem sub_m1 (x : Int32) : x + (-1) = x - 1 := by rw [Int32.sub_eq_add_neg]
theorem s1_toInt {a : Nat} (h : a < 1073741824) : (nI a - 1).toInt = (a : Int) - 1 := pk_sub_toInt h (by decide)
theorem s1_eq {a b : Nat} (ha : a < 1073741824) (hb : b < 1073741824) : nI a - 1 = nI b - 1 ↔ a = b := by
  rw [eq_i, s1_toInt ha, s1_toInt hb]
  omega
theorem s1_s (a : Nat) : nI (a + 1) - 1 = nI a := nI_pred a

theorem lnZ_is (z : Int) (n : Nat) (h : n < 6) : lnZ z = n + 1 ↔ ((12 ^ (n + 1) : Nat) : Int) ≤ z ∧ z < 2 * (12 ^ (n + 1) : Nat) := by
  rcases (show n = 0 ∨ n = 1 ∨ n = 2 ∨ n = 3 ∨ n = 4 ∨ n = 5 by omega) with rfl | rfl | rfl | rfl | rfl | rfl <;>
    (simp only [Nat.reducePow, Nat.reduceAdd]
     unfold lnZ
     repeat (first | split | omega))

theorem c_X7_beats (x : Int32) : CT_X7_beats [.int x] (fun Γ σ sz => True) (fun Γ σ sz v σ' sz' => v = some (.int (nI (lnZ x.toInt))) ∧ σ' = σ ∧ sz' = sz) := by
  refine CT.mkP rfl (Nat.le_of_ble_eq_true rfl) [_, _, _] rfl ?_
  intro X Γ σ sz P hX _ hsz hP
  have loop : ∀ (fu : Nat) (n : Nat) (lo : Int32), n ≤ 6 → 6 - n < fu → lo = nI (12 ^ (n + 1)) → (∀ i, 1 ≤ i → i ≤ n → lnZ x.toInt ≠ i) → G X Γ P 0 0 5 [some (.int x), some (.int lo), some (.int (nI (n + 1)))] [] σ sz := by
    intro fu
    induction fu with
    | zero =>
      rintro n _ hn hfu rfl hno
      exact absurd hfu (Nat.not_lt_zero _)
    | succ fu ih =>
      rintro n _ hn hfu rfl hno
      refine S_iload_n (q := 6) hX dX7_beats_5 rfl rfl ?_
      refine S_bipush (q := 8) (v := 6) hX dX7_beats_6 bp_6 rfl ?_
      refine S_icmp_gt (q := 11) 36 hX dX7_beats_8 rfl rfl (fun c8 => ?_) (fun c8 => ?_)
      · have hn6 : n = 6 := by rw [i6, nI_ltI (by decide) (by omega)] at c8; omega
        refine S_iconst (q := 37) (v := 0) hX dX7_beats_36 ic_0 rfl ?_
        refine S_iret hX dX7_beats_37 (Nat.zero_le _) (Nat.zero_le _) ?_
        refine hP _ _ _ ?_
        refine ⟨?_, rfl, rfl⟩
        have h6 := lnZ_6 x.toInt
        have : lnZ x.toInt = 0 := by
          rcases Nat.eq_zero_or_pos (lnZ x.toInt) with q | q
          · exact q
          · exact absurd rfl (hno (lnZ x.toInt) q (by omega))
        rw [this]; rfl
      · have hlt : n < 6 := by rw [i6, nI_ltI (by decide) (by omega)] at c8; omega
        have hp : 12 ^ (n + 1) ≤ 12 ^ 6 := Nat.pow_le_pow_right (by decide) (by omega)
        have hz := lnZ_is x.toInt n hlt
        refine S_iload_n (q := 12) hX dX7_beats_11 rfl rfl ?_
        refine S_iload_n (q := 13) hX dX7_beats_12 rfl rfl ?_
        refine S_icmp_lt (q := 16) 25 hX dX7_beats_13 rfl rfl (fun c13 => ?_) (fun c13 => ?_)
        · refine S_iload_n (q := 26) hX dX7_beats_25 rfl rfl ?_
          refine S_bipush (q := 28) (v := 12) hX dX7_beats_26 bp_12 rfl ?_
          refine S_imul (q := 29) hX dX7_beats_28 rfl ?_
          refine S_istore_n (q := 30) [_, _, _] hX dX7_beats_29 rfl (Nat.le_of_ble_eq_true rfl) rfl rfl ?_
          refine S_iinc (q := 33) [_, _, _] hX dX7_beats_30 rfl (ii_1 _) rfl (Nat.le_of_ble_eq_true rfl) rfl rfl ?_
          refine S_goto 5 hX dX7_beats_33 rfl ?_
          rw [i12, pk_mul, nI_1]
          exact ih (n + 1) _ hlt (by omega) (by rw [Nat.pow_succ 12 (n + 1)]) (fun i h1 h2 => by
            rcases Nat.lt_succ_iff_lt_or_eq.mp (Nat.lt_succ_of_le h2) with q | q
            · exact hno i h1 (by omega)
            · rw [q]; exact fun q => by have := (hz.mp q).1; rw [lt_i, nI_toInt (by omega)] at c13; omega)
        · refine S_iload_n (q := 17) hX dX7_beats_16 rfl rfl ?_
          refine S_iconst (q := 18) (v := 2) hX dX7_beats_17 ic_2 rfl ?_
          refine S_iload_n (q := 19) hX dX7_beats_18 rfl rfl ?_
          refine S_imul (q := 20) hX dX7_beats_19 rfl ?_
          refine S_icmp_ge (q := 23) 25 hX dX7_beats_20 rfl rfl (fun c20 => ?_) (fun c20 => ?_)
          · refine S_iload_n (q := 26) hX dX7_beats_25 rfl rfl ?_
            refine S_bipush (q := 28) (v := 12) hX dX7_beats_26 bp_12 rfl ?_
            refine S_imul (q := 29) hX dX7_beats_28 rfl ?_
            refine S_istore_n (q := 30) [_, _, _] hX dX7_beats_29 rfl (Nat.le_of_ble_eq_true rfl) rfl rfl ?_
            refine S_iinc (q := 33) [_, _, _] hX dX7_beats_30 rfl (ii_1 _) rfl (Nat.le_of_ble_eq_true rfl) rfl rfl ?_
            refine S_goto 5 hX dX7_beats_33 rfl ?_
            rw [i12, pk_mul, nI_1]
            exact ih (n + 1) _ hlt (by omega) (by rw [Nat.pow_succ 12 (n + 1)]) (fun i h1 h2 => by
              rcases Nat.lt_succ_iff_lt_or_eq.mp (Nat.lt_succ_of_le h2) with q | q
              · exact hno i h1 (by omega)
              · rw [q]; exact fun q => by have := (hz.mp q).2; rw [i2, pk_mul, le_i, nI_toInt (by omega)] at c20; omega)
          · refine S_iload_n (q := 24) hX dX7_beats_23 rfl rfl ?_
            refine S_iret hX dX7_beats_24 (Nat.zero_le _) (Nat.zero_le _) ?_
            refine hP _ _ _ ?_
            refine ⟨?_, rfl, rfl⟩
            rw [hz.mpr ⟨by rw [lt_i, nI_toInt (by omega)] at c13; omega, by rw [i2, pk_mul, le_i, nI_toInt (by omega)] at c20; omega⟩]
  refine S_bipush (q := 2) (v := 12) hX dX7_beats_0 bp_12 rfl ?_
  refine S_istore_n (q := 3) [_, _, _] hX dX7_beats_2 rfl (Nat.le_of_ble_eq_true rfl) rfl rfl ?_
  refine S_iconst (q := 4) (v := 1) hX dX7_beats_3 ic_1 rfl ?_
  refine S_istore_n (q := 5) [_, _, _] hX dX7_beats_4 rfl (Nat.le_of_ble_eq_true rfl) rfl rfl ?_
  exact loop 7 0 _ (by decide) (by decide) rfl (fun i h1 h2 => by omega)
theorem c_X7_spell (x y z : Int32) (a N r n fr : Nat) (g : Nat → Int32) (hx : x = nI r) (hy : y = nI n) (hz : z = nI fr) : CT_X7_spell [.int x, .int y, .ref a, .int z] (fun Γ σ sz => σ a = some (ia N g) ∧ fr + n ≤ N ∧ N ≤ 100 ∧ r < 2147483648) (fun Γ σ sz v σ' sz' => ∃ g', σ' = su σ a (ia N g') ∧ v = none ∧ ((∀ i, i < n → g' (fr + i) = nI (stN r n i)) ∧ ∀ j, j < fr ∨ fr + n ≤ j → g' j = g j) ∧ sz' = sz) := by
  refine CT.mkP rfl (Nat.le_of_ble_eq_true rfl) [_, _, _, _, _, _] rfl ?_
  intro X Γ σ sz P hX hpre hsz hP
  obtain ⟨ha, hN, hN1, hr⟩ := hpre
  subst hx
  subst hy
  subst hz
  have loop : ∀ (k : Nat) (g1 : Nat → Int32) (x4 x5 : Int32), k ≤ n → x4 = nI (r / 12 ^ (n - k)) → x5 = nI (fr + k) - 1 → (∀ i, k ≤ i → i < n → g1 (fr + i) = nI (stN r n i)) → (∀ j, j < fr ∨ fr + n ≤ j → g1 j = g j) → G X Γ P 0 0 10 [some (.int (nI r)), some (.int (nI n)), some (.ref a), some (.int (nI fr)), some (.int x4), some (.int x5)] [] (su σ a (ia N g1)) sz := by
    intro k
    induction k with
      | zero =>
        rintro g1 x4 _ hk _ rfl hg hj
        have c13T : nI (fr + 0) - 1 < nI fr := by rw [lt_i, s1_toInt (by omega), nI_toInt (by omega)]; omega
        refine S_iload (q := 12) hX dX7_spell_10 rfl rfl ?_
        refine S_iload_n (q := 13) hX dX7_spell_12 rfl rfl ?_
        refine S_icmp_lt (q := 16) 45 hX dX7_spell_13 rfl rfl (fun c13 => ?_) (fun c13 => absurd c13T c13)
        refine S_vret hX dX7_spell_45 (Nat.zero_le _) (Nat.zero_le _) ?_
        refine hP _ _ _ ?_
        exact ⟨_, rfl, rfl, ⟨fun i hi => hg i (Nat.zero_le _) hi, hj⟩, rfl⟩
      | succ k ih =>
        rintro g1 _ _ hk rfl rfl hg hj
        have c13F : ¬ nI (fr + (k + 1)) - 1 < nI fr := by rw [lt_i, s1_toInt (by omega), nI_toInt (by omega)]; omega
        have c20F : ¬ nI N ≤ nI (fr + (k + 1)) - 1 := by rw [le_i, s1_toInt (by omega), nI_toInt (by omega)]; omega
        have e5 : nI (fr + (k + 1)) - 1 = nI (fr + k) := s1_s (fr + k)
        have hlt : r / 12 ^ (n - (k + 1)) < 2147483648 := Nat.lt_of_le_of_lt (Nat.div_le_self _ _) hr
        have hst : nI (r / 12 ^ (n - (k + 1))) - nI (r / 12 ^ (n - (k + 1))) / 12 * 12 = nI (stN r n k) := by
          rw [i12, pk_rem hlt (by decide) (by decide)]
          unfold stN
          rw [show n - (k + 1) = n - 1 - k by omega]
        have hdv : nI (r / 12 ^ (n - (k + 1))) / 12 = nI (r / 12 ^ (n - k)) := by
          rw [i12, pk_div hlt (by decide) (by decide), Nat.div_div_eq_div_mul, show 12 ^ (n - (k + 1)) * 12 = 12 ^ (n - k) from by rw [← Nat.pow_succ, show (n - (k + 1)).succ = n - k by omega]]
        refine S_iload (q := 12) hX dX7_spell_10 rfl rfl ?_
        refine S_iload_n (q := 13) hX dX7_spell_12 rfl rfl ?_
        refine S_icmp_lt (q := 16) 45 hX dX7_spell_13 rfl rfl (fun c13 => absurd c13 c13F) (fun c13 => ?_)
        refine S_iload (q := 18) hX dX7_spell_16 rfl rfl ?_
        refine S_aload_n (q := 19) hX dX7_spell_18 rfl rfl ?_
        refine S_alen (t := ?t_1) (x := ?x_1) (q := 20) hX dX7_spell_19 ?ht_1 ?hs_1 rfl ?_
        case hs_1 => repeat (first | with_reducible assumption | exact su_eq _ _ _ | refine (su_ne (by omega)).trans ?_)
        case ht_1 => decide
        refine S_icmp_ge (q := 23) 45 hX dX7_spell_20 rfl rfl (fun c20 => absurd c20 c20F) (fun c20 => ?_)
        refine S_aload_n (q := 24) hX dX7_spell_23 rfl rfl ?_
        refine S_iload (q := 26) hX dX7_spell_24 rfl rfl ?_
        refine S_iload (q := 28) hX dX7_spell_26 rfl rfl ?_
        refine S_bipush (q := 30) (v := 12) hX dX7_spell_28 bp_12 rfl ?_
        refine S_irem (q := 31) hX dX7_spell_30 (by decide) rfl ?_
        refine S_top hst ?_
        refine S_iast (N := ?n_2) (f := ?f_2) (q := 32) hX dX7_spell_31 ?hs_2 ?hi_2 rfl ?_
        case hs_2 => repeat (first | with_reducible assumption | exact su_eq _ _ _ | refine (su_ne (by omega)).trans ?_)
        case hi_2 => rw [e5]; exact vp_in_nI (by omega) (by omega)
        refine S_σ (su_su _ _ _ _) ?_
        refine S_iload (q := 34) hX dX7_spell_32 rfl rfl ?_
        refine S_bipush (q := 36) (v := 12) hX dX7_spell_34 bp_12 rfl ?_
        refine S_idiv (q := 37) hX dX7_spell_36 (by decide) rfl ?_
        refine S_top hdv ?_
        refine S_istore (q := 39) [_, _, _, _, _, _] hX dX7_spell_37 rfl (Nat.le_of_ble_eq_true rfl) rfl rfl ?_
        refine S_iinc (q := 42) [_, _, _, _, _, _] hX dX7_spell_39 rfl (ii_m1 _) rfl (Nat.le_of_ble_eq_true rfl) rfl rfl ?_
        refine S_goto 10 hX dX7_spell_42 rfl ?_
        refine ih _ _ _ (by omega) rfl ((congrArg (· + (-1)) e5).trans (sub_m1 _)) (fun i h1 h2 => ?_) (fun j hj2 => ?_)
        · rw [e5, nI_clamp (by omega)]
          by_cases hik : i = k
          · rw [hik, upd_eq]
          · rw [upd_ne (by omega)]; exact hg i (by omega) h2
        · rw [e5, nI_clamp (by omega), upd_ne (by omega)]; exact hj j hj2
  refine S_iload_n (q := 1) hX dX7_spell_0 rfl rfl ?_
  refine S_istore (q := 3) [_, _, _, _, _, _] hX dX7_spell_1 rfl (Nat.le_of_ble_eq_true rfl) rfl rfl ?_
  refine S_iload_n (q := 4) hX dX7_spell_3 rfl rfl ?_
  refine S_iload_n (q := 5) hX dX7_spell_4 rfl rfl ?_
  refine S_iadd (q := 6) hX dX7_spell_5 rfl ?_
  refine S_iconst (q := 7) (v := 1) hX dX7_spell_6 ic_1 rfl ?_
  refine S_isub (q := 8) hX dX7_spell_7 rfl ?_
  refine S_istore (q := 10) [_, _, _, _, _, _] hX dX7_spell_8 rfl (Nat.le_of_ble_eq_true rfl) rfl rfl ?_
  refine S_σ (su_id ha).symm ?_
  exact loop n g _ _ (Nat.le_refl _) (by rw [Nat.sub_self, Nat.pow_zero, Nat.div_one]) (by rw [nI_add]) (fun i h1 h2 => absurd h2 (by omega)) (fun _ _ => rfl)
theorem c_X7_number (y : Int32) (a N n : Nat) (g : Nat → Int32) (f : Nat → Nat) (hy : y = nI n) : CT_X7_number [.ref a, .int y] (fun Γ σ sz => σ a = some (ia N g) ∧ n ≤ N ∧ N ≤ 100 ∧ ∀ i, i < n → g i = nI (f i)) (fun Γ σ sz v σ' sz' => v = some (.int (nI (rv f n))) ∧ σ' = σ ∧ sz' = sz) := by
  refine CT.mkP rfl (Nat.le_of_ble_eq_true rfl) [_, _, _, _] rfl ?_
  intro X Γ σ sz P hX hpre hsz hP
  obtain ⟨ha, hN, hN1, hg⟩ := hpre
  subst hy
  have loop : ∀ (fu : Nat) (k : Nat) (xv : Int32), xv = nI (rv f k) → k ≤ n → n - k < fu → G X Γ P 0 0 4 [some (.ref a), some (.int (nI n)), some (.int xv), some (.int (nI k))] [] σ sz := by
    intro fu
    induction fu with
    | zero =>
      rintro k _ rfl hk hfu
      exact absurd hfu (Nat.not_lt_zero _)
    | succ fu ih =>
      rintro k _ rfl hk hfu
      refine S_iload_n (q := 5) hX dX7_number_4 rfl rfl ?_
      refine S_iload_n (q := 6) hX dX7_number_5 rfl rfl ?_
      refine S_icmp_ge (q := 9) 30 hX dX7_number_6 rfl rfl (fun c6 => ?_) (fun c6 => ?_)
      · have hge : k = n := by rw [nI_leI (by omega) (by omega)] at c6; omega
        subst hge
        refine S_iload_n (q := 31) hX dX7_number_30 rfl rfl ?_
        refine S_iret hX dX7_number_31 (Nat.zero_le _) (Nat.zero_le _) ?_
        refine hP _ _ _ ?_
        exact ⟨rfl, rfl, rfl⟩
      · have hlt : k < n := by rw [nI_leI (by omega) (by omega)] at c6; omega
        have c12F : ¬ nI N ≤ nI k := by rw [nI_leI (by omega) (by omega)]; omega
        refine S_iload_n (q := 10) hX dX7_number_9 rfl rfl ?_
        refine S_aload_n (q := 11) hX dX7_number_10 rfl rfl ?_
        refine S_alen (t := ?t_1) (x := ?x_1) (q := 12) hX dX7_number_11 ?ht_1 ?hs_1 rfl ?_
        case hs_1 => repeat (first | with_reducible assumption | exact su_eq _ _ _ | refine (su_ne (by omega)).trans ?_)
        case ht_1 => decide
        refine S_icmp_ge (q := 15) 30 hX dX7_number_12 rfl rfl (fun c12 => absurd c12 c12F) (fun c12 => ?_)
        refine S_iload_n (q := 16) hX dX7_number_15 rfl rfl ?_
        refine S_bipush (q := 18) (v := 12) hX dX7_number_16 bp_12 rfl ?_
        refine S_imul (q := 19) hX dX7_number_18 rfl ?_
        refine S_aload_n (q := 20) hX dX7_number_19 rfl rfl ?_
        refine S_iload_n (q := 21) hX dX7_number_20 rfl rfl ?_
        refine S_iald (N := ?n_2) (f := ?f_2) (q := 22) hX dX7_number_21 ?hs_2 ?hi_2 rfl ?_
        case hs_2 => repeat (first | with_reducible assumption | exact su_eq _ _ _ | refine (su_ne (by omega)).trans ?_)
        case hi_2 => exact vp_in_nI (by omega) (by omega)
        refine S_iadd (q := 23) hX dX7_number_22 rfl ?_
        refine S_istore_n (q := 24) [_, _, _, _] hX dX7_number_23 rfl (Nat.le_of_ble_eq_true rfl) rfl rfl ?_
        refine S_iinc (q := 27) [_, _, _, _] hX dX7_number_24 rfl (ii_1 _) rfl (Nat.le_of_ble_eq_true rfl) rfl rfl ?_
        refine S_goto 4 hX dX7_number_27 rfl ?_
        rw [nI_1]
        exact ih (k + 1) _ (by rw [nI_clamp (by omega), hg k hlt, i12, pk_mul, nI_add, Nat.mul_comm]; rfl) (by omega) (by omega)
  refine S_iconst (q := 1) (v := 1) hX dX7_number_0 ic_1 rfl ?_
  refine S_istore_n (q := 2) [_, _, _, _] hX dX7_number_1 rfl (Nat.le_of_ble_eq_true rfl) rfl rfl ?_
  refine S_iconst (q := 3) (v := 0) hX dX7_number_2 ic_0 rfl ?_
  refine S_istore_n (q := 4) [_, _, _, _] hX dX7_number_3 rfl (Nat.le_of_ble_eq_true rfl) rfl rfl ?_
  exact loop (n + 1) 0 _ rfl (Nat.zero_le _) (by omega)
theorem abs_law (s t : Nat) (hs : s < 12) (ht : t < 12) : (if 0 ≤ nI (s / 2) - nI (t / 2) then nI (s / 2) - nI (t / 2) else 0 - (nI (s / 2) - nI (t / 2))) ≤ 1 ↔ lwS t s := by
  have h : ∀ s t : Fin 12, ((if 0 ≤ nI (s.val / 2) - nI (t.val / 2) then nI (s.val / 2) - nI (t.val / 2) else 0 - (nI (s.val / 2) - nI (t.val / 2))) ≤ 1 ↔ (t.val / 2 ≤ s.val / 2 + 1 ∧ s.val / 2 ≤ t.val / 2 + 1)) := by decide +kernel
  exact h ⟨s, hs⟩ ⟨t, ht⟩

theorem c_X7_isLawful (y : Int32) (a N n : Nat) (g : Nat → Int32) (f : Nat → Nat) (hy : y = nI n) : CT_X7_isLawful [.ref a, .int y] (fun Γ σ sz => σ a = some (ia N g) ∧ n ≤ N ∧ N ≤ 100 ∧ ∀ i, i < n → g i = nI (f i) ∧ f i < 12) (fun Γ σ sz v σ' sz' => v = some (.int (bi (∀ j, j < n - 1 → lwS (f j) (f (j + 1))))) ∧ σ' = σ ∧ sz' = sz) := by
  refine CT.mkP rfl (Nat.le_of_ble_eq_true rfl) [_, _, _] rfl ?_
  intro X Γ σ sz P hX hpre hsz hP
  obtain ⟨ha, hN, hN1, hg⟩ := hpre
  subst hy
  have loop : ∀ (fu : Nat) (k : Nat), (∀ j, j + 1 < k → lwS (f j) (f (j + 1))) → 1 ≤ k → (k ≤ n ∨ k = 1) → n + 1 - k < fu → G X Γ P 0 0 2 [some (.ref a), some (.int (nI n)), some (.int (nI k))] [] σ sz := by
    intro fu
    induction fu with
    | zero =>
      rintro k hl h1 hk hfu
      exact absurd hfu (Nat.not_lt_zero _)
    | succ fu ih =>
      rintro k hl h1 hk hfu
      refine S_iload_n (q := 3) hX dX7_isLawful_2 rfl rfl ?_
      refine S_iload_n (q := 4) hX dX7_isLawful_3 rfl rfl ?_
      refine S_icmp_ge (q := 7) 41 hX dX7_isLawful_4 rfl rfl (fun c4 => ?_) (fun c4 => ?_)
      · have hge : n ≤ k := by rw [nI_leI (by omega) (by omega)] at c4; omega
        refine S_iconst (q := 42) (v := 1) hX dX7_isLawful_41 ic_1 rfl ?_
        refine S_xret hX dX7_isLawful_42 (Nat.zero_le _) (Nat.zero_le _) (by first | exact nb_bi | decide) ?_
        refine hP _ _ _ ?_
        refine ⟨?_, rfl, rfl⟩
        rw [bi_t (fun j hj => hl j (by omega))]
      · have hlt : k < n := by rw [nI_leI (by omega) (by omega)] at c4; omega
        have c10F : ¬ nI N ≤ nI k := by rw [nI_leI (by omega) (by omega)]; omega
        have g1 := hg k hlt
        have g2 := hg (k - 1) (by omega)
        have ek : nI k - 1 = nI (k - 1) := pk_sub h1
        have d1 : g (nI k).toNatClampNeg / 2 = nI (f k / 2) := by rw [nI_clamp (by omega), g1.1]; exact pk_div (by omega) (by decide) (by decide)
        have d2 : g (nI k - 1).toNatClampNeg / 2 = nI (f (k - 1) / 2) := by rw [ek, nI_clamp (by omega), g2.1]; exact pk_div (by omega) (by decide) (by decide)
        have hab : (if 0 ≤ g (nI k).toNatClampNeg / 2 - g (nI k - 1).toNatClampNeg / 2 then g (nI k).toNatClampNeg / 2 - g (nI k - 1).toNatClampNeg / 2 else 0 - (g (nI k).toNatClampNeg / 2 - g (nI k - 1).toNatClampNeg / 2)) ≤ 1 ↔ lwS (f (k - 1)) (f (k - 1 + 1)) := by
          rw [d1, d2, show k - 1 + 1 = k by omega]
          exact abs_law (f k) (f (k - 1)) g1.2 g2.2
        refine S_iload_n (q := 8) hX dX7_isLawful_7 rfl rfl ?_
        refine S_aload_n (q := 9) hX dX7_isLawful_8 rfl rfl ?_
        refine S_alen (t := ?t_1) (x := ?x_1) (q := 10) hX dX7_isLawful_9 ?ht_1 ?hs_1 rfl ?_
        case hs_1 => repeat (first | with_reducible assumption | exact su_eq _ _ _ | refine (su_ne (by omega)).trans ?_)
        case ht_1 => decide
        refine S_icmp_ge (q := 13) 41 hX dX7_isLawful_10 rfl rfl (fun c10 => absurd c10 c10F) (fun c10 => ?_)
        refine S_aload_n (q := 14) hX dX7_isLawful_13 rfl rfl ?_
        refine S_iload_n (q := 15) hX dX7_isLawful_14 rfl rfl ?_
        refine S_iald (N := ?n_2) (f := ?f_2) (q := 16) hX dX7_isLawful_15 ?hs_2 ?hi_2 rfl ?_
        case hs_2 => repeat (first | with_reducible assumption | exact su_eq _ _ _ | refine (su_ne (by omega)).trans ?_)
        case hi_2 => exact vp_in_nI (by omega) (by omega)
        refine S_iconst (q := 17) (v := 2) hX dX7_isLawful_16 ic_2 rfl ?_
        refine S_idiv (q := 18) hX dX7_isLawful_17 (by decide) rfl ?_
        refine S_aload_n (q := 19) hX dX7_isLawful_18 rfl rfl ?_
        refine S_iload_n (q := 20) hX dX7_isLawful_19 rfl rfl ?_
        refine S_iconst (q := 21) (v := 1) hX dX7_isLawful_20 ic_1 rfl ?_
        refine S_isub (q := 22) hX dX7_isLawful_21 rfl ?_
        refine S_iald (N := ?n_3) (f := ?f_3) (q := 23) hX dX7_isLawful_22 ?hs_3 ?hi_3 rfl ?_
        case hs_3 => repeat (first | with_reducible assumption | exact su_eq _ _ _ | refine (su_ne (by omega)).trans ?_)
        case hi_3 => rw [ek]; exact vp_in_nI (by omega) (by omega)
        refine S_iconst (q := 24) (v := 2) hX dX7_isLawful_23 ic_2 rfl ?_
        refine S_idiv (q := 25) hX dX7_isLawful_24 (by decide) rfl ?_
        refine S_isub (q := 26) hX dX7_isLawful_25 rfl ?_
        refine S_abs (q := 29) hX u_499 u_500 u_19 u_501 (by decide) (Nat.le_of_ble_eq_true rfl) ⟨Nat.zero_le _, Nat.zero_le _⟩ dX7_isLawful_26 rfl ?_
        refine S_iconst (q := 30) (v := 1) hX dX7_isLawful_29 ic_1 rfl ?_
        refine S_icmp_le (q := 33) 35 hX dX7_isLawful_30 rfl rfl (fun c30 => ?_) (fun c30 => ?_)
        · refine S_iinc (q := 38) [_, _, _] hX dX7_isLawful_35 rfl (ii_1 _) rfl (Nat.le_of_ble_eq_true rfl) rfl rfl ?_
          refine S_goto 2 hX dX7_isLawful_38 rfl ?_
          rw [nI_1]
          exact ih (k + 1) (fun j hj => by
            by_cases hjk : j + 1 = k
            · subst hjk; exact hab.mp c30
            · exact hl j (by omega)) (by omega) (by omega) (by omega)
        · refine S_iconst (q := 34) (v := 0) hX dX7_isLawful_33 ic_0 rfl ?_
          refine S_xret hX dX7_isLawful_34 (Nat.zero_le _) (Nat.zero_le _) (by first | exact nb_bi | decide) ?_
          refine hP _ _ _ ?_
          refine ⟨?_, rfl, rfl⟩
          rw [bi_f (fun z => c30 (hab.mpr (z (k - 1) (by omega))))]
  refine S_iconst (q := 1) (v := 1) hX dX7_isLawful_0 ic_1 rfl ?_
  refine S_istore_n (q := 2) [_, _, _] hX dX7_isLawful_1 rfl (Nat.le_of_ble_eq_true rfl) rfl rfl ?_
  exact loop (n + 1) 1 (fun j hj => by omega) (Nat.le_refl _) (Or.inr rfl) (by omega)
theorem c_X7_draw (y z : Int32) (a b N M n d : Nat) (g h : Nat → Int32) (f : Nat → Nat) (hy : y = nI n) (hz : z = nI d) : CT_X7_draw [.ref a, .int y, .int z, .ref b] (fun Γ σ sz => σ a = some (ia N g) ∧ σ b = some (ia M h) ∧ a ≠ b ∧ n ≤ N ∧ n ≤ M ∧ n ≤ 6 ∧ N ≤ 100 ∧ M ≤ 100 ∧ d < 64 ∧ ∀ i, i < n → g i = nI (f i) ∧ f i < 12) (fun Γ σ sz v σ' sz' => ∃ g', σ' = su σ b (ia M g') ∧ v = none ∧ (∀ i, i < n → g' i = nI (drw d (f i) i)) ∧ sz' = sz) := by
  refine CT.mkP rfl (Nat.le_of_ble_eq_true rfl) [_, _, _, _, _, _] rfl ?_
  intro X Γ σ sz P hX hpre hsz hP
  obtain ⟨ha, hb, hab, hnN, hnM, hn6, hN1, hM1, hd, hg⟩ := hpre
  subst hy
  subst hz
  have loop : ∀ (fu : Nat) (k : Nat) (h1 : Nat → Int32) (x5 : Option Value), k ≤ n → n - k < fu → (∀ i, i < k → h1 i = nI (drw d (f i) i)) → G X Γ P 0 0 3 [some (.ref a), some (.int (nI n)), some (.int (nI d)), some (.ref b), some (.int (nI k)), x5] [] (su σ b (ia M h1)) sz := by
    intro fu
    induction fu with
    | zero =>
      rintro k h1 x5 hk hfu hh
      exact absurd hfu (Nat.not_lt_zero _)
    | succ fu ih =>
      rintro k h1 x5 hk hfu hh
      refine S_iload (q := 5) hX dX7_draw_3 rfl rfl ?_
      refine S_iload_n (q := 6) hX dX7_draw_5 rfl rfl ?_
      refine S_icmp_ge (q := 9) 77 hX dX7_draw_6 rfl rfl (fun c6 => ?_) (fun c6 => ?_)
      · have hge : k = n := by rw [nI_leI (by omega) (by omega)] at c6; omega
        subst hge
        refine S_vret hX dX7_draw_77 (Nat.zero_le _) (Nat.zero_le _) ?_
        refine hP _ _ _ ?_
        exact ⟨_, rfl, rfl, hh, rfl⟩
      · have hlt : k < n := by rw [nI_leI (by omega) (by omega)] at c6; omega
        have c13F : ¬ nI N ≤ nI k := by rw [nI_leI (by omega) (by omega)]; omega
        have c20F : ¬ nI M ≤ nI k := by rw [nI_leI (by omega) (by omega)]; omega
        have g1 := hg k hlt
        have ebt := pk_bit hd (show k < 32 by omega)
        have eg : g (nI k).toNatClampNeg = nI (f k) := by rw [nI_clamp (by omega)]; exact g1.1
        have h2 : d / 2 ^ k % 2 < 2 := Nat.mod_lt _ (by decide)
        refine S_iload (q := 11) hX dX7_draw_9 rfl rfl ?_
        refine S_aload_n (q := 12) hX dX7_draw_11 rfl rfl ?_
        refine S_alen (t := ?t_1) (x := ?x_1) (q := 13) hX dX7_draw_12 ?ht_1 ?hs_1 rfl ?_
        case hs_1 => repeat (first | with_reducible assumption | exact su_eq _ _ _ | refine (su_ne (by omega)).trans ?_)
        case ht_1 => decide
        refine S_icmp_ge (q := 16) 77 hX dX7_draw_13 rfl rfl (fun c13 => absurd c13 c13F) (fun c13 => ?_)
        refine S_iload (q := 18) hX dX7_draw_16 rfl rfl ?_
        refine S_aload_n (q := 19) hX dX7_draw_18 rfl rfl ?_
        refine S_alen (t := ?t_2) (x := ?x_2) (q := 20) hX dX7_draw_19 ?ht_2 ?hs_2 rfl ?_
        case hs_2 => repeat (first | with_reducible assumption | exact su_eq _ _ _ | refine (su_ne (by omega)).trans ?_)
        case ht_2 => decide
        refine S_icmp_ge (q := 23) 77 hX dX7_draw_20 rfl rfl (fun c20 => absurd c20 c20F) (fun c20 => ?_)
        refine S_iload_n (q := 24) hX dX7_draw_23 rfl rfl ?_
        refine S_iload (q := 26) hX dX7_draw_24 rfl rfl ?_
        refine S_ishr (q := 27) hX dX7_draw_26 rfl ?_
        refine S_iconst (q := 28) (v := 1) hX dX7_draw_27 ic_1 rfl ?_
        refine S_iand (q := 29) hX dX7_draw_28 rfl ?_
        refine S_iconst (q := 30) (v := 1) hX dX7_draw_29 ic_1 rfl ?_
        refine S_icmp_ne (q := 33) 46 hX dX7_draw_30 rfl rfl (fun c30 => ?_) (fun c30 => ?_)
        · have hb0 : ¬ d / 2 ^ k % 2 = 1 := fun z => c30 (by rw [ebt, z]; rfl)
          refine S_iconst (q := 47) (v := 0) hX dX7_draw_46 ic_0 rfl ?_
          refine S_istore (q := 49) [_, _, _, _, _, _] hX dX7_draw_47 rfl (Nat.le_of_ble_eq_true rfl) rfl rfl ?_
          refine S_aload_n (q := 50) hX dX7_draw_49 rfl rfl ?_
          refine S_iload (q := 52) hX dX7_draw_50 rfl rfl ?_
          refine S_iload (q := 54) hX dX7_draw_52 rfl rfl ?_
          refine S_if_eq (q := 57) 66 hX dX7_draw_54 rfl rfl (fun c54 => ?_) (fun c54 => absurd rfl c54)
          refine S_aload_n (q := 67) hX dX7_draw_66 rfl rfl ?_
          refine S_iload (q := 69) hX dX7_draw_67 rfl rfl ?_
          refine S_iald (N := ?n_3) (f := ?f_3) (q := 70) hX dX7_draw_69 ?hs_3 ?hi_3 rfl ?_
          case hs_3 => repeat (first | with_reducible assumption | exact su_eq _ _ _ | refine (su_ne (by omega)).trans ?_)
          case hi_3 => exact vp_in_nI (by omega) (by omega)
          refine S_iast (N := ?n_4) (f := ?f_4) (q := 71) hX dX7_draw_70 ?hs_4 ?hi_4 rfl ?_
          case hs_4 => repeat (first | with_reducible assumption | exact su_eq _ _ _ | refine (su_ne (by omega)).trans ?_)
          case hi_4 => exact vp_in_nI (by omega) (by omega)
          refine S_σ (su_su _ _ _ _) ?_
          refine S_iinc (q := 74) [_, _, _, _, _, _] hX dX7_draw_71 rfl (ii_1 _) rfl (Nat.le_of_ble_eq_true rfl) rfl rfl ?_
          refine S_goto 3 hX dX7_draw_74 rfl ?_
          rw [nI_1]
          exact ih (k + 1) _ _ hlt (by omega) (fun i hi => by
            rw [nI_clamp (by omega)]
            by_cases hik : i = k
            · rw [hik, upd_eq]
              unfold drw; rw [if_neg hb0, g1.1]
            · rw [upd_ne hik]; exact hh i (by omega))
        · have hb0 : d / 2 ^ k % 2 = 1 := nI_inj (by omega) (by decide) (ebt.symm.trans c30)
          refine S_aload_n (q := 34) hX dX7_draw_33 rfl rfl ?_
          refine S_iload (q := 36) hX dX7_draw_34 rfl rfl ?_
          refine S_iald (N := ?n_5) (f := ?f_5) (q := 37) hX dX7_draw_36 ?hs_5 ?hi_5 rfl ?_
          case hs_5 => repeat (first | with_reducible assumption | exact su_eq _ _ _ | refine (su_ne (by omega)).trans ?_)
          case hi_5 => exact vp_in_nI (by omega) (by omega)
          refine S_bipush (q := 39) (v := 10) hX dX7_draw_37 bp_10 rfl ?_
          refine S_icmp_ge (q := 42) 46 hX dX7_draw_39 rfl rfl (fun c39 => ?_) (fun c39 => ?_)
          · have hs : ¬ f k < 10 := by rw [eg, i10, nI_leI (by decide) (by omega)] at c39; omega
            refine S_iconst (q := 47) (v := 0) hX dX7_draw_46 ic_0 rfl ?_
            refine S_istore (q := 49) [_, _, _, _, _, _] hX dX7_draw_47 rfl (Nat.le_of_ble_eq_true rfl) rfl rfl ?_
            refine S_aload_n (q := 50) hX dX7_draw_49 rfl rfl ?_
            refine S_iload (q := 52) hX dX7_draw_50 rfl rfl ?_
            refine S_iload (q := 54) hX dX7_draw_52 rfl rfl ?_
            refine S_if_eq (q := 57) 66 hX dX7_draw_54 rfl rfl (fun c54 => ?_) (fun c54 => absurd rfl c54)
            refine S_aload_n (q := 67) hX dX7_draw_66 rfl rfl ?_
            refine S_iload (q := 69) hX dX7_draw_67 rfl rfl ?_
            refine S_iald (N := ?n_6) (f := ?f_6) (q := 70) hX dX7_draw_69 ?hs_6 ?hi_6 rfl ?_
            case hs_6 => repeat (first | with_reducible assumption | exact su_eq _ _ _ | refine (su_ne (by omega)).trans ?_)
            case hi_6 => exact vp_in_nI (by omega) (by omega)
            refine S_iast (N := ?n_7) (f := ?f_7) (q := 71) hX dX7_draw_70 ?hs_7 ?hi_7 rfl ?_
            case hs_7 => repeat (first | with_reducible assumption | exact su_eq _ _ _ | refine (su_ne (by omega)).trans ?_)
            case hi_7 => exact vp_in_nI (by omega) (by omega)
            refine S_σ (su_su _ _ _ _) ?_
            refine S_iinc (q := 74) [_, _, _, _, _, _] hX dX7_draw_71 rfl (ii_1 _) rfl (Nat.le_of_ble_eq_true rfl) rfl rfl ?_
            refine S_goto 3 hX dX7_draw_74 rfl ?_
            rw [nI_1]
            exact ih (k + 1) _ _ hlt (by omega) (fun i hi => by
              rw [nI_clamp (by omega)]
              by_cases hik : i = k
              · rw [hik, upd_eq]
                unfold drw; rw [if_pos hb0]; unfold blw; rw [if_neg hs, g1.1]
              · rw [upd_ne hik]; exact hh i (by omega))
          · have hs : f k < 10 := by rw [eg, i10, nI_leI (by decide) (by omega)] at c39; omega
            refine S_iconst (q := 43) (v := 1) hX dX7_draw_42 ic_1 rfl ?_
            refine S_goto 47 hX dX7_draw_43 rfl ?_
            refine S_istore (q := 49) [_, _, _, _, _, _] hX dX7_draw_47 rfl (Nat.le_of_ble_eq_true rfl) rfl rfl ?_
            refine S_aload_n (q := 50) hX dX7_draw_49 rfl rfl ?_
            refine S_iload (q := 52) hX dX7_draw_50 rfl rfl ?_
            refine S_iload (q := 54) hX dX7_draw_52 rfl rfl ?_
            refine S_if_eq (q := 57) 66 hX dX7_draw_54 rfl rfl (fun c54 => absurd c54 (by decide)) (fun c54 => ?_)
            refine S_aload_n (q := 58) hX dX7_draw_57 rfl rfl ?_
            refine S_iload (q := 60) hX dX7_draw_58 rfl rfl ?_
            refine S_iald (N := ?n_8) (f := ?f_8) (q := 61) hX dX7_draw_60 ?hs_8 ?hi_8 rfl ?_
            case hs_8 => repeat (first | with_reducible assumption | exact su_eq _ _ _ | refine (su_ne (by omega)).trans ?_)
            case hi_8 => exact vp_in_nI (by omega) (by omega)
            refine S_iconst (q := 62) (v := 2) hX dX7_draw_61 ic_2 rfl ?_
            refine S_iadd (q := 63) hX dX7_draw_62 rfl ?_
            refine S_goto 70 hX dX7_draw_63 rfl ?_
            refine S_iast (N := ?n_9) (f := ?f_9) (q := 71) hX dX7_draw_70 ?hs_9 ?hi_9 rfl ?_
            case hs_9 => repeat (first | with_reducible assumption | exact su_eq _ _ _ | refine (su_ne (by omega)).trans ?_)
            case hi_9 => exact vp_in_nI (by omega) (by omega)
            refine S_σ (su_su _ _ _ _) ?_
            refine S_iinc (q := 74) [_, _, _, _, _, _] hX dX7_draw_71 rfl (ii_1 _) rfl (Nat.le_of_ble_eq_true rfl) rfl rfl ?_
            refine S_goto 3 hX dX7_draw_74 rfl ?_
            rw [nI_1]
            exact ih (k + 1) _ _ hlt (by omega) (fun i hi => by
              rw [nI_clamp (by omega)]
              by_cases hik : i = k
              · rw [hik, upd_eq]
                unfold drw; rw [if_pos hb0]; unfold blw; rw [if_pos hs, g1.1]; exact nI_add _ 2
              · rw [upd_ne hik]; exact hh i (by omega))
  refine S_iconst (q := 1) (v := 0) hX dX7_draw_0 ic_0 rfl ?_
  refine S_istore (q := 3) [_, _, _, _, _, _] hX dX7_draw_1 rfl (Nat.le_of_ble_eq_true rfl) rfl rfl ?_
  refine S_σ (su_id hb).symm ?_
  exact loop (n + 1) 0 h _ (Nat.zero_le _) (by omega) (fun i hi => absurd hi (Nat.not_lt_zero _))
/-- the class that reads as a kind does -/
def cik : Nat → Nat
  | 0 => 3
  | 1 => 4
  | 2 => 1
  | 3 => 5
  | _ => 0
theorem cik_F (kd : Nat) : isF (cik kd) := by
  unfold cik isF
  split <;> decide

theorem c_X3_sees_0 (a : Nat) (x y : Int32) (s b : Nat) (hx : x = nI s) (hy : y = nI b) : CT_X3_sees [.ref a, .int x, .int y] (fun Γ σ sz => s < 12 ∧ b < 60) (fun Γ σ sz v σ' sz' => v = some (.int (vw 0 s b)) ∧ σ' = σ ∧ sz' = sz) := by
  refine CT.mkP rfl (Nat.le_of_ble_eq_true rfl) [_, _, _] rfl ?_
  intro X Γ σ sz P hX hpre hsz hP
  obtain ⟨hs, hb⟩ := hpre
  subst hx
  subst hy
  have eb : nI b - nI b / 3 * 3 = nI (b % 3) := pk_rem (by omega) (by decide) (by decide)
  have eb2 : nI (b % 3) = 2 ↔ b % 3 = 2 := nI_eq (by omega) (by decide)
  refine S_iload_n (q := 1) hX dX3_sees_0 rfl rfl ?_
  refine S_iret hX dX3_sees_1 (Nat.zero_le _) (Nat.zero_le _) ?_
  refine hP _ _ _ ?_
  refine ⟨?_, rfl, rfl⟩
  unfold vw
  rw [if_neg (by omega), if_neg (by omega), if_neg (by omega)]
theorem c_X3_sees_1 (a : Nat) (x y : Int32) (s b : Nat) (hx : x = nI s) (hy : y = nI b) : CT_X3_sees [.ref a, .int x, .int y] (fun Γ σ sz => s < 12 ∧ b < 60) (fun Γ σ sz v σ' sz' => v = some (.int (vw 1 s b)) ∧ σ' = σ ∧ sz' = sz) := by
  refine CT.mkP rfl (Nat.le_of_ble_eq_true rfl) [_, _, _] rfl ?_
  intro X Γ σ sz P hX hpre hsz hP
  obtain ⟨hs, hb⟩ := hpre
  subst hx
  subst hy
  have eb : nI b - nI b / 3 * 3 = nI (b % 3) := pk_rem (by omega) (by decide) (by decide)
  have eb2 : nI (b % 3) = 2 ↔ b % 3 = 2 := nI_eq (by omega) (by decide)
  refine S_iload_n (q := 1) hX dX3_sees_0 rfl rfl ?_
  refine S_iret hX dX3_sees_1 (Nat.zero_le _) (Nat.zero_le _) ?_
  refine hP _ _ _ ?_
  refine ⟨?_, rfl, rfl⟩
  unfold vw
  rw [if_neg (by omega), if_neg (by omega), if_neg (by omega)]
theorem c_X1_sees_2 (a : Nat) (x y : Int32) (s b : Nat) (hx : x = nI s) (hy : y = nI b) : CT_X1_sees [.ref a, .int x, .int y] (fun Γ σ sz => s < 12 ∧ b < 60) (fun Γ σ sz v σ' sz' => v = some (.int (vw 2 s b)) ∧ σ' = σ ∧ sz' = sz) := by
  refine CT.mkP rfl (Nat.le_of_ble_eq_true rfl) [_, _, _] rfl ?_
  intro X Γ σ sz P hX hpre hsz hP
  obtain ⟨hs, hb⟩ := hpre
  subst hx
  subst hy
  have eb : nI b - nI b / 3 * 3 = nI (b % 3) := pk_rem (by omega) (by decide) (by decide)
  have eb2 : nI (b % 3) = 2 ↔ b % 3 = 2 := nI_eq (by omega) (by decide)
  refine S_iload_n (q := 1) hX dX1_sees_0 rfl rfl ?_
  refine S_iconst (q := 2) (v := 3) hX dX1_sees_1 ic_3 rfl ?_
  refine S_irem (q := 3) hX dX1_sees_2 (by decide) rfl ?_
  refine S_iconst (q := 4) (v := 2) hX dX1_sees_3 ic_2 rfl ?_
  refine S_icmp_ne (q := 7) 11 hX dX1_sees_4 rfl rfl (fun c4 => ?_) (fun c4 => ?_)
  · refine S_iload_n (q := 12) hX dX1_sees_11 rfl rfl ?_
    refine S_iret hX dX1_sees_12 (Nat.zero_le _) (Nat.zero_le _) ?_
    refine hP _ _ _ ?_
    refine ⟨?_, rfl, rfl⟩
    rw [eb] at c4
    unfold vw
    rw [if_neg (fun z => c4 (eb2.mpr z.2)), if_neg (by omega), if_neg (by omega)]
  · refine S_iconst (q := 8) (v := (-1)) hX dX1_sees_7 ic_m1 rfl ?_
    refine S_goto 12 hX dX1_sees_8 rfl ?_
    refine S_iret hX dX1_sees_12 (Nat.zero_le _) (Nat.zero_le _) ?_
    refine hP _ _ _ ?_
    refine ⟨?_, rfl, rfl⟩
    rw [eb] at c4
    unfold vw
    rw [if_pos ⟨Or.inl rfl, eb2.mp c4⟩]
theorem xor1 (s : Nat) (h : s < 12) : nI s ^^^ 1 = vw 3 s 0 := by
  have : ∀ s : Fin 12, nI s.val ^^^ 1 = vw 3 s.val 0 := by decide +kernel
  exact this ⟨s, h⟩
theorem vw3 (s b : Nat) : vw 3 s b = vw 3 s 0 := by
  unfold vw
  simp

theorem c_X5_sees_3 (a : Nat) (x y : Int32) (s b : Nat) (hx : x = nI s) (hy : y = nI b) : CT_X5_sees [.ref a, .int x, .int y] (fun Γ σ sz => s < 12 ∧ b < 60 ∧ isO σ a 5) (fun Γ σ sz v σ' sz' => v = some (.int (vw 3 s b)) ∧ σ' = σ ∧ sz' = sz) := by
  refine CT.mkP rfl (Nat.le_of_ble_eq_true rfl) [_, _, _] rfl ?_
  intro X Γ σ sz P hX hpre hsz hP
  obtain ⟨hs, hb, hO⟩ := hpre
  subst hx
  subst hy
  have eb : nI b - nI b / 3 * 3 = nI (b % 3) := pk_rem (by omega) (by decide) (by decide)
  have eb2 : nI (b % 3) = 2 ↔ b % 3 = 2 := nI_eq (by omega) (by decide)
  refine S_aload_n (q := 1) hX dX5_sees_0 rfl rfl ?_
  refine S_iload_n (q := 2) hX dX5_sees_1 rfl rfl ?_
  refine S_iload_n (q := 3) hX dX5_sees_2 rfl rfl ?_
  refine S_callSI (ci := ?ci_1) (C := ?cl_1) (T := ?tt_1) (N := ?nn_1) (q := 6) 0 0 hX (c_X3_sees_0 _ _ _ s b rfl rfl) rfl ?hs_1 ?hc_1 u_563 u_564 u_253 u_221 u_549 u_6 u_566 rfl ⟨by decide, rfl⟩ ⟨Nat.le_of_ble_eq_true rfl, Nat.le_of_ble_eq_true rfl⟩ ⟨Nat.le_of_ble_eq_true rfl, Nat.le_of_ble_eq_true rfl⟩ (Nat.le_of_ble_eq_true rfl) dX5_sees_3 ?hp_1 rfl rfl rfl ?_
  case hs_1 => exact hO
  case hc_1 => rfl
  case hp_1 => exact ⟨hs, hb⟩
  rintro v σ1 sz1 ⟨rfl, rfl, rfl⟩
  refine S_iconst (q := 7) (v := 1) hX dX5_sees_6 ic_1 rfl ?_
  refine S_ixor (q := 8) hX dX5_sees_7 rfl ?_
  refine S_iret hX dX5_sees_8 (Nat.zero_le _) (Nat.zero_le _) ?_
  refine hP _ _ _ ?_
  refine ⟨?_, rfl, rfl⟩
  rw [vw3, ← xor1 s hs]
  refine congrArg (fun z => some (Value.int (z ^^^ 1))) ?_
  unfold vw
  rw [if_neg (by omega), if_neg (by omega), if_neg (by omega)]
theorem v4_all : ∀ s : Fin 12, ∀ j : Fin 3, (vw 2 s.val j.val < 10 → vw 2 s.val j.val = vw 4 s.val j.val) ∧ (¬ vw 2 s.val j.val < 10 → vw 2 s.val j.val - 2 = vw 4 s.val j.val) := by decide +kernel
theorem vw_m (kd s b : Nat) : vw kd s b = vw kd s (b % 3) := by
  unfold vw
  rw [Nat.mod_mod]
theorem v4_n (s b : Nat) (h : s < 12) (c : vw 2 s b < 10) : vw 2 s b = vw 4 s b := by
  rw [vw_m 2, vw_m 4]
  rw [vw_m] at c
  exact (v4_all ⟨s, h⟩ ⟨b % 3, Nat.mod_lt _ (by decide)⟩).1 c
theorem v4_y (s b : Nat) (h : s < 12) (c : ¬ vw 2 s b < 10) : vw 2 s b - 2 = vw 4 s b := by
  rw [vw_m 2, vw_m 4]
  rw [vw_m] at c
  exact (v4_all ⟨s, h⟩ ⟨b % 3, Nat.mod_lt _ (by decide)⟩).2 c

theorem c_X0_sees_4 (a : Nat) (x y : Int32) (s b : Nat) (hx : x = nI s) (hy : y = nI b) : CT_X0_sees [.ref a, .int x, .int y] (fun Γ σ sz => s < 12 ∧ b < 60 ∧ isO σ a 0) (fun Γ σ sz v σ' sz' => v = some (.int (vw 4 s b)) ∧ σ' = σ ∧ sz' = sz) := by
  refine CT.mkP rfl (Nat.le_of_ble_eq_true rfl) [_, _, _, _] rfl ?_
  intro X Γ σ sz P hX hpre hsz hP
  obtain ⟨hs, hb, hO⟩ := hpre
  subst hx
  subst hy
  have eb : nI b - nI b / 3 * 3 = nI (b % 3) := pk_rem (by omega) (by decide) (by decide)
  have eb2 : nI (b % 3) = 2 ↔ b % 3 = 2 := nI_eq (by omega) (by decide)
  refine S_aload_n (q := 1) hX dX0_sees_0 rfl rfl ?_
  refine S_iload_n (q := 2) hX dX0_sees_1 rfl rfl ?_
  refine S_iload_n (q := 3) hX dX0_sees_2 rfl rfl ?_
  refine S_callSU (ci := ?ci_1) (C := ?cl_1) (T := ?tt_1) (N := ?nn_1) (q := 6) 0 0 hX (c_X1_sees_2 _ _ _ s b rfl rfl) rfl ?hs_1 ?hc_1 u_555 u_1104 u_269 u_556 u_8 u_557 ⟨by decide, rfl⟩ ⟨Nat.le_of_ble_eq_true rfl, Nat.le_of_ble_eq_true rfl⟩ ⟨Nat.le_of_ble_eq_true rfl, Nat.le_of_ble_eq_true rfl⟩ (Nat.le_of_ble_eq_true rfl) dX0_sees_3 ?hp_1 rfl rfl rfl ?_
  case hs_1 => exact hO
  case hc_1 => rfl
  case hp_1 => exact ⟨hs, hb⟩
  rintro v σ1 sz1 ⟨rfl, rfl, rfl⟩
  refine S_istore_n (q := 7) [_, _, _, _] hX dX0_sees_6 rfl (Nat.le_of_ble_eq_true rfl) rfl rfl ?_
  refine S_iload_n (q := 8) hX dX0_sees_7 rfl rfl ?_
  refine S_bipush (q := 10) (v := 10) hX dX0_sees_8 bp_10 rfl ?_
  refine S_icmp_lt (q := 13) 19 hX dX0_sees_10 rfl rfl (fun c10 => ?_) (fun c10 => ?_)
  · refine S_iload_n (q := 20) hX dX0_sees_19 rfl rfl ?_
    refine S_iret hX dX0_sees_20 (Nat.zero_le _) (Nat.zero_le _) ?_
    refine hP _ _ _ ?_
    refine ⟨?_, rfl, rfl⟩
    refine congrArg (fun z => some (Value.int z)) ?_
    exact v4_n s b hs c10
  · refine S_iload_n (q := 14) hX dX0_sees_13 rfl rfl ?_
    refine S_iconst (q := 15) (v := 2) hX dX0_sees_14 ic_2 rfl ?_
    refine S_isub (q := 16) hX dX0_sees_15 rfl ?_
    refine S_goto 20 hX dX0_sees_16 rfl ?_
    refine S_iret hX dX0_sees_20 (Nat.zero_le _) (Nat.zero_le _) ?_
    refine hP _ _ _ ?_
    refine ⟨?_, rfl, rfl⟩
    refine congrArg (fun z => some (Value.int z)) ?_
    exact v4_y s b hs c10
theorem c_X3_prefers (a : Nat) (x y : Int32) : CT_X3_prefers [.ref a, .int x, .int y] (fun Γ σ sz => True) (fun Γ σ sz v σ' sz' => v = some (.int (bi (y < x))) ∧ σ' = σ ∧ sz' = sz) := by
  refine CT.mkP rfl (Nat.le_of_ble_eq_true rfl) [_, _, _] rfl ?_
  intro X Γ σ sz P hX hpre hsz hP
  refine S_iload_n (q := 1) hX dX3_prefers_0 rfl rfl ?_
  refine S_iload_n (q := 2) hX dX3_prefers_1 rfl rfl ?_
  refine S_icmp_le (q := 5) 9 hX dX3_prefers_2 rfl rfl (fun c2 => ?_) (fun c2 => ?_)
  · refine S_iconst (q := 10) (v := 0) hX dX3_prefers_9 ic_0 rfl ?_
    refine S_xret hX dX3_prefers_10 (Nat.zero_le _) (Nat.zero_le _) (by decide) ?_
    refine hP _ _ _ ?_
    refine ⟨?_, rfl, rfl⟩
    rw [bi_f (by first | exact Int32.not_lt.mpr c2 | exact c2)]
  · refine S_iconst (q := 6) (v := 1) hX dX3_prefers_5 ic_1 rfl ?_
    refine S_goto 10 hX dX3_prefers_6 rfl ?_
    refine S_xret hX dX3_prefers_10 (Nat.zero_le _) (Nat.zero_le _) (by decide) ?_
    refine hP _ _ _ ?_
    refine ⟨?_, rfl, rfl⟩
    rw [bi_t (by first | exact Int32.not_le.mp c2 | exact Decidable.not_not.mp c2 | exact c2)]
theorem c_X4_prefers (a : Nat) (x y : Int32) : CT_X4_prefers [.ref a, .int x, .int y] (fun Γ σ sz => True) (fun Γ σ sz v σ' sz' => v = some (.int (bi (x < y))) ∧ σ' = σ ∧ sz' = sz) := by
  refine CT.mkP rfl (Nat.le_of_ble_eq_true rfl) [_, _, _] rfl ?_
  intro X Γ σ sz P hX hpre hsz hP
  refine S_iload_n (q := 1) hX dX4_prefers_0 rfl rfl ?_
  refine S_iload_n (q := 2) hX dX4_prefers_1 rfl rfl ?_
  refine S_icmp_ge (q := 5) 9 hX dX4_prefers_2 rfl rfl (fun c2 => ?_) (fun c2 => ?_)
  · refine S_iconst (q := 10) (v := 0) hX dX4_prefers_9 ic_0 rfl ?_
    refine S_xret hX dX4_prefers_10 (Nat.zero_le _) (Nat.zero_le _) (by decide) ?_
    refine hP _ _ _ ?_
    refine ⟨?_, rfl, rfl⟩
    rw [bi_f (by first | exact Int32.not_lt.mpr c2 | exact c2)]
  · refine S_iconst (q := 6) (v := 1) hX dX4_prefers_5 ic_1 rfl ?_
    refine S_goto 10 hX dX4_prefers_6 rfl ?_
    refine S_xret hX dX4_prefers_10 (Nat.zero_le _) (Nat.zero_le _) (by decide) ?_
    refine hP _ _ _ ?_
    refine ⟨?_, rfl, rfl⟩
    rw [bi_t (by first | exact Int32.not_le.mp c2 | exact Decidable.not_not.mp c2 | exact c2)]
