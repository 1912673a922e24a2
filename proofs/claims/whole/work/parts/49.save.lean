/-- in how many of the first i beats a row r is another than s -/
def apC (s r : Nat → Nat) : Nat → Nat
  | 0 => 0
  | i + 1 => apC s r i + (if r i = s i then 0 else 1)
theorem apC_eq {s r : Nat → Nat} {i : Nat} (h : r i = s i) : apC s r (i + 1) = apC s r i := by rw [apC, if_pos h]; rfl
theorem apC_ne {s r : Nat → Nat} {i : Nat} (h : ¬ r i = s i) : apC s r (i + 1) = apC s r i + 1 := by rw [apC, if_neg h]
theorem apC_le {s r : Nat → Nat} : ∀ i, apC s r i ≤ i
  | 0 => Nat.le_refl 0
  | i + 1 => by have := apC_le (s := s) (r := r) i; rw [apC]; split <;> omega
theorem apC_mono {s r : Nat → Nat} {i : Nat} : ∀ j, i ≤ j → apC s r i ≤ apC s r j
  | 0, h => by rw [show i = 0 by omega]; exact Nat.le_refl _
  | j + 1, h => by
    rcases Nat.lt_or_ge j i with z | z
    · rw [show i = j + 1 by omega]; exact Nat.le_refl _
    · have := apC_mono (s := s) (r := r) j z
      rw [apC]; omega
theorem apC_cg {s r w : Nat → Nat} : ∀ p, (∀ i, i < p → w i = r i) → apC s w p = apC s r p
  | 0, _ => rfl
  | p + 1, h => by rw [apC, apC, apC_cg p (fun i hi => h i (by omega)), h p (Nat.lt_succ_self p)]
theorem apN_C {n w : Nat} {r : Nat → Nat} (h : rowOk n r) : apN n (rv r n) w = apC (stN w n) r n := by
  have st : ∀ m, m ≤ n → ((List.range m).filter fun k => stN (rv r n) n k ≠ stN w n k).length = apC (stN w n) r m := by
    intro m
    induction m with
    | zero => intro _; rfl
    | succ m ih =>
      intro hm
      rw [List.range_succ, List.filter_append, List.length_append, ih (by omega), apC]
      congr 1
      by_cases he : r m = stN w n m
      · rw [if_pos he, List.filter_cons_of_neg (by rw [stN_rv n h m (by omega), he]; simp)]; rfl
      · rw [if_neg he, List.filter_cons_of_pos (by rw [stN_rv n h m (by omega)]; simpa using he)]; rfl
  exact st n (Nat.le_refl n)
/-- a row is safe, and in no more than bb beats another than what is said -/
def savF (S : ST) (C : CodT) (wd n bb : Nat) (w : Nat → Nat) : Prop := apC (stN S.1.2.2.2.1 n) w n ≤ bb ∧ wd ∉ rdK 0 (fun b => drw S.1.2.2.1 (w b) b) n C
theorem mem_tk {L rest : List Nat} {j wd : Nat} (h : j < L.length) (e : L.getD j 0 = wd) : wd ∈ L.take (j + 1) ++ rest := by
  rw [← e, ← getD_tk (rest := rest) h, List.getD_eq_getElem?_getD, List.getElem?_eq_getElem (len_tk h), Option.getD_some]
  exact List.getElem_mem _
theorem getD_mem {L : List Nat} {wd : Nat} (h : wd ∈ L) : ∃ j, j < L.length ∧ L.getD j 0 = wd := by
  obtain ⟨j, hj, e⟩ := List.getElem_of_mem h
  exact ⟨j, hj, by rw [List.getD_eq_getElem?_getD, List.getElem?_eq_getElem hj, Option.getD_some, e]⟩

theorem c_X11_wrongToSave (q : Nat) (γ : MF) (S : ST) (C : CodT) (x y : Int32) (n bb wd : Nat) (r : Nat → Nat) (hx : x = nI bb) (hy : y = nI wd) : CT_X11_wrongToSave [.ref q, .int x, .int y] (fun Γ σ sz => FK σ q γ ∧ FR γ S ∧ StOk S ∧ CodOk C ∧ FdC (fun j => γ (138 + 7 * 0 + j)) C ∧ ln S.1.2.2.2.1 = n ∧ n ≤ 6 ∧ bb ≤ 6 ∧ wd < 10 ∧ γ 173 0 = nI n ∧ lawF n r ∧ ∀ i, i < n → γ 174 i = nI (r i)) (fun Γ σ sz v σ' sz' => ∃ γ', FK σ' q γ' ∧ Fr q (q + 179) σ σ' ∧ WrR v n (savF S C wd n bb) r ∧ ((∀ j, j < 137 ∨ j = 173 ∨ j = 174 → γ' j = γ j) ∧ FdC (fun j => γ' (138 + 7 * 0 + j)) C) ∧ sz' = sz) := by
  refine CT.mkP rfl (Nat.le_of_ble_eq_true rfl) [_, _, _, _, _, _] rfl ?_
  intro X Γ σ sz P hX hpre hsz hP
  obtain ⟨hM, hR, ok, hC, hfa, hsay, hn6, hb6, hwd, hn0, hlaw, hr⟩ := hpre
  subst hx
  subst hy
  obtain ⟨σ0, eσ0⟩ : ∃ z, z = σ := ⟨σ, rfl⟩
  rw [← eσ0] at hP
  have hF : Fr q (q + 179) σ0 σ := by rw [eσ0]; exact Fr.rf
  obtain ⟨r0, r1, r2, r3, r4, r5⟩ := id hR
  obtain ⟨t0, t1, t2, t3, t4, t5, t6, t7, t8⟩ := id r0
  obtain ⟨o1, o2, o3, o4, o5, o6, o7, o8, o9, o10⟩ := id ok.1
  have hkd : 0 < 5 := by decide
  have l111 : apC (stN S.1.2.2.2.1 n) r n ≤ bb → ∀ (gd : Nat → Int32) (g1 : MF) (x3 : Int32) (σ : Sg), LisP (fun j => spl (m1 γ 175 gd) (138 + 7 * 0) 7 g1 (138 + 7 * 0 + j)) 0 C (fun b => drw S.1.2.2.1 (r b) b) n → FK σ q (spl (m1 γ 175 gd) (138 + 7 * 0) 7 g1) → Fr q (q + 179) σ0 σ → ∀ (fl j : Nat), j ≤ (rdK 0 (fun b => drw S.1.2.2.1 (r b) b) n C).length → (rdK 0 (fun b => drw S.1.2.2.1 (r b) b) n C).length - j < fl → (∀ k, k < j → ¬ (rdK 0 (fun b => drw S.1.2.2.1 (r b) b) n C).getD k 0 = wd) → G X Γ P 0 0 111 [some (.ref q), some (.int (nI bb)), some (.int (nI wd)), some (.int x3), some (.ref (q + (138 + 7 * 0))), some (.int (nI j))] [] σ sz := by
    intro hap gd g1 x3 σ hL1 hM hF fl
    have ht := hL1.tm hC
    have ht1 : spl (m1 γ 175 gd) (138 + 7 * 0) 7 g1 (138 + 7 * 0 + 0) 1 = nI (rdK 0 (fun b => drw S.1.2.2.1 (r b) b) n C).length := ht.1
    have hl6 := ht.2.1
    have hw1 : WL (spl (m1 γ 175 gd) (138 + 7 * 0) 7 g1 (138 + 7 * 0 + 1)) (rdK 0 (fun b => drw S.1.2.2.1 (r b) b) n C) := ht.2.2.1
    have hw10 := ht.2.2.2
    obtain ⟨hfd1, lk, lf, e1, e2, e3, e4, e5, e6, e7⟩ := id hL1
    have hkp : ∀ j, j < 137 ∨ j = 173 ∨ j = 174 → (spl (m1 γ 175 gd) (138 + 7 * 0) 7 g1) j = γ j := fun j hj => (spl_out (by omega)).trans (m1_ne (by omega))
    induction fl with
      | zero => intro j h1 h2; omega
      | succ fl ih =>
        intro j hj hfu hal
        refine S_iload (q := 113) hX dX11_wrongToSave_111 rfl rfl ?_
        refine S_aload (q := 115) hX dX11_wrongToSave_113 rfl rfl ?_
        refine S_getf (fs := ?fs_1) (v := ?v_1) (q := 118) hX u_181 (fo_F_heard (cik_F 0)) dX11_wrongToSave_115 ?hs_1 ?hv_1 rfl ?_
        case hs_1 => with_reducible first | exact FK.c0 hM | exact FK.c1 hM | exact FK.c2 hM | exact FK.c7 hM | exact FK.c129 hM | exact FK.c3 hM | exact FK.c4 hM | exact FK.c5 hM | exact FK.c6 hM | exact FK.c39 hM | exact FK.c40 hM | exact FK.c41 hM | exact FK.c42 hM | exact FK.c43 hM | exact FK.c128 hM | exact FK.c136 hM | exact FK.c137 hM | exact FK.c173 hM | exact FK.c174 hM | exact FK.c175 hM | exact FK.c176 hM | exact FK.c177 hM | exact FK.c178 hM | exact RK.c0 (FK.rk hkd hM) | exact RK.c1 (FK.rk hkd hM) | exact RK.c2 (FK.rk hkd hM) | exact RK.c0 (FK.rk hk2 hM) | exact RK.c1 (FK.rk hk2 hM) | exact RK.c2 (FK.rk hk2 hM)
        case hv_1 => rfl
        refine S_icmp_ge (q := 121) 148 hX dX11_wrongToSave_118 rfl rfl (fun c118 => ?_) (fun c118 => ?_)
        · have hge : j = (rdK 0 (fun b => drw S.1.2.2.1 (r b) b) n C).length := by rw [ht1, nI_leI (by omega) (by omega)] at c118; omega
          refine S_bipush (q := 150) (v := 99) hX dX11_wrongToSave_148 bp_99 rfl ?_
          refine S_iret hX dX11_wrongToSave_150 (Nat.zero_le _) (Nat.zero_le _) ?_
          refine hP _ _ _ ?_
          exact ⟨_, hM, hF, Or.inl ⟨rfl, hap, fun hm => by obtain ⟨k, hk, e⟩ := getD_mem hm; exact hal k (by omega) e⟩, ⟨hkp, hfd1⟩, rfl⟩
        · have hlt : j < (rdK 0 (fun b => drw S.1.2.2.1 (r b) b) n C).length := by rw [ht1, nI_leI (by omega) (by omega)] at c118; omega
          have f1 : spl (m1 γ 175 gd) (138 + 7 * 0) 7 g1 (138 + 7 * 0 + 1) (nI j).toNatClampNeg = nI ((rdK 0 (fun b => drw S.1.2.2.1 (r b) b) n C).getD j 0) := by rw [nI_clamp (by omega)]; exact hw1 j hlt
          have w1 := hw10 j hlt
          refine S_aload (q := 123) hX dX11_wrongToSave_121 rfl rfl ?_
          refine S_getf (fs := ?fs_2) (v := ?v_2) (q := 126) hX u_175 (fo_F_words (cik_F 0)) dX11_wrongToSave_123 ?hs_2 ?hv_2 rfl ?_
          case hs_2 => with_reducible first | exact FK.c0 hM | exact FK.c1 hM | exact FK.c2 hM | exact FK.c7 hM | exact FK.c129 hM | exact FK.c3 hM | exact FK.c4 hM | exact FK.c5 hM | exact FK.c6 hM | exact FK.c39 hM | exact FK.c40 hM | exact FK.c41 hM | exact FK.c42 hM | exact FK.c43 hM | exact FK.c128 hM | exact FK.c136 hM | exact FK.c137 hM | exact FK.c173 hM | exact FK.c174 hM | exact FK.c175 hM | exact FK.c176 hM | exact FK.c177 hM | exact FK.c178 hM | exact RK.c0 (FK.rk hkd hM) | exact RK.c1 (FK.rk hkd hM) | exact RK.c2 (FK.rk hkd hM) | exact RK.c0 (FK.rk hk2 hM) | exact RK.c1 (FK.rk hk2 hM) | exact RK.c2 (FK.rk hk2 hM)
          case hv_2 => rfl
          refine S_iload (q := 128) hX dX11_wrongToSave_126 rfl rfl ?_
          refine S_iald (N := ?n_3) (f := ?f_3) (q := 129) hX dX11_wrongToSave_128 ?hs_3 ?hi_3 rfl ?_
          case hs_3 => with_reducible first | exact FK.c0 hM | exact FK.c1 hM | exact FK.c2 hM | exact FK.c7 hM | exact FK.c129 hM | exact FK.c3 hM | exact FK.c4 hM | exact FK.c5 hM | exact FK.c6 hM | exact FK.c39 hM | exact FK.c40 hM | exact FK.c41 hM | exact FK.c42 hM | exact FK.c43 hM | exact FK.c128 hM | exact FK.c136 hM | exact FK.c137 hM | exact FK.c173 hM | exact FK.c174 hM | exact FK.c175 hM | exact FK.c176 hM | exact FK.c177 hM | exact FK.c178 hM | exact RK.c0 (FK.rk hkd hM) | exact RK.c1 (FK.rk hkd hM) | exact RK.c2 (FK.rk hkd hM) | exact RK.c0 (FK.rk hk2 hM) | exact RK.c1 (FK.rk hk2 hM) | exact RK.c2 (FK.rk hk2 hM)
          case hi_3 => exact vp_in_nI (by omega) (by decide)
          refine S_iload_n (q := 130) hX dX11_wrongToSave_129 rfl rfl ?_
          refine S_icmp_ne (q := 133) 142 hX dX11_wrongToSave_130 rfl rfl (fun c130 => ?_) (fun c130 => ?_)
          · have hne : ¬ (rdK 0 (fun b => drw S.1.2.2.1 (r b) b) n C).getD j 0 = wd := fun z => c130 (by rw [f1, z])
            refine S_iinc (q := 145) [_, _, _, _, _, _] hX dX11_wrongToSave_142 rfl (ii_1 _) rfl (Nat.le_of_ble_eq_true rfl) rfl rfl ?_
            refine S_goto 111 hX dX11_wrongToSave_145 rfl ?_
            rw [nI_1]
            exact ih (j + 1) hlt (by omega) (fun k hk => by rcases Nat.lt_succ_iff_lt_or_eq.mp hk with z | z; exact hal k z; rw [z]; exact hne)
          · have heq : (rdK 0 (fun b => drw S.1.2.2.1 (r b) b) n C).getD j 0 = wd := by
              have c := c130
              rw [f1] at c
              exact nI_inj w1 (by omega) c
            refine S_aload (q := 135) hX dX11_wrongToSave_133 rfl rfl ?_
            refine S_getf (fs := ?fs_4) (v := ?v_4) (q := 138) hX u_177 (fo_F_lookedFor (cik_F 0)) dX11_wrongToSave_135 ?hs_4 ?hv_4 rfl ?_
            case hs_4 => with_reducible first | exact FK.c0 hM | exact FK.c1 hM | exact FK.c2 hM | exact FK.c7 hM | exact FK.c129 hM | exact FK.c3 hM | exact FK.c4 hM | exact FK.c5 hM | exact FK.c6 hM | exact FK.c39 hM | exact FK.c40 hM | exact FK.c41 hM | exact FK.c42 hM | exact FK.c43 hM | exact FK.c128 hM | exact FK.c136 hM | exact FK.c137 hM | exact FK.c173 hM | exact FK.c174 hM | exact FK.c175 hM | exact FK.c176 hM | exact FK.c177 hM | exact FK.c178 hM | exact RK.c0 (FK.rk hkd hM) | exact RK.c1 (FK.rk hkd hM) | exact RK.c2 (FK.rk hkd hM) | exact RK.c0 (FK.rk hk2 hM) | exact RK.c1 (FK.rk hk2 hM) | exact RK.c2 (FK.rk hk2 hM)
            case hv_4 => rfl
            refine S_iload (q := 140) hX dX11_wrongToSave_138 rfl rfl ?_
            refine S_iald (N := ?n_5) (f := ?f_5) (q := 141) hX dX11_wrongToSave_140 ?hs_5 ?hi_5 rfl ?_
            case hs_5 => with_reducible first | exact FK.c0 hM | exact FK.c1 hM | exact FK.c2 hM | exact FK.c7 hM | exact FK.c129 hM | exact FK.c3 hM | exact FK.c4 hM | exact FK.c5 hM | exact FK.c6 hM | exact FK.c39 hM | exact FK.c40 hM | exact FK.c41 hM | exact FK.c42 hM | exact FK.c43 hM | exact FK.c128 hM | exact FK.c136 hM | exact FK.c137 hM | exact FK.c173 hM | exact FK.c174 hM | exact FK.c175 hM | exact FK.c176 hM | exact FK.c177 hM | exact FK.c178 hM | exact RK.c0 (FK.rk hkd hM) | exact RK.c1 (FK.rk hkd hM) | exact RK.c2 (FK.rk hkd hM) | exact RK.c0 (FK.rk hk2 hM) | exact RK.c1 (FK.rk hk2 hM) | exact RK.c2 (FK.rk hk2 hM)
            case hi_5 => exact vp_in_nI (by omega) (by decide)
            refine S_iret hX dX11_wrongToSave_141 (Nat.zero_le _) (Nat.zero_le _) ?_
            refine hP _ _ _ ?_
            refine ⟨_, hM, hF, Or.inr ⟨lf j, congrArg (fun z => some (Value.int z)) (by rw [nI_clamp (by omega)]; exact (e5 j (by omega)).1), (e5 j (by omega)).2, fun w' hw' hH => ?_⟩, ⟨hkp, hfd1⟩, rfl⟩
            obtain ⟨rest, er⟩ := e7 j (by omega) (fun b => drw S.1.2.2.1 (w' b) b) (fun i hi => by show drw _ (w' i) i = drw _ (r i) i; rw [hw' i hi])
            refine hH.2 ?_
            rw [er]
            exact mem_tk hlt heq
  have l5 : ∀ (fl i : Nat) (v5 : Option Value), i ≤ n → n - i < fl → apC (stN S.1.2.2.2.1 n) r i ≤ bb → G X Γ P 0 0 5 [some (.ref q), some (.int (nI bb)), some (.int (nI wd)), some (.int (nI (bb - apC (stN S.1.2.2.2.1 n) r i))), some (.int (nI i)), v5] [] σ sz := by
    intro fl
    have hsn : γ 1 1 = nI n := by rw [← hsay]; exact t3
    induction fl with
      | zero => intro i v5 h1 h2; omega
      | succ fl ih =>
        intro i v5 hi hfu hap
        refine S_iload (q := 7) hX dX11_wrongToSave_5 rfl rfl ?_
        refine S_aload_n (q := 8) hX dX11_wrongToSave_7 rfl rfl ?_
        refine S_getf (fs := ?fs_6) (v := ?v_6) (q := 11) hX u_285 fo_X11_now dX11_wrongToSave_8 ?hs_6 ?hv_6 rfl ?_
        case hs_6 => with_reducible first | exact FK.c0 hM | exact FK.c1 hM | exact FK.c2 hM | exact FK.c7 hM | exact FK.c129 hM | exact FK.c3 hM | exact FK.c4 hM | exact FK.c5 hM | exact FK.c6 hM | exact FK.c39 hM | exact FK.c40 hM | exact FK.c41 hM | exact FK.c42 hM | exact FK.c43 hM | exact FK.c128 hM | exact FK.c136 hM | exact FK.c137 hM | exact FK.c173 hM | exact FK.c174 hM | exact FK.c175 hM | exact FK.c176 hM | exact FK.c177 hM | exact FK.c178 hM | exact RK.c0 (FK.rk hkd hM) | exact RK.c1 (FK.rk hkd hM) | exact RK.c2 (FK.rk hkd hM) | exact RK.c0 (FK.rk hk2 hM) | exact RK.c1 (FK.rk hk2 hM) | exact RK.c2 (FK.rk hk2 hM)
        case hv_6 => rfl
        refine S_getf (fs := ?fs_7) (v := ?v_7) (q := 14) hX u_93 fo_X9_beats dX11_wrongToSave_11 ?hs_7 ?hv_7 rfl ?_
        case hs_7 => with_reducible first | exact FK.c0 hM | exact FK.c1 hM | exact FK.c2 hM | exact FK.c7 hM | exact FK.c129 hM | exact FK.c3 hM | exact FK.c4 hM | exact FK.c5 hM | exact FK.c6 hM | exact FK.c39 hM | exact FK.c40 hM | exact FK.c41 hM | exact FK.c42 hM | exact FK.c43 hM | exact FK.c128 hM | exact FK.c136 hM | exact FK.c137 hM | exact FK.c173 hM | exact FK.c174 hM | exact FK.c175 hM | exact FK.c176 hM | exact FK.c177 hM | exact FK.c178 hM | exact RK.c0 (FK.rk hkd hM) | exact RK.c1 (FK.rk hkd hM) | exact RK.c2 (FK.rk hkd hM) | exact RK.c0 (FK.rk hk2 hM) | exact RK.c1 (FK.rk hk2 hM) | exact RK.c2 (FK.rk hk2 hM)
        case hv_7 => rfl
        refine S_icmp_ge (q := 17) 56 hX dX11_wrongToSave_14 rfl rfl (fun c14 => ?_) (fun c14 => ?_)
        · have hge : i = n := by rw [hsn, nI_leI (by omega) (by omega)] at c14; omega
          subst hge
          refine S_aload_n (q := 57) hX dX11_wrongToSave_56 rfl rfl ?_
          refine S_getf (fs := ?fs_8) (v := ?v_8) (q := 60) hX u_291 fo_X11_walk dX11_wrongToSave_57 ?hs_8 ?hv_8 rfl ?_
          case hs_8 => with_reducible first | exact FK.c0 hM | exact FK.c1 hM | exact FK.c2 hM | exact FK.c7 hM | exact FK.c129 hM | exact FK.c3 hM | exact FK.c4 hM | exact FK.c5 hM | exact FK.c6 hM | exact FK.c39 hM | exact FK.c40 hM | exact FK.c41 hM | exact FK.c42 hM | exact FK.c43 hM | exact FK.c128 hM | exact FK.c136 hM | exact FK.c137 hM | exact FK.c173 hM | exact FK.c174 hM | exact FK.c175 hM | exact FK.c176 hM | exact FK.c177 hM | exact FK.c178 hM | exact RK.c0 (FK.rk hkd hM) | exact RK.c1 (FK.rk hkd hM) | exact RK.c2 (FK.rk hkd hM) | exact RK.c0 (FK.rk hk2 hM) | exact RK.c1 (FK.rk hk2 hM) | exact RK.c2 (FK.rk hk2 hM)
          case hv_8 => rfl
          refine S_getf (fs := ?fs_9) (v := ?v_9) (q := 63) hX u_277 fo_X10_states dX11_wrongToSave_60 ?hs_9 ?hv_9 rfl ?_
          case hs_9 => with_reducible first | exact FK.c0 hM | exact FK.c1 hM | exact FK.c2 hM | exact FK.c7 hM | exact FK.c129 hM | exact FK.c3 hM | exact FK.c4 hM | exact FK.c5 hM | exact FK.c6 hM | exact FK.c39 hM | exact FK.c40 hM | exact FK.c41 hM | exact FK.c42 hM | exact FK.c43 hM | exact FK.c128 hM | exact FK.c136 hM | exact FK.c137 hM | exact FK.c173 hM | exact FK.c174 hM | exact FK.c175 hM | exact FK.c176 hM | exact FK.c177 hM | exact FK.c178 hM | exact RK.c0 (FK.rk hkd hM) | exact RK.c1 (FK.rk hkd hM) | exact RK.c2 (FK.rk hkd hM) | exact RK.c0 (FK.rk hk2 hM) | exact RK.c1 (FK.rk hk2 hM) | exact RK.c2 (FK.rk hk2 hM)
          case hv_9 => rfl
          refine S_aload_n (q := 64) hX dX11_wrongToSave_63 rfl rfl ?_
          refine S_getf (fs := ?fs_10) (v := ?v_10) (q := 67) hX u_291 fo_X11_walk dX11_wrongToSave_64 ?hs_10 ?hv_10 rfl ?_
          case hs_10 => with_reducible first | exact FK.c0 hM | exact FK.c1 hM | exact FK.c2 hM | exact FK.c7 hM | exact FK.c129 hM | exact FK.c3 hM | exact FK.c4 hM | exact FK.c5 hM | exact FK.c6 hM | exact FK.c39 hM | exact FK.c40 hM | exact FK.c41 hM | exact FK.c42 hM | exact FK.c43 hM | exact FK.c128 hM | exact FK.c136 hM | exact FK.c137 hM | exact FK.c173 hM | exact FK.c174 hM | exact FK.c175 hM | exact FK.c176 hM | exact FK.c177 hM | exact FK.c178 hM | exact RK.c0 (FK.rk hkd hM) | exact RK.c1 (FK.rk hkd hM) | exact RK.c2 (FK.rk hkd hM) | exact RK.c0 (FK.rk hk2 hM) | exact RK.c1 (FK.rk hk2 hM) | exact RK.c2 (FK.rk hk2 hM)
          case hv_10 => rfl
          refine S_getf (fs := ?fs_11) (v := ?v_11) (q := 70) hX u_279 fo_X10_beats dX11_wrongToSave_67 ?hs_11 ?hv_11 rfl ?_
          case hs_11 => with_reducible first | exact FK.c0 hM | exact FK.c1 hM | exact FK.c2 hM | exact FK.c7 hM | exact FK.c129 hM | exact FK.c3 hM | exact FK.c4 hM | exact FK.c5 hM | exact FK.c6 hM | exact FK.c39 hM | exact FK.c40 hM | exact FK.c41 hM | exact FK.c42 hM | exact FK.c43 hM | exact FK.c128 hM | exact FK.c136 hM | exact FK.c137 hM | exact FK.c173 hM | exact FK.c174 hM | exact FK.c175 hM | exact FK.c176 hM | exact FK.c177 hM | exact FK.c178 hM | exact RK.c0 (FK.rk hkd hM) | exact RK.c1 (FK.rk hkd hM) | exact RK.c2 (FK.rk hkd hM) | exact RK.c0 (FK.rk hk2 hM) | exact RK.c1 (FK.rk hk2 hM) | exact RK.c2 (FK.rk hk2 hM)
          case hv_11 => rfl
          refine S_aload_n (q := 71) hX dX11_wrongToSave_70 rfl rfl ?_
          refine S_getf (fs := ?fs_12) (v := ?v_12) (q := 74) hX u_285 fo_X11_now dX11_wrongToSave_71 ?hs_12 ?hv_12 rfl ?_
          case hs_12 => with_reducible first | exact FK.c0 hM | exact FK.c1 hM | exact FK.c2 hM | exact FK.c7 hM | exact FK.c129 hM | exact FK.c3 hM | exact FK.c4 hM | exact FK.c5 hM | exact FK.c6 hM | exact FK.c39 hM | exact FK.c40 hM | exact FK.c41 hM | exact FK.c42 hM | exact FK.c43 hM | exact FK.c128 hM | exact FK.c136 hM | exact FK.c137 hM | exact FK.c173 hM | exact FK.c174 hM | exact FK.c175 hM | exact FK.c176 hM | exact FK.c177 hM | exact FK.c178 hM | exact RK.c0 (FK.rk hkd hM) | exact RK.c1 (FK.rk hkd hM) | exact RK.c2 (FK.rk hkd hM) | exact RK.c0 (FK.rk hk2 hM) | exact RK.c1 (FK.rk hk2 hM) | exact RK.c2 (FK.rk hk2 hM)
          case hv_12 => rfl
          refine S_getf (fs := ?fs_13) (v := ?v_13) (q := 77) hX u_89 fo_X9_draughts dX11_wrongToSave_74 ?hs_13 ?hv_13 rfl ?_
          case hs_13 => with_reducible first | exact FK.c0 hM | exact FK.c1 hM | exact FK.c2 hM | exact FK.c7 hM | exact FK.c129 hM | exact FK.c3 hM | exact FK.c4 hM | exact FK.c5 hM | exact FK.c6 hM | exact FK.c39 hM | exact FK.c40 hM | exact FK.c41 hM | exact FK.c42 hM | exact FK.c43 hM | exact FK.c128 hM | exact FK.c136 hM | exact FK.c137 hM | exact FK.c173 hM | exact FK.c174 hM | exact FK.c175 hM | exact FK.c176 hM | exact FK.c177 hM | exact FK.c178 hM | exact RK.c0 (FK.rk hkd hM) | exact RK.c1 (FK.rk hkd hM) | exact RK.c2 (FK.rk hkd hM) | exact RK.c0 (FK.rk hk2 hM) | exact RK.c1 (FK.rk hk2 hM) | exact RK.c2 (FK.rk hk2 hM)
          case hv_13 => rfl
          refine S_aload_n (q := 78) hX dX11_wrongToSave_77 rfl rfl ?_
          refine S_getf (fs := ?fs_14) (v := ?v_14) (q := 81) hX u_292 fo_X11_drawn dX11_wrongToSave_78 ?hs_14 ?hv_14 rfl ?_
          case hs_14 => with_reducible first | exact FK.c0 hM | exact FK.c1 hM | exact FK.c2 hM | exact FK.c7 hM | exact FK.c129 hM | exact FK.c3 hM | exact FK.c4 hM | exact FK.c5 hM | exact FK.c6 hM | exact FK.c39 hM | exact FK.c40 hM | exact FK.c41 hM | exact FK.c42 hM | exact FK.c43 hM | exact FK.c128 hM | exact FK.c136 hM | exact FK.c137 hM | exact FK.c173 hM | exact FK.c174 hM | exact FK.c175 hM | exact FK.c176 hM | exact FK.c177 hM | exact FK.c178 hM | exact RK.c0 (FK.rk hkd hM) | exact RK.c1 (FK.rk hkd hM) | exact RK.c2 (FK.rk hkd hM) | exact RK.c0 (FK.rk hk2 hM) | exact RK.c1 (FK.rk hk2 hM) | exact RK.c2 (FK.rk hk2 hM)
          case hv_14 => rfl
          refine S_callS (q := 84) 0 0 hX (c_X7_draw _ _ (q + 174) (q + 175) 6 6 i S.1.2.2.1 (γ 174) (γ 175) r hn0 t2) rfl u_511 u_512 u_13 u_513 ⟨by decide, by decide, rfl⟩ ⟨Nat.le_of_ble_eq_true rfl, Nat.le_of_ble_eq_true rfl⟩ ⟨Nat.le_of_ble_eq_true rfl, Nat.le_of_ble_eq_true rfl⟩ (Nat.le_of_ble_eq_true rfl) dX11_wrongToSave_81 ?hp_15 rfl rfl rfl ?_
          case hp_15 => exact ⟨FK.c174 hM, FK.c175 hM, by omega, by omega, by omega, by omega, by decide, by decide, o5, fun i hi => ⟨hr i hi, hlaw.1 i hi⟩⟩
          rintro v σ1 sz1 ⟨gd, rfl, rfl, hgd, rfl⟩
          have hM := hM.st (j := 175) (g := gd) (e := ia 6 gd) (by decide) rfl
          have hF := hF.su (a := q + 175) (e := ia 6 gd) (by omega)
          refine S_aload_n (q := 85) hX dX11_wrongToSave_84 rfl rfl ?_
          refine S_getf (fs := ?fs_16) (v := ?v_16) (q := 88) hX u_290 fo_X11_readers dX11_wrongToSave_85 ?hs_16 ?hv_16 rfl ?_
          case hs_16 => with_reducible first | exact FK.c0 hM | exact FK.c1 hM | exact FK.c2 hM | exact FK.c7 hM | exact FK.c129 hM | exact FK.c3 hM | exact FK.c4 hM | exact FK.c5 hM | exact FK.c6 hM | exact FK.c39 hM | exact FK.c40 hM | exact FK.c41 hM | exact FK.c42 hM | exact FK.c43 hM | exact FK.c128 hM | exact FK.c136 hM | exact FK.c137 hM | exact FK.c173 hM | exact FK.c174 hM | exact FK.c175 hM | exact FK.c176 hM | exact FK.c177 hM | exact FK.c178 hM | exact RK.c0 (FK.rk hkd hM) | exact RK.c1 (FK.rk hkd hM) | exact RK.c2 (FK.rk hkd hM) | exact RK.c0 (FK.rk hk2 hM) | exact RK.c1 (FK.rk hk2 hM) | exact RK.c2 (FK.rk hk2 hM)
          case hv_16 => rfl
          refine S_iconst (q := 89) (v := 0) hX dX11_wrongToSave_88 ic_0 rfl ?_
          refine S_aald (N := ?n_17) (f := ?f_17) (y := q + (138 + 7 * 0)) (q := 90) (t := 3) hX dX11_wrongToSave_89 (by decide) rfl ?hs_17 ?hi_17 ?hy_17 rfl ?_
          case hs_17 => with_reducible first | exact FK.c0 hM | exact FK.c1 hM | exact FK.c2 hM | exact FK.c7 hM | exact FK.c129 hM | exact FK.c3 hM | exact FK.c4 hM | exact FK.c5 hM | exact FK.c6 hM | exact FK.c39 hM | exact FK.c40 hM | exact FK.c41 hM | exact FK.c42 hM | exact FK.c43 hM | exact FK.c128 hM | exact FK.c136 hM | exact FK.c137 hM | exact FK.c173 hM | exact FK.c174 hM | exact FK.c175 hM | exact FK.c176 hM | exact FK.c177 hM | exact FK.c178 hM | exact RK.c0 (FK.rk hkd hM) | exact RK.c1 (FK.rk hkd hM) | exact RK.c2 (FK.rk hkd hM) | exact RK.c0 (FK.rk hk2 hM) | exact RK.c1 (FK.rk hk2 hM) | exact RK.c2 (FK.rk hk2 hM)
          case hi_17 => exact vp_in_nI (show 0 < 5 by decide) (by decide)
          case hy_17 => show some (q + (138 + 7 * (nI 0).toNatClampNeg)) = some (q + (138 + 7 * 0)); rw [nI_clamp (by omega)]
          refine S_astore (q := 92) [_, _, _, _, _, _] hX dX11_wrongToSave_90 rfl (Nat.le_of_ble_eq_true rfl) rfl rfl ?_
          refine S_aload (q := 94) hX dX11_wrongToSave_92 rfl rfl ?_
          refine S_aload_n (q := 95) hX dX11_wrongToSave_94 rfl rfl ?_
          refine S_getf (fs := ?fs_18) (v := ?v_18) (q := 98) hX u_292 fo_X11_drawn dX11_wrongToSave_95 ?hs_18 ?hv_18 rfl ?_
          case hs_18 => with_reducible first | exact FK.c0 hM | exact FK.c1 hM | exact FK.c2 hM | exact FK.c7 hM | exact FK.c129 hM | exact FK.c3 hM | exact FK.c4 hM | exact FK.c5 hM | exact FK.c6 hM | exact FK.c39 hM | exact FK.c40 hM | exact FK.c41 hM | exact FK.c42 hM | exact FK.c43 hM | exact FK.c128 hM | exact FK.c136 hM | exact FK.c137 hM | exact FK.c173 hM | exact FK.c174 hM | exact FK.c175 hM | exact FK.c176 hM | exact FK.c177 hM | exact FK.c178 hM | exact RK.c0 (FK.rk hkd hM) | exact RK.c1 (FK.rk hkd hM) | exact RK.c2 (FK.rk hkd hM) | exact RK.c0 (FK.rk hk2 hM) | exact RK.c1 (FK.rk hk2 hM) | exact RK.c2 (FK.rk hk2 hM)
          case hv_18 => rfl
          refine S_aload_n (q := 99) hX dX11_wrongToSave_98 rfl rfl ?_
          refine S_getf (fs := ?fs_19) (v := ?v_19) (q := 102) hX u_291 fo_X11_walk dX11_wrongToSave_99 ?hs_19 ?hv_19 rfl ?_
          case hs_19 => with_reducible first | exact FK.c0 hM | exact FK.c1 hM | exact FK.c2 hM | exact FK.c7 hM | exact FK.c129 hM | exact FK.c3 hM | exact FK.c4 hM | exact FK.c5 hM | exact FK.c6 hM | exact FK.c39 hM | exact FK.c40 hM | exact FK.c41 hM | exact FK.c42 hM | exact FK.c43 hM | exact FK.c128 hM | exact FK.c136 hM | exact FK.c137 hM | exact FK.c173 hM | exact FK.c174 hM | exact FK.c175 hM | exact FK.c176 hM | exact FK.c177 hM | exact FK.c178 hM | exact RK.c0 (FK.rk hkd hM) | exact RK.c1 (FK.rk hkd hM) | exact RK.c2 (FK.rk hkd hM) | exact RK.c0 (FK.rk hk2 hM) | exact RK.c1 (FK.rk hk2 hM) | exact RK.c2 (FK.rk hk2 hM)
          case hv_19 => rfl
          refine S_getf (fs := ?fs_20) (v := ?v_20) (q := 105) hX u_279 fo_X10_beats dX11_wrongToSave_102 ?hs_20 ?hv_20 rfl ?_
          case hs_20 => with_reducible first | exact FK.c0 hM | exact FK.c1 hM | exact FK.c2 hM | exact FK.c7 hM | exact FK.c129 hM | exact FK.c3 hM | exact FK.c4 hM | exact FK.c5 hM | exact FK.c6 hM | exact FK.c39 hM | exact FK.c40 hM | exact FK.c41 hM | exact FK.c42 hM | exact FK.c43 hM | exact FK.c128 hM | exact FK.c136 hM | exact FK.c137 hM | exact FK.c173 hM | exact FK.c174 hM | exact FK.c175 hM | exact FK.c176 hM | exact FK.c177 hM | exact FK.c178 hM | exact RK.c0 (FK.rk hkd hM) | exact RK.c1 (FK.rk hkd hM) | exact RK.c2 (FK.rk hkd hM) | exact RK.c0 (FK.rk hk2 hM) | exact RK.c1 (FK.rk hk2 hM) | exact RK.c2 (FK.rk hk2 hM)
          case hv_20 => rfl
          refine S_callK (q := 108) 0 0 (hkd) hX (c_X3_listen (q + (138 + 7 * (0))) (fun j => (m1 γ 175 gd) (138 + 7 * (0) + j)) (0) (q + 175) 6 (i) _ ((m1 γ 175 gd) 175) (fun b => drw S.1.2.2.1 (r b) b) (C) (hn0)) rfl ?hs_21 u_536 u_539 u_537 u_6 u_544 u_538 u_542 u_541 u_543 u_540 ⟨by decide, by decide, rfl⟩ ⟨Nat.le_of_ble_eq_true rfl, Nat.le_of_ble_eq_true rfl⟩ ⟨Nat.le_of_ble_eq_true rfl, Nat.le_of_ble_eq_true rfl⟩ (Nat.le_of_ble_eq_true rfl) dX11_wrongToSave_105 ?hp_21 rfl rfl rfl ?_
          case hs_21 => exact ⟨_, (FK.rk hkd hM).c0⟩
          case hp_21 =>
            refine ⟨FK.rk hkd hM, hkd, hfa.ext (fun j hj => m1_ne (by omega)), hC, by omega, by omega, by decide, FK.c175 hM, by right; omega, ?_⟩
            intro i hi
            rw [m1_eq]
            exact ⟨hgd i hi, drw_lt (hlaw.1 i hi)⟩
          rintro v σ sz1 ⟨g1, hM1, hF2, rfl, hL1, rfl⟩
          have hM := FK.jrk hkd hM hF2 hM1
          have hF := hF.trans (hF2.mono (Nat.le_add_right _ _) (by omega))
          have hL1 := LisP.sp (f := m1 γ 175 gd) (d := 138 + 7 * 0) hL1
          refine S_iconst (q := 109) (v := 0) hX dX11_wrongToSave_108 ic_0 rfl ?_
          refine S_istore (q := 111) [_, _, _, _, _, _] hX dX11_wrongToSave_109 rfl (Nat.le_of_ble_eq_true rfl) rfl rfl ?_
          exact l111 hap gd g1 _ _ hL1 hM hF 7 0 (Nat.zero_le _) (by have := rdK_len 0 (fun b => drw S.1.2.2.1 (r b) b) i C; omega) (fun k hk => absurd hk (Nat.not_lt_zero _))
        · have hlt : i < n := by rw [hsn, nI_leI (by omega) (by omega)] at c14; omega
          have f1 : γ 174 (nI i).toNatClampNeg = nI (r i) := by rw [nI_clamp (by omega)]; exact hr i hlt
          have f2 : γ 39 (nI i).toNatClampNeg = nI (stN S.1.2.2.2.1 n i) := by rw [nI_clamp (by omega), ← hsay]; exact t4 i (by omega)
          have w1 := hlaw.1 i hlt
          have w2 := stN_lt S.1.2.2.2.1 n i
          refine S_aload_n (q := 18) hX dX11_wrongToSave_17 rfl rfl ?_
          refine S_getf (fs := ?fs_22) (v := ?v_22) (q := 21) hX u_291 fo_X11_walk dX11_wrongToSave_18 ?hs_22 ?hv_22 rfl ?_
          case hs_22 => with_reducible first | exact FK.c0 hM | exact FK.c1 hM | exact FK.c2 hM | exact FK.c7 hM | exact FK.c129 hM | exact FK.c3 hM | exact FK.c4 hM | exact FK.c5 hM | exact FK.c6 hM | exact FK.c39 hM | exact FK.c40 hM | exact FK.c41 hM | exact FK.c42 hM | exact FK.c43 hM | exact FK.c128 hM | exact FK.c136 hM | exact FK.c137 hM | exact FK.c173 hM | exact FK.c174 hM | exact FK.c175 hM | exact FK.c176 hM | exact FK.c177 hM | exact FK.c178 hM | exact RK.c0 (FK.rk hkd hM) | exact RK.c1 (FK.rk hkd hM) | exact RK.c2 (FK.rk hkd hM) | exact RK.c0 (FK.rk hk2 hM) | exact RK.c1 (FK.rk hk2 hM) | exact RK.c2 (FK.rk hk2 hM)
          case hv_22 => rfl
          refine S_getf (fs := ?fs_23) (v := ?v_23) (q := 24) hX u_277 fo_X10_states dX11_wrongToSave_21 ?hs_23 ?hv_23 rfl ?_
          case hs_23 => with_reducible first | exact FK.c0 hM | exact FK.c1 hM | exact FK.c2 hM | exact FK.c7 hM | exact FK.c129 hM | exact FK.c3 hM | exact FK.c4 hM | exact FK.c5 hM | exact FK.c6 hM | exact FK.c39 hM | exact FK.c40 hM | exact FK.c41 hM | exact FK.c42 hM | exact FK.c43 hM | exact FK.c128 hM | exact FK.c136 hM | exact FK.c137 hM | exact FK.c173 hM | exact FK.c174 hM | exact FK.c175 hM | exact FK.c176 hM | exact FK.c177 hM | exact FK.c178 hM | exact RK.c0 (FK.rk hkd hM) | exact RK.c1 (FK.rk hkd hM) | exact RK.c2 (FK.rk hkd hM) | exact RK.c0 (FK.rk hk2 hM) | exact RK.c1 (FK.rk hk2 hM) | exact RK.c2 (FK.rk hk2 hM)
          case hv_23 => rfl
          refine S_iload (q := 26) hX dX11_wrongToSave_24 rfl rfl ?_
          refine S_iald (N := ?n_24) (f := ?f_24) (q := 27) hX dX11_wrongToSave_26 ?hs_24 ?hi_24 rfl ?_
          case hs_24 => with_reducible first | exact FK.c0 hM | exact FK.c1 hM | exact FK.c2 hM | exact FK.c7 hM | exact FK.c129 hM | exact FK.c3 hM | exact FK.c4 hM | exact FK.c5 hM | exact FK.c6 hM | exact FK.c39 hM | exact FK.c40 hM | exact FK.c41 hM | exact FK.c42 hM | exact FK.c43 hM | exact FK.c128 hM | exact FK.c136 hM | exact FK.c137 hM | exact FK.c173 hM | exact FK.c174 hM | exact FK.c175 hM | exact FK.c176 hM | exact FK.c177 hM | exact FK.c178 hM | exact RK.c0 (FK.rk hkd hM) | exact RK.c1 (FK.rk hkd hM) | exact RK.c2 (FK.rk hkd hM) | exact RK.c0 (FK.rk hk2 hM) | exact RK.c1 (FK.rk hk2 hM) | exact RK.c2 (FK.rk hk2 hM)
          case hi_24 => exact vp_in_nI (by omega) (by decide)
          refine S_aload_n (q := 28) hX dX11_wrongToSave_27 rfl rfl ?_
          refine S_getf (fs := ?fs_25) (v := ?v_25) (q := 31) hX u_285 fo_X11_now dX11_wrongToSave_28 ?hs_25 ?hv_25 rfl ?_
          case hs_25 => with_reducible first | exact FK.c0 hM | exact FK.c1 hM | exact FK.c2 hM | exact FK.c7 hM | exact FK.c129 hM | exact FK.c3 hM | exact FK.c4 hM | exact FK.c5 hM | exact FK.c6 hM | exact FK.c39 hM | exact FK.c40 hM | exact FK.c41 hM | exact FK.c42 hM | exact FK.c43 hM | exact FK.c128 hM | exact FK.c136 hM | exact FK.c137 hM | exact FK.c173 hM | exact FK.c174 hM | exact FK.c175 hM | exact FK.c176 hM | exact FK.c177 hM | exact FK.c178 hM | exact RK.c0 (FK.rk hkd hM) | exact RK.c1 (FK.rk hkd hM) | exact RK.c2 (FK.rk hkd hM) | exact RK.c0 (FK.rk hk2 hM) | exact RK.c1 (FK.rk hk2 hM) | exact RK.c2 (FK.rk hk2 hM)
          case hv_25 => rfl
          refine S_getf (fs := ?fs_26) (v := ?v_26) (q := 34) hX u_91 fo_X9_saying dX11_wrongToSave_31 ?hs_26 ?hv_26 rfl ?_
          case hs_26 => with_reducible first | exact FK.c0 hM | exact FK.c1 hM | exact FK.c2 hM | exact FK.c7 hM | exact FK.c129 hM | exact FK.c3 hM | exact FK.c4 hM | exact FK.c5 hM | exact FK.c6 hM | exact FK.c39 hM | exact FK.c40 hM | exact FK.c41 hM | exact FK.c42 hM | exact FK.c43 hM | exact FK.c128 hM | exact FK.c136 hM | exact FK.c137 hM | exact FK.c173 hM | exact FK.c174 hM | exact FK.c175 hM | exact FK.c176 hM | exact FK.c177 hM | exact FK.c178 hM | exact RK.c0 (FK.rk hkd hM) | exact RK.c1 (FK.rk hkd hM) | exact RK.c2 (FK.rk hkd hM) | exact RK.c0 (FK.rk hk2 hM) | exact RK.c1 (FK.rk hk2 hM) | exact RK.c2 (FK.rk hk2 hM)
          case hv_26 => rfl
          refine S_iload (q := 36) hX dX11_wrongToSave_34 rfl rfl ?_
          refine S_iald (N := ?n_27) (f := ?f_27) (q := 37) hX dX11_wrongToSave_36 ?hs_27 ?hi_27 rfl ?_
          case hs_27 => with_reducible first | exact FK.c0 hM | exact FK.c1 hM | exact FK.c2 hM | exact FK.c7 hM | exact FK.c129 hM | exact FK.c3 hM | exact FK.c4 hM | exact FK.c5 hM | exact FK.c6 hM | exact FK.c39 hM | exact FK.c40 hM | exact FK.c41 hM | exact FK.c42 hM | exact FK.c43 hM | exact FK.c128 hM | exact FK.c136 hM | exact FK.c137 hM | exact FK.c173 hM | exact FK.c174 hM | exact FK.c175 hM | exact FK.c176 hM | exact FK.c177 hM | exact FK.c178 hM | exact RK.c0 (FK.rk hkd hM) | exact RK.c1 (FK.rk hkd hM) | exact RK.c2 (FK.rk hkd hM) | exact RK.c0 (FK.rk hk2 hM) | exact RK.c1 (FK.rk hk2 hM) | exact RK.c2 (FK.rk hk2 hM)
          case hi_27 => exact vp_in_nI (by omega) (by decide)
          refine S_icmp_eq (q := 40) 43 hX dX11_wrongToSave_37 rfl rfl (fun c37 => ?_) (fun c37 => ?_)
          · have heq : r i = stN S.1.2.2.2.1 n i := by
              have c := c37
              rw [f1, f2] at c
              exact nI_inj (by omega) (by omega) c
            refine S_iload_n (q := 44) hX dX11_wrongToSave_43 rfl rfl ?_
            refine S_if_ge (q := 47) 50 hX dX11_wrongToSave_44 rfl rfl (fun c44 => ?_) (fun c44 => absurd ((nI_leI (a := 0) (by omega) (by omega)).mpr (Nat.zero_le _)) c44)
            refine S_iinc (q := 53) [_, _, _, _, _, _] hX dX11_wrongToSave_50 rfl (ii_1 _) rfl (Nat.le_of_ble_eq_true rfl) rfl rfl ?_
            refine S_goto 5 hX dX11_wrongToSave_53 rfl ?_
            rw [nI_1, ← apC_eq heq]
            exact ih (i + 1) _ hlt (by omega) (by rw [apC_eq heq]; exact hap)
          · have hne : ¬ r i = stN S.1.2.2.2.1 n i := fun z => c37 (by rw [f1, f2, z])
            refine S_iinc (q := 43) [_, _, _, _, _, _] hX dX11_wrongToSave_40 rfl (ii_m1 _) rfl (Nat.le_of_ble_eq_true rfl) rfl rfl ?_
            refine S_iload_n (q := 44) hX dX11_wrongToSave_43 rfl rfl ?_
            refine S_if_ge (q := 47) 50 hX dX11_wrongToSave_44 rfl rfl (fun c44 => ?_) (fun c44 => ?_)
            · have hd : 1 ≤ bb - apC (stN S.1.2.2.2.1 n) r i := by
                rcases Nat.eq_zero_or_pos (bb - apC (stN S.1.2.2.2.1 n) r i) with z | z
                · rw [z] at c44; exact absurd c44 (by decide)
                · exact z
              have hd2 : nI (bb - apC (stN S.1.2.2.2.1 n) r i) + -1 = nI (bb - apC (stN S.1.2.2.2.1 n) r i - 1) := by rw [← Int32.sub_eq_add_neg, i1, pk_sub hd]
              refine S_iinc (q := 53) [_, _, _, _, _, _] hX dX11_wrongToSave_50 rfl (ii_1 _) rfl (Nat.le_of_ble_eq_true rfl) rfl rfl ?_
              refine S_goto 5 hX dX11_wrongToSave_53 rfl ?_
              rw [nI_1, hd2, show bb - apC (stN S.1.2.2.2.1 n) r i - 1 = bb - apC (stN S.1.2.2.2.1 n) r (i + 1) by rw [apC_ne hne]; omega]
              exact ih (i + 1) _ hlt (by omega) (by rw [apC_ne hne]; omega)
            · have hd : bb - apC (stN S.1.2.2.2.1 n) r i = 0 := by
                rcases Nat.eq_zero_or_pos (bb - apC (stN S.1.2.2.2.1 n) r i) with z | z
                · exact z
                · exfalso
                  rw [← Int32.sub_eq_add_neg, i1, pk_sub z] at c44
                  exact c44 ((nI_leI (a := 0) (by omega) (by omega)).mpr (Nat.zero_le _))
              refine S_iload (q := 49) hX dX11_wrongToSave_47 rfl rfl ?_
              refine S_iret hX dX11_wrongToSave_49 (Nat.zero_le _) (Nat.zero_le _) ?_
              refine hP _ _ _ ?_
              refine ⟨_, hM, hF, Or.inr ⟨i + 1, by rw [i1, pk_sub (by omega)]; rfl, hlt, fun w' hw' hH => ?_⟩, ⟨fun j _ => rfl, hfa⟩, rfl⟩
              have h1 := apC_cg (s := stN S.1.2.2.2.1 n) (i + 1) hw'
              have h2 := apC_mono (s := stN S.1.2.2.2.1 n) (r := w') (i := i + 1) n hlt
              have h3 := hH.1
              rw [h1, apC_ne hne] at h2
              omega
  refine S_iload_n (q := 1) hX dX11_wrongToSave_0 rfl rfl ?_
  refine S_istore_n (q := 2) [_, _, _, _, _, _] hX dX11_wrongToSave_1 rfl (Nat.le_of_ble_eq_true rfl) rfl rfl ?_
  refine S_iconst (q := 3) (v := 0) hX dX11_wrongToSave_2 ic_0 rfl ?_
  refine S_istore (q := 5) [_, _, _, _, _, _] hX dX11_wrongToSave_3 rfl (Nat.le_of_ble_eq_true rfl) rfl rfl ?_
  exact l5 7 0 _ (Nat.zero_le _) (by omega) (Nat.zero_le _)
theorem c_X11_findSaving (q : Nat) (γ : MF) (S : ST) (C : CodT) (x y : Int32) (n bb wd : Nat) (hx : x = nI bb) (hy : y = nI wd) : CT_X11_findSaving [.ref q, .int x, .int y] (fun Γ σ sz => FK σ q γ ∧ FR γ S ∧ StOk S ∧ CodOk C ∧ FdC (fun j => γ (138 + 7 * 0 + j)) C ∧ ln S.1.2.2.2.1 = n ∧ 1 ≤ n ∧ n ≤ 6 ∧ bb ≤ 6 ∧ wd < 10) (fun Γ σ sz v σ' sz' => ∃ γ', FK σ' q γ' ∧ Fr q (q + 179) σ σ' ∧ SrR n (savF S C wd n bb) γ' v ∧ (γ' 173 0 = nI n ∧ (∀ j, j < 137 → γ' j = γ j) ∧ FdC (fun j => γ' (138 + 7 * 0 + j)) C) ∧ sz' = sz) := by
  refine CT.mkP rfl (Nat.le_of_ble_eq_true rfl) [_, _, _, _, _, _] rfl ?_
  intro X Γ σ sz P hX hpre hsz hP
  obtain ⟨hM, hR, ok, hC, hfa, hsay, h1, hn6, hb6, hwd⟩ := hpre
  subst hx
  subst hy
  obtain ⟨σ0, eσ0⟩ : ∃ z, z = σ := ⟨σ, rfl⟩
  rw [← eσ0] at hP
  have hF : Fr q (q + 179) σ0 σ := by rw [eσ0]; exact Fr.rf
  have hsn : γ 1 1 = nI n := by rw [← hsay]; exact hR.1.2.2.2.1
  have l19 : ∀ (fl c : Nat) (f : Int32) (o5 : Option Value) (σ : Sg) (μ : MF), c ≤ 93312 → 93313 - c < fl → SrS n (savF S C wd n bb) μ f c → μ 173 0 = nI n → (∀ j, j < 137 → μ j = γ j) → FdC (fun j => μ (138 + 7 * 0 + j)) C → FK σ q μ → Fr q (q + 179) σ0 σ → G X Γ P 0 0 19 [some (.ref q), some (.int (nI bb)), some (.int (nI wd)), some (.int f), some (.int (nI c)), o5] [] σ sz := by
    intro fl
    induction fl with
      | zero => intro c f o5 σ μ h1 h2; omega
      | succ fl ih =>
        intro c f o5 σ μ hc hfu hS hn0 ho hfa hM hF
        refine S_iload_n (q := 20) hX dX11_findSaving_19 rfl rfl ?_
        refine S_if_eq (q := 23) 64 hX dX11_findSaving_20 rfl rfl (fun c20 => ?_) (fun c20 => ?_)
        · have hno : ∀ b, lawF n b → ¬ (savF S C wd n bb) b := by
            rcases hS with ⟨h, _⟩ | ⟨_, h⟩
            · rw [h] at c20; exact absurd c20 (by decide)
            · exact h
          refine S_iconst (q := 65) (v := 0) hX dX11_findSaving_64 ic_0 rfl ?_
          refine S_xret hX dX11_findSaving_65 (Nat.zero_le _) (Nat.zero_le _) (by decide) ?_
          refine hP _ _ _ ?_
          exact ⟨_, hM, hF, Or.inr ⟨rfl, hno⟩, ⟨hn0, ho, hfa⟩, rfl⟩
        · obtain ⟨r, hlaw, hr, hcr, hbe⟩ : ∃ r, lawF n r ∧ (∀ i, i < n → μ 174 i = nI (r i)) ∧ c ≤ cdR r n ∧ ∀ b, lawF n b → rv b n < rv r n → ¬ (savF S C wd n bb) b := by
            rcases hS with ⟨_, r, h⟩ | ⟨h, _⟩
            · exact ⟨r, h⟩
            · exact absurd h c20
          have hcl := cdR_lt hlaw h1 hn6
          refine S_iload (q := 25) hX dX11_findSaving_23 rfl rfl ?_
          refine S_ldcw (q := 28) hX u_663 dX11_findSaving_25 rfl ?_
          refine S_icmp_ge (q := 31) 64 hX dX11_findSaving_28 rfl rfl (fun c28 => ?_) (fun c28 => ?_)
          · exfalso
            rw [show (1000000 : Int32) = nI 1000000 from rfl, nI_leI (by omega) (by omega)] at c28
            omega --END
          · refine S_aload_n (q := 32) hX dX11_findSaving_31 rfl rfl ?_
            refine S_iload_n (q := 33) hX dX11_findSaving_32 rfl rfl ?_
            refine S_iload_n (q := 34) hX dX11_findSaving_33 rfl rfl ?_
            refine S_callV (ci := 11) (C := "FanTalk") (T := TX11) (N := 11) (q := 37) 0 0 hX (c_X11_wrongToSave q μ S C _ _ n bb wd r rfl rfl) rfl ?hs_1 rfl u_691 u_693 us_22 u_1 u_694 ⟨by decide, by decide, rfl⟩ ⟨Nat.le_of_ble_eq_true rfl, Nat.le_of_ble_eq_true rfl⟩ ⟨Nat.le_of_ble_eq_true rfl, Nat.le_of_ble_eq_true rfl⟩ (Nat.le_of_ble_eq_true rfl) dX11_findSaving_34 ?hp_1 rfl rfl rfl ?_
            case hs_1 => first | with_reducible assumption | exact ⟨_, FK.c0 hM⟩ | exact ⟨_, FK.c2 hM⟩ | exact ⟨_, FK.c7 hM⟩ | exact ⟨_, FK.c129 hM⟩ | exact ⟨_, FK.c173 hM⟩ | exact ⟨_, FK.c1 hM⟩
            case hp_1 => exact ⟨hM, hR.scr ok ho, ok, hC, hfa, hsay, hn6, hb6, hwd, hn0, hlaw, hr⟩
            rintro v σ sz1 ⟨μ1, hM, hF1, hw, ⟨ho1, hfa1⟩, rfl⟩
            have hF := hF.trans hF1
            obtain ⟨y5, rfl, hy⟩ : ∃ y, v = some (.int y) ∧ ((y = 99 ∧ (savF S C wd n bb) r) ∨ ∃ p, y = nI p - 1 ∧ p ≤ n ∧ ∀ w' : Nat → Nat, (∀ i, i < p → w' i = r i) → ¬ (savF S C wd n bb) w') := by
              rcases hw with ⟨h, h9⟩ | ⟨p, h, h9⟩
              · exact ⟨_, h, Or.inl ⟨rfl, h9⟩⟩
              · exact ⟨_, h, Or.inr ⟨p, rfl, h9⟩⟩
            refine S_istore (q := 39) [_, _, _, _, _, _] hX dX11_findSaving_37 rfl (Nat.le_of_ble_eq_true rfl) rfl rfl ?_
            refine S_iload (q := 41) hX dX11_findSaving_39 rfl rfl ?_
            refine S_bipush (q := 43) (v := 99) hX dX11_findSaving_41 bp_99 rfl ?_
            refine S_icmp_ne (q := 46) 48 hX dX11_findSaving_43 rfl rfl (fun c43 => ?_) (fun c43 => ?_)
            · obtain ⟨p, ey, hp, hwr⟩ : ∃ p, y5 = nI p - 1 ∧ p ≤ n ∧ ∀ w' : Nat → Nat, (∀ i, i < p → w' i = r i) → ¬ (savF S C wd n bb) w' := by
                rcases hy with ⟨h, _⟩ | h
                · exact absurd h c43
                · exact h
              refine S_aload_n (q := 49) hX dX11_findSaving_48 rfl rfl ?_
              refine S_getf (fs := ?fs_2) (v := ?v_2) (q := 52) hX u_291 fo_X11_walk dX11_findSaving_49 ?hs_2 ?hv_2 rfl ?_
              case hs_2 => with_reducible first | exact FK.c0 hM | exact FK.c1 hM | exact FK.c2 hM | exact FK.c7 hM | exact FK.c129 hM | exact FK.c3 hM | exact FK.c4 hM | exact FK.c5 hM | exact FK.c6 hM | exact FK.c39 hM | exact FK.c40 hM | exact FK.c41 hM | exact FK.c42 hM | exact FK.c43 hM | exact FK.c128 hM | exact FK.c136 hM | exact FK.c137 hM | exact FK.c173 hM | exact FK.c174 hM | exact FK.c175 hM | exact FK.c176 hM | exact FK.c177 hM | exact FK.c178 hM | exact RK.c0 (FK.rk hkd hM) | exact RK.c1 (FK.rk hkd hM) | exact RK.c2 (FK.rk hkd hM) | exact RK.c0 (FK.rk hk2 hM) | exact RK.c1 (FK.rk hk2 hM) | exact RK.c2 (FK.rk hk2 hM)
              case hv_2 => rfl
              refine S_iload (q := 54) hX dX11_findSaving_52 rfl rfl ?_
              refine S_callV (ci := 10) (C := "FanTalk$Walk") (T := TX10) (N := 2) (q := 57) 0 0 hX (c_X10_step (q + 173) (fun j => μ1 (173 + j)) _ n p r ey) rfl ?hs_3 rfl u_668 u_669 u_670 u_11 u_671 ⟨by decide, by decide, rfl⟩ ⟨Nat.le_of_ble_eq_true rfl, Nat.le_of_ble_eq_true rfl⟩ ⟨Nat.le_of_ble_eq_true rfl, Nat.le_of_ble_eq_true rfl⟩ (Nat.le_of_ble_eq_true rfl) dX11_findSaving_54 ?hp_3 rfl rfl rfl ?_
              case hs_3 => exact ⟨_, FK.c173 hM⟩
              case hp_3 => exact ⟨FK.wk hM, (congrFun (ho1 173 (by omega)) 0).trans hn0, h1, hn6, by omega, hlaw, fun i hi => (congrFun (ho1 174 (by omega)) i).trans (hr i hi)⟩
              rintro v σ sz1 ⟨g2, hM2, hF2, h00, hv, rfl⟩
              have hM := FK.jwk hM hF2 hM2
              have hF := hF.trans (hF2.mono (Nat.le_add_right _ _) (by omega))
              have gw : spl μ1 173 2 g2 174 = g2 1 := by rw [spl_in ⟨by omega, by omega⟩]
              obtain ⟨z5, rfl, hS1⟩ : ∃ y, v = some (.int y) ∧ SrS n (savF S C wd n bb) (spl μ1 173 2 g2) y (c + 1) := by
                rcases hv with ⟨h, t, hs, ht⟩ | ⟨h, hs⟩
                · exact ⟨_, h, SrS.go hlaw h1 hcr hp hbe hwr hs (fun i hi => by rw [gw]; exact ht i hi)⟩
                · exact ⟨_, h, SrS.no hlaw hp hbe hwr hs⟩
              refine S_istore_n (q := 58) [_, _, _, _, _, _] hX dX11_findSaving_57 rfl (Nat.le_of_ble_eq_true rfl) rfl rfl ?_
              refine S_iinc (q := 61) [_, _, _, _, _, _] hX dX11_findSaving_58 rfl (ii_1 _) rfl (Nat.le_of_ble_eq_true rfl) rfl rfl ?_
              refine S_goto 19 hX dX11_findSaving_61 rfl ?_
              rw [nI_1]
              exact ih (c + 1) _ _ _ (spl μ1 173 2 g2) (by omega) (by omega) hS1 (by rw [spl_in ⟨by omega, by omega⟩]; exact h00) (fun j hj => by rw [spl_out (by omega), ho1 j (by omega)]; exact ho j hj) (hfa1.ext (fun j hj => spl_out (by omega))) hM hF
            · have hH : (savF S C wd n bb) r := by
                rcases hy with ⟨_, h⟩ | ⟨p, h, hp, _⟩
                · exact h
                · exfalso
                  rw [h] at c43
                  rcases Nat.eq_zero_or_pos p with z | z
                  · rw [z] at c43; exact absurd c43 (by decide)
                  · obtain ⟨p, rfl⟩ : ∃ j, p = j + 1 := ⟨p - 1, by omega⟩
                    rw [i1, pk_sub (by omega)] at c43
                    have := nI_inj (b := 99) (by omega) (by decide) c43
                    omega
              refine S_iconst (q := 47) (v := 1) hX dX11_findSaving_46 ic_1 rfl ?_
              refine S_xret hX dX11_findSaving_47 (Nat.zero_le _) (Nat.zero_le _) (by decide) ?_
              refine hP _ _ _ ?_
              exact ⟨_, hM, hF, Or.inl ⟨rfl, r, hlaw, fun i hi => (congrFun (ho1 174 (by omega)) i).trans (hr i hi), hH, hbe⟩, ⟨(congrFun (ho1 173 (by omega)) 0).trans hn0, fun j hj => (ho1 j (by omega)).trans (ho j hj), hfa1⟩, rfl⟩
  refine S_aload_n (q := 1) hX dX11_findSaving_0 rfl rfl ?_
  refine S_getf (fs := ?fs_4) (v := ?v_4) (q := 4) hX u_291 fo_X11_walk dX11_findSaving_1 ?hs_4 ?hv_4 rfl ?_
  case hs_4 => with_reducible first | exact FK.c0 hM | exact FK.c1 hM | exact FK.c2 hM | exact FK.c7 hM | exact FK.c129 hM | exact FK.c3 hM | exact FK.c4 hM | exact FK.c5 hM | exact FK.c6 hM | exact FK.c39 hM | exact FK.c40 hM | exact FK.c41 hM | exact FK.c42 hM | exact FK.c43 hM | exact FK.c128 hM | exact FK.c136 hM | exact FK.c137 hM | exact FK.c173 hM | exact FK.c174 hM | exact FK.c175 hM | exact FK.c176 hM | exact FK.c177 hM | exact FK.c178 hM | exact RK.c0 (FK.rk hkd hM) | exact RK.c1 (FK.rk hkd hM) | exact RK.c2 (FK.rk hkd hM) | exact RK.c0 (FK.rk hk2 hM) | exact RK.c1 (FK.rk hk2 hM) | exact RK.c2 (FK.rk hk2 hM)
  case hv_4 => rfl
  refine S_aload_n (q := 5) hX dX11_findSaving_4 rfl rfl ?_
  refine S_getf (fs := ?fs_5) (v := ?v_5) (q := 8) hX u_285 fo_X11_now dX11_findSaving_5 ?hs_5 ?hv_5 rfl ?_
  case hs_5 => with_reducible first | exact FK.c0 hM | exact FK.c1 hM | exact FK.c2 hM | exact FK.c7 hM | exact FK.c129 hM | exact FK.c3 hM | exact FK.c4 hM | exact FK.c5 hM | exact FK.c6 hM | exact FK.c39 hM | exact FK.c40 hM | exact FK.c41 hM | exact FK.c42 hM | exact FK.c43 hM | exact FK.c128 hM | exact FK.c136 hM | exact FK.c137 hM | exact FK.c173 hM | exact FK.c174 hM | exact FK.c175 hM | exact FK.c176 hM | exact FK.c177 hM | exact FK.c178 hM | exact RK.c0 (FK.rk hkd hM) | exact RK.c1 (FK.rk hkd hM) | exact RK.c2 (FK.rk hkd hM) | exact RK.c0 (FK.rk hk2 hM) | exact RK.c1 (FK.rk hk2 hM) | exact RK.c2 (FK.rk hk2 hM)
  case hv_5 => rfl
  refine S_getf (fs := ?fs_6) (v := ?v_6) (q := 11) hX u_93 fo_X9_beats dX11_findSaving_8 ?hs_6 ?hv_6 rfl ?_
  case hs_6 => with_reducible first | exact FK.c0 hM | exact FK.c1 hM | exact FK.c2 hM | exact FK.c7 hM | exact FK.c129 hM | exact FK.c3 hM | exact FK.c4 hM | exact FK.c5 hM | exact FK.c6 hM | exact FK.c39 hM | exact FK.c40 hM | exact FK.c41 hM | exact FK.c42 hM | exact FK.c43 hM | exact FK.c128 hM | exact FK.c136 hM | exact FK.c137 hM | exact FK.c173 hM | exact FK.c174 hM | exact FK.c175 hM | exact FK.c176 hM | exact FK.c177 hM | exact FK.c178 hM | exact RK.c0 (FK.rk hkd hM) | exact RK.c1 (FK.rk hkd hM) | exact RK.c2 (FK.rk hkd hM) | exact RK.c0 (FK.rk hk2 hM) | exact RK.c1 (FK.rk hk2 hM) | exact RK.c2 (FK.rk hk2 hM)
  case hv_6 => rfl
  refine S_callV (ci := 10) (C := "FanTalk$Walk") (T := TX10) (N := 2) (q := 14) 0 0 hX (c_X10_begin (q + 173) (fun j => γ (173 + j)) _ n hsn) rfl ?hs_7 rfl u_653 u_654 u_655 u_11 u_656 ⟨by decide, by decide, rfl⟩ ⟨Nat.le_of_ble_eq_true rfl, Nat.le_of_ble_eq_true rfl⟩ ⟨Nat.le_of_ble_eq_true rfl, Nat.le_of_ble_eq_true rfl⟩ (Nat.le_of_ble_eq_true rfl) dX11_findSaving_11 ?hp_7 rfl rfl rfl ?_
  case hs_7 => exact ⟨_, FK.c173 hM⟩
  case hp_7 => exact ⟨FK.wk hM, hn6⟩
  rintro v σ sz1 ⟨g1, hM1, hF1, rfl, ⟨h00, hz1⟩, rfl⟩
  have hM := FK.jwk hM hF1 hM1
  have hF := hF.trans (hF1.mono (Nat.le_add_right _ _) (by omega))
  refine S_iconst (q := 15) (v := 1) hX dX11_findSaving_14 ic_1 rfl ?_
  refine S_istore_n (q := 16) [_, _, _, _, _, _] hX dX11_findSaving_15 rfl (Nat.le_of_ble_eq_true rfl) rfl rfl ?_
  refine S_iconst (q := 17) (v := 0) hX dX11_findSaving_16 ic_0 rfl ?_
  refine S_istore (q := 19) [_, _, _, _, _, _] hX dX11_findSaving_17 rfl (Nat.le_of_ble_eq_true rfl) rfl rfl ?_
  refine l19 93314 0 1 _ _ (spl γ 173 2 g1) (Nat.zero_le _) (by omega) (Or.inl ⟨rfl, fun _ => 0, law0 n, fun i hi => ?_, Nat.zero_le _, fun b lb hlt => ?_⟩) (by rw [spl_in ⟨by omega, by omega⟩]; exact h00) (fun j hj => spl_out (by omega)) (hfa.ext (fun j hj => spl_out (by omega))) hM hF
  · rw [spl_in ⟨by omega, by omega⟩]; exact hz1 i hi
  · have := rv0_le (n := n) lb.1; omega
theorem sav_all {S : ST} {c wd n bb : Nat} {v : Nat} (h : ∀ r, lawF n r → wd ∉ rdK 0 (fun b => drw S.1.2.2.1 (r b) b) n (S.1.1.2.1 c) → bb ≤ apC (stN S.1.2.2.2.1 n) r n) (hl : lawful n v) (hs : saves S c wd n v) : bb ≤ apN n v S.1.2.2.2.1 := by
  obtain ⟨h1, h2⟩ := lawful_F hl
  rw [← h2] at hs ⊢
  rw [apN_C h1.1]
  exact h _ h1 ((sav_iff h1.1).mp hs)
theorem c_X11_save (q : Nat) (γ : MF) (S : ST) (x y z : Int32) : CT_X11_save [.ref q, .int x, .int y, .int z] (fun Γ σ sz => FK σ q γ ∧ FR γ S ∧ StOk S) (fun Γ σ sz v σ' sz' => ∃ γ', FK σ' q γ' ∧ Fr q (q + 179) σ σ' ∧ (∃ r, v = some (.int r) ∧ ((sav_bad S x y z ∧ r = -10 ∧ FR γ' (rfS S 0)) ∨ (¬ sav_bad S x y z ∧ S.1.2.2.2.1 = 0 ∧ r = -20 ∧ FR γ' (rfS S 1)) ∨ (¬ sav_bad S x y z ∧ ¬ S.1.2.2.2.1 = 0 ∧ SaveR S (tN x) (tN y) (ln S.1.2.2.2.1) z.toInt r ∧ FR γ' S))) ∧ sz' = sz) := by
  refine CT.mkP rfl (Nat.le_of_ble_eq_true rfl) [_, _, _, _, _] rfl ?_
  intro X Γ σ sz P hX hpre hsz hP
  obtain ⟨hM, hR, ok⟩ := hpre
  obtain ⟨σ0, eσ0⟩ : ∃ z, z = σ := ⟨σ, rfl⟩
  rw [← eσ0] at hP
  have hF : Fr q (q + 179) σ0 σ := by rw [eσ0]; exact Fr.rf
  obtain ⟨r0, r1, r2, r3, r4, r5⟩ := id hR
  obtain ⟨t0, t1, t2, t3, t4, t5, t6, t7, t8⟩ := id r0
  obtain ⟨o1, o2, o3, o4, o5, o6, o7, o8, o9, o10⟩ := id ok.1
  have hkd : 0 < 5 := by decide
  have h6 := ln_6 S.1.2.2.2.1
  have hco : CoR (fun j => γ (2 + j)) S.1.1 := t0.ext (fun j hj => by show γ (2 + j) = γ (1 + (1 + j)); congr 1; omega)
  have l72 : okc x S.1.1.1 → inb y 0 9 → inb z 0 1 → ¬ S.1.2.2.2.1 = 0 → 1 ≤ ln S.1.2.2.2.1 → ∀ (fl bb : Nat) (σ : Sg) (μ : MF), bb ≤ ln S.1.2.2.2.1 + 1 → ln S.1.2.2.2.1 + 1 - bb < fl → (∀ j, j < 137 → μ j = γ j) → FdC (fun j => μ (138 + 7 * 0 + j)) (S.1.1.2.1 (tN x)) → (∀ r, lawF (ln S.1.2.2.2.1) r → tN y ∉ rdK 0 (fun b => drw S.1.2.2.1 (r b) b) (ln S.1.2.2.2.1) (S.1.1.2.1 (tN x)) → bb ≤ apC (stN S.1.2.2.2.1 (ln S.1.2.2.2.1)) r (ln S.1.2.2.2.1)) → FK σ q μ → Fr q (q + 179) σ0 σ → G X Γ P 0 0 72 [some (.ref q), some (.int x), some (.int y), some (.int z), some (.int (nI bb))] [] σ sz := by
    intro hx hy hz hs0 h1 fl
    have cx := okc.ex hx
    have cy := tN_ex hy.1
    have cz := tN_ex hz.1
    have hwd : tN y < 10 := by have := hy.2; omega
    have hbad : ¬ sav_bad S x y z := by rintro (w | w | w); exact w hx; exact w hy; exact w hz
    induction fl with
      | zero => intro bb σ μ h1 h2; omega
      | succ fl ih =>
        intro bb σ μ hb hfu ho hfa hno hM hF
        have hsn : μ 1 1 = nI (ln S.1.2.2.2.1) := by rw [ho 1 (by decide)]; exact t3
        refine S_iload (q := 74) hX dX11_save_72 rfl rfl ?_
        refine S_aload_n (q := 75) hX dX11_save_74 rfl rfl ?_
        refine S_getf (fs := ?fs_1) (v := ?v_1) (q := 78) hX u_285 fo_X11_now dX11_save_75 ?hs_1 ?hv_1 rfl ?_
        case hs_1 => with_reducible first | exact FK.c0 hM | exact FK.c1 hM | exact FK.c2 hM | exact FK.c7 hM | exact FK.c129 hM | exact FK.c3 hM | exact FK.c4 hM | exact FK.c5 hM | exact FK.c6 hM | exact FK.c39 hM | exact FK.c40 hM | exact FK.c41 hM | exact FK.c42 hM | exact FK.c43 hM | exact FK.c128 hM | exact FK.c136 hM | exact FK.c137 hM | exact FK.c173 hM | exact FK.c174 hM | exact FK.c175 hM | exact FK.c176 hM | exact FK.c177 hM | exact FK.c178 hM | exact RK.c0 (FK.rk hkd hM) | exact RK.c1 (FK.rk hkd hM) | exact RK.c2 (FK.rk hkd hM) | exact RK.c0 (FK.rk hk2 hM) | exact RK.c1 (FK.rk hk2 hM) | exact RK.c2 (FK.rk hk2 hM)
        case hv_1 => rfl
        refine S_getf (fs := ?fs_2) (v := ?v_2) (q := 81) hX u_93 fo_X9_beats dX11_save_78 ?hs_2 ?hv_2 rfl ?_
        case hs_2 => with_reducible first | exact FK.c0 hM | exact FK.c1 hM | exact FK.c2 hM | exact FK.c7 hM | exact FK.c129 hM | exact FK.c3 hM | exact FK.c4 hM | exact FK.c5 hM | exact FK.c6 hM | exact FK.c39 hM | exact FK.c40 hM | exact FK.c41 hM | exact FK.c42 hM | exact FK.c43 hM | exact FK.c128 hM | exact FK.c136 hM | exact FK.c137 hM | exact FK.c173 hM | exact FK.c174 hM | exact FK.c175 hM | exact FK.c176 hM | exact FK.c177 hM | exact FK.c178 hM | exact RK.c0 (FK.rk hkd hM) | exact RK.c1 (FK.rk hkd hM) | exact RK.c2 (FK.rk hkd hM) | exact RK.c0 (FK.rk hk2 hM) | exact RK.c1 (FK.rk hk2 hM) | exact RK.c2 (FK.rk hk2 hM)
        case hv_2 => rfl
        refine S_icmp_gt (q := 84) 117 hX dX11_save_81 rfl rfl (fun c81 => ?_) (fun c81 => ?_)
        · have hb6 : bb = ln S.1.2.2.2.1 + 1 := by rw [hsn, nI_ltI (by omega) (by omega)] at c81; omega
          refine S_iconst (q := 118) (v := (-1)) hX dX11_save_117 ic_m1 rfl ?_
          refine S_iret hX dX11_save_118 (Nat.zero_le _) (Nat.zero_le _) ?_
          refine hP _ _ _ ?_
          exact ⟨_, hM, hF, ⟨_, rfl, Or.inr (Or.inr ⟨hbad, hs0, Or.inr ⟨rfl, fun v' hl hs => by
            have h9 := sav_all hno hl hs
            obtain ⟨w1, w2⟩ := lawful_F hl
            rw [← w2, apN_C w1.1] at h9
            have := apC_le (s := stN S.1.2.2.2.1 (ln S.1.2.2.2.1)) (r := stN v' (ln S.1.2.2.2.1)) (ln S.1.2.2.2.1)
            omega⟩, hR.scr ok ho⟩)⟩, rfl⟩
        · have hb6 : bb ≤ ln S.1.2.2.2.1 := by rw [hsn, nI_ltI (by omega) (by omega)] at c81; omega
          refine S_aload_n (q := 85) hX dX11_save_84 rfl rfl ?_
          refine S_iload (q := 87) hX dX11_save_85 rfl rfl ?_
          refine S_iload_n (q := 88) hX dX11_save_87 rfl rfl ?_
          refine S_callV (ci := 11) (C := "FanTalk") (T := TX11) (N := 11) (q := 91) 0 0 hX (c_X11_findSaving q μ S (S.1.1.2.1 (tN x)) _ _ (ln S.1.2.2.2.1) bb (tN y) rfl cy.1) rfl ?hs_3 rfl u_687 u_689 us_21 u_1 u_690 ⟨by decide, by decide, rfl⟩ ⟨Nat.le_of_ble_eq_true rfl, Nat.le_of_ble_eq_true rfl⟩ ⟨Nat.le_of_ble_eq_true rfl, Nat.le_of_ble_eq_true rfl⟩ (Nat.le_of_ble_eq_true rfl) dX11_save_88 ?hp_3 rfl rfl rfl ?_
          case hs_3 => first | with_reducible assumption | exact ⟨_, FK.c0 hM⟩ | exact ⟨_, FK.c2 hM⟩ | exact ⟨_, FK.c7 hM⟩ | exact ⟨_, FK.c129 hM⟩ | exact ⟨_, FK.c173 hM⟩ | exact ⟨_, FK.c1 hM⟩
          case hp_3 => exact ⟨hM, hR.scr ok ho, ok, o2.2.1 _ cx.2.1, hfa, rfl, h1, h6, by omega, hwd⟩
          rintro v σ sz1 ⟨μ1, hM, hF1, hv, ⟨hn0, ho1, hfa1⟩, rfl⟩
          have hF := hF.trans hF1
          have ho2 : ∀ j, j < 137 → μ1 j = γ j := fun j hj => (ho1 j hj).trans (ho j hj)
          obtain ⟨y5, rfl, hy5⟩ : ∃ y5, v = some (.int y5) ∧ ((y5 = 1 ∧ ∃ r, lawF (ln S.1.2.2.2.1) r ∧ (∀ i, i < ln S.1.2.2.2.1 → μ1 174 i = nI (r i)) ∧ (savF S (S.1.1.2.1 (tN x)) (tN y) (ln S.1.2.2.2.1) bb) r ∧ ∀ b, lawF (ln S.1.2.2.2.1) b → rv b (ln S.1.2.2.2.1) < rv r (ln S.1.2.2.2.1) → ¬ (savF S (S.1.1.2.1 (tN x)) (tN y) (ln S.1.2.2.2.1) bb) b) ∨ (y5 = 0 ∧ ∀ b, lawF (ln S.1.2.2.2.1) b → ¬ (savF S (S.1.1.2.1 (tN x)) (tN y) (ln S.1.2.2.2.1) bb) b)) := by
            rcases hv with ⟨h, h9⟩ | ⟨h, h9⟩
            · exact ⟨_, h, Or.inl ⟨rfl, h9⟩⟩
            · exact ⟨_, h, Or.inr ⟨rfl, h9⟩⟩
          refine S_if_eq (q := 94) 111 hX dX11_save_91 rfl rfl (fun c91 => ?_) (fun c91 => ?_)
          · have hall : ∀ b, lawF (ln S.1.2.2.2.1) b → ¬ (savF S (S.1.1.2.1 (tN x)) (tN y) (ln S.1.2.2.2.1) bb) b := by
              rcases hy5 with ⟨h, _⟩ | ⟨_, h⟩
              · rw [h] at c91; exact absurd c91 (by decide)
              · exact h
            refine S_iinc (q := 114) [_, _, _, _, _] hX dX11_save_111 rfl (ii_1 _) rfl (Nat.le_of_ble_eq_true rfl) rfl rfl ?_
            refine S_goto 72 hX dX11_save_114 rfl ?_
            rw [nI_1]
            exact ih (bb + 1) _ μ1 (by omega) (by omega) ho2 hfa1 (fun r hl hs => by
              have h9 := hno r hl hs
              rcases Nat.lt_or_ge bb (apC (stN S.1.2.2.2.1 (ln S.1.2.2.2.1)) r (ln S.1.2.2.2.1)) with z | z
              · exact z
              · exact absurd ⟨z, hs⟩ (hall r hl)) hM hF
          · obtain ⟨r, hlaw, hr, hH, hbe⟩ : ∃ r, lawF (ln S.1.2.2.2.1) r ∧ (∀ i, i < ln S.1.2.2.2.1 → μ1 174 i = nI (r i)) ∧ (savF S (S.1.1.2.1 (tN x)) (tN y) (ln S.1.2.2.2.1) bb) r ∧ ∀ b, lawF (ln S.1.2.2.2.1) b → rv b (ln S.1.2.2.2.1) < rv r (ln S.1.2.2.2.1) → ¬ (savF S (S.1.1.2.1 (tN x)) (tN y) (ln S.1.2.2.2.1) bb) b := by
              rcases hy5 with ⟨_, h⟩ | ⟨h, _⟩
              · exact h
              · exact absurd h c91
            have hap : apN (ln S.1.2.2.2.1) (rv r (ln S.1.2.2.2.1)) S.1.2.2.2.1 = bb := by
              rw [apN_C hlaw.1]
              have := hno r hlaw hH.2
              have := hH.1
              omega
            have hmin : ∀ v', lawful (ln S.1.2.2.2.1) v' → saves S (tN x) (tN y) (ln S.1.2.2.2.1) v' → apN (ln S.1.2.2.2.1) (rv r (ln S.1.2.2.2.1)) S.1.2.2.2.1 < apN (ln S.1.2.2.2.1) v' S.1.2.2.2.1 ∨ (apN (ln S.1.2.2.2.1) (rv r (ln S.1.2.2.2.1)) S.1.2.2.2.1 = apN (ln S.1.2.2.2.1) v' S.1.2.2.2.1 ∧ rv r (ln S.1.2.2.2.1) ≤ v') := fun v' hl hs => by
              have h9 := sav_all hno hl hs
              rw [hap]
              rcases Nat.lt_or_ge bb (apN (ln S.1.2.2.2.1) v' S.1.2.2.2.1) with z | z
              · exact Or.inl z
              · refine Or.inr ⟨by omega, ?_⟩
                rcases Nat.lt_or_ge v' (rv r (ln S.1.2.2.2.1)) with z2 | z2
                · exfalso
                  obtain ⟨w1, w2⟩ := lawful_F hl
                  rw [← w2] at hs z z2
                  rw [apN_C w1.1] at z
                  exact hbe _ w1 z2 ⟨z, (sav_iff w1.1).mp hs⟩
                · exact z2
            have hsv : saves S (tN x) (tN y) (ln S.1.2.2.2.1) (rv r (ln S.1.2.2.2.1)) := (sav_iff hlaw.1).mpr hH.2
            refine S_iload_n (q := 95) hX dX11_save_94 rfl rfl ?_
            refine S_if_ne (q := 98) 103 hX dX11_save_95 rfl rfl (fun c95 => ?_) (fun c95 => ?_)
            · refine S_aload_n (q := 104) hX dX11_save_103 rfl rfl ?_
              refine S_getf (fs := ?fs_4) (v := ?v_4) (q := 107) hX u_291 fo_X11_walk dX11_save_104 ?hs_4 ?hv_4 rfl ?_
              case hs_4 => with_reducible first | exact FK.c0 hM | exact FK.c1 hM | exact FK.c2 hM | exact FK.c7 hM | exact FK.c129 hM | exact FK.c3 hM | exact FK.c4 hM | exact FK.c5 hM | exact FK.c6 hM | exact FK.c39 hM | exact FK.c40 hM | exact FK.c41 hM | exact FK.c42 hM | exact FK.c43 hM | exact FK.c128 hM | exact FK.c136 hM | exact FK.c137 hM | exact FK.c173 hM | exact FK.c174 hM | exact FK.c175 hM | exact FK.c176 hM | exact FK.c177 hM | exact FK.c178 hM | exact RK.c0 (FK.rk hkd hM) | exact RK.c1 (FK.rk hkd hM) | exact RK.c2 (FK.rk hkd hM) | exact RK.c0 (FK.rk hk2 hM) | exact RK.c1 (FK.rk hk2 hM) | exact RK.c2 (FK.rk hk2 hM)
              case hv_4 => rfl
              refine S_callV (ci := 10) (C := "FanTalk$Walk") (T := TX10) (N := 2) (q := 110) 0 0 hX (c_X10_number (q + 173) (fun j => μ1 (173 + j)) (ln S.1.2.2.2.1) r) rfl ?hs_5 rfl u_676 u_677 u_678 u_11 u_679 ⟨by decide, by decide, rfl⟩ ⟨Nat.le_of_ble_eq_true rfl, Nat.le_of_ble_eq_true rfl⟩ ⟨Nat.le_of_ble_eq_true rfl, Nat.le_of_ble_eq_true rfl⟩ (Nat.le_of_ble_eq_true rfl) dX11_save_107 ?hp_5 rfl rfl rfl ?_
              case hs_5 => exact ⟨_, FK.c173 hM⟩
              case hp_5 => exact ⟨FK.wk hM, hn0, by omega, hr⟩
              rintro v σ1 sz1 ⟨rfl, rfl, rfl⟩
              refine S_iret hX dX11_save_110 (Nat.zero_le _) (Nat.zero_le _) ?_
              refine hP _ _ _ ?_
              exact ⟨_, hM, hF, ⟨_, rfl, Or.inr (Or.inr ⟨hbad, hs0, Or.inl ⟨rv r (ln S.1.2.2.2.1), lawF_n hlaw, hsv, hmin, by rw [if_neg (fun w => c95 (eq_i.mpr (w.trans (by decide))))]⟩, hR.scr ok ho2⟩)⟩, rfl⟩
            · refine S_iload (q := 100) hX dX11_save_98 rfl rfl ?_
              refine S_goto 110 hX dX11_save_100 rfl ?_
              refine S_iret hX dX11_save_110 (Nat.zero_le _) (Nat.zero_le _) ?_
              refine hP _ _ _ ?_
              exact ⟨_, hM, hF, ⟨_, rfl, Or.inr (Or.inr ⟨hbad, hs0, Or.inl ⟨rv r (ln S.1.2.2.2.1), lawF_n hlaw, hsv, hmin, by rw [if_pos (by rw [c95]; rfl), hap]⟩, hR.scr ok ho2⟩)⟩, rfl⟩
  refine S_aload_n (q := 1) hX dX11_save_0 rfl rfl ?_
  refine S_iload_n (q := 2) hX dX11_save_1 rfl rfl ?_
  refine S_callV (ci := 11) (C := "FanTalk") (T := TX11) (N := 11) (q := 5) 0 0 hX (c_X11_isCode q γ S _) rfl ?hs_6 rfl u_338 u_340 us_1 u_1 u_341 ⟨by decide, by decide, rfl⟩ ⟨Nat.le_of_ble_eq_true rfl, Nat.le_of_ble_eq_true rfl⟩ ⟨Nat.le_of_ble_eq_true rfl, Nat.le_of_ble_eq_true rfl⟩ (Nat.le_of_ble_eq_true rfl) dX11_save_2 ?hp_6 rfl rfl rfl ?_
  case hs_6 => first | with_reducible assumption | exact ⟨_, FK.c0 hM⟩ | exact ⟨_, FK.c2 hM⟩ | exact ⟨_, FK.c7 hM⟩ | exact ⟨_, FK.c129 hM⟩ | exact ⟨_, FK.c173 hM⟩ | exact ⟨_, FK.c1 hM⟩
  case hp_6 => exact ⟨hM, hR, ok⟩
  rintro v σ1 sz1 ⟨rfl, rfl, rfl⟩
  refine S_if_eq_b (q := 8) 24 hX dX11_save_5 rfl rfl (fun c5 => ?_) (fun c5 => ?_)
  · refine S_aload_n (q := 25) hX dX11_save_24 rfl rfl ?_
    refine S_bipush (q := 27) (v := (-2)) hX dX11_save_25 bp_m2 rfl ?_
    refine S_bipush (q := 29) (v := (-10)) hX dX11_save_27 bp_m10 rfl ?_
    refine S_callV (ci := 11) (C := "FanTalk") (T := TX11) (N := 11) (q := 32) 0 0 hX (c_X11_refused q γ _ _ 0 (by decide)) rfl ?hs_7 rfl u_323 u_325 us_0 u_1 u_326 ⟨by decide, by decide, rfl⟩ ⟨Nat.le_of_ble_eq_true rfl, Nat.le_of_ble_eq_true rfl⟩ ⟨Nat.le_of_ble_eq_true rfl, Nat.le_of_ble_eq_true rfl⟩ (Nat.le_of_ble_eq_true rfl) dX11_save_29 ?hp_7 rfl rfl rfl ?_
    case hs_7 => first | with_reducible assumption | exact ⟨_, FK.c0 hM⟩ | exact ⟨_, FK.c2 hM⟩ | exact ⟨_, FK.c7 hM⟩ | exact ⟨_, FK.c129 hM⟩ | exact ⟨_, FK.c173 hM⟩ | exact ⟨_, FK.c1 hM⟩
    case hp_7 => exact ⟨hM, by decide⟩
    rintro v σ sz1 ⟨μ9, hM, hF1, rfl, e9, rfl⟩
    have hF := hF.trans hF1
    refine S_iret hX dX11_save_32 (Nat.zero_le _) (Nat.zero_le _) ?_
    refine hP _ _ _ ?_
    exact ⟨_, hM, hF, ⟨_, rfl, Or.inl ⟨Or.inl c5, rfl, hR.rf ok e9⟩⟩, rfl⟩
  · have cx := okc.ex c5
    refine S_iload_n (q := 9) hX dX11_save_8 rfl rfl ?_
    refine S_callS (q := 12) 0 0 hX (c_X11_isWord _) rfl u_342 u_343 u_1 u_344 ⟨by decide, by decide, rfl⟩ ⟨Nat.le_of_ble_eq_true rfl, Nat.le_of_ble_eq_true rfl⟩ ⟨Nat.le_of_ble_eq_true rfl, Nat.le_of_ble_eq_true rfl⟩ (Nat.le_of_ble_eq_true rfl) dX11_save_9 ?hp_8 rfl rfl rfl ?_
    case hp_8 => trivial
    rintro v σ1 sz1 ⟨rfl, rfl, rfl⟩
    refine S_if_eq_b (q := 15) 24 hX dX11_save_12 rfl rfl (fun c12 => ?_) (fun c12 => ?_)
    · refine S_aload_n (q := 25) hX dX11_save_24 rfl rfl ?_
      refine S_bipush (q := 27) (v := (-2)) hX dX11_save_25 bp_m2 rfl ?_
      refine S_bipush (q := 29) (v := (-10)) hX dX11_save_27 bp_m10 rfl ?_
      refine S_callV (ci := 11) (C := "FanTalk") (T := TX11) (N := 11) (q := 32) 0 0 hX (c_X11_refused q γ _ _ 0 (by decide)) rfl ?hs_9 rfl u_323 u_325 us_0 u_1 u_326 ⟨by decide, by decide, rfl⟩ ⟨Nat.le_of_ble_eq_true rfl, Nat.le_of_ble_eq_true rfl⟩ ⟨Nat.le_of_ble_eq_true rfl, Nat.le_of_ble_eq_true rfl⟩ (Nat.le_of_ble_eq_true rfl) dX11_save_29 ?hp_9 rfl rfl rfl ?_
      case hs_9 => first | with_reducible assumption | exact ⟨_, FK.c0 hM⟩ | exact ⟨_, FK.c2 hM⟩ | exact ⟨_, FK.c7 hM⟩ | exact ⟨_, FK.c129 hM⟩ | exact ⟨_, FK.c173 hM⟩ | exact ⟨_, FK.c1 hM⟩
      case hp_9 => exact ⟨hM, by decide⟩
      rintro v σ sz1 ⟨μ9, hM, hF1, rfl, e9, rfl⟩
      have hF := hF.trans hF1
      refine S_iret hX dX11_save_32 (Nat.zero_le _) (Nat.zero_le _) ?_
      refine hP _ _ _ ?_
      exact ⟨_, hM, hF, ⟨_, rfl, Or.inl ⟨Or.inr (Or.inl c12), rfl, hR.rf ok e9⟩⟩, rfl⟩
    · refine S_iload_n (q := 16) hX dX11_save_15 rfl rfl ?_
      refine S_if_lt (q := 19) 24 hX dX11_save_16 rfl rfl (fun c16 => ?_) (fun c16 => ?_)
      · have k16 := c16
        rw [lt_i, show ((0 : Int32)).toInt = 0 by decide] at k16
        refine S_aload_n (q := 25) hX dX11_save_24 rfl rfl ?_
        refine S_bipush (q := 27) (v := (-2)) hX dX11_save_25 bp_m2 rfl ?_
        refine S_bipush (q := 29) (v := (-10)) hX dX11_save_27 bp_m10 rfl ?_
        refine S_callV (ci := 11) (C := "FanTalk") (T := TX11) (N := 11) (q := 32) 0 0 hX (c_X11_refused q γ _ _ 0 (by decide)) rfl ?hs_10 rfl u_323 u_325 us_0 u_1 u_326 ⟨by decide, by decide, rfl⟩ ⟨Nat.le_of_ble_eq_true rfl, Nat.le_of_ble_eq_true rfl⟩ ⟨Nat.le_of_ble_eq_true rfl, Nat.le_of_ble_eq_true rfl⟩ (Nat.le_of_ble_eq_true rfl) dX11_save_29 ?hp_10 rfl rfl rfl ?_
        case hs_10 => first | with_reducible assumption | exact ⟨_, FK.c0 hM⟩ | exact ⟨_, FK.c2 hM⟩ | exact ⟨_, FK.c7 hM⟩ | exact ⟨_, FK.c129 hM⟩ | exact ⟨_, FK.c173 hM⟩ | exact ⟨_, FK.c1 hM⟩
        case hp_10 => exact ⟨hM, by decide⟩
        rintro v σ sz1 ⟨μ9, hM, hF1, rfl, e9, rfl⟩
        have hF := hF.trans hF1
        refine S_iret hX dX11_save_32 (Nat.zero_le _) (Nat.zero_le _) ?_
        refine hP _ _ _ ?_
        exact ⟨_, hM, hF, ⟨_, rfl, Or.inl ⟨Or.inr (Or.inr (fun w => by have := w.1; have := w.2; omega)), rfl, hR.rf ok e9⟩⟩, rfl⟩
      · have k16 := c16
        rw [lt_i, show ((0 : Int32)).toInt = 0 by decide] at k16
        refine S_iload_n (q := 20) hX dX11_save_19 rfl rfl ?_
        refine S_iconst (q := 21) (v := 1) hX dX11_save_20 ic_1 rfl ?_
        refine S_icmp_le (q := 24) 33 hX dX11_save_21 rfl rfl (fun c21 => ?_) (fun c21 => ?_)
        · have k21 := c21
          rw [le_i, show ((1 : Int32)).toInt = 1 by decide] at k21
          refine S_aload_n (q := 34) hX dX11_save_33 rfl rfl ?_
          refine S_getf (fs := ?fs_11) (v := ?v_11) (q := 37) hX u_285 fo_X11_now dX11_save_34 ?hs_11 ?hv_11 rfl ?_
          case hs_11 => with_reducible first | exact FK.c0 hM | exact FK.c1 hM | exact FK.c2 hM | exact FK.c7 hM | exact FK.c129 hM | exact FK.c3 hM | exact FK.c4 hM | exact FK.c5 hM | exact FK.c6 hM | exact FK.c39 hM | exact FK.c40 hM | exact FK.c41 hM | exact FK.c42 hM | exact FK.c43 hM | exact FK.c128 hM | exact FK.c136 hM | exact FK.c137 hM | exact FK.c173 hM | exact FK.c174 hM | exact FK.c175 hM | exact FK.c176 hM | exact FK.c177 hM | exact FK.c178 hM | exact RK.c0 (FK.rk hkd hM) | exact RK.c1 (FK.rk hkd hM) | exact RK.c2 (FK.rk hkd hM) | exact RK.c0 (FK.rk hk2 hM) | exact RK.c1 (FK.rk hk2 hM) | exact RK.c2 (FK.rk hk2 hM)
          case hv_11 => rfl
          refine S_getf (fs := ?fs_12) (v := ?v_12) (q := 40) hX u_93 fo_X9_beats dX11_save_37 ?hs_12 ?hv_12 rfl ?_
          case hs_12 => with_reducible first | exact FK.c0 hM | exact FK.c1 hM | exact FK.c2 hM | exact FK.c7 hM | exact FK.c129 hM | exact FK.c3 hM | exact FK.c4 hM | exact FK.c5 hM | exact FK.c6 hM | exact FK.c39 hM | exact FK.c40 hM | exact FK.c41 hM | exact FK.c42 hM | exact FK.c43 hM | exact FK.c128 hM | exact FK.c136 hM | exact FK.c137 hM | exact FK.c173 hM | exact FK.c174 hM | exact FK.c175 hM | exact FK.c176 hM | exact FK.c177 hM | exact FK.c178 hM | exact RK.c0 (FK.rk hkd hM) | exact RK.c1 (FK.rk hkd hM) | exact RK.c2 (FK.rk hkd hM) | exact RK.c0 (FK.rk hk2 hM) | exact RK.c1 (FK.rk hk2 hM) | exact RK.c2 (FK.rk hk2 hM)
          case hv_12 => rfl
          refine S_if_ne (q := 43) 52 hX dX11_save_40 rfl rfl (fun c40 => ?_) (fun c40 => ?_)
          · have hz0 : ¬ S.1.2.2.2.1 = 0 := fun w => c40 (by rw [show γ 1 1 = nI (ln S.1.2.2.2.1) from t3, w]; rfl)
            have hz1 : 1 ≤ ln S.1.2.2.2.1 := by
              rcases o6 with w | w
              · exact absurd w hz0
              · exact w.1
            refine S_aload_n (q := 53) hX dX11_save_52 rfl rfl ?_
            refine S_getf (fs := ?fs_13) (v := ?v_13) (q := 56) hX u_290 fo_X11_readers dX11_save_53 ?hs_13 ?hv_13 rfl ?_
            case hs_13 => with_reducible first | exact FK.c0 hM | exact FK.c1 hM | exact FK.c2 hM | exact FK.c7 hM | exact FK.c129 hM | exact FK.c3 hM | exact FK.c4 hM | exact FK.c5 hM | exact FK.c6 hM | exact FK.c39 hM | exact FK.c40 hM | exact FK.c41 hM | exact FK.c42 hM | exact FK.c43 hM | exact FK.c128 hM | exact FK.c136 hM | exact FK.c137 hM | exact FK.c173 hM | exact FK.c174 hM | exact FK.c175 hM | exact FK.c176 hM | exact FK.c177 hM | exact FK.c178 hM | exact RK.c0 (FK.rk hkd hM) | exact RK.c1 (FK.rk hkd hM) | exact RK.c2 (FK.rk hkd hM) | exact RK.c0 (FK.rk hk2 hM) | exact RK.c1 (FK.rk hk2 hM) | exact RK.c2 (FK.rk hk2 hM)
            case hv_13 => rfl
            refine S_iconst (q := 57) (v := 0) hX dX11_save_56 ic_0 rfl ?_
            refine S_aald (N := ?n_14) (f := ?f_14) (y := q + (138 + 7 * 0)) (q := 58) (t := 3) hX dX11_save_57 (by decide) rfl ?hs_14 ?hi_14 ?hy_14 rfl ?_
            case hs_14 => with_reducible first | exact FK.c0 hM | exact FK.c1 hM | exact FK.c2 hM | exact FK.c7 hM | exact FK.c129 hM | exact FK.c3 hM | exact FK.c4 hM | exact FK.c5 hM | exact FK.c6 hM | exact FK.c39 hM | exact FK.c40 hM | exact FK.c41 hM | exact FK.c42 hM | exact FK.c43 hM | exact FK.c128 hM | exact FK.c136 hM | exact FK.c137 hM | exact FK.c173 hM | exact FK.c174 hM | exact FK.c175 hM | exact FK.c176 hM | exact FK.c177 hM | exact FK.c178 hM | exact RK.c0 (FK.rk hkd hM) | exact RK.c1 (FK.rk hkd hM) | exact RK.c2 (FK.rk hkd hM) | exact RK.c0 (FK.rk hk2 hM) | exact RK.c1 (FK.rk hk2 hM) | exact RK.c2 (FK.rk hk2 hM)
            case hi_14 => exact vp_in_nI (show 0 < 5 by decide) (by decide)
            case hy_14 => show some (q + (138 + 7 * (nI 0).toNatClampNeg)) = some (q + (138 + 7 * 0)); rw [nI_clamp (by omega)]
            refine S_aload_n (q := 59) hX dX11_save_58 rfl rfl ?_
            refine S_getf (fs := ?fs_15) (v := ?v_15) (q := 62) hX u_285 fo_X11_now dX11_save_59 ?hs_15 ?hv_15 rfl ?_
            case hs_15 => with_reducible first | exact FK.c0 hM | exact FK.c1 hM | exact FK.c2 hM | exact FK.c7 hM | exact FK.c129 hM | exact FK.c3 hM | exact FK.c4 hM | exact FK.c5 hM | exact FK.c6 hM | exact FK.c39 hM | exact FK.c40 hM | exact FK.c41 hM | exact FK.c42 hM | exact FK.c43 hM | exact FK.c128 hM | exact FK.c136 hM | exact FK.c137 hM | exact FK.c173 hM | exact FK.c174 hM | exact FK.c175 hM | exact FK.c176 hM | exact FK.c177 hM | exact FK.c178 hM | exact RK.c0 (FK.rk hkd hM) | exact RK.c1 (FK.rk hkd hM) | exact RK.c2 (FK.rk hkd hM) | exact RK.c0 (FK.rk hk2 hM) | exact RK.c1 (FK.rk hk2 hM) | exact RK.c2 (FK.rk hk2 hM)
            case hv_15 => rfl
            refine S_getf (fs := ?fs_16) (v := ?v_16) (q := 65) hX u_85 fo_X9_codes dX11_save_62 ?hs_16 ?hv_16 rfl ?_
            case hs_16 => with_reducible first | exact FK.c0 hM | exact FK.c1 hM | exact FK.c2 hM | exact FK.c7 hM | exact FK.c129 hM | exact FK.c3 hM | exact FK.c4 hM | exact FK.c5 hM | exact FK.c6 hM | exact FK.c39 hM | exact FK.c40 hM | exact FK.c41 hM | exact FK.c42 hM | exact FK.c43 hM | exact FK.c128 hM | exact FK.c136 hM | exact FK.c137 hM | exact FK.c173 hM | exact FK.c174 hM | exact FK.c175 hM | exact FK.c176 hM | exact FK.c177 hM | exact FK.c178 hM | exact RK.c0 (FK.rk hkd hM) | exact RK.c1 (FK.rk hkd hM) | exact RK.c2 (FK.rk hkd hM) | exact RK.c0 (FK.rk hk2 hM) | exact RK.c1 (FK.rk hk2 hM) | exact RK.c2 (FK.rk hk2 hM)
            case hv_16 => rfl
            refine S_iload_n (q := 66) hX dX11_save_65 rfl rfl ?_
            refine S_callK (q := 69) 0 0 (hkd) hX (c_X3_learn (q + (138 + 7 * (0))) (fun j => γ (138 + 7 * (0) + j)) (0) (q + 2) (tN x) _ (fun j => γ (2 + j)) (S.1.1.2.1 (tN x)) cx.1) rfl ?hs_17 u_525 u_528 u_526 u_6 u_533 u_527 u_531 u_530 u_532 u_529 ⟨by decide, by decide, rfl⟩ ⟨Nat.le_of_ble_eq_true rfl, Nat.le_of_ble_eq_true rfl⟩ ⟨Nat.le_of_ble_eq_true rfl, Nat.le_of_ble_eq_true rfl⟩ (Nat.le_of_ble_eq_true rfl) dX11_save_66 ?hp_17 rfl rfl rfl ?_
            case hs_17 => exact ⟨_, (FK.rk hkd hM).c0⟩
            case hp_17 => exact ⟨FK.rk hkd hM, FK.co hM, by left; omega, by omega, o2.2.1 _ cx.2.1, hco.2.1 _ cx.2.1⟩
            rintro v σ sz1 ⟨g1, hM1, hF1, rfl, hfd1, rfl⟩
            have hM := FK.jrk hkd hM hF1 hM1
            have hF := hF.trans (hF1.mono (Nat.le_add_right _ _) (by omega))
            refine S_iconst (q := 70) (v := 0) hX dX11_save_69 ic_0 rfl ?_
            refine S_istore (q := 72) [_, _, _, _, _] hX dX11_save_70 rfl (Nat.le_of_ble_eq_true rfl) rfl rfl ?_
            exact l72 c5 c12 ⟨by omega, by omega⟩ hz0 hz1 8 0 _ (spl γ (138 + 7 * 0) 7 g1) (Nat.zero_le _) (by omega) (fun j hj => spl_out (by omega)) hfd1.sp (fun r _ _ => Nat.zero_le _) hM hF
          · have hz0 : S.1.2.2.2.1 = 0 := by
              rcases o6 with w | w
              · exact w
              · have := nI_inj (b := 0) (by omega) (by decide) ((show γ 1 1 = nI (ln S.1.2.2.2.1) from t3).symm.trans (c40.trans rfl))
                omega
            refine S_aload_n (q := 44) hX dX11_save_43 rfl rfl ?_
            refine S_bipush (q := 46) (v := (-3)) hX dX11_save_44 bp_m3 rfl ?_
            refine S_bipush (q := 48) (v := (-20)) hX dX11_save_46 bp_m20 rfl ?_
            refine S_callV (ci := 11) (C := "FanTalk") (T := TX11) (N := 11) (q := 51) 0 0 hX (c_X11_refused q γ _ _ 1 (by decide)) rfl ?hs_18 rfl u_323 u_325 us_0 u_1 u_326 ⟨by decide, by decide, rfl⟩ ⟨Nat.le_of_ble_eq_true rfl, Nat.le_of_ble_eq_true rfl⟩ ⟨Nat.le_of_ble_eq_true rfl, Nat.le_of_ble_eq_true rfl⟩ (Nat.le_of_ble_eq_true rfl) dX11_save_48 ?hp_18 rfl rfl rfl ?_
            case hs_18 => first | with_reducible assumption | exact ⟨_, FK.c0 hM⟩ | exact ⟨_, FK.c2 hM⟩ | exact ⟨_, FK.c7 hM⟩ | exact ⟨_, FK.c129 hM⟩ | exact ⟨_, FK.c173 hM⟩ | exact ⟨_, FK.c1 hM⟩
            case hp_18 => exact ⟨hM, by decide⟩
            rintro v σ sz1 ⟨μ9, hM, hF1, rfl, e9, rfl⟩
            have hF := hF.trans hF1
            refine S_iret hX dX11_save_51 (Nat.zero_le _) (Nat.zero_le _) ?_
            refine hP _ _ _ ?_
            exact ⟨_, hM, hF, ⟨_, rfl, Or.inr (Or.inl ⟨by rintro (w | w | w); exact w c5; exact w c12; exact w ⟨by omega, by omega⟩, hz0, rfl, hR.rf ok e9⟩)⟩, rfl⟩
        · have k21 := c21
          rw [le_i, show ((1 : Int32)).toInt = 1 by decide] at k21
          refine S_aload_n (q := 25) hX dX11_save_24 rfl rfl ?_
          refine S_bipush (q := 27) (v := (-2)) hX dX11_save_25 bp_m2 rfl ?_
          refine S_bipush (q := 29) (v := (-10)) hX dX11_save_27 bp_m10 rfl ?_
          refine S_callV (ci := 11) (C := "FanTalk") (T := TX11) (N := 11) (q := 32) 0 0 hX (c_X11_refused q γ _ _ 0 (by decide)) rfl ?hs_19 rfl u_323 u_325 us_0 u_1 u_326 ⟨by decide, by decide, rfl⟩ ⟨Nat.le_of_ble_eq_true rfl, Nat.le_of_ble_eq_true rfl⟩ ⟨Nat.le_of_ble_eq_true rfl, Nat.le_of_ble_eq_true rfl⟩ (Nat.le_of_ble_eq_true rfl) dX11_save_29 ?hp_19 rfl rfl rfl ?_
          case hs_19 => first | with_reducible assumption | exact ⟨_, FK.c0 hM⟩ | exact ⟨_, FK.c2 hM⟩ | exact ⟨_, FK.c7 hM⟩ | exact ⟨_, FK.c129 hM⟩ | exact ⟨_, FK.c173 hM⟩ | exact ⟨_, FK.c1 hM⟩
          case hp_19 => exact ⟨hM, by decide⟩
          rintro v σ sz1 ⟨μ9, hM, hF1, rfl, e9, rfl⟩
          have hF := hF.trans hF1
          refine S_iret hX dX11_save_32 (Nat.zero_le _) (Nat.zero_le _) ?_
          refine hP _ _ _ ?_
          exact ⟨_, hM, hF, ⟨_, rfl, Or.inl ⟨Or.inr (Or.inr (fun w => by have := w.1; have := w.2; omega)), rfl, hR.rf ok e9⟩⟩, rfl⟩
