theorem wantL_len (S : ST) : (wantL S).length = S.1.2.2.2.2.1.1 := by unfold wantL; rw [List.length_map, List.length_range]
theorem wantL_at {S : ST} {j : Nat} (h : j < S.1.2.2.2.2.1.1) : (wantL S).getD j 0 = S.1.2.2.2.2.1.2 j := by
  rw [List.getD_eq_getElem?_getD, List.getElem?_eq_getElem (by rw [wantL_len]; exact h), Option.getD_some]
  simp only [wantL, List.getElem_map, List.getElem_range]
theorem wantL_eq {S : ST} {L : List Nat} (hl : L.length = S.1.2.2.2.2.1.1) (h : ∀ j, j < S.1.2.2.2.2.1.1 → L.getD j 0 = S.1.2.2.2.2.1.2 j) : L = wantL S := by
  apply List.ext_getElem (by rw [wantL_len]; exact hl)
  intro j h1 h2
  have := h j (by omega)
  rw [List.getD_eq_getElem?_getD, List.getElem?_eq_getElem h1, Option.getD_some] at this
  rw [this]
  simp only [wantL, List.getElem_map, List.getElem_range]
theorem getD_tk {L rest : List Nat} {j : Nat} (h : j < L.length) : (L.take (j + 1) ++ rest).getD j 0 = L.getD j 0 := by
  rw [List.getD_eq_getElem?_getD, List.getD_eq_getElem?_getD, List.getElem?_append_left (by rw [List.length_take]; omega), List.getElem?_take_of_lt (Nat.lt_succ_self j)]
theorem len_tk {L rest : List Nat} {j : Nat} (h : j < L.length) : j < (L.take (j + 1) ++ rest).length := by
  rw [List.length_append, List.length_take]; omega
/-- a row tells a friend by code A just what is wanted, a chaperone by code B no more than k words -/
def hidF (S : ST) (A B : CodT) (n k : Nat) (w : Nat → Nat) : Prop := rdK 0 w n A = wantL S ∧ (rdK 2 w n B).length ≤ k
/-- a row is as it should be; or no row is that is the same ahead of p -/
def WrR (v : Option Value) (n : Nat) (H : (Nat → Nat) → Prop) (r : Nat → Nat) : Prop := (v = some (.int 99) ∧ H r) ∨ ∃ p, v = some (.int (nI p - 1)) ∧ p ≤ n ∧ ∀ w' : Nat → Nat, (∀ i, i < p → w' i = r i) → ¬ H w'

theorem c_X11_wrongToHide (q : Nat) (γ : MF) (S : ST) (A B : CodT) (x : Int32) (n kk : Nat) (r : Nat → Nat) (hx : x = nI kk) : CT_X11_wrongToHide [.ref q, .int x] (fun Γ σ sz => FK σ q γ ∧ FR γ S ∧ StOk S ∧ CodOk A ∧ CodOk B ∧ FdC (fun j => γ (138 + 7 * 0 + j)) A ∧ FdC (fun j => γ (138 + 7 * 2 + j)) B ∧ n ≤ 6 ∧ kk ≤ 5 ∧ γ 173 0 = nI n ∧ lawF n r ∧ ∀ i, i < n → γ 174 i = nI (r i)) (fun Γ σ sz v σ' sz' => ∃ γ', FK σ' q γ' ∧ Fr q (q + 179) σ σ' ∧ WrR v n (hidF S A B n kk) r ∧ ((∀ j, j < 137 ∨ j = 173 ∨ j = 174 → γ' j = γ j) ∧ FdC (fun j => γ' (138 + 7 * 0 + j)) A ∧ FdC (fun j => γ' (138 + 7 * 2 + j)) B) ∧ sz' = sz) := by
  refine CT.mkP rfl (Nat.le_of_ble_eq_true rfl) [_, _, _, _, _] rfl ?_
  intro X Γ σ sz P hX hpre hsz hP
  obtain ⟨hM, hR, ok, hA, hB, hfa, hfb, hn6, hk5, hn0, hlaw, hr⟩ := hpre
  subst hx
  obtain ⟨σ0, eσ0⟩ : ∃ z, z = σ := ⟨σ, rfl⟩
  rw [← eσ0] at hP
  have hF : Fr q (q + 179) σ0 σ := by rw [eσ0]; exact Fr.rf
  obtain ⟨r0, r1, r2, r3, r4, r5⟩ := id hR
  obtain ⟨t0, t1, t2, t3, t4, t5, t6, t7, t8⟩ := id r0
  obtain ⟨o1, o2, o3, o4, o5, o6, o7, o8, o9, o10⟩ := id ok.1
  have hkd : 0 < 5 := by decide
  have hk2 : 2 < 5 := by decide
  have l43 : ∀ (g1 : MF) (mn : Nat) (σ : Sg), mn = (if S.1.2.2.2.2.1.1 < (rdK 0 r n A).length then S.1.2.2.2.2.1.1 else (rdK 0 r n A).length) → LisP (fun j => spl γ (138 + 7 * 0) 7 g1 (138 + 7 * 0 + j)) 0 A r n → FK σ q (spl γ (138 + 7 * 0) 7 g1) → Fr q (q + 179) σ0 σ → ∀ (fl i : Nat), i ≤ mn → mn - i < fl → (∀ j, j < i → (rdK 0 r n A).getD j 0 = S.1.2.2.2.2.1.2 j) → G X Γ P 0 0 43 [some (.ref q), some (.int (nI kk)), some (.ref (q + (138 + 7 * 0))), some (.int (nI mn)), some (.int (nI i))] [] σ sz := by
    intro g1 mn σ emn hL1 hM hF fl
    have ht := hL1.tm hA
    have ht1 : spl γ (138 + 7 * 0) 7 g1 (138 + 7 * 0 + 0) 1 = nI (rdK 0 r n A).length := ht.1
    have hl6 := ht.2.1
    have hw1 : WL (spl γ (138 + 7 * 0) 7 g1 (138 + 7 * 0 + 1)) (rdK 0 r n A) := ht.2.2.1
    have hw10 := ht.2.2.2
    obtain ⟨hfd1, lk, lf, e1, e2, e3, e4, e5, e6, e7⟩ := id hL1
    have e1 : spl γ (138 + 7 * 0) 7 g1 (138 + 7 * 0 + 0) 0 = nI lk - 1 := e1
    have hnw : spl γ (138 + 7 * 0) 7 g1 1 2 = nI S.1.2.2.2.2.1.1 := by rw [spl_out (by omega)]; exact t5
    have hmn1 : mn ≤ S.1.2.2.2.2.1.1 := by rw [emn]; split <;> omega
    have hmn2 : mn ≤ (rdK 0 r n A).length := by rw [emn]; split <;> omega
    have hkp : ∀ j, j < 137 ∨ j = 173 ∨ j = 174 → (spl γ (138 + 7 * 0) 7 g1) j = γ j := fun j hj => spl_out (by omega)
    have hfb1 : FdC (fun j => (spl γ (138 + 7 * 0) 7 g1) (138 + 7 * 2 + j)) B := hfb.ext (fun j hj => spl_out (by omega))
    induction fl with
      | zero => intro i h1 h2; omega
      | succ fl ih =>
        intro i hi hfu hal
        refine S_iload (q := 45) hX dX11_wrongToHide_43 rfl rfl ?_
        refine S_iload_n (q := 46) hX dX11_wrongToHide_45 rfl rfl ?_
        refine S_icmp_ge (q := 49) 83 hX dX11_wrongToHide_46 rfl rfl (fun c46 => ?_) (fun c46 => ?_)
        · have hge : i = mn := by rw [nI_leI (by omega) (by omega)] at c46; omega
          refine S_aload_n (q := 84) hX dX11_wrongToHide_83 rfl rfl ?_
          refine S_getf (fs := ?fs_1) (v := ?v_1) (q := 87) hX u_181 (fo_F_heard (cik_F 0)) dX11_wrongToHide_84 ?hs_1 ?hv_1 rfl ?_
          case hs_1 => with_reducible first | exact FK.c0 hM | exact FK.c1 hM | exact FK.c2 hM | exact FK.c7 hM | exact FK.c129 hM | exact FK.c3 hM | exact FK.c4 hM | exact FK.c5 hM | exact FK.c6 hM | exact FK.c39 hM | exact FK.c40 hM | exact FK.c41 hM | exact FK.c42 hM | exact FK.c43 hM | exact FK.c128 hM | exact FK.c136 hM | exact FK.c137 hM | exact FK.c173 hM | exact FK.c174 hM | exact FK.c175 hM | exact FK.c176 hM | exact FK.c177 hM | exact FK.c178 hM | exact RK.c0 (FK.rk hkd hM) | exact RK.c1 (FK.rk hkd hM) | exact RK.c2 (FK.rk hkd hM) | exact RK.c0 (FK.rk hk2 hM) | exact RK.c1 (FK.rk hk2 hM) | exact RK.c2 (FK.rk hk2 hM)
          case hv_1 => rfl
          refine S_aload_n (q := 88) hX dX11_wrongToHide_87 rfl rfl ?_
          refine S_getf (fs := ?fs_2) (v := ?v_2) (q := 91) hX u_285 fo_X11_now dX11_wrongToHide_88 ?hs_2 ?hv_2 rfl ?_
          case hs_2 => with_reducible first | exact FK.c0 hM | exact FK.c1 hM | exact FK.c2 hM | exact FK.c7 hM | exact FK.c129 hM | exact FK.c3 hM | exact FK.c4 hM | exact FK.c5 hM | exact FK.c6 hM | exact FK.c39 hM | exact FK.c40 hM | exact FK.c41 hM | exact FK.c42 hM | exact FK.c43 hM | exact FK.c128 hM | exact FK.c136 hM | exact FK.c137 hM | exact FK.c173 hM | exact FK.c174 hM | exact FK.c175 hM | exact FK.c176 hM | exact FK.c177 hM | exact FK.c178 hM | exact RK.c0 (FK.rk hkd hM) | exact RK.c1 (FK.rk hkd hM) | exact RK.c2 (FK.rk hkd hM) | exact RK.c0 (FK.rk hk2 hM) | exact RK.c1 (FK.rk hk2 hM) | exact RK.c2 (FK.rk hk2 hM)
          case hv_2 => rfl
          refine S_getf (fs := ?fs_3) (v := ?v_3) (q := 94) hX u_97 fo_X9_wants dX11_wrongToHide_91 ?hs_3 ?hv_3 rfl ?_
          case hs_3 => with_reducible first | exact FK.c0 hM | exact FK.c1 hM | exact FK.c2 hM | exact FK.c7 hM | exact FK.c129 hM | exact FK.c3 hM | exact FK.c4 hM | exact FK.c5 hM | exact FK.c6 hM | exact FK.c39 hM | exact FK.c40 hM | exact FK.c41 hM | exact FK.c42 hM | exact FK.c43 hM | exact FK.c128 hM | exact FK.c136 hM | exact FK.c137 hM | exact FK.c173 hM | exact FK.c174 hM | exact FK.c175 hM | exact FK.c176 hM | exact FK.c177 hM | exact FK.c178 hM | exact RK.c0 (FK.rk hkd hM) | exact RK.c1 (FK.rk hkd hM) | exact RK.c2 (FK.rk hkd hM) | exact RK.c0 (FK.rk hk2 hM) | exact RK.c1 (FK.rk hk2 hM) | exact RK.c2 (FK.rk hk2 hM)
          case hv_3 => rfl
          refine S_icmp_le (q := 97) 110 hX dX11_wrongToHide_94 rfl rfl (fun c94 => ?_) (fun c94 => ?_)
          · have k94 := c94
            rw [ht1, hnw, nI_leI (by omega) (by omega)] at k94
            refine S_aload_n (q := 111) hX dX11_wrongToHide_110 rfl rfl ?_
            refine S_getf (fs := ?fs_4) (v := ?v_4) (q := 114) hX u_181 (fo_F_heard (cik_F 0)) dX11_wrongToHide_111 ?hs_4 ?hv_4 rfl ?_
            case hs_4 => with_reducible first | exact FK.c0 hM | exact FK.c1 hM | exact FK.c2 hM | exact FK.c7 hM | exact FK.c129 hM | exact FK.c3 hM | exact FK.c4 hM | exact FK.c5 hM | exact FK.c6 hM | exact FK.c39 hM | exact FK.c40 hM | exact FK.c41 hM | exact FK.c42 hM | exact FK.c43 hM | exact FK.c128 hM | exact FK.c136 hM | exact FK.c137 hM | exact FK.c173 hM | exact FK.c174 hM | exact FK.c175 hM | exact FK.c176 hM | exact FK.c177 hM | exact FK.c178 hM | exact RK.c0 (FK.rk hkd hM) | exact RK.c1 (FK.rk hkd hM) | exact RK.c2 (FK.rk hkd hM) | exact RK.c0 (FK.rk hk2 hM) | exact RK.c1 (FK.rk hk2 hM) | exact RK.c2 (FK.rk hk2 hM)
            case hv_4 => rfl
            refine S_aload_n (q := 115) hX dX11_wrongToHide_114 rfl rfl ?_
            refine S_getf (fs := ?fs_5) (v := ?v_5) (q := 118) hX u_285 fo_X11_now dX11_wrongToHide_115 ?hs_5 ?hv_5 rfl ?_
            case hs_5 => with_reducible first | exact FK.c0 hM | exact FK.c1 hM | exact FK.c2 hM | exact FK.c7 hM | exact FK.c129 hM | exact FK.c3 hM | exact FK.c4 hM | exact FK.c5 hM | exact FK.c6 hM | exact FK.c39 hM | exact FK.c40 hM | exact FK.c41 hM | exact FK.c42 hM | exact FK.c43 hM | exact FK.c128 hM | exact FK.c136 hM | exact FK.c137 hM | exact FK.c173 hM | exact FK.c174 hM | exact FK.c175 hM | exact FK.c176 hM | exact FK.c177 hM | exact FK.c178 hM | exact RK.c0 (FK.rk hkd hM) | exact RK.c1 (FK.rk hkd hM) | exact RK.c2 (FK.rk hkd hM) | exact RK.c0 (FK.rk hk2 hM) | exact RK.c1 (FK.rk hk2 hM) | exact RK.c2 (FK.rk hk2 hM)
            case hv_5 => rfl
            refine S_getf (fs := ?fs_6) (v := ?v_6) (q := 121) hX u_97 fo_X9_wants dX11_wrongToHide_118 ?hs_6 ?hv_6 rfl ?_
            case hs_6 => with_reducible first | exact FK.c0 hM | exact FK.c1 hM | exact FK.c2 hM | exact FK.c7 hM | exact FK.c129 hM | exact FK.c3 hM | exact FK.c4 hM | exact FK.c5 hM | exact FK.c6 hM | exact FK.c39 hM | exact FK.c40 hM | exact FK.c41 hM | exact FK.c42 hM | exact FK.c43 hM | exact FK.c128 hM | exact FK.c136 hM | exact FK.c137 hM | exact FK.c173 hM | exact FK.c174 hM | exact FK.c175 hM | exact FK.c176 hM | exact FK.c177 hM | exact FK.c178 hM | exact RK.c0 (FK.rk hkd hM) | exact RK.c1 (FK.rk hkd hM) | exact RK.c2 (FK.rk hkd hM) | exact RK.c0 (FK.rk hk2 hM) | exact RK.c1 (FK.rk hk2 hM) | exact RK.c2 (FK.rk hk2 hM)
            case hv_6 => rfl
            refine S_icmp_ge (q := 124) 129 hX dX11_wrongToHide_121 rfl rfl (fun c121 => ?_) (fun c121 => ?_)
            · have k121 := c121
              rw [ht1, hnw, nI_leI (by omega) (by omega)] at k121
              refine S_aload_n (q := 130) hX dX11_wrongToHide_129 rfl rfl ?_
              refine S_getf (fs := ?fs_7) (v := ?v_7) (q := 133) hX u_290 fo_X11_readers dX11_wrongToHide_130 ?hs_7 ?hv_7 rfl ?_
              case hs_7 => with_reducible first | exact FK.c0 hM | exact FK.c1 hM | exact FK.c2 hM | exact FK.c7 hM | exact FK.c129 hM | exact FK.c3 hM | exact FK.c4 hM | exact FK.c5 hM | exact FK.c6 hM | exact FK.c39 hM | exact FK.c40 hM | exact FK.c41 hM | exact FK.c42 hM | exact FK.c43 hM | exact FK.c128 hM | exact FK.c136 hM | exact FK.c137 hM | exact FK.c173 hM | exact FK.c174 hM | exact FK.c175 hM | exact FK.c176 hM | exact FK.c177 hM | exact FK.c178 hM | exact RK.c0 (FK.rk hkd hM) | exact RK.c1 (FK.rk hkd hM) | exact RK.c2 (FK.rk hkd hM) | exact RK.c0 (FK.rk hk2 hM) | exact RK.c1 (FK.rk hk2 hM) | exact RK.c2 (FK.rk hk2 hM)
              case hv_7 => rfl
              refine S_iconst (q := 134) (v := 2) hX dX11_wrongToHide_133 ic_2 rfl ?_
              refine S_aald (N := ?n_8) (f := ?f_8) (y := q + (138 + 7 * 2)) (q := 135) (t := 3) hX dX11_wrongToHide_134 (by decide) rfl ?hs_8 ?hi_8 ?hy_8 rfl ?_
              case hs_8 => with_reducible first | exact FK.c0 hM | exact FK.c1 hM | exact FK.c2 hM | exact FK.c7 hM | exact FK.c129 hM | exact FK.c3 hM | exact FK.c4 hM | exact FK.c5 hM | exact FK.c6 hM | exact FK.c39 hM | exact FK.c40 hM | exact FK.c41 hM | exact FK.c42 hM | exact FK.c43 hM | exact FK.c128 hM | exact FK.c136 hM | exact FK.c137 hM | exact FK.c173 hM | exact FK.c174 hM | exact FK.c175 hM | exact FK.c176 hM | exact FK.c177 hM | exact FK.c178 hM | exact RK.c0 (FK.rk hkd hM) | exact RK.c1 (FK.rk hkd hM) | exact RK.c2 (FK.rk hkd hM) | exact RK.c0 (FK.rk hk2 hM) | exact RK.c1 (FK.rk hk2 hM) | exact RK.c2 (FK.rk hk2 hM)
              case hi_8 => exact vp_in_nI (show 2 < 5 by decide) (by decide)
              case hy_8 => show some (q + (138 + 7 * (nI 2).toNatClampNeg)) = some (q + (138 + 7 * 2)); rw [nI_clamp (by omega)]
              refine S_astore (q := 137) [_, _, _, _, _] hX dX11_wrongToHide_135 rfl (Nat.le_of_ble_eq_true rfl) rfl rfl ?_
              refine S_aload (q := 139) hX dX11_wrongToHide_137 rfl rfl ?_
              refine S_aload_n (q := 140) hX dX11_wrongToHide_139 rfl rfl ?_
              refine S_getf (fs := ?fs_9) (v := ?v_9) (q := 143) hX u_291 fo_X11_walk dX11_wrongToHide_140 ?hs_9 ?hv_9 rfl ?_
              case hs_9 => with_reducible first | exact FK.c0 hM | exact FK.c1 hM | exact FK.c2 hM | exact FK.c7 hM | exact FK.c129 hM | exact FK.c3 hM | exact FK.c4 hM | exact FK.c5 hM | exact FK.c6 hM | exact FK.c39 hM | exact FK.c40 hM | exact FK.c41 hM | exact FK.c42 hM | exact FK.c43 hM | exact FK.c128 hM | exact FK.c136 hM | exact FK.c137 hM | exact FK.c173 hM | exact FK.c174 hM | exact FK.c175 hM | exact FK.c176 hM | exact FK.c177 hM | exact FK.c178 hM | exact RK.c0 (FK.rk hkd hM) | exact RK.c1 (FK.rk hkd hM) | exact RK.c2 (FK.rk hkd hM) | exact RK.c0 (FK.rk hk2 hM) | exact RK.c1 (FK.rk hk2 hM) | exact RK.c2 (FK.rk hk2 hM)
              case hv_9 => rfl
              refine S_getf (fs := ?fs_10) (v := ?v_10) (q := 146) hX u_277 fo_X10_states dX11_wrongToHide_143 ?hs_10 ?hv_10 rfl ?_
              case hs_10 => with_reducible first | exact FK.c0 hM | exact FK.c1 hM | exact FK.c2 hM | exact FK.c7 hM | exact FK.c129 hM | exact FK.c3 hM | exact FK.c4 hM | exact FK.c5 hM | exact FK.c6 hM | exact FK.c39 hM | exact FK.c40 hM | exact FK.c41 hM | exact FK.c42 hM | exact FK.c43 hM | exact FK.c128 hM | exact FK.c136 hM | exact FK.c137 hM | exact FK.c173 hM | exact FK.c174 hM | exact FK.c175 hM | exact FK.c176 hM | exact FK.c177 hM | exact FK.c178 hM | exact RK.c0 (FK.rk hkd hM) | exact RK.c1 (FK.rk hkd hM) | exact RK.c2 (FK.rk hkd hM) | exact RK.c0 (FK.rk hk2 hM) | exact RK.c1 (FK.rk hk2 hM) | exact RK.c2 (FK.rk hk2 hM)
              case hv_10 => rfl
              refine S_aload_n (q := 147) hX dX11_wrongToHide_146 rfl rfl ?_
              refine S_getf (fs := ?fs_11) (v := ?v_11) (q := 150) hX u_291 fo_X11_walk dX11_wrongToHide_147 ?hs_11 ?hv_11 rfl ?_
              case hs_11 => with_reducible first | exact FK.c0 hM | exact FK.c1 hM | exact FK.c2 hM | exact FK.c7 hM | exact FK.c129 hM | exact FK.c3 hM | exact FK.c4 hM | exact FK.c5 hM | exact FK.c6 hM | exact FK.c39 hM | exact FK.c40 hM | exact FK.c41 hM | exact FK.c42 hM | exact FK.c43 hM | exact FK.c128 hM | exact FK.c136 hM | exact FK.c137 hM | exact FK.c173 hM | exact FK.c174 hM | exact FK.c175 hM | exact FK.c176 hM | exact FK.c177 hM | exact FK.c178 hM | exact RK.c0 (FK.rk hkd hM) | exact RK.c1 (FK.rk hkd hM) | exact RK.c2 (FK.rk hkd hM) | exact RK.c0 (FK.rk hk2 hM) | exact RK.c1 (FK.rk hk2 hM) | exact RK.c2 (FK.rk hk2 hM)
              case hv_11 => rfl
              refine S_getf (fs := ?fs_12) (v := ?v_12) (q := 153) hX u_279 fo_X10_beats dX11_wrongToHide_150 ?hs_12 ?hv_12 rfl ?_
              case hs_12 => with_reducible first | exact FK.c0 hM | exact FK.c1 hM | exact FK.c2 hM | exact FK.c7 hM | exact FK.c129 hM | exact FK.c3 hM | exact FK.c4 hM | exact FK.c5 hM | exact FK.c6 hM | exact FK.c39 hM | exact FK.c40 hM | exact FK.c41 hM | exact FK.c42 hM | exact FK.c43 hM | exact FK.c128 hM | exact FK.c136 hM | exact FK.c137 hM | exact FK.c173 hM | exact FK.c174 hM | exact FK.c175 hM | exact FK.c176 hM | exact FK.c177 hM | exact FK.c178 hM | exact RK.c0 (FK.rk hkd hM) | exact RK.c1 (FK.rk hkd hM) | exact RK.c2 (FK.rk hkd hM) | exact RK.c0 (FK.rk hk2 hM) | exact RK.c1 (FK.rk hk2 hM) | exact RK.c2 (FK.rk hk2 hM)
              case hv_12 => rfl
              refine S_callK (q := 156) 0 0 (hk2) hX (c_X3_listen (q + (138 + 7 * (2))) (fun j => (spl γ (138 + 7 * 0) 7 g1) (138 + 7 * (2) + j)) (2) (q + 174) 6 (n) _ ((spl γ (138 + 7 * 0) 7 g1) 174) (r) (B) ((show (spl γ (138 + 7 * 0) 7 g1) 173 0 = nI n by rw [hkp _ (by omega)]; exact hn0))) rfl ?hs_13 u_536 u_539 u_537 u_6 u_544 u_538 u_542 u_541 u_543 u_540 ⟨by decide, by decide, rfl⟩ ⟨Nat.le_of_ble_eq_true rfl, Nat.le_of_ble_eq_true rfl⟩ ⟨Nat.le_of_ble_eq_true rfl, Nat.le_of_ble_eq_true rfl⟩ (Nat.le_of_ble_eq_true rfl) dX11_wrongToHide_153 ?hp_13 rfl rfl rfl ?_
              case hs_13 => exact ⟨_, (FK.rk hk2 hM).c0⟩
              case hp_13 =>
                refine ⟨FK.rk hk2 hM, hk2, hfb1, hB, by omega, by omega, by decide, FK.c174 hM, by right; omega, ?_⟩
                intro i hi
                rw [hkp _ (by omega)]
                exact ⟨hr i hi, hlaw.1 i hi⟩
              rintro v σ sz1 ⟨g2, hM2, hF2, rfl, hL2, rfl⟩
              have hM := FK.jrk hk2 hM hF2 hM2
              have hF := hF.trans (hF2.mono (Nat.le_add_right _ _) (by omega))
              have hL2 := LisP.sp (f := spl γ (138 + 7 * 0) 7 g1) (d := 138 + 7 * 2) hL2
              have hu := hL2.tm hB
              have hu1 : spl (spl γ (138 + 7 * 0) 7 g1) (138 + 7 * 2) 7 g2 (138 + 7 * 2 + 0) 1 = nI (rdK 2 r n B).length := hu.1
              have hu6 := hu.2.1
              obtain ⟨hfd2, mk, mf, d1, d2, d3, d4, d5, d6, d7⟩ := id hL2
              have hkp2 : ∀ j, j < 137 ∨ j = 173 ∨ j = 174 → (spl (spl γ (138 + 7 * 0) 7 g1) (138 + 7 * 2) 7 g2) j = γ j := fun j hj => (spl_out (by omega)).trans (hkp j hj)
              have hfa2 : FdC (fun j => (spl (spl γ (138 + 7 * 0) 7 g1) (138 + 7 * 2) 7 g2) (138 + 7 * 0 + j)) A := hfd1.ext (fun j hj => spl_out (by omega))
              refine S_aload (q := 158) hX dX11_wrongToHide_156 rfl rfl ?_
              refine S_getf (fs := ?fs_14) (v := ?v_14) (q := 161) hX u_181 (fo_F_heard (cik_F 2)) dX11_wrongToHide_158 ?hs_14 ?hv_14 rfl ?_
              case hs_14 => with_reducible first | exact FK.c0 hM | exact FK.c1 hM | exact FK.c2 hM | exact FK.c7 hM | exact FK.c129 hM | exact FK.c3 hM | exact FK.c4 hM | exact FK.c5 hM | exact FK.c6 hM | exact FK.c39 hM | exact FK.c40 hM | exact FK.c41 hM | exact FK.c42 hM | exact FK.c43 hM | exact FK.c128 hM | exact FK.c136 hM | exact FK.c137 hM | exact FK.c173 hM | exact FK.c174 hM | exact FK.c175 hM | exact FK.c176 hM | exact FK.c177 hM | exact FK.c178 hM | exact RK.c0 (FK.rk hkd hM) | exact RK.c1 (FK.rk hkd hM) | exact RK.c2 (FK.rk hkd hM) | exact RK.c0 (FK.rk hk2 hM) | exact RK.c1 (FK.rk hk2 hM) | exact RK.c2 (FK.rk hk2 hM)
              case hv_14 => rfl
              refine S_iload_n (q := 162) hX dX11_wrongToHide_161 rfl rfl ?_
              refine S_icmp_le (q := 165) 175 hX dX11_wrongToHide_162 rfl rfl (fun c162 => ?_) (fun c162 => ?_)
              · have k162 := c162
                rw [hu1, nI_leI (by omega) (by omega)] at k162
                refine S_bipush (q := 177) (v := 99) hX dX11_wrongToHide_175 bp_99 rfl ?_
                refine S_iret hX dX11_wrongToHide_177 (Nat.zero_le _) (Nat.zero_le _) ?_
                refine hP _ _ _ ?_
                refine ⟨_, hM, hF, Or.inl ⟨rfl, wantL_eq ?_ (fun j hj => hal j ?_), by omega⟩, ⟨hkp2, hfa2, hfd2⟩, rfl⟩
                · omega
                · rw [hge, emn]; split <;> omega
              · have k162 := c162
                rw [hu1, nI_leI (by omega) (by omega)] at k162
                refine S_aload (q := 167) hX dX11_wrongToHide_165 rfl rfl ?_
                refine S_getf (fs := ?fs_15) (v := ?v_15) (q := 170) hX u_177 (fo_F_lookedFor (cik_F 2)) dX11_wrongToHide_167 ?hs_15 ?hv_15 rfl ?_
                case hs_15 => with_reducible first | exact FK.c0 hM | exact FK.c1 hM | exact FK.c2 hM | exact FK.c7 hM | exact FK.c129 hM | exact FK.c3 hM | exact FK.c4 hM | exact FK.c5 hM | exact FK.c6 hM | exact FK.c39 hM | exact FK.c40 hM | exact FK.c41 hM | exact FK.c42 hM | exact FK.c43 hM | exact FK.c128 hM | exact FK.c136 hM | exact FK.c137 hM | exact FK.c173 hM | exact FK.c174 hM | exact FK.c175 hM | exact FK.c176 hM | exact FK.c177 hM | exact FK.c178 hM | exact RK.c0 (FK.rk hkd hM) | exact RK.c1 (FK.rk hkd hM) | exact RK.c2 (FK.rk hkd hM) | exact RK.c0 (FK.rk hk2 hM) | exact RK.c1 (FK.rk hk2 hM) | exact RK.c2 (FK.rk hk2 hM)
                case hv_15 => rfl
                refine S_iload_n (q := 171) hX dX11_wrongToHide_170 rfl rfl ?_
                refine S_iald (N := ?n_16) (f := ?f_16) (q := 172) hX dX11_wrongToHide_171 ?hs_16 ?hi_16 rfl ?_
                case hs_16 => with_reducible first | exact FK.c0 hM | exact FK.c1 hM | exact FK.c2 hM | exact FK.c7 hM | exact FK.c129 hM | exact FK.c3 hM | exact FK.c4 hM | exact FK.c5 hM | exact FK.c6 hM | exact FK.c39 hM | exact FK.c40 hM | exact FK.c41 hM | exact FK.c42 hM | exact FK.c43 hM | exact FK.c128 hM | exact FK.c136 hM | exact FK.c137 hM | exact FK.c173 hM | exact FK.c174 hM | exact FK.c175 hM | exact FK.c176 hM | exact FK.c177 hM | exact FK.c178 hM | exact RK.c0 (FK.rk hkd hM) | exact RK.c1 (FK.rk hkd hM) | exact RK.c2 (FK.rk hkd hM) | exact RK.c0 (FK.rk hk2 hM) | exact RK.c1 (FK.rk hk2 hM) | exact RK.c2 (FK.rk hk2 hM)
                case hi_16 => exact vp_in_nI (by omega) (by decide)
                refine S_goto 177 hX dX11_wrongToHide_172 rfl ?_
                refine S_iret hX dX11_wrongToHide_177 (Nat.zero_le _) (Nat.zero_le _) ?_
                refine hP _ _ _ ?_
                refine ⟨_, hM, hF, Or.inr ⟨mf kk, congrArg (fun z => some (Value.int z)) (by rw [nI_clamp (by omega)]; exact (d5 _ (by omega)).1), (d5 _ (by omega)).2, fun w' hw' hH => ?_⟩, ⟨hkp2, hfa2, hfd2⟩, rfl⟩
                obtain ⟨rest, er⟩ := d7 kk (by omega) w' hw'
                have h1 := len_tk (L := (rdK 2 r n B)) (rest := rest) (j := kk) (by omega)
                rw [← er] at h1
                have h2 := hH.2
                omega
            · have k121 := c121
              rw [ht1, hnw, nI_leI (by omega) (by omega)] at k121
              refine S_aload_n (q := 125) hX dX11_wrongToHide_124 rfl rfl ?_
              refine S_getf (fs := ?fs_17) (v := ?v_17) (q := 128) hX u_179 (fo_F_looked (cik_F 0)) dX11_wrongToHide_125 ?hs_17 ?hv_17 rfl ?_
              case hs_17 => with_reducible first | exact FK.c0 hM | exact FK.c1 hM | exact FK.c2 hM | exact FK.c7 hM | exact FK.c129 hM | exact FK.c3 hM | exact FK.c4 hM | exact FK.c5 hM | exact FK.c6 hM | exact FK.c39 hM | exact FK.c40 hM | exact FK.c41 hM | exact FK.c42 hM | exact FK.c43 hM | exact FK.c128 hM | exact FK.c136 hM | exact FK.c137 hM | exact FK.c173 hM | exact FK.c174 hM | exact FK.c175 hM | exact FK.c176 hM | exact FK.c177 hM | exact FK.c178 hM | exact RK.c0 (FK.rk hkd hM) | exact RK.c1 (FK.rk hkd hM) | exact RK.c2 (FK.rk hkd hM) | exact RK.c0 (FK.rk hk2 hM) | exact RK.c1 (FK.rk hk2 hM) | exact RK.c2 (FK.rk hk2 hM)
              case hv_17 => rfl
              refine S_iret hX dX11_wrongToHide_128 (Nat.zero_le _) (Nat.zero_le _) ?_
              refine hP _ _ _ ?_
              refine ⟨_, hM, hF, Or.inr ⟨lk, congrArg (fun z => some (Value.int z)) e1, e2, fun w' hw' hH => ?_⟩, ⟨hkp, hfd1, hfb1⟩, rfl⟩
              have h1 := wantL_len S
              rw [← hH.1, e6 w' hw'] at h1
              omega
          · have k94 := c94
            rw [ht1, hnw, nI_leI (by omega) (by omega)] at k94
            refine S_aload_n (q := 98) hX dX11_wrongToHide_97 rfl rfl ?_
            refine S_getf (fs := ?fs_18) (v := ?v_18) (q := 101) hX u_177 (fo_F_lookedFor (cik_F 0)) dX11_wrongToHide_98 ?hs_18 ?hv_18 rfl ?_
            case hs_18 => with_reducible first | exact FK.c0 hM | exact FK.c1 hM | exact FK.c2 hM | exact FK.c7 hM | exact FK.c129 hM | exact FK.c3 hM | exact FK.c4 hM | exact FK.c5 hM | exact FK.c6 hM | exact FK.c39 hM | exact FK.c40 hM | exact FK.c41 hM | exact FK.c42 hM | exact FK.c43 hM | exact FK.c128 hM | exact FK.c136 hM | exact FK.c137 hM | exact FK.c173 hM | exact FK.c174 hM | exact FK.c175 hM | exact FK.c176 hM | exact FK.c177 hM | exact FK.c178 hM | exact RK.c0 (FK.rk hkd hM) | exact RK.c1 (FK.rk hkd hM) | exact RK.c2 (FK.rk hkd hM) | exact RK.c0 (FK.rk hk2 hM) | exact RK.c1 (FK.rk hk2 hM) | exact RK.c2 (FK.rk hk2 hM)
            case hv_18 => rfl
            refine S_aload_n (q := 102) hX dX11_wrongToHide_101 rfl rfl ?_
            refine S_getf (fs := ?fs_19) (v := ?v_19) (q := 105) hX u_285 fo_X11_now dX11_wrongToHide_102 ?hs_19 ?hv_19 rfl ?_
            case hs_19 => with_reducible first | exact FK.c0 hM | exact FK.c1 hM | exact FK.c2 hM | exact FK.c7 hM | exact FK.c129 hM | exact FK.c3 hM | exact FK.c4 hM | exact FK.c5 hM | exact FK.c6 hM | exact FK.c39 hM | exact FK.c40 hM | exact FK.c41 hM | exact FK.c42 hM | exact FK.c43 hM | exact FK.c128 hM | exact FK.c136 hM | exact FK.c137 hM | exact FK.c173 hM | exact FK.c174 hM | exact FK.c175 hM | exact FK.c176 hM | exact FK.c177 hM | exact FK.c178 hM | exact RK.c0 (FK.rk hkd hM) | exact RK.c1 (FK.rk hkd hM) | exact RK.c2 (FK.rk hkd hM) | exact RK.c0 (FK.rk hk2 hM) | exact RK.c1 (FK.rk hk2 hM) | exact RK.c2 (FK.rk hk2 hM)
            case hv_19 => rfl
            refine S_getf (fs := ?fs_20) (v := ?v_20) (q := 108) hX u_97 fo_X9_wants dX11_wrongToHide_105 ?hs_20 ?hv_20 rfl ?_
            case hs_20 => with_reducible first | exact FK.c0 hM | exact FK.c1 hM | exact FK.c2 hM | exact FK.c7 hM | exact FK.c129 hM | exact FK.c3 hM | exact FK.c4 hM | exact FK.c5 hM | exact FK.c6 hM | exact FK.c39 hM | exact FK.c40 hM | exact FK.c41 hM | exact FK.c42 hM | exact FK.c43 hM | exact FK.c128 hM | exact FK.c136 hM | exact FK.c137 hM | exact FK.c173 hM | exact FK.c174 hM | exact FK.c175 hM | exact FK.c176 hM | exact FK.c177 hM | exact FK.c178 hM | exact RK.c0 (FK.rk hkd hM) | exact RK.c1 (FK.rk hkd hM) | exact RK.c2 (FK.rk hkd hM) | exact RK.c0 (FK.rk hk2 hM) | exact RK.c1 (FK.rk hk2 hM) | exact RK.c2 (FK.rk hk2 hM)
            case hv_20 => rfl
            refine S_iald (N := ?n_21) (f := ?f_21) (q := 109) hX dX11_wrongToHide_108 ?hs_21 ?hi_21 rfl ?_
            case hs_21 => with_reducible first | exact FK.c0 hM | exact FK.c1 hM | exact FK.c2 hM | exact FK.c7 hM | exact FK.c129 hM | exact FK.c3 hM | exact FK.c4 hM | exact FK.c5 hM | exact FK.c6 hM | exact FK.c39 hM | exact FK.c40 hM | exact FK.c41 hM | exact FK.c42 hM | exact FK.c43 hM | exact FK.c128 hM | exact FK.c136 hM | exact FK.c137 hM | exact FK.c173 hM | exact FK.c174 hM | exact FK.c175 hM | exact FK.c176 hM | exact FK.c177 hM | exact FK.c178 hM | exact RK.c0 (FK.rk hkd hM) | exact RK.c1 (FK.rk hkd hM) | exact RK.c2 (FK.rk hkd hM) | exact RK.c0 (FK.rk hk2 hM) | exact RK.c1 (FK.rk hk2 hM) | exact RK.c2 (FK.rk hk2 hM)
            case hi_21 => rw [hnw]; exact vp_in_nI (by omega) (by decide)
            refine S_iret hX dX11_wrongToHide_109 (Nat.zero_le _) (Nat.zero_le _) ?_
            refine hP _ _ _ ?_
            refine ⟨_, hM, hF, Or.inr ⟨lf S.1.2.2.2.2.1.1, congrArg (fun z => some (Value.int z)) (by rw [hnw, nI_clamp (by omega)]; exact (e5 _ (by omega)).1), (e5 _ (by omega)).2, fun w' hw' hH => ?_⟩, ⟨hkp, hfd1, hfb1⟩, rfl⟩
            obtain ⟨rest, er⟩ := e7 S.1.2.2.2.2.1.1 (by omega) w' hw'
            have h1 := len_tk (L := (rdK 0 r n A)) (rest := rest) (j := S.1.2.2.2.2.1.1) (by omega)
            rw [← er, hH.1, wantL_len] at h1
            omega
        · have hlt : i < mn := by rw [nI_leI (by omega) (by omega)] at c46; omega
          have f1 : spl γ (138 + 7 * 0) 7 g1 (138 + 7 * 0 + 1) (nI i).toNatClampNeg = nI ((rdK 0 r n A).getD i 0) := by rw [nI_clamp (by omega)]; exact hw1 i (by omega)
          have f2 : spl γ (138 + 7 * 0) 7 g1 40 (nI i).toNatClampNeg = nI (S.1.2.2.2.2.1.2 i) := by rw [nI_clamp (by omega), spl_out (by omega)]; exact t6 i (by omega)
          have w1 := hw10 i (by omega)
          have w2 := o8 i (by omega)
          refine S_aload_n (q := 50) hX dX11_wrongToHide_49 rfl rfl ?_
          refine S_getf (fs := ?fs_22) (v := ?v_22) (q := 53) hX u_175 (fo_F_words (cik_F 0)) dX11_wrongToHide_50 ?hs_22 ?hv_22 rfl ?_
          case hs_22 => with_reducible first | exact FK.c0 hM | exact FK.c1 hM | exact FK.c2 hM | exact FK.c7 hM | exact FK.c129 hM | exact FK.c3 hM | exact FK.c4 hM | exact FK.c5 hM | exact FK.c6 hM | exact FK.c39 hM | exact FK.c40 hM | exact FK.c41 hM | exact FK.c42 hM | exact FK.c43 hM | exact FK.c128 hM | exact FK.c136 hM | exact FK.c137 hM | exact FK.c173 hM | exact FK.c174 hM | exact FK.c175 hM | exact FK.c176 hM | exact FK.c177 hM | exact FK.c178 hM | exact RK.c0 (FK.rk hkd hM) | exact RK.c1 (FK.rk hkd hM) | exact RK.c2 (FK.rk hkd hM) | exact RK.c0 (FK.rk hk2 hM) | exact RK.c1 (FK.rk hk2 hM) | exact RK.c2 (FK.rk hk2 hM)
          case hv_22 => rfl
          refine S_iload (q := 55) hX dX11_wrongToHide_53 rfl rfl ?_
          refine S_iald (N := ?n_23) (f := ?f_23) (q := 56) hX dX11_wrongToHide_55 ?hs_23 ?hi_23 rfl ?_
          case hs_23 => with_reducible first | exact FK.c0 hM | exact FK.c1 hM | exact FK.c2 hM | exact FK.c7 hM | exact FK.c129 hM | exact FK.c3 hM | exact FK.c4 hM | exact FK.c5 hM | exact FK.c6 hM | exact FK.c39 hM | exact FK.c40 hM | exact FK.c41 hM | exact FK.c42 hM | exact FK.c43 hM | exact FK.c128 hM | exact FK.c136 hM | exact FK.c137 hM | exact FK.c173 hM | exact FK.c174 hM | exact FK.c175 hM | exact FK.c176 hM | exact FK.c177 hM | exact FK.c178 hM | exact RK.c0 (FK.rk hkd hM) | exact RK.c1 (FK.rk hkd hM) | exact RK.c2 (FK.rk hkd hM) | exact RK.c0 (FK.rk hk2 hM) | exact RK.c1 (FK.rk hk2 hM) | exact RK.c2 (FK.rk hk2 hM)
          case hi_23 => exact vp_in_nI (by omega) (by decide)
          refine S_aload_n (q := 57) hX dX11_wrongToHide_56 rfl rfl ?_
          refine S_getf (fs := ?fs_24) (v := ?v_24) (q := 60) hX u_285 fo_X11_now dX11_wrongToHide_57 ?hs_24 ?hv_24 rfl ?_
          case hs_24 => with_reducible first | exact FK.c0 hM | exact FK.c1 hM | exact FK.c2 hM | exact FK.c7 hM | exact FK.c129 hM | exact FK.c3 hM | exact FK.c4 hM | exact FK.c5 hM | exact FK.c6 hM | exact FK.c39 hM | exact FK.c40 hM | exact FK.c41 hM | exact FK.c42 hM | exact FK.c43 hM | exact FK.c128 hM | exact FK.c136 hM | exact FK.c137 hM | exact FK.c173 hM | exact FK.c174 hM | exact FK.c175 hM | exact FK.c176 hM | exact FK.c177 hM | exact FK.c178 hM | exact RK.c0 (FK.rk hkd hM) | exact RK.c1 (FK.rk hkd hM) | exact RK.c2 (FK.rk hkd hM) | exact RK.c0 (FK.rk hk2 hM) | exact RK.c1 (FK.rk hk2 hM) | exact RK.c2 (FK.rk hk2 hM)
          case hv_24 => rfl
          refine S_getf (fs := ?fs_25) (v := ?v_25) (q := 63) hX u_95 fo_X9_want dX11_wrongToHide_60 ?hs_25 ?hv_25 rfl ?_
          case hs_25 => with_reducible first | exact FK.c0 hM | exact FK.c1 hM | exact FK.c2 hM | exact FK.c7 hM | exact FK.c129 hM | exact FK.c3 hM | exact FK.c4 hM | exact FK.c5 hM | exact FK.c6 hM | exact FK.c39 hM | exact FK.c40 hM | exact FK.c41 hM | exact FK.c42 hM | exact FK.c43 hM | exact FK.c128 hM | exact FK.c136 hM | exact FK.c137 hM | exact FK.c173 hM | exact FK.c174 hM | exact FK.c175 hM | exact FK.c176 hM | exact FK.c177 hM | exact FK.c178 hM | exact RK.c0 (FK.rk hkd hM) | exact RK.c1 (FK.rk hkd hM) | exact RK.c2 (FK.rk hkd hM) | exact RK.c0 (FK.rk hk2 hM) | exact RK.c1 (FK.rk hk2 hM) | exact RK.c2 (FK.rk hk2 hM)
          case hv_25 => rfl
          refine S_iload (q := 65) hX dX11_wrongToHide_63 rfl rfl ?_
          refine S_iald (N := ?n_26) (f := ?f_26) (q := 66) hX dX11_wrongToHide_65 ?hs_26 ?hi_26 rfl ?_
          case hs_26 => with_reducible first | exact FK.c0 hM | exact FK.c1 hM | exact FK.c2 hM | exact FK.c7 hM | exact FK.c129 hM | exact FK.c3 hM | exact FK.c4 hM | exact FK.c5 hM | exact FK.c6 hM | exact FK.c39 hM | exact FK.c40 hM | exact FK.c41 hM | exact FK.c42 hM | exact FK.c43 hM | exact FK.c128 hM | exact FK.c136 hM | exact FK.c137 hM | exact FK.c173 hM | exact FK.c174 hM | exact FK.c175 hM | exact FK.c176 hM | exact FK.c177 hM | exact FK.c178 hM | exact RK.c0 (FK.rk hkd hM) | exact RK.c1 (FK.rk hkd hM) | exact RK.c2 (FK.rk hkd hM) | exact RK.c0 (FK.rk hk2 hM) | exact RK.c1 (FK.rk hk2 hM) | exact RK.c2 (FK.rk hk2 hM)
          case hi_26 => exact vp_in_nI (by omega) (by decide)
          refine S_icmp_eq (q := 69) 77 hX dX11_wrongToHide_66 rfl rfl (fun c66 => ?_) (fun c66 => ?_)
          · have heq : (rdK 0 r n A).getD i 0 = S.1.2.2.2.2.1.2 i := by
              have c := c66
              rw [f1, f2] at c
              exact nI_inj w1 (by omega) c
            refine S_iinc (q := 80) [_, _, _, _, _] hX dX11_wrongToHide_77 rfl (ii_1 _) rfl (Nat.le_of_ble_eq_true rfl) rfl rfl ?_
            refine S_goto 43 hX dX11_wrongToHide_80 rfl ?_
            rw [nI_1]
            exact ih (i + 1) hlt (by omega) (fun j hj => by rcases Nat.lt_succ_iff_lt_or_eq.mp hj with z | z; exact hal j z; rw [z]; exact heq)
          · have hne : ¬ (rdK 0 r n A).getD i 0 = S.1.2.2.2.2.1.2 i := fun z => c66 (by rw [f1, f2, z])
            refine S_aload_n (q := 70) hX dX11_wrongToHide_69 rfl rfl ?_
            refine S_getf (fs := ?fs_27) (v := ?v_27) (q := 73) hX u_177 (fo_F_lookedFor (cik_F 0)) dX11_wrongToHide_70 ?hs_27 ?hv_27 rfl ?_
            case hs_27 => with_reducible first | exact FK.c0 hM | exact FK.c1 hM | exact FK.c2 hM | exact FK.c7 hM | exact FK.c129 hM | exact FK.c3 hM | exact FK.c4 hM | exact FK.c5 hM | exact FK.c6 hM | exact FK.c39 hM | exact FK.c40 hM | exact FK.c41 hM | exact FK.c42 hM | exact FK.c43 hM | exact FK.c128 hM | exact FK.c136 hM | exact FK.c137 hM | exact FK.c173 hM | exact FK.c174 hM | exact FK.c175 hM | exact FK.c176 hM | exact FK.c177 hM | exact FK.c178 hM | exact RK.c0 (FK.rk hkd hM) | exact RK.c1 (FK.rk hkd hM) | exact RK.c2 (FK.rk hkd hM) | exact RK.c0 (FK.rk hk2 hM) | exact RK.c1 (FK.rk hk2 hM) | exact RK.c2 (FK.rk hk2 hM)
            case hv_27 => rfl
            refine S_iload (q := 75) hX dX11_wrongToHide_73 rfl rfl ?_
            refine S_iald (N := ?n_28) (f := ?f_28) (q := 76) hX dX11_wrongToHide_75 ?hs_28 ?hi_28 rfl ?_
            case hs_28 => with_reducible first | exact FK.c0 hM | exact FK.c1 hM | exact FK.c2 hM | exact FK.c7 hM | exact FK.c129 hM | exact FK.c3 hM | exact FK.c4 hM | exact FK.c5 hM | exact FK.c6 hM | exact FK.c39 hM | exact FK.c40 hM | exact FK.c41 hM | exact FK.c42 hM | exact FK.c43 hM | exact FK.c128 hM | exact FK.c136 hM | exact FK.c137 hM | exact FK.c173 hM | exact FK.c174 hM | exact FK.c175 hM | exact FK.c176 hM | exact FK.c177 hM | exact FK.c178 hM | exact RK.c0 (FK.rk hkd hM) | exact RK.c1 (FK.rk hkd hM) | exact RK.c2 (FK.rk hkd hM) | exact RK.c0 (FK.rk hk2 hM) | exact RK.c1 (FK.rk hk2 hM) | exact RK.c2 (FK.rk hk2 hM)
            case hi_28 => exact vp_in_nI (by omega) (by decide)
            refine S_iret hX dX11_wrongToHide_76 (Nat.zero_le _) (Nat.zero_le _) ?_
            refine hP _ _ _ ?_
            refine ⟨_, hM, hF, Or.inr ⟨lf i, congrArg (fun z => some (Value.int z)) (by rw [nI_clamp (by omega)]; exact (e5 i (by omega)).1), (e5 i (by omega)).2, fun w' hw' hH => ?_⟩, ⟨hkp, hfd1, hfb1⟩, rfl⟩
            obtain ⟨rest, er⟩ := e7 i (by omega) w' hw'
            apply hne
            rw [← getD_tk (L := (rdK 0 r n A)) (rest := rest) (by omega), ← er, hH.1]
            exact wantL_at (by omega)
  refine S_aload_n (q := 1) hX dX11_wrongToHide_0 rfl rfl ?_
  refine S_getf (fs := ?fs_29) (v := ?v_29) (q := 4) hX u_290 fo_X11_readers dX11_wrongToHide_1 ?hs_29 ?hv_29 rfl ?_
  case hs_29 => with_reducible first | exact FK.c0 hM | exact FK.c1 hM | exact FK.c2 hM | exact FK.c7 hM | exact FK.c129 hM | exact FK.c3 hM | exact FK.c4 hM | exact FK.c5 hM | exact FK.c6 hM | exact FK.c39 hM | exact FK.c40 hM | exact FK.c41 hM | exact FK.c42 hM | exact FK.c43 hM | exact FK.c128 hM | exact FK.c136 hM | exact FK.c137 hM | exact FK.c173 hM | exact FK.c174 hM | exact FK.c175 hM | exact FK.c176 hM | exact FK.c177 hM | exact FK.c178 hM | exact RK.c0 (FK.rk hkd hM) | exact RK.c1 (FK.rk hkd hM) | exact RK.c2 (FK.rk hkd hM) | exact RK.c0 (FK.rk hk2 hM) | exact RK.c1 (FK.rk hk2 hM) | exact RK.c2 (FK.rk hk2 hM)
  case hv_29 => rfl
  refine S_iconst (q := 5) (v := 0) hX dX11_wrongToHide_4 ic_0 rfl ?_
  refine S_aald (N := ?n_30) (f := ?f_30) (y := q + (138 + 7 * 0)) (q := 6) (t := 3) hX dX11_wrongToHide_5 (by decide) rfl ?hs_30 ?hi_30 ?hy_30 rfl ?_
  case hs_30 => with_reducible first | exact FK.c0 hM | exact FK.c1 hM | exact FK.c2 hM | exact FK.c7 hM | exact FK.c129 hM | exact FK.c3 hM | exact FK.c4 hM | exact FK.c5 hM | exact FK.c6 hM | exact FK.c39 hM | exact FK.c40 hM | exact FK.c41 hM | exact FK.c42 hM | exact FK.c43 hM | exact FK.c128 hM | exact FK.c136 hM | exact FK.c137 hM | exact FK.c173 hM | exact FK.c174 hM | exact FK.c175 hM | exact FK.c176 hM | exact FK.c177 hM | exact FK.c178 hM | exact RK.c0 (FK.rk hkd hM) | exact RK.c1 (FK.rk hkd hM) | exact RK.c2 (FK.rk hkd hM) | exact RK.c0 (FK.rk hk2 hM) | exact RK.c1 (FK.rk hk2 hM) | exact RK.c2 (FK.rk hk2 hM)
  case hi_30 => exact vp_in_nI (show 0 < 5 by decide) (by decide)
  case hy_30 => show some (q + (138 + 7 * (nI 0).toNatClampNeg)) = some (q + (138 + 7 * 0)); rw [nI_clamp (by omega)]
  refine S_astore_n (q := 7) [_, _, _, _, _] hX dX11_wrongToHide_6 rfl (Nat.le_of_ble_eq_true rfl) rfl rfl ?_
  refine S_aload_n (q := 8) hX dX11_wrongToHide_7 rfl rfl ?_
  refine S_aload_n (q := 9) hX dX11_wrongToHide_8 rfl rfl ?_
  refine S_getf (fs := ?fs_31) (v := ?v_31) (q := 12) hX u_291 fo_X11_walk dX11_wrongToHide_9 ?hs_31 ?hv_31 rfl ?_
  case hs_31 => with_reducible first | exact FK.c0 hM | exact FK.c1 hM | exact FK.c2 hM | exact FK.c7 hM | exact FK.c129 hM | exact FK.c3 hM | exact FK.c4 hM | exact FK.c5 hM | exact FK.c6 hM | exact FK.c39 hM | exact FK.c40 hM | exact FK.c41 hM | exact FK.c42 hM | exact FK.c43 hM | exact FK.c128 hM | exact FK.c136 hM | exact FK.c137 hM | exact FK.c173 hM | exact FK.c174 hM | exact FK.c175 hM | exact FK.c176 hM | exact FK.c177 hM | exact FK.c178 hM | exact RK.c0 (FK.rk hkd hM) | exact RK.c1 (FK.rk hkd hM) | exact RK.c2 (FK.rk hkd hM) | exact RK.c0 (FK.rk hk2 hM) | exact RK.c1 (FK.rk hk2 hM) | exact RK.c2 (FK.rk hk2 hM)
  case hv_31 => rfl
  refine S_getf (fs := ?fs_32) (v := ?v_32) (q := 15) hX u_277 fo_X10_states dX11_wrongToHide_12 ?hs_32 ?hv_32 rfl ?_
  case hs_32 => with_reducible first | exact FK.c0 hM | exact FK.c1 hM | exact FK.c2 hM | exact FK.c7 hM | exact FK.c129 hM | exact FK.c3 hM | exact FK.c4 hM | exact FK.c5 hM | exact FK.c6 hM | exact FK.c39 hM | exact FK.c40 hM | exact FK.c41 hM | exact FK.c42 hM | exact FK.c43 hM | exact FK.c128 hM | exact FK.c136 hM | exact FK.c137 hM | exact FK.c173 hM | exact FK.c174 hM | exact FK.c175 hM | exact FK.c176 hM | exact FK.c177 hM | exact FK.c178 hM | exact RK.c0 (FK.rk hkd hM) | exact RK.c1 (FK.rk hkd hM) | exact RK.c2 (FK.rk hkd hM) | exact RK.c0 (FK.rk hk2 hM) | exact RK.c1 (FK.rk hk2 hM) | exact RK.c2 (FK.rk hk2 hM)
  case hv_32 => rfl
  refine S_aload_n (q := 16) hX dX11_wrongToHide_15 rfl rfl ?_
  refine S_getf (fs := ?fs_33) (v := ?v_33) (q := 19) hX u_291 fo_X11_walk dX11_wrongToHide_16 ?hs_33 ?hv_33 rfl ?_
  case hs_33 => with_reducible first | exact FK.c0 hM | exact FK.c1 hM | exact FK.c2 hM | exact FK.c7 hM | exact FK.c129 hM | exact FK.c3 hM | exact FK.c4 hM | exact FK.c5 hM | exact FK.c6 hM | exact FK.c39 hM | exact FK.c40 hM | exact FK.c41 hM | exact FK.c42 hM | exact FK.c43 hM | exact FK.c128 hM | exact FK.c136 hM | exact FK.c137 hM | exact FK.c173 hM | exact FK.c174 hM | exact FK.c175 hM | exact FK.c176 hM | exact FK.c177 hM | exact FK.c178 hM | exact RK.c0 (FK.rk hkd hM) | exact RK.c1 (FK.rk hkd hM) | exact RK.c2 (FK.rk hkd hM) | exact RK.c0 (FK.rk hk2 hM) | exact RK.c1 (FK.rk hk2 hM) | exact RK.c2 (FK.rk hk2 hM)
  case hv_33 => rfl
  refine S_getf (fs := ?fs_34) (v := ?v_34) (q := 22) hX u_279 fo_X10_beats dX11_wrongToHide_19 ?hs_34 ?hv_34 rfl ?_
  case hs_34 => with_reducible first | exact FK.c0 hM | exact FK.c1 hM | exact FK.c2 hM | exact FK.c7 hM | exact FK.c129 hM | exact FK.c3 hM | exact FK.c4 hM | exact FK.c5 hM | exact FK.c6 hM | exact FK.c39 hM | exact FK.c40 hM | exact FK.c41 hM | exact FK.c42 hM | exact FK.c43 hM | exact FK.c128 hM | exact FK.c136 hM | exact FK.c137 hM | exact FK.c173 hM | exact FK.c174 hM | exact FK.c175 hM | exact FK.c176 hM | exact FK.c177 hM | exact FK.c178 hM | exact RK.c0 (FK.rk hkd hM) | exact RK.c1 (FK.rk hkd hM) | exact RK.c2 (FK.rk hkd hM) | exact RK.c0 (FK.rk hk2 hM) | exact RK.c1 (FK.rk hk2 hM) | exact RK.c2 (FK.rk hk2 hM)
  case hv_34 => rfl
  refine S_callK (q := 25) 0 0 (hkd) hX (c_X3_listen (q + (138 + 7 * (0))) (fun j => γ (138 + 7 * (0) + j)) (0) (q + 174) 6 (n) _ (γ 174) (r) (A) (hn0)) rfl ?hs_35 u_536 u_539 u_537 u_6 u_544 u_538 u_542 u_541 u_543 u_540 ⟨by decide, by decide, rfl⟩ ⟨Nat.le_of_ble_eq_true rfl, Nat.le_of_ble_eq_true rfl⟩ ⟨Nat.le_of_ble_eq_true rfl, Nat.le_of_ble_eq_true rfl⟩ (Nat.le_of_ble_eq_true rfl) dX11_wrongToHide_22 ?hp_35 rfl rfl rfl ?_
  case hs_35 => exact ⟨_, (FK.rk hkd hM).c0⟩
  case hp_35 =>
    refine ⟨FK.rk hkd hM, hkd, hfa, hA, by omega, by omega, by decide, FK.c174 hM, by right; omega, ?_⟩
    intro i hi
    exact ⟨hr i hi, hlaw.1 i hi⟩
  rintro v σ sz1 ⟨g1, hM1, hF2, rfl, hL1, rfl⟩
  have hM := FK.jrk hkd hM hF2 hM1
  have hF := hF.trans (hF2.mono (Nat.le_add_right _ _) (by omega))
  have hL1 := LisP.sp (f := γ) (d := 138 + 7 * 0) hL1
  have hw1 := hL1.w
  have hl6 := rdK_len 0 r n A
  refine S_aload_n (q := 26) hX dX11_wrongToHide_25 rfl rfl ?_
  refine S_getf (fs := ?fs_36) (v := ?v_36) (q := 29) hX u_181 (fo_F_heard (cik_F 0)) dX11_wrongToHide_26 ?hs_36 ?hv_36 rfl ?_
  case hs_36 => with_reducible first | exact FK.c0 hM | exact FK.c1 hM | exact FK.c2 hM | exact FK.c7 hM | exact FK.c129 hM | exact FK.c3 hM | exact FK.c4 hM | exact FK.c5 hM | exact FK.c6 hM | exact FK.c39 hM | exact FK.c40 hM | exact FK.c41 hM | exact FK.c42 hM | exact FK.c43 hM | exact FK.c128 hM | exact FK.c136 hM | exact FK.c137 hM | exact FK.c173 hM | exact FK.c174 hM | exact FK.c175 hM | exact FK.c176 hM | exact FK.c177 hM | exact FK.c178 hM | exact RK.c0 (FK.rk hkd hM) | exact RK.c1 (FK.rk hkd hM) | exact RK.c2 (FK.rk hkd hM) | exact RK.c0 (FK.rk hk2 hM) | exact RK.c1 (FK.rk hk2 hM) | exact RK.c2 (FK.rk hk2 hM)
  case hv_36 => rfl
  refine S_aload_n (q := 30) hX dX11_wrongToHide_29 rfl rfl ?_
  refine S_getf (fs := ?fs_37) (v := ?v_37) (q := 33) hX u_285 fo_X11_now dX11_wrongToHide_30 ?hs_37 ?hv_37 rfl ?_
  case hs_37 => with_reducible first | exact FK.c0 hM | exact FK.c1 hM | exact FK.c2 hM | exact FK.c7 hM | exact FK.c129 hM | exact FK.c3 hM | exact FK.c4 hM | exact FK.c5 hM | exact FK.c6 hM | exact FK.c39 hM | exact FK.c40 hM | exact FK.c41 hM | exact FK.c42 hM | exact FK.c43 hM | exact FK.c128 hM | exact FK.c136 hM | exact FK.c137 hM | exact FK.c173 hM | exact FK.c174 hM | exact FK.c175 hM | exact FK.c176 hM | exact FK.c177 hM | exact FK.c178 hM | exact RK.c0 (FK.rk hkd hM) | exact RK.c1 (FK.rk hkd hM) | exact RK.c2 (FK.rk hkd hM) | exact RK.c0 (FK.rk hk2 hM) | exact RK.c1 (FK.rk hk2 hM) | exact RK.c2 (FK.rk hk2 hM)
  case hv_37 => rfl
  refine S_getf (fs := ?fs_38) (v := ?v_38) (q := 36) hX u_97 fo_X9_wants dX11_wrongToHide_33 ?hs_38 ?hv_38 rfl ?_
  case hs_38 => with_reducible first | exact FK.c0 hM | exact FK.c1 hM | exact FK.c2 hM | exact FK.c7 hM | exact FK.c129 hM | exact FK.c3 hM | exact FK.c4 hM | exact FK.c5 hM | exact FK.c6 hM | exact FK.c39 hM | exact FK.c40 hM | exact FK.c41 hM | exact FK.c42 hM | exact FK.c43 hM | exact FK.c128 hM | exact FK.c136 hM | exact FK.c137 hM | exact FK.c173 hM | exact FK.c174 hM | exact FK.c175 hM | exact FK.c176 hM | exact FK.c177 hM | exact FK.c178 hM | exact RK.c0 (FK.rk hkd hM) | exact RK.c1 (FK.rk hkd hM) | exact RK.c2 (FK.rk hkd hM) | exact RK.c0 (FK.rk hk2 hM) | exact RK.c1 (FK.rk hk2 hM) | exact RK.c2 (FK.rk hk2 hM)
  case hv_38 => rfl
  refine S_min (q := 39) hX u_593 u_546 u_19 u_547 (by decide) (Nat.le_of_ble_eq_true rfl) ⟨Nat.zero_le _, Nat.zero_le _⟩ dX11_wrongToHide_36 rfl ?_
  have hmn : (if spl γ (138 + 7 * 0) 7 g1 1 2 < spl γ (138 + 7 * 0) 7 g1 (138 + 7 * 0 + 0) 1 then spl γ (138 + 7 * 0) 7 g1 1 2 else spl γ (138 + 7 * 0) 7 g1 (138 + 7 * 0 + 0) 1) = nI (if S.1.2.2.2.2.1.1 < (rdK 0 r n A).length then S.1.2.2.2.2.1.1 else (rdK 0 r n A).length) := by
    rw [show spl γ (138 + 7 * 0) 7 g1 (138 + 7 * 0 + 0) 1 = nI (rdK 0 r n A).length from hw1.1, show spl γ (138 + 7 * 0) 7 g1 1 2 = nI S.1.2.2.2.2.1.1 by rw [spl_out (by omega)]; exact t5]
    have e : nI S.1.2.2.2.2.1.1 < nI (rdK 0 r n A).length ↔ S.1.2.2.2.2.1.1 < (rdK 0 r n A).length := nI_ltI (by omega) (by omega)
    by_cases h : S.1.2.2.2.2.1.1 < (rdK 0 r n A).length
    · rw [if_pos (e.mpr h), if_pos h]
    · rw [if_neg (fun w => h (e.mp w)), if_neg h]
  refine S_top hmn ?_
  refine S_istore_n (q := 40) [_, _, _, _, _] hX dX11_wrongToHide_39 rfl (Nat.le_of_ble_eq_true rfl) rfl rfl ?_
  refine S_iconst (q := 41) (v := 0) hX dX11_wrongToHide_40 ic_0 rfl ?_
  refine S_istore (q := 43) [_, _, _, _, _] hX dX11_wrongToHide_41 rfl (Nat.le_of_ble_eq_true rfl) rfl rfl ?_
  exact l43 g1 _ _ rfl hL1 hM hF 7 0 (Nat.zero_le _) (by split <;> omega) (fun j hj => absurd hj (Nat.not_lt_zero _))
/-- a lawful row's place, counted by its steps: the more the greater -/
def cdR (r : Nat → Nat) : Nat → Nat
  | 0 => 0
  | 1 => r 0
  | k + 2 => 6 * cdR r (k + 1) + (r (k + 1) + 2 - r k / 2 * 2)
theorem cdR_lt {n : Nat} {r : Nat → Nat} (h : lawF n r) (h1 : 1 ≤ n) (h6 : n ≤ 6) : cdR r n < 93312 := by
  have st : ∀ k, 1 ≤ k → k ≤ n → cdR r k < 12 * 6 ^ (k - 1) := by
    intro k
    induction k with
    | zero => intro h; omega
    | succ k ih =>
      intro _ hk
      cases k with
      | zero => have := h.1 0 (by omega); show r 0 < 12 * 6 ^ 0; omega
      | succ k =>
        have h3 := ih (by omega) (by omega)
        have h4 := h.2 k (by omega)
        have h5 := h4.1
        have h6 := h4.2
        show 6 * cdR r (k + 1) + (r (k + 1) + 2 - r k / 2 * 2) < 12 * 6 ^ (k + 1)
        rw [Nat.add_sub_cancel] at h3
        rw [Nat.pow_succ]
        omega
  have h3 := st n h1 (Nat.le_refl n)
  have h4 : 6 ^ (n - 1) ≤ 6 ^ 5 := Nat.pow_le_pow_right (by decide) (by omega)
  omega
theorem cdR_mono {n : Nat} {r t : Nat → Nat} (hr : lawF n r) (ht : lawF n t) (h1 : 1 ≤ n) (h : rv r n < rv t n) : cdR r n < cdR t n := by
  obtain ⟨i, i1, i2, i3⟩ := rv_part n hr.1 ht.1 h
  have same : ∀ k, k ≤ i → cdR r k = cdR t k := by
    intro k
    induction k with
    | zero => intro _; rfl
    | succ k ih =>
      intro hk
      cases k with
      | zero => exact i2 0 (by omega)
      | succ k =>
        show 6 * cdR r (k + 1) + (r (k + 1) + 2 - r k / 2 * 2) = 6 * cdR t (k + 1) + (t (k + 1) + 2 - t k / 2 * 2)
        rw [ih (by omega), i2 (k + 1) (by omega), i2 k (by omega)]
  have go : ∀ k, i + 1 ≤ k → k ≤ n → cdR r k < cdR t k := by
    intro k
    induction k with
    | zero => intro h; omega
    | succ k ih =>
      intro hk hkn
      rcases Nat.lt_or_ge k (i + 1) with z | z
      · have ez : k = i := by omega
        subst ez
        cases k with
        | zero => exact i3
        | succ k =>
          have h3 := same (k + 1) (Nat.le_refl _)
          have h4 := i2 k (by omega)
          have h5 := (ht.2 k (by omega)).2
          have h6 := (hr.2 k (by omega)).1
          show 6 * cdR r (k + 1) + (r (k + 1) + 2 - r k / 2 * 2) < 6 * cdR t (k + 1) + (t (k + 1) + 2 - t k / 2 * 2)
          rw [h3, h4] at *
          omega
      · have h3 := ih z (by omega)
        cases k with
        | zero => omega
        | succ k =>
          have h4 := hr.2 k (by omega)
          have h5 := h4.2
          have h6 := h4.1
          show 6 * cdR r (k + 1) + (r (k + 1) + 2 - r k / 2 * 2) < 6 * cdR t (k + 1) + (t (k + 1) + 2 - t k / 2 * 2)
          omega
  exact go n i1 (Nat.le_refl n)
theorem rv_inj {n : Nat} {r b : Nat → Nat} (hr : rowOk n r) (hb : rowOk n b) (h : rv b n = rv r n) : ∀ j, j < n → b j = r j := fun j hj => by
  rw [← stN_rv n hb j hj, h, stN_rv n hr j hj]
theorem law0 (n : Nat) : lawF n (fun _ => 0) := ⟨fun _ _ => (by decide : 0 < 12), fun _ _ => (by decide : lwS 0 0)⟩
theorem rv0_le {n : Nat} {b : Nat → Nat} (hb : rowOk n b) : rv (fun _ => 0) n ≤ rv b n := by
  rcases Nat.lt_or_ge (rv b n) (rv (fun _ => 0) n) with z | z
  · obtain ⟨i, _, _, i3⟩ := rv_part n hb (law0 n).1 z
    exact absurd i3 (Nat.not_lt_zero _)
  · exact z
/-- where a search of rows stands: at a row before which none is right, or at the end -/
def SrS (n : Nat) (H : (Nat → Nat) → Prop) (γ : MF) (x : Int32) (c : Nat) : Prop := (x = 1 ∧ ∃ r, lawF n r ∧ (∀ i, i < n → γ 174 i = nI (r i)) ∧ c ≤ cdR r n ∧ ∀ b, lawF n b → rv b n < rv r n → ¬ H b) ∨ (x = 0 ∧ ∀ b, lawF n b → ¬ H b)
/-- what a search finds -/
def SrR (n : Nat) (H : (Nat → Nat) → Prop) (γ : MF) (v : Option Value) : Prop := (v = some (.int 1) ∧ ∃ r, lawF n r ∧ (∀ i, i < n → γ 174 i = nI (r i)) ∧ H r ∧ ∀ b, lawF n b → rv b n < rv r n → ¬ H b) ∨ (v = some (.int 0) ∧ ∀ b, lawF n b → ¬ H b)
theorem SrS.go {n p c : Nat} {H : (Nat → Nat) → Prop} {r t : Nat → Nat} {γ : MF} (hr : lawF n r) (h1 : 1 ≤ n) (hc : c ≤ cdR r n) (hp : p ≤ n) (hb : ∀ b, lawF n b → rv b n < rv r n → ¬ H b) (hw : ∀ w' : Nat → Nat, (∀ i, i < p → w' i = r i) → ¬ H w') (hs : Sk n p r t) (ht : ∀ i, i < n → γ 174 i = nI (t i)) : SrS n H γ 1 (c + 1) := by
  refine Or.inl ⟨rfl, t, hs.1, ht, by have := cdR_mono hr hs.1 h1 hs.2.1; omega, fun b lb hlt => ?_⟩
  rcases Nat.lt_trichotomy (rv b n) (rv r n) with z | z | z
  · exact hb b lb z
  · exact hw b (fun i hi => rv_inj hr.1 lb.1 z i (by omega))
  · exact hw b (fun i hi => hs.2.2 b lb z hlt i hi (by omega))
theorem SrS.no {n p c : Nat} {H : (Nat → Nat) → Prop} {r : Nat → Nat} {γ : MF} (hr : lawF n r) (hp : p ≤ n) (hb : ∀ b, lawF n b → rv b n < rv r n → ¬ H b) (hw : ∀ w' : Nat → Nat, (∀ i, i < p → w' i = r i) → ¬ H w') (hs : NoSk n p r) : SrS n H γ 0 (c + 1) := by
  refine Or.inr ⟨rfl, fun b lb => ?_⟩
  rcases Nat.lt_trichotomy (rv b n) (rv r n) with z | z | z
  · exact hb b lb z
  · exact hw b (fun i hi => rv_inj hr.1 lb.1 z i (by omega))
  · exact hw b (fun i hi => hs b lb z i hi (by omega))

theorem c_X11_findHiding (q : Nat) (γ : MF) (S : ST) (A B : CodT) (x y : Int32) (n kk : Nat) (hx : x = nI n) (hy : y = nI kk) : CT_X11_findHiding [.ref q, .int x, .int y] (fun Γ σ sz => FK σ q γ ∧ FR γ S ∧ StOk S ∧ CodOk A ∧ CodOk B ∧ FdC (fun j => γ (138 + 7 * 0 + j)) A ∧ FdC (fun j => γ (138 + 7 * 2 + j)) B ∧ 1 ≤ n ∧ n ≤ 6 ∧ kk ≤ 5) (fun Γ σ sz v σ' sz' => ∃ γ', FK σ' q γ' ∧ Fr q (q + 179) σ σ' ∧ SrR n (hidF S A B n kk) γ' v ∧ (γ' 173 0 = nI n ∧ (∀ j, j < 137 → γ' j = γ j) ∧ FdC (fun j => γ' (138 + 7 * 0 + j)) A ∧ FdC (fun j => γ' (138 + 7 * 2 + j)) B) ∧ sz' = sz) := by
  refine CT.mkP rfl (Nat.le_of_ble_eq_true rfl) [_, _, _, _, _, _] rfl ?_
  intro X Γ σ sz P hX hpre hsz hP
  obtain ⟨hM, hR, ok, hA, hB, hfa, hfb, h1, hn6, hk5⟩ := hpre
  subst hx
  subst hy
  obtain ⟨σ0, eσ0⟩ : ∃ z, z = σ := ⟨σ, rfl⟩
  rw [← eσ0] at hP
  have hF : Fr q (q + 179) σ0 σ := by rw [eσ0]; exact Fr.rf
  have l13 : ∀ (fl c : Nat) (f : Int32) (o5 : Option Value) (σ : Sg) (μ : MF), c ≤ 93312 → 93313 - c < fl → SrS n (hidF S A B n kk) μ f c → μ 173 0 = nI n → (∀ j, j < 137 → μ j = γ j) → FdC (fun j => μ (138 + 7 * 0 + j)) A → FdC (fun j => μ (138 + 7 * 2 + j)) B → FK σ q μ → Fr q (q + 179) σ0 σ → G X Γ P 0 0 13 [some (.ref q), some (.int (nI n)), some (.int (nI kk)), some (.int f), some (.int (nI c)), o5] [] σ sz := by
    intro fl
    induction fl with
      | zero => intro c f o5 σ μ h1 h2; omega
      | succ fl ih =>
        intro c f o5 σ μ hc hfu hS hn0 ho hfa hfb hM hF
        refine S_iload_n (q := 14) hX dX11_findHiding_13 rfl rfl ?_
        refine S_if_eq (q := 17) 57 hX dX11_findHiding_14 rfl rfl (fun c14 => ?_) (fun c14 => ?_)
        · have hno : ∀ b, lawF n b → ¬ (hidF S A B n kk) b := by
            rcases hS with ⟨h, _⟩ | ⟨_, h⟩
            · rw [h] at c14; exact absurd c14 (by decide)
            · exact h
          refine S_iconst (q := 58) (v := 0) hX dX11_findHiding_57 ic_0 rfl ?_
          refine S_xret hX dX11_findHiding_58 (Nat.zero_le _) (Nat.zero_le _) (by decide) ?_
          refine hP _ _ _ ?_
          exact ⟨_, hM, hF, Or.inr ⟨rfl, hno⟩, ⟨hn0, ho, hfa, hfb⟩, rfl⟩
        · obtain ⟨r, hlaw, hr, hcr, hbe⟩ : ∃ r, lawF n r ∧ (∀ i, i < n → μ 174 i = nI (r i)) ∧ c ≤ cdR r n ∧ ∀ b, lawF n b → rv b n < rv r n → ¬ (hidF S A B n kk) b := by
            rcases hS with ⟨_, r, h⟩ | ⟨h, _⟩
            · exact ⟨r, h⟩
            · exact absurd h c14
          have hcl := cdR_lt hlaw h1 hn6
          refine S_iload (q := 19) hX dX11_findHiding_17 rfl rfl ?_
          refine S_ldcw (q := 22) hX u_663 dX11_findHiding_19 rfl ?_
          refine S_icmp_ge (q := 25) 57 hX dX11_findHiding_22 rfl rfl (fun c22 => ?_) (fun c22 => ?_)
          · exfalso
            rw [show (1000000 : Int32) = nI 1000000 from rfl, nI_leI (by omega) (by omega)] at c22
            omega --END
          · refine S_aload_n (q := 26) hX dX11_findHiding_25 rfl rfl ?_
            refine S_iload_n (q := 27) hX dX11_findHiding_26 rfl rfl ?_
            refine S_callV (ci := 11) (C := "FanTalk") (T := TX11) (N := 11) (q := 30) 0 0 hX (c_X11_wrongToHide q μ S A B _ n kk r rfl) rfl ?hs_1 rfl u_664 u_666 us_19 u_1 u_667 ⟨by decide, by decide, rfl⟩ ⟨Nat.le_of_ble_eq_true rfl, Nat.le_of_ble_eq_true rfl⟩ ⟨Nat.le_of_ble_eq_true rfl, Nat.le_of_ble_eq_true rfl⟩ (Nat.le_of_ble_eq_true rfl) dX11_findHiding_27 ?hp_1 rfl rfl rfl ?_
            case hs_1 => first | with_reducible assumption | exact ⟨_, FK.c0 hM⟩ | exact ⟨_, FK.c2 hM⟩ | exact ⟨_, FK.c7 hM⟩ | exact ⟨_, FK.c129 hM⟩ | exact ⟨_, FK.c173 hM⟩ | exact ⟨_, FK.c1 hM⟩
            case hp_1 => exact ⟨hM, hR.scr ok ho, ok, hA, hB, hfa, hfb, hn6, hk5, hn0, hlaw, hr⟩
            rintro v σ sz1 ⟨μ1, hM, hF1, hw, ⟨ho1, hfa1, hfb1⟩, rfl⟩
            have hF := hF.trans hF1
            obtain ⟨y5, rfl, hy⟩ : ∃ y, v = some (.int y) ∧ ((y = 99 ∧ (hidF S A B n kk) r) ∨ ∃ p, y = nI p - 1 ∧ p ≤ n ∧ ∀ w' : Nat → Nat, (∀ i, i < p → w' i = r i) → ¬ (hidF S A B n kk) w') := by
              rcases hw with ⟨h, h9⟩ | ⟨p, h, h9⟩
              · exact ⟨_, h, Or.inl ⟨rfl, h9⟩⟩
              · exact ⟨_, h, Or.inr ⟨p, rfl, h9⟩⟩
            refine S_istore (q := 32) [_, _, _, _, _, _] hX dX11_findHiding_30 rfl (Nat.le_of_ble_eq_true rfl) rfl rfl ?_
            refine S_iload (q := 34) hX dX11_findHiding_32 rfl rfl ?_
            refine S_bipush (q := 36) (v := 99) hX dX11_findHiding_34 bp_99 rfl ?_
            refine S_icmp_ne (q := 39) 41 hX dX11_findHiding_36 rfl rfl (fun c36 => ?_) (fun c36 => ?_)
            · obtain ⟨p, ey, hp, hwr⟩ : ∃ p, y5 = nI p - 1 ∧ p ≤ n ∧ ∀ w' : Nat → Nat, (∀ i, i < p → w' i = r i) → ¬ (hidF S A B n kk) w' := by
                rcases hy with ⟨h, _⟩ | h
                · exact absurd h c36
                · exact h
              refine S_aload_n (q := 42) hX dX11_findHiding_41 rfl rfl ?_
              refine S_getf (fs := ?fs_2) (v := ?v_2) (q := 45) hX u_291 fo_X11_walk dX11_findHiding_42 ?hs_2 ?hv_2 rfl ?_
              case hs_2 => with_reducible first | exact FK.c0 hM | exact FK.c1 hM | exact FK.c2 hM | exact FK.c7 hM | exact FK.c129 hM | exact FK.c3 hM | exact FK.c4 hM | exact FK.c5 hM | exact FK.c6 hM | exact FK.c39 hM | exact FK.c40 hM | exact FK.c41 hM | exact FK.c42 hM | exact FK.c43 hM | exact FK.c128 hM | exact FK.c136 hM | exact FK.c137 hM | exact FK.c173 hM | exact FK.c174 hM | exact FK.c175 hM | exact FK.c176 hM | exact FK.c177 hM | exact FK.c178 hM | exact RK.c0 (FK.rk hkd hM) | exact RK.c1 (FK.rk hkd hM) | exact RK.c2 (FK.rk hkd hM) | exact RK.c0 (FK.rk hk2 hM) | exact RK.c1 (FK.rk hk2 hM) | exact RK.c2 (FK.rk hk2 hM)
              case hv_2 => rfl
              refine S_iload (q := 47) hX dX11_findHiding_45 rfl rfl ?_
              refine S_callV (ci := 10) (C := "FanTalk$Walk") (T := TX10) (N := 2) (q := 50) 0 0 hX (c_X10_step (q + 173) (fun j => μ1 (173 + j)) _ n p r ey) rfl ?hs_3 rfl u_668 u_669 u_670 u_11 u_671 ⟨by decide, by decide, rfl⟩ ⟨Nat.le_of_ble_eq_true rfl, Nat.le_of_ble_eq_true rfl⟩ ⟨Nat.le_of_ble_eq_true rfl, Nat.le_of_ble_eq_true rfl⟩ (Nat.le_of_ble_eq_true rfl) dX11_findHiding_47 ?hp_3 rfl rfl rfl ?_
              case hs_3 => exact ⟨_, FK.c173 hM⟩
              case hp_3 => exact ⟨FK.wk hM, (congrFun (ho1 173 (by omega)) 0).trans hn0, h1, hn6, by omega, hlaw, fun i hi => (congrFun (ho1 174 (by omega)) i).trans (hr i hi)⟩
              rintro v σ sz1 ⟨g2, hM2, hF2, h00, hv, rfl⟩
              have hM := FK.jwk hM hF2 hM2
              have hF := hF.trans (hF2.mono (Nat.le_add_right _ _) (by omega))
              have gw : spl μ1 173 2 g2 174 = g2 1 := by rw [spl_in ⟨by omega, by omega⟩]
              obtain ⟨z5, rfl, hS1⟩ : ∃ y, v = some (.int y) ∧ SrS n (hidF S A B n kk) (spl μ1 173 2 g2) y (c + 1) := by
                rcases hv with ⟨h, t, hs, ht⟩ | ⟨h, hs⟩
                · exact ⟨_, h, SrS.go hlaw h1 hcr hp hbe hwr hs (fun i hi => by rw [gw]; exact ht i hi)⟩
                · exact ⟨_, h, SrS.no hlaw hp hbe hwr hs⟩
              refine S_istore_n (q := 51) [_, _, _, _, _, _] hX dX11_findHiding_50 rfl (Nat.le_of_ble_eq_true rfl) rfl rfl ?_
              refine S_iinc (q := 54) [_, _, _, _, _, _] hX dX11_findHiding_51 rfl (ii_1 _) rfl (Nat.le_of_ble_eq_true rfl) rfl rfl ?_
              refine S_goto 13 hX dX11_findHiding_54 rfl ?_
              rw [nI_1]
              exact ih (c + 1) _ _ _ (spl μ1 173 2 g2) (by omega) (by omega) hS1 (by rw [spl_in ⟨by omega, by omega⟩]; exact h00) (fun j hj => by rw [spl_out (by omega), ho1 j (by omega)]; exact ho j hj) (hfa1.ext (fun j hj => spl_out (by omega))) (hfb1.ext (fun j hj => spl_out (by omega))) hM hF
            · have hH : (hidF S A B n kk) r := by
                rcases hy with ⟨_, h⟩ | ⟨p, h, hp, _⟩
                · exact h
                · exfalso
                  rw [h] at c36
                  rcases Nat.eq_zero_or_pos p with z | z
                  · rw [z] at c36; exact absurd c36 (by decide)
                  · obtain ⟨p, rfl⟩ : ∃ j, p = j + 1 := ⟨p - 1, by omega⟩
                    rw [i1, pk_sub (by omega)] at c36
                    have := nI_inj (b := 99) (by omega) (by decide) c36
                    omega
              refine S_iconst (q := 40) (v := 1) hX dX11_findHiding_39 ic_1 rfl ?_
              refine S_xret hX dX11_findHiding_40 (Nat.zero_le _) (Nat.zero_le _) (by decide) ?_
              refine hP _ _ _ ?_
              exact ⟨_, hM, hF, Or.inl ⟨rfl, r, hlaw, fun i hi => (congrFun (ho1 174 (by omega)) i).trans (hr i hi), hH, hbe⟩, ⟨(congrFun (ho1 173 (by omega)) 0).trans hn0, fun j hj => (ho1 j (by omega)).trans (ho j hj), hfa1, hfb1⟩, rfl⟩
  refine S_aload_n (q := 1) hX dX11_findHiding_0 rfl rfl ?_
  refine S_getf (fs := ?fs_4) (v := ?v_4) (q := 4) hX u_291 fo_X11_walk dX11_findHiding_1 ?hs_4 ?hv_4 rfl ?_
  case hs_4 => with_reducible first | exact FK.c0 hM | exact FK.c1 hM | exact FK.c2 hM | exact FK.c7 hM | exact FK.c129 hM | exact FK.c3 hM | exact FK.c4 hM | exact FK.c5 hM | exact FK.c6 hM | exact FK.c39 hM | exact FK.c40 hM | exact FK.c41 hM | exact FK.c42 hM | exact FK.c43 hM | exact FK.c128 hM | exact FK.c136 hM | exact FK.c137 hM | exact FK.c173 hM | exact FK.c174 hM | exact FK.c175 hM | exact FK.c176 hM | exact FK.c177 hM | exact FK.c178 hM | exact RK.c0 (FK.rk hkd hM) | exact RK.c1 (FK.rk hkd hM) | exact RK.c2 (FK.rk hkd hM) | exact RK.c0 (FK.rk hk2 hM) | exact RK.c1 (FK.rk hk2 hM) | exact RK.c2 (FK.rk hk2 hM)
  case hv_4 => rfl
  refine S_iload_n (q := 5) hX dX11_findHiding_4 rfl rfl ?_
  refine S_callV (ci := 10) (C := "FanTalk$Walk") (T := TX10) (N := 2) (q := 8) 0 0 hX (c_X10_begin (q + 173) (fun j => γ (173 + j)) _ n rfl) rfl ?hs_5 rfl u_653 u_654 u_655 u_11 u_656 ⟨by decide, by decide, rfl⟩ ⟨Nat.le_of_ble_eq_true rfl, Nat.le_of_ble_eq_true rfl⟩ ⟨Nat.le_of_ble_eq_true rfl, Nat.le_of_ble_eq_true rfl⟩ (Nat.le_of_ble_eq_true rfl) dX11_findHiding_5 ?hp_5 rfl rfl rfl ?_
  case hs_5 => exact ⟨_, FK.c173 hM⟩
  case hp_5 => exact ⟨FK.wk hM, hn6⟩
  rintro v σ sz1 ⟨g1, hM1, hF1, rfl, ⟨h00, hz1⟩, rfl⟩
  have hM := FK.jwk hM hF1 hM1
  have hF := hF.trans (hF1.mono (Nat.le_add_right _ _) (by omega))
  refine S_iconst (q := 9) (v := 1) hX dX11_findHiding_8 ic_1 rfl ?_
  refine S_istore_n (q := 10) [_, _, _, _, _, _] hX dX11_findHiding_9 rfl (Nat.le_of_ble_eq_true rfl) rfl rfl ?_
  refine S_iconst (q := 11) (v := 0) hX dX11_findHiding_10 ic_0 rfl ?_
  refine S_istore (q := 13) [_, _, _, _, _, _] hX dX11_findHiding_11 rfl (Nat.le_of_ble_eq_true rfl) rfl rfl ?_
  refine l13 93314 0 1 _ _ (spl γ 173 2 g1) (Nat.zero_le _) (by omega) (Or.inl ⟨rfl, fun _ => 0, law0 n, fun i hi => ?_, Nat.zero_le _, fun b lb hlt => ?_⟩) (by rw [spl_in ⟨by omega, by omega⟩]; exact h00) (fun j hj => spl_out (by omega)) (hfa.ext (fun j hj => spl_out (by omega))) (hfb.ext (fun j hj => spl_out (by omega))) hM hF
  · rw [spl_in ⟨by omega, by omega⟩]; exact hz1 i hi
  · have := rv0_le (n := n) lb.1; omega
theorem hidF_iff {S : ST} {a b k n : Nat} {r : Nat → Nat} (h : rowOk n r) : hides S a b k n (rv r n) ↔ hidF S (S.1.1.2.1 a) (S.1.1.2.1 b) n k r := by
  unfold hides hidF
  rw [rdK_congr (w := stN (rv r n) n) (w' := r) (fun b hb => stN_rv n h b hb), rdK_congr (w := stN (rv r n) n) (w' := r) (fun b hb => stN_rv n h b hb)]
theorem hid_all {S : ST} {a b k n : Nat} (h : ∀ r, lawF n r → ¬ hidF S (S.1.1.2.1 a) (S.1.1.2.1 b) n k r) : ∀ v', lawful n v' → ¬ hides S a b k n v' := fun v' hl hh => by
  obtain ⟨h1, h2⟩ := lawful_F hl
  rw [← h2] at hh
  exact h _ h1 ((hidF_iff h1.1).mp hh)
/-- a row that is too short tells too little -/
theorem hid_few {S : ST} {a b k n v : Nat} (h : n < S.1.2.2.2.2.1.1) : ¬ hides S a b k n v := fun ⟨h1, _⟩ => by
  have h2 := rdK_len 0 (stN v n) n (S.1.1.2.1 a)
  rw [h1, wantL_len] at h2
  omega
theorem c_X11_hide (q : Nat) (γ : MF) (S : ST) (x y z : Int32) : CT_X11_hide [.ref q, .int x, .int y, .int z] (fun Γ σ sz => FK σ q γ ∧ FR γ S ∧ StOk S) (fun Γ σ sz v σ' sz' => ∃ γ', FK σ' q γ' ∧ Fr q (q + 179) σ σ' ∧ (∃ r, v = some (.int r) ∧ ((hid_bad S x y z ∧ r = -10 ∧ FR γ' (rfS S 0)) ∨ (¬ hid_bad S x y z ∧ HideR S (tN x) (tN y) (tN z) r ∧ FR γ' S))) ∧ sz' = sz) := by
  refine CT.mkP rfl (Nat.le_of_ble_eq_true rfl) [_, _, _, _, _] rfl ?_
  intro X Γ σ sz P hX hpre hsz hP
  obtain ⟨hM, hR, ok⟩ := hpre
  obtain ⟨σ0, eσ0⟩ : ∃ z, z = σ := ⟨σ, rfl⟩
  rw [← eσ0] at hP
  have hF : Fr q (q + 179) σ0 σ := by rw [eσ0]; exact Fr.rf
  obtain ⟨r0, r1, r2, r3, r4, r5⟩ := id hR
  obtain ⟨t0, t1, t2, t3, t4, t5, t6, t7, t8⟩ := id r0
  obtain ⟨o1, o2, o3, o4, o5, o6, o7, o8, o9, o10⟩ := id ok.1
  have hkd : 0 < 5 := by decide
  have hk2 : 2 < 5 := by decide
  have hco : CoR (fun j => γ (2 + j)) S.1.1 := t0.ext (fun j hj => by show γ (2 + j) = γ (1 + (1 + j)); congr 1; omega)
  have l81 : okc x S.1.1.1 → okc y S.1.1.1 → inb z 0 5 → ∀ (fl n : Nat) (σ : Sg) (μ : MF), 1 ≤ n → n ≤ 6 → 6 - n < fl → (∀ j, j < 137 → μ j = γ j) → FdC (fun j => μ (138 + 7 * 0 + j)) (S.1.1.2.1 (tN x)) → FdC (fun j => μ (138 + 7 * 2 + j)) (S.1.1.2.1 (tN y)) → (∀ n' v', 1 ≤ n' → n' < n → lawful n' v' → ¬ hides S (tN x) (tN y) (tN z) n' v') → FK σ q μ → Fr q (q + 179) σ0 σ → G X Γ P 0 0 81 [some (.ref q), some (.int x), some (.int y), some (.int z), some (.int (nI n))] [] σ sz := by
    intro hx hy hz fl
    have cx := okc.ex hx
    have cy := okc.ex hy
    have cz := tN_ex hz.1
    have hz5 : tN z ≤ 5 := by have := hz.2; omega
    have hbad : ¬ hid_bad S x y z := by rintro (w | w | w); exact w hx; exact w hy; exact w hz
    induction fl with
      | zero => intro n σ μ h1 h2 h3; omega
      | succ fl ih =>
        intro n σ μ h1 hn6 hfu ho hfa hfb hno hM hF
        refine S_iload (q := 83) hX dX11_hide_81 rfl rfl ?_
        refine S_iconst (q := 84) (v := 5) hX dX11_hide_83 ic_5 rfl ?_
        refine S_icmp_gt (q := 87) 111 hX dX11_hide_84 rfl rfl (fun c84 => ?_) (fun c84 => ?_)
        · have hn5 : n = 6 := by rw [show (5 : Int32) = nI 5 from rfl, nI_ltI (by omega) (by omega)] at c84; omega
          refine S_iconst (q := 112) (v := (-1)) hX dX11_hide_111 ic_m1 rfl ?_
          refine S_iret hX dX11_hide_112 (Nat.zero_le _) (Nat.zero_le _) ?_
          refine hP _ _ _ ?_
          exact ⟨_, hM, hF, ⟨_, rfl, Or.inr ⟨hbad, Or.inr ⟨rfl, fun n' v' q1 q2 => hno n' v' q1 (by omega)⟩, hR.scr ok ho⟩⟩, rfl⟩
        · have hn5 : n ≤ 5 := by rw [show (5 : Int32) = nI 5 from rfl, nI_ltI (by omega) (by omega)] at c84; omega
          refine S_aload_n (q := 88) hX dX11_hide_87 rfl rfl ?_
          refine S_iload (q := 90) hX dX11_hide_88 rfl rfl ?_
          refine S_iload_n (q := 91) hX dX11_hide_90 rfl rfl ?_
          refine S_callV (ci := 11) (C := "FanTalk") (T := TX11) (N := 11) (q := 94) 0 0 hX (c_X11_findHiding q μ S (S.1.1.2.1 (tN x)) (S.1.1.2.1 (tN y)) _ _ n (tN z) rfl cz.1) rfl ?hs_1 rfl u_649 u_651 us_17 u_1 u_652 ⟨by decide, by decide, rfl⟩ ⟨Nat.le_of_ble_eq_true rfl, Nat.le_of_ble_eq_true rfl⟩ ⟨Nat.le_of_ble_eq_true rfl, Nat.le_of_ble_eq_true rfl⟩ (Nat.le_of_ble_eq_true rfl) dX11_hide_91 ?hp_1 rfl rfl rfl ?_
          case hs_1 => first | with_reducible assumption | exact ⟨_, FK.c0 hM⟩ | exact ⟨_, FK.c2 hM⟩ | exact ⟨_, FK.c7 hM⟩ | exact ⟨_, FK.c129 hM⟩ | exact ⟨_, FK.c173 hM⟩ | exact ⟨_, FK.c1 hM⟩
          case hp_1 => exact ⟨hM, hR.scr ok ho, ok, o2.2.1 _ cx.2.1, o2.2.1 _ cy.2.1, hfa, hfb, h1, by omega, hz5⟩
          rintro v σ sz1 ⟨μ1, hM, hF1, hv, ⟨hn0, ho1, hfa1, hfb1⟩, rfl⟩
          have hF := hF.trans hF1
          have ho2 : ∀ j, j < 137 → μ1 j = γ j := fun j hj => (ho1 j hj).trans (ho j hj)
          obtain ⟨y5, rfl, hy5⟩ : ∃ y5, v = some (.int y5) ∧ ((y5 = 1 ∧ ∃ r, lawF n r ∧ (∀ i, i < n → μ1 174 i = nI (r i)) ∧ hidF S (S.1.1.2.1 (tN x)) (S.1.1.2.1 (tN y)) n (tN z) r ∧ ∀ b, lawF n b → rv b n < rv r n → ¬ hidF S (S.1.1.2.1 (tN x)) (S.1.1.2.1 (tN y)) n (tN z) b) ∨ (y5 = 0 ∧ ∀ b, lawF n b → ¬ hidF S (S.1.1.2.1 (tN x)) (S.1.1.2.1 (tN y)) n (tN z) b)) := by
            rcases hv with ⟨h, h9⟩ | ⟨h, h9⟩
            · exact ⟨_, h, Or.inl ⟨rfl, h9⟩⟩
            · exact ⟨_, h, Or.inr ⟨rfl, h9⟩⟩
          refine S_if_eq (q := 97) 105 hX dX11_hide_94 rfl rfl (fun c94 => ?_) (fun c94 => ?_)
          · have hall : ∀ v', lawful n v' → ¬ hides S (tN x) (tN y) (tN z) n v' := by
              rcases hy5 with ⟨h, _⟩ | ⟨_, h⟩
              · rw [h] at c94; exact absurd c94 (by decide)
              · exact hid_all h
            refine S_iinc (q := 108) [_, _, _, _, _] hX dX11_hide_105 rfl (ii_1 _) rfl (Nat.le_of_ble_eq_true rfl) rfl rfl ?_
            refine S_goto 81 hX dX11_hide_108 rfl ?_
            rw [nI_1]
            exact ih (n + 1) _ μ1 (by omega) (by omega) (by omega) ho2 hfa1 hfb1 (fun n' v' q1 q2 q3 => by rcases Nat.lt_succ_iff_lt_or_eq.mp q2 with w | w; exact hno n' v' q1 w q3; subst w; exact hall v' q3) hM hF
          · obtain ⟨r, hlaw, hr, hH, hbe⟩ : ∃ r, lawF n r ∧ (∀ i, i < n → μ1 174 i = nI (r i)) ∧ hidF S (S.1.1.2.1 (tN x)) (S.1.1.2.1 (tN y)) n (tN z) r ∧ ∀ b, lawF n b → rv b n < rv r n → ¬ hidF S (S.1.1.2.1 (tN x)) (S.1.1.2.1 (tN y)) n (tN z) b := by
              rcases hy5 with ⟨_, h⟩ | ⟨h, _⟩
              · exact h
              · exact absurd h c94
            refine S_aload_n (q := 98) hX dX11_hide_97 rfl rfl ?_
            refine S_getf (fs := ?fs_2) (v := ?v_2) (q := 101) hX u_291 fo_X11_walk dX11_hide_98 ?hs_2 ?hv_2 rfl ?_
            case hs_2 => with_reducible first | exact FK.c0 hM | exact FK.c1 hM | exact FK.c2 hM | exact FK.c7 hM | exact FK.c129 hM | exact FK.c3 hM | exact FK.c4 hM | exact FK.c5 hM | exact FK.c6 hM | exact FK.c39 hM | exact FK.c40 hM | exact FK.c41 hM | exact FK.c42 hM | exact FK.c43 hM | exact FK.c128 hM | exact FK.c136 hM | exact FK.c137 hM | exact FK.c173 hM | exact FK.c174 hM | exact FK.c175 hM | exact FK.c176 hM | exact FK.c177 hM | exact FK.c178 hM | exact RK.c0 (FK.rk hkd hM) | exact RK.c1 (FK.rk hkd hM) | exact RK.c2 (FK.rk hkd hM) | exact RK.c0 (FK.rk hk2 hM) | exact RK.c1 (FK.rk hk2 hM) | exact RK.c2 (FK.rk hk2 hM)
            case hv_2 => rfl
            refine S_callV (ci := 10) (C := "FanTalk$Walk") (T := TX10) (N := 2) (q := 104) 0 0 hX (c_X10_number (q + 173) (fun j => μ1 (173 + j)) n r) rfl ?hs_3 rfl u_676 u_677 u_678 u_11 u_679 ⟨by decide, by decide, rfl⟩ ⟨Nat.le_of_ble_eq_true rfl, Nat.le_of_ble_eq_true rfl⟩ ⟨Nat.le_of_ble_eq_true rfl, Nat.le_of_ble_eq_true rfl⟩ (Nat.le_of_ble_eq_true rfl) dX11_hide_101 ?hp_3 rfl rfl rfl ?_
            case hs_3 => exact ⟨_, FK.c173 hM⟩
            case hp_3 => exact ⟨FK.wk hM, hn0, by omega, hr⟩
            rintro v σ1 sz1 ⟨rfl, rfl, rfl⟩
            refine S_iret hX dX11_hide_104 (Nat.zero_le _) (Nat.zero_le _) ?_
            refine hP _ _ _ ?_
            refine ⟨_, hM, hF, ⟨_, rfl, Or.inr ⟨hbad, Or.inl ⟨n, rv r n, h1, hn5, lawF_n hlaw, (hidF_iff hlaw.1).mpr hH, rfl, hno, fun v' hlt hl hh => ?_⟩, hR.scr ok ho2⟩⟩, rfl⟩
            obtain ⟨w1, w2⟩ := lawful_F hl
            rw [← w2] at hh hlt
            exact hbe _ w1 hlt ((hidF_iff w1.1).mp hh)
  refine S_aload_n (q := 1) hX dX11_hide_0 rfl rfl ?_
  refine S_iload_n (q := 2) hX dX11_hide_1 rfl rfl ?_
  refine S_callV (ci := 11) (C := "FanTalk") (T := TX11) (N := 11) (q := 5) 0 0 hX (c_X11_isCode q γ S _) rfl ?hs_4 rfl u_338 u_340 us_1 u_1 u_341 ⟨by decide, by decide, rfl⟩ ⟨Nat.le_of_ble_eq_true rfl, Nat.le_of_ble_eq_true rfl⟩ ⟨Nat.le_of_ble_eq_true rfl, Nat.le_of_ble_eq_true rfl⟩ (Nat.le_of_ble_eq_true rfl) dX11_hide_2 ?hp_4 rfl rfl rfl ?_
  case hs_4 => first | with_reducible assumption | exact ⟨_, FK.c0 hM⟩ | exact ⟨_, FK.c2 hM⟩ | exact ⟨_, FK.c7 hM⟩ | exact ⟨_, FK.c129 hM⟩ | exact ⟨_, FK.c173 hM⟩ | exact ⟨_, FK.c1 hM⟩
  case hp_4 => exact ⟨hM, hR, ok⟩
  rintro v σ1 sz1 ⟨rfl, rfl, rfl⟩
  refine S_if_eq_b (q := 8) 25 hX dX11_hide_5 rfl rfl (fun c5 => ?_) (fun c5 => ?_)
  · refine S_aload_n (q := 26) hX dX11_hide_25 rfl rfl ?_
    refine S_bipush (q := 28) (v := (-2)) hX dX11_hide_26 bp_m2 rfl ?_
    refine S_bipush (q := 30) (v := (-10)) hX dX11_hide_28 bp_m10 rfl ?_
    refine S_callV (ci := 11) (C := "FanTalk") (T := TX11) (N := 11) (q := 33) 0 0 hX (c_X11_refused q γ _ _ 0 (by decide)) rfl ?hs_5 rfl u_323 u_325 us_0 u_1 u_326 ⟨by decide, by decide, rfl⟩ ⟨Nat.le_of_ble_eq_true rfl, Nat.le_of_ble_eq_true rfl⟩ ⟨Nat.le_of_ble_eq_true rfl, Nat.le_of_ble_eq_true rfl⟩ (Nat.le_of_ble_eq_true rfl) dX11_hide_30 ?hp_5 rfl rfl rfl ?_
    case hs_5 => first | with_reducible assumption | exact ⟨_, FK.c0 hM⟩ | exact ⟨_, FK.c2 hM⟩ | exact ⟨_, FK.c7 hM⟩ | exact ⟨_, FK.c129 hM⟩ | exact ⟨_, FK.c173 hM⟩ | exact ⟨_, FK.c1 hM⟩
    case hp_5 => exact ⟨hM, by decide⟩
    rintro v σ sz1 ⟨μ9, hM, hF1, rfl, e9, rfl⟩
    have hF := hF.trans hF1
    refine S_iret hX dX11_hide_33 (Nat.zero_le _) (Nat.zero_le _) ?_
    refine hP _ _ _ ?_
    exact ⟨_, hM, hF, ⟨_, rfl, Or.inl ⟨Or.inl c5, rfl, hR.rf ok e9⟩⟩, rfl⟩
  · have cx := okc.ex c5
    refine S_aload_n (q := 9) hX dX11_hide_8 rfl rfl ?_
    refine S_iload_n (q := 10) hX dX11_hide_9 rfl rfl ?_
    refine S_callV (ci := 11) (C := "FanTalk") (T := TX11) (N := 11) (q := 13) 0 0 hX (c_X11_isCode q γ S _) rfl ?hs_6 rfl u_338 u_340 us_1 u_1 u_341 ⟨by decide, by decide, rfl⟩ ⟨Nat.le_of_ble_eq_true rfl, Nat.le_of_ble_eq_true rfl⟩ ⟨Nat.le_of_ble_eq_true rfl, Nat.le_of_ble_eq_true rfl⟩ (Nat.le_of_ble_eq_true rfl) dX11_hide_10 ?hp_6 rfl rfl rfl ?_
    case hs_6 => first | with_reducible assumption | exact ⟨_, FK.c0 hM⟩ | exact ⟨_, FK.c2 hM⟩ | exact ⟨_, FK.c7 hM⟩ | exact ⟨_, FK.c129 hM⟩ | exact ⟨_, FK.c173 hM⟩ | exact ⟨_, FK.c1 hM⟩
    case hp_6 => exact ⟨hM, hR, ok⟩
    rintro v σ1 sz1 ⟨rfl, rfl, rfl⟩
    refine S_if_eq_b (q := 16) 25 hX dX11_hide_13 rfl rfl (fun c13 => ?_) (fun c13 => ?_)
    · refine S_aload_n (q := 26) hX dX11_hide_25 rfl rfl ?_
      refine S_bipush (q := 28) (v := (-2)) hX dX11_hide_26 bp_m2 rfl ?_
      refine S_bipush (q := 30) (v := (-10)) hX dX11_hide_28 bp_m10 rfl ?_
      refine S_callV (ci := 11) (C := "FanTalk") (T := TX11) (N := 11) (q := 33) 0 0 hX (c_X11_refused q γ _ _ 0 (by decide)) rfl ?hs_7 rfl u_323 u_325 us_0 u_1 u_326 ⟨by decide, by decide, rfl⟩ ⟨Nat.le_of_ble_eq_true rfl, Nat.le_of_ble_eq_true rfl⟩ ⟨Nat.le_of_ble_eq_true rfl, Nat.le_of_ble_eq_true rfl⟩ (Nat.le_of_ble_eq_true rfl) dX11_hide_30 ?hp_7 rfl rfl rfl ?_
      case hs_7 => first | with_reducible assumption | exact ⟨_, FK.c0 hM⟩ | exact ⟨_, FK.c2 hM⟩ | exact ⟨_, FK.c7 hM⟩ | exact ⟨_, FK.c129 hM⟩ | exact ⟨_, FK.c173 hM⟩ | exact ⟨_, FK.c1 hM⟩
      case hp_7 => exact ⟨hM, by decide⟩
      rintro v σ sz1 ⟨μ9, hM, hF1, rfl, e9, rfl⟩
      have hF := hF.trans hF1
      refine S_iret hX dX11_hide_33 (Nat.zero_le _) (Nat.zero_le _) ?_
      refine hP _ _ _ ?_
      exact ⟨_, hM, hF, ⟨_, rfl, Or.inl ⟨Or.inr (Or.inl c13), rfl, hR.rf ok e9⟩⟩, rfl⟩
    · have cy := okc.ex c13
      refine S_iload_n (q := 17) hX dX11_hide_16 rfl rfl ?_
      refine S_if_lt (q := 20) 25 hX dX11_hide_17 rfl rfl (fun c17 => ?_) (fun c17 => ?_)
      · have k17 := c17
        rw [lt_i, show ((0 : Int32)).toInt = 0 by decide] at k17
        refine S_aload_n (q := 26) hX dX11_hide_25 rfl rfl ?_
        refine S_bipush (q := 28) (v := (-2)) hX dX11_hide_26 bp_m2 rfl ?_
        refine S_bipush (q := 30) (v := (-10)) hX dX11_hide_28 bp_m10 rfl ?_
        refine S_callV (ci := 11) (C := "FanTalk") (T := TX11) (N := 11) (q := 33) 0 0 hX (c_X11_refused q γ _ _ 0 (by decide)) rfl ?hs_8 rfl u_323 u_325 us_0 u_1 u_326 ⟨by decide, by decide, rfl⟩ ⟨Nat.le_of_ble_eq_true rfl, Nat.le_of_ble_eq_true rfl⟩ ⟨Nat.le_of_ble_eq_true rfl, Nat.le_of_ble_eq_true rfl⟩ (Nat.le_of_ble_eq_true rfl) dX11_hide_30 ?hp_8 rfl rfl rfl ?_
        case hs_8 => first | with_reducible assumption | exact ⟨_, FK.c0 hM⟩ | exact ⟨_, FK.c2 hM⟩ | exact ⟨_, FK.c7 hM⟩ | exact ⟨_, FK.c129 hM⟩ | exact ⟨_, FK.c173 hM⟩ | exact ⟨_, FK.c1 hM⟩
        case hp_8 => exact ⟨hM, by decide⟩
        rintro v σ sz1 ⟨μ9, hM, hF1, rfl, e9, rfl⟩
        have hF := hF.trans hF1
        refine S_iret hX dX11_hide_33 (Nat.zero_le _) (Nat.zero_le _) ?_
        refine hP _ _ _ ?_
        exact ⟨_, hM, hF, ⟨_, rfl, Or.inl ⟨Or.inr (Or.inr (fun w => by have := w.1; have := w.2; omega)), rfl, hR.rf ok e9⟩⟩, rfl⟩
      · have k17 := c17
        rw [lt_i, show ((0 : Int32)).toInt = 0 by decide] at k17
        refine S_iload_n (q := 21) hX dX11_hide_20 rfl rfl ?_
        refine S_iconst (q := 22) (v := 5) hX dX11_hide_21 ic_5 rfl ?_
        refine S_icmp_le (q := 25) 34 hX dX11_hide_22 rfl rfl (fun c22 => ?_) (fun c22 => ?_)
        · have k22 := c22
          rw [le_i, show ((5 : Int32)).toInt = 5 by decide] at k22
          refine S_aload_n (q := 35) hX dX11_hide_34 rfl rfl ?_
          refine S_getf (fs := ?fs_9) (v := ?v_9) (q := 38) hX u_290 fo_X11_readers dX11_hide_35 ?hs_9 ?hv_9 rfl ?_
          case hs_9 => with_reducible first | exact FK.c0 hM | exact FK.c1 hM | exact FK.c2 hM | exact FK.c7 hM | exact FK.c129 hM | exact FK.c3 hM | exact FK.c4 hM | exact FK.c5 hM | exact FK.c6 hM | exact FK.c39 hM | exact FK.c40 hM | exact FK.c41 hM | exact FK.c42 hM | exact FK.c43 hM | exact FK.c128 hM | exact FK.c136 hM | exact FK.c137 hM | exact FK.c173 hM | exact FK.c174 hM | exact FK.c175 hM | exact FK.c176 hM | exact FK.c177 hM | exact FK.c178 hM | exact RK.c0 (FK.rk hkd hM) | exact RK.c1 (FK.rk hkd hM) | exact RK.c2 (FK.rk hkd hM) | exact RK.c0 (FK.rk hk2 hM) | exact RK.c1 (FK.rk hk2 hM) | exact RK.c2 (FK.rk hk2 hM)
          case hv_9 => rfl
          refine S_iconst (q := 39) (v := 0) hX dX11_hide_38 ic_0 rfl ?_
          refine S_aald (N := ?n_10) (f := ?f_10) (y := q + (138 + 7 * 0)) (q := 40) (t := 3) hX dX11_hide_39 (by decide) rfl ?hs_10 ?hi_10 ?hy_10 rfl ?_
          case hs_10 => with_reducible first | exact FK.c0 hM | exact FK.c1 hM | exact FK.c2 hM | exact FK.c7 hM | exact FK.c129 hM | exact FK.c3 hM | exact FK.c4 hM | exact FK.c5 hM | exact FK.c6 hM | exact FK.c39 hM | exact FK.c40 hM | exact FK.c41 hM | exact FK.c42 hM | exact FK.c43 hM | exact FK.c128 hM | exact FK.c136 hM | exact FK.c137 hM | exact FK.c173 hM | exact FK.c174 hM | exact FK.c175 hM | exact FK.c176 hM | exact FK.c177 hM | exact FK.c178 hM | exact RK.c0 (FK.rk hkd hM) | exact RK.c1 (FK.rk hkd hM) | exact RK.c2 (FK.rk hkd hM) | exact RK.c0 (FK.rk hk2 hM) | exact RK.c1 (FK.rk hk2 hM) | exact RK.c2 (FK.rk hk2 hM)
          case hi_10 => exact vp_in_nI (show 0 < 5 by decide) (by decide)
          case hy_10 => show some (q + (138 + 7 * (nI 0).toNatClampNeg)) = some (q + (138 + 7 * 0)); rw [nI_clamp (by omega)]
          refine S_aload_n (q := 41) hX dX11_hide_40 rfl rfl ?_
          refine S_getf (fs := ?fs_11) (v := ?v_11) (q := 44) hX u_285 fo_X11_now dX11_hide_41 ?hs_11 ?hv_11 rfl ?_
          case hs_11 => with_reducible first | exact FK.c0 hM | exact FK.c1 hM | exact FK.c2 hM | exact FK.c7 hM | exact FK.c129 hM | exact FK.c3 hM | exact FK.c4 hM | exact FK.c5 hM | exact FK.c6 hM | exact FK.c39 hM | exact FK.c40 hM | exact FK.c41 hM | exact FK.c42 hM | exact FK.c43 hM | exact FK.c128 hM | exact FK.c136 hM | exact FK.c137 hM | exact FK.c173 hM | exact FK.c174 hM | exact FK.c175 hM | exact FK.c176 hM | exact FK.c177 hM | exact FK.c178 hM | exact RK.c0 (FK.rk hkd hM) | exact RK.c1 (FK.rk hkd hM) | exact RK.c2 (FK.rk hkd hM) | exact RK.c0 (FK.rk hk2 hM) | exact RK.c1 (FK.rk hk2 hM) | exact RK.c2 (FK.rk hk2 hM)
          case hv_11 => rfl
          refine S_getf (fs := ?fs_12) (v := ?v_12) (q := 47) hX u_85 fo_X9_codes dX11_hide_44 ?hs_12 ?hv_12 rfl ?_
          case hs_12 => with_reducible first | exact FK.c0 hM | exact FK.c1 hM | exact FK.c2 hM | exact FK.c7 hM | exact FK.c129 hM | exact FK.c3 hM | exact FK.c4 hM | exact FK.c5 hM | exact FK.c6 hM | exact FK.c39 hM | exact FK.c40 hM | exact FK.c41 hM | exact FK.c42 hM | exact FK.c43 hM | exact FK.c128 hM | exact FK.c136 hM | exact FK.c137 hM | exact FK.c173 hM | exact FK.c174 hM | exact FK.c175 hM | exact FK.c176 hM | exact FK.c177 hM | exact FK.c178 hM | exact RK.c0 (FK.rk hkd hM) | exact RK.c1 (FK.rk hkd hM) | exact RK.c2 (FK.rk hkd hM) | exact RK.c0 (FK.rk hk2 hM) | exact RK.c1 (FK.rk hk2 hM) | exact RK.c2 (FK.rk hk2 hM)
          case hv_12 => rfl
          refine S_iload_n (q := 48) hX dX11_hide_47 rfl rfl ?_
          refine S_callK (q := 51) 0 0 (hkd) hX (c_X3_learn (q + (138 + 7 * (0))) (fun j => γ (138 + 7 * (0) + j)) (0) (q + 2) (tN x) _ (fun j => γ (2 + j)) (S.1.1.2.1 (tN x)) cx.1) rfl ?hs_13 u_525 u_528 u_526 u_6 u_533 u_527 u_531 u_530 u_532 u_529 ⟨by decide, by decide, rfl⟩ ⟨Nat.le_of_ble_eq_true rfl, Nat.le_of_ble_eq_true rfl⟩ ⟨Nat.le_of_ble_eq_true rfl, Nat.le_of_ble_eq_true rfl⟩ (Nat.le_of_ble_eq_true rfl) dX11_hide_48 ?hp_13 rfl rfl rfl ?_
          case hs_13 => exact ⟨_, (FK.rk hkd hM).c0⟩
          case hp_13 => exact ⟨FK.rk hkd hM, FK.co hM, by left; omega, by omega, o2.2.1 _ cx.2.1, hco.2.1 _ cx.2.1⟩
          rintro v σ sz1 ⟨g1, hM1, hF1, rfl, hfd1, rfl⟩
          have hM := FK.jrk hkd hM hF1 hM1
          have hF := hF.trans (hF1.mono (Nat.le_add_right _ _) (by omega))
          refine S_aload_n (q := 52) hX dX11_hide_51 rfl rfl ?_
          refine S_getf (fs := ?fs_14) (v := ?v_14) (q := 55) hX u_290 fo_X11_readers dX11_hide_52 ?hs_14 ?hv_14 rfl ?_
          case hs_14 => with_reducible first | exact FK.c0 hM | exact FK.c1 hM | exact FK.c2 hM | exact FK.c7 hM | exact FK.c129 hM | exact FK.c3 hM | exact FK.c4 hM | exact FK.c5 hM | exact FK.c6 hM | exact FK.c39 hM | exact FK.c40 hM | exact FK.c41 hM | exact FK.c42 hM | exact FK.c43 hM | exact FK.c128 hM | exact FK.c136 hM | exact FK.c137 hM | exact FK.c173 hM | exact FK.c174 hM | exact FK.c175 hM | exact FK.c176 hM | exact FK.c177 hM | exact FK.c178 hM | exact RK.c0 (FK.rk hkd hM) | exact RK.c1 (FK.rk hkd hM) | exact RK.c2 (FK.rk hkd hM) | exact RK.c0 (FK.rk hk2 hM) | exact RK.c1 (FK.rk hk2 hM) | exact RK.c2 (FK.rk hk2 hM)
          case hv_14 => rfl
          refine S_iconst (q := 56) (v := 2) hX dX11_hide_55 ic_2 rfl ?_
          refine S_aald (N := ?n_15) (f := ?f_15) (y := q + (138 + 7 * 2)) (q := 57) (t := 3) hX dX11_hide_56 (by decide) rfl ?hs_15 ?hi_15 ?hy_15 rfl ?_
          case hs_15 => with_reducible first | exact FK.c0 hM | exact FK.c1 hM | exact FK.c2 hM | exact FK.c7 hM | exact FK.c129 hM | exact FK.c3 hM | exact FK.c4 hM | exact FK.c5 hM | exact FK.c6 hM | exact FK.c39 hM | exact FK.c40 hM | exact FK.c41 hM | exact FK.c42 hM | exact FK.c43 hM | exact FK.c128 hM | exact FK.c136 hM | exact FK.c137 hM | exact FK.c173 hM | exact FK.c174 hM | exact FK.c175 hM | exact FK.c176 hM | exact FK.c177 hM | exact FK.c178 hM | exact RK.c0 (FK.rk hkd hM) | exact RK.c1 (FK.rk hkd hM) | exact RK.c2 (FK.rk hkd hM) | exact RK.c0 (FK.rk hk2 hM) | exact RK.c1 (FK.rk hk2 hM) | exact RK.c2 (FK.rk hk2 hM)
          case hi_15 => exact vp_in_nI (show 2 < 5 by decide) (by decide)
          case hy_15 => show some (q + (138 + 7 * (nI 2).toNatClampNeg)) = some (q + (138 + 7 * 2)); rw [nI_clamp (by omega)]
          refine S_aload_n (q := 58) hX dX11_hide_57 rfl rfl ?_
          refine S_getf (fs := ?fs_16) (v := ?v_16) (q := 61) hX u_285 fo_X11_now dX11_hide_58 ?hs_16 ?hv_16 rfl ?_
          case hs_16 => with_reducible first | exact FK.c0 hM | exact FK.c1 hM | exact FK.c2 hM | exact FK.c7 hM | exact FK.c129 hM | exact FK.c3 hM | exact FK.c4 hM | exact FK.c5 hM | exact FK.c6 hM | exact FK.c39 hM | exact FK.c40 hM | exact FK.c41 hM | exact FK.c42 hM | exact FK.c43 hM | exact FK.c128 hM | exact FK.c136 hM | exact FK.c137 hM | exact FK.c173 hM | exact FK.c174 hM | exact FK.c175 hM | exact FK.c176 hM | exact FK.c177 hM | exact FK.c178 hM | exact RK.c0 (FK.rk hkd hM) | exact RK.c1 (FK.rk hkd hM) | exact RK.c2 (FK.rk hkd hM) | exact RK.c0 (FK.rk hk2 hM) | exact RK.c1 (FK.rk hk2 hM) | exact RK.c2 (FK.rk hk2 hM)
          case hv_16 => rfl
          refine S_getf (fs := ?fs_17) (v := ?v_17) (q := 64) hX u_85 fo_X9_codes dX11_hide_61 ?hs_17 ?hv_17 rfl ?_
          case hs_17 => with_reducible first | exact FK.c0 hM | exact FK.c1 hM | exact FK.c2 hM | exact FK.c7 hM | exact FK.c129 hM | exact FK.c3 hM | exact FK.c4 hM | exact FK.c5 hM | exact FK.c6 hM | exact FK.c39 hM | exact FK.c40 hM | exact FK.c41 hM | exact FK.c42 hM | exact FK.c43 hM | exact FK.c128 hM | exact FK.c136 hM | exact FK.c137 hM | exact FK.c173 hM | exact FK.c174 hM | exact FK.c175 hM | exact FK.c176 hM | exact FK.c177 hM | exact FK.c178 hM | exact RK.c0 (FK.rk hkd hM) | exact RK.c1 (FK.rk hkd hM) | exact RK.c2 (FK.rk hkd hM) | exact RK.c0 (FK.rk hk2 hM) | exact RK.c1 (FK.rk hk2 hM) | exact RK.c2 (FK.rk hk2 hM)
          case hv_17 => rfl
          refine S_iload_n (q := 65) hX dX11_hide_64 rfl rfl ?_
          refine S_callK (q := 68) 0 0 (hk2) hX (c_X3_learn (q + (138 + 7 * (2))) (fun j => (spl γ (138 + 7 * 0) 7 g1) (138 + 7 * (2) + j)) (2) (q + 2) (tN y) _ (fun j => (spl γ (138 + 7 * 0) 7 g1) (2 + j)) (S.1.1.2.1 (tN y)) cy.1) rfl ?hs_18 u_525 u_528 u_526 u_6 u_533 u_527 u_531 u_530 u_532 u_529 ⟨by decide, by decide, rfl⟩ ⟨Nat.le_of_ble_eq_true rfl, Nat.le_of_ble_eq_true rfl⟩ ⟨Nat.le_of_ble_eq_true rfl, Nat.le_of_ble_eq_true rfl⟩ (Nat.le_of_ble_eq_true rfl) dX11_hide_65 ?hp_18 rfl rfl rfl ?_
          case hs_18 => exact ⟨_, (FK.rk hk2 hM).c0⟩
          case hp_18 => exact ⟨FK.rk hk2 hM, FK.co hM, by left; omega, by omega, o2.2.1 _ cy.2.1, (hco.ext (fun j hj => spl_out (by omega))).2.1 _ cy.2.1⟩
          rintro v σ sz1 ⟨g2, hM1, hF1, rfl, hfd2, rfl⟩
          have hM := FK.jrk hk2 hM hF1 hM1
          have hF := hF.trans (hF1.mono (Nat.le_add_right _ _) (by omega))
          refine S_iconst (q := 69) (v := 1) hX dX11_hide_68 ic_1 rfl ?_
          refine S_aload_n (q := 70) hX dX11_hide_69 rfl rfl ?_
          refine S_getf (fs := ?fs_19) (v := ?v_19) (q := 73) hX u_285 fo_X11_now dX11_hide_70 ?hs_19 ?hv_19 rfl ?_
          case hs_19 => with_reducible first | exact FK.c0 hM | exact FK.c1 hM | exact FK.c2 hM | exact FK.c7 hM | exact FK.c129 hM | exact FK.c3 hM | exact FK.c4 hM | exact FK.c5 hM | exact FK.c6 hM | exact FK.c39 hM | exact FK.c40 hM | exact FK.c41 hM | exact FK.c42 hM | exact FK.c43 hM | exact FK.c128 hM | exact FK.c136 hM | exact FK.c137 hM | exact FK.c173 hM | exact FK.c174 hM | exact FK.c175 hM | exact FK.c176 hM | exact FK.c177 hM | exact FK.c178 hM | exact RK.c0 (FK.rk hkd hM) | exact RK.c1 (FK.rk hkd hM) | exact RK.c2 (FK.rk hkd hM) | exact RK.c0 (FK.rk hk2 hM) | exact RK.c1 (FK.rk hk2 hM) | exact RK.c2 (FK.rk hk2 hM)
          case hv_19 => rfl
          refine S_getf (fs := ?fs_20) (v := ?v_20) (q := 76) hX u_97 fo_X9_wants dX11_hide_73 ?hs_20 ?hv_20 rfl ?_
          case hs_20 => with_reducible first | exact FK.c0 hM | exact FK.c1 hM | exact FK.c2 hM | exact FK.c7 hM | exact FK.c129 hM | exact FK.c3 hM | exact FK.c4 hM | exact FK.c5 hM | exact FK.c6 hM | exact FK.c39 hM | exact FK.c40 hM | exact FK.c41 hM | exact FK.c42 hM | exact FK.c43 hM | exact FK.c128 hM | exact FK.c136 hM | exact FK.c137 hM | exact FK.c173 hM | exact FK.c174 hM | exact FK.c175 hM | exact FK.c176 hM | exact FK.c177 hM | exact FK.c178 hM | exact RK.c0 (FK.rk hkd hM) | exact RK.c1 (FK.rk hkd hM) | exact RK.c2 (FK.rk hkd hM) | exact RK.c0 (FK.rk hk2 hM) | exact RK.c1 (FK.rk hk2 hM) | exact RK.c2 (FK.rk hk2 hM)
          case hv_20 => rfl
          refine S_max (q := 79) hX u_648 u_576 u_19 u_577 (by decide) (Nat.le_of_ble_eq_true rfl) ⟨Nat.zero_le _, Nat.zero_le _⟩ dX11_hide_76 rfl ?_
          have hmx : (if 1 < spl (spl γ (138 + 7 * 0) 7 g1) (138 + 7 * 2) 7 g2 1 2 then spl (spl γ (138 + 7 * 0) 7 g1) (138 + 7 * 2) 7 g2 1 2 else 1) = nI (if 1 < S.1.2.2.2.2.1.1 then S.1.2.2.2.2.1.1 else 1) := by
            rw [show (spl (spl γ (138 + 7 * 0) 7 g1) (138 + 7 * 2) 7 g2) 1 2 = nI S.1.2.2.2.2.1.1 by rw [spl_out (by omega), spl_out (by omega)]; exact t5]
            have e : (1 : Int32) < nI S.1.2.2.2.2.1.1 ↔ 1 < S.1.2.2.2.2.1.1 := by rw [i1]; exact nI_ltI (by omega) (by omega)
            by_cases h : 1 < S.1.2.2.2.2.1.1
            · rw [if_pos (e.mpr h), if_pos h]
            · rw [if_neg (fun w => h (e.mp w)), if_neg h]; rfl
          refine S_top hmx ?_
          refine S_istore (q := 81) [_, _, _, _, _] hX dX11_hide_79 rfl (Nat.le_of_ble_eq_true rfl) rfl rfl ?_
          exact l81 c5 c13 ⟨by omega, by omega⟩ 7 _ _ (spl (spl γ (138 + 7 * 0) 7 g1) (138 + 7 * 2) 7 g2) (by split <;> omega) (by split <;> omega) (by split <;> omega) (fun j hj => by rw [spl_out (by omega), spl_out (by omega)]) (hfd1.sp.ext (fun j hj => spl_out (by omega))) hfd2.sp (fun n' v' q1 q2 q3 => hid_few (by split at q2 <;> omega)) hM hF
        · have k22 := c22
          rw [le_i, show ((5 : Int32)).toInt = 5 by decide] at k22
          refine S_aload_n (q := 26) hX dX11_hide_25 rfl rfl ?_
          refine S_bipush (q := 28) (v := (-2)) hX dX11_hide_26 bp_m2 rfl ?_
          refine S_bipush (q := 30) (v := (-10)) hX dX11_hide_28 bp_m10 rfl ?_
          refine S_callV (ci := 11) (C := "FanTalk") (T := TX11) (N := 11) (q := 33) 0 0 hX (c_X11_refused q γ _ _ 0 (by decide)) rfl ?hs_21 rfl u_323 u_325 us_0 u_1 u_326 ⟨by decide, by decide, rfl⟩ ⟨Nat.le_of_ble_eq_true rfl, Nat.le_of_ble_eq_true rfl⟩ ⟨Nat.le_of_ble_eq_true rfl, Nat.le_of_ble_eq_true rfl⟩ (Nat.le_of_ble_eq_true rfl) dX11_hide_30 ?hp_21 rfl rfl rfl ?_
          case hs_21 => first | with_reducible assumption | exact ⟨_, FK.c0 hM⟩ | exact ⟨_, FK.c2 hM⟩ | exact ⟨_, FK.c7 hM⟩ | exact ⟨_, FK.c129 hM⟩ | exact ⟨_, FK.c173 hM⟩ | exact ⟨_, FK.c1 hM⟩
          case hp_21 => exact ⟨hM, by decide⟩
          rintro v σ sz1 ⟨μ9, hM, hF1, rfl, e9, rfl⟩
          have hF := hF.trans hF1
          refine S_iret hX dX11_hide_33 (Nat.zero_le _) (Nat.zero_le _) ?_
          refine hP _ _ _ ?_
          exact ⟨_, hM, hF, ⟨_, rfl, Or.inl ⟨Or.inr (Or.inr (fun w => by have := w.1; have := w.2; omega)), rfl, hR.rf ok e9⟩⟩, rfl⟩
