theorem Fr.at {lo hi a : Nat} {σ σ1 : Sg} (h : Fr lo hi σ σ1) (ha : a < lo ∨ hi ≤ a) : σ1 a = σ a := h a ha
theorem c_X3_listen (q : Nat) (f : MF) (kd : Nat) (a N n : Nat) (x : Int32) (g0 : Nat → Int32) (w : Nat → Nat) (C : CodT) (hx : x = nI n) : CT_X3_listen [.ref q, .ref a, .int x] (fun Γ σ sz => RK σ q kd f ∧ kd < 5 ∧ FdC f C ∧ CodOk C ∧ n ≤ 60 ∧ n ≤ N ∧ N ≤ 100 ∧ σ a = some (ia N g0) ∧ (a < q ∨ q + 7 ≤ a) ∧ ∀ i, i < n → g0 i = nI (w i) ∧ w i < 12) (fun Γ σ sz v σ' sz' => ∃ f', RK σ' q kd f' ∧ Fr q (q + 7) σ σ' ∧ v = none ∧ (LisP f' kd C w n) ∧ sz' = sz) := by
  refine CT.mkP rfl (Nat.le_of_ble_eq_true rfl) [_, _, _, _, _, _, _] rfl ?_
  intro X Γ σ sz P hX hpre hsz hP
  obtain ⟨hM, hkd, hfd, hok, hn, hnN, hN1, ha, hdis, hg0⟩ := hpre
  subst hx
  obtain ⟨σ0, eσ0⟩ : ∃ z, z = σ := ⟨σ, rfl⟩
  rw [← eσ0] at hP
  have hF : Fr q (q + 7) σ0 σ := by rw [eσ0]; exact Fr.rf
  have hci := cik_F kd
  have ha0 : σ0 a = some (ia N g0) := by rw [eσ0]; exact ha
  have hmn : (if (if nI 60 < nI N then nI 60 else nI N) < nI n then (if nI 60 < nI N then nI 60 else nI N) else nI n) = nI n := if_neg (by split <;> (rw [nI_ltI (by omega) (by omega)]; omega))
  obtain ⟨v, ev⟩ : ∃ z : Nat → Int32, z = fun b => vw kd (w b) b := ⟨_, rfl⟩
  obtain ⟨LL, eLL⟩ : ∃ z, z = rdK kd w n C := ⟨_, rfl⟩
  have eLL2 : LL = rdL (srt kd) v n C (n + 1) 0 := by rw [eLL, ev]; rfl
  have l63 : ∀ (g : Nat → Int32), (∀ i, i < n → g i = v i) → ∀ (fl b bh pp f2 : Nat) (dn : List Nat) (lk : Nat) (lf : Nat → Nat) (σ : Sg) (μ : MF) (x6 : Option Value), b ≤ n → bh ≤ n → pp = max b bh → n - b < fl → n - pp < f2 → dn.length ≤ pp → lk ≤ n → LM f g μ dn lk lf → (∀ v' : Nat → Int32, (∀ i, i < lk → v' i = v i) → rdL (srt kd) v' n C (n + 1) 0 = dn ++ rdL (srt kd) v' n C f2 pp) → (∀ j, j < dn.length → lf j ≤ n ∧ ∀ v' : Nat → Int32, (∀ i, i < lf j → v' i = v i) → ∃ rest, rdL (srt kd) v' n C (n + 1) 0 = dn.take (j + 1) ++ rest) → RK σ q kd μ → Fr q (q + 7) σ0 σ → G X Γ P 0 0 63 [some (.ref q), some (.ref a), some (.int (nI n)), some (.int (nI n)), some (.int (nI bh)), some (.int (nI b)), x6] [] σ sz := by
    intro g hg fl
    induction fl with
      | zero => intro b bh pp f2 dn lk lf σ μ x6 h1 h2 h3 h4; omega
      | succ fl ih =>
        intro b bh pp f2 dn lk lf σ μ x6 hbn hbh hpp hfu hf2 hdl hlkn hLM hD hJ hM hF
        refine S_iload (q := 65) hX dX3_listen_63 rfl rfl ?_
        refine S_iload_n (q := 66) hX dX3_listen_65 rfl rfl ?_
        refine S_icmp_ge (q := 69) 152 hX dX3_listen_66 rfl rfl (fun c66 => ?_) (fun c66 => ?_)
        · have hge : ¬ pp < n := by rw [nI_leI (by omega) (by omega)] at c66; omega
          obtain ⟨f3, rfl⟩ : ∃ f3, f2 = f3 + 1 := ⟨f2 - 1, by omega⟩
          refine S_vret hX dX3_listen_152 (Nat.zero_le _) (Nat.zero_le _) ?_
          refine hP _ _ _ ?_
          have hvv : ∀ (w' : Nat → Nat) (m : Nat), (∀ i, i < m → w' i = w i) → ∀ i, i < m → (fun b => vw kd (w' b) b) i = v i := fun w' m h i hi => by rw [ev]; show vw kd (w' i) i = vw kd (w i) i; rw [h i hi]
          have hend : ∀ v' : Nat → Int32, (∀ i, i < lk → v' i = v i) → rdL (srt kd) v' n C (n + 1) 0 = dn := fun v' hv' => by rw [hD v' hv', rdL, if_neg hge, List.append_nil]
          have hdn : dn = rdK kd w n C := by rw [← eLL, eLL2]; exact (hend v (fun _ _ => rfl)).symm
          have hF7 := hLM.fd hfd
          obtain ⟨l1, l2, l3, l4, l5, l6, l7, l8, l9⟩ := hLM
          rw [hdn] at l2 l8 l9 hJ
          refine ⟨_, hM, hF, rfl, ⟨hF7, lk, lf, l1, hlkn, l2, l8, fun j hj => ⟨l9 j hj, (hJ j hj).1⟩, fun w' hw' => ?_, fun j hj w' hw' => ?_⟩, rfl⟩
          · rw [← hdn]
            exact hend _ (hvv w' lk hw')
          · exact (hJ j hj).2 _ (hvv w' (lf j) hw')
        · have hlt : b < n := by rw [nI_leI (by omega) (by omega)] at c66; omega
          refine S_iload (q := 71) hX dX3_listen_69 rfl rfl ?_
          refine S_iload (q := 73) hX dX3_listen_71 rfl rfl ?_
          refine S_icmp_ge (q := 76) 80 hX dX3_listen_73 rfl rfl (fun c73 => ?_) (fun c73 => ?_)
          · have hpb : pp = b := by rw [nI_leI (by omega) (by omega)] at c73; omega
            have hbb : bh ≤ b := by omega
            rw [hpb] at hD hf2 hdl
            obtain ⟨f3, rfl⟩ : ∃ f3, f2 = f3 + 1 := ⟨f2 - 1, by omega⟩
            refine S_aload_n (q := 81) hX dX3_listen_80 rfl rfl ?_
            refine S_iload (q := 83) hX dX3_listen_81 rfl rfl ?_
            refine S_iload_n (q := 84) hX dX3_listen_83 rfl rfl ?_
            refine S_callK (q := 87) 0 0 (hkd) hX (c_X3_choice q μ kd b n lk _ _ v C rfl rfl) rfl ?hs_1 u_567 u_1105 u_569 u_6 u_570 us_14 uz_2 uz_1 uz_3 uz_0 ⟨by decide, by decide, rfl⟩ ⟨Nat.le_of_ble_eq_true rfl, Nat.le_of_ble_eq_true rfl⟩ ⟨Nat.le_of_ble_eq_true rfl, Nat.le_of_ble_eq_true rfl⟩ (Nat.le_of_ble_eq_true rfl) dX3_listen_84 ?hp_1 rfl rfl rfl ?_
            case hs_1 => first | with_reducible assumption | exact ⟨_, RK.c0 hM⟩
            case hp_1 => exact ⟨hM, hkd, hLM.fd hfd, hok, hlt, hn, fun i hi => by rw [hLM.2.2.2.1]; exact hg i hi, hLM.1, hlkn⟩
            rintro v_ σ sz1 ⟨μ1, hM, hF1, ⟨xb, rfl, hbe⟩, ⟨lk1, eμ1, g1, g2, gd⟩, rfl⟩
            have hF := hF.trans hF1
            refine S_istore (q := 89) [_, _, _, _, _, _, _] hX dX3_listen_87 rfl (Nat.le_of_ble_eq_true rfl) rfl rfl ?_
            refine S_iload (q := 91) hX dX3_listen_89 rfl rfl ?_
            refine S_iconst (q := 92) (v := (-1)) hX dX3_listen_91 ic_m1 rfl ?_
            refine S_icmp_eq (q := 95) 146 hX dX3_listen_92 rfl rfl (fun c92 => ?_) (fun c92 => ?_)
            · have hch0 : (chI (srt kd) v n b C.2 C.1).1 = 0 := by
                rcases hbe with z | ⟨e, e1, e2, e3⟩
                · exact z.2
                · exact absurd (e2.symm.trans c92) (m1n (by have := hok.1; omega))
              refine S_iinc (q := 149) [_, _, _, _, _, _, _] hX dX3_listen_146 rfl (ii_1 _) rfl (Nat.le_of_ble_eq_true rfl) rfl rfl ?_
              refine S_goto 63 hX dX3_listen_149 rfl ?_
              rw [nI_1]
              refine ih (b + 1) bh (b + 1) f3 dn lk1 lf _ μ1 _ (by omega) hbh (by omega) (by omega) (by omega) (by omega) g2 (hLM.lk eμ1) (fun v' hv' => ?_) hJ hM hF
              rw [hD v' (fun i hi => hv' i (by omega)), rdL, if_pos hlt, gd v' hv', hch0, if_neg (Nat.lt_irrefl 0)]
            · obtain ⟨e, he, exb, hche⟩ : ∃ e, e < C.1 ∧ xb = nI e ∧ chI (srt kd) v n b C.2 C.1 = (ln (C.2 e).1, (C.2 e).2) := by
                rcases hbe with z | z
                · exact absurd z.1 c92
                · exact z
              subst exb
              have hoe := hok.2 e he
              have h8 := hok.1
              have hLM1 := hLM.lk eμ1
              have a0 := hLM1.1
              have a1 := hLM1.2.1
              have hfe := (hLM1.fd hfd).2 e he
              have hcl := chI_le (sh := srt kd) (v := v) (n := n) (b := b) hok C.1 (Nat.le_refl _)
              rw [hche] at hcl
              refine S_aload_n (q := 96) hX dX3_listen_95 rfl rfl ?_
              refine S_getf (fs := ?fs_2) (v := ?v_2) (q := 99) hX u_174 (fo_F_words hci) dX3_listen_96 ?hs_2 ?hv_2 rfl ?_
              case hs_2 => with_reducible first | exact RK.c0 hM | exact RK.c3 hM | exact RK.c1 hM | exact RK.c2 hM | exact RK.c4 hM | exact RK.c5 hM | exact RK.c6 hM | (refine (Fr.at hF hdis).trans ?_; assumption)
              case hv_2 => rfl
              refine S_aload_n (q := 100) hX dX3_listen_99 rfl rfl ?_
              refine S_getf (fs := ?fs_3) (v := ?v_3) (q := 103) hX u_180 (fo_F_heard hci) dX3_listen_100 ?hs_3 ?hv_3 rfl ?_
              case hs_3 => with_reducible first | exact RK.c0 hM | exact RK.c3 hM | exact RK.c1 hM | exact RK.c2 hM | exact RK.c4 hM | exact RK.c5 hM | exact RK.c6 hM | (refine (Fr.at hF hdis).trans ?_; assumption)
              case hv_3 => rfl
              refine S_aload_n (q := 104) hX dX3_listen_103 rfl rfl ?_
              refine S_getf (fs := ?fs_4) (v := ?v_4) (q := 107) hX u_183 (fo_F_meanings hci) dX3_listen_104 ?hs_4 ?hv_4 rfl ?_
              case hs_4 => with_reducible first | exact RK.c0 hM | exact RK.c3 hM | exact RK.c1 hM | exact RK.c2 hM | exact RK.c4 hM | exact RK.c5 hM | exact RK.c6 hM | (refine (Fr.at hF hdis).trans ?_; assumption)
              case hv_4 => rfl
              refine S_iload (q := 109) hX dX3_listen_107 rfl rfl ?_
              refine S_iald (N := ?n_5) (f := ?f_5) (q := 110) hX dX3_listen_109 ?hs_5 ?hi_5 rfl ?_
              case hs_5 => with_reducible first | exact RK.c0 hM | exact RK.c3 hM | exact RK.c1 hM | exact RK.c2 hM | exact RK.c4 hM | exact RK.c5 hM | exact RK.c6 hM | (refine (Fr.at hF hdis).trans ?_; assumption)
              case hi_5 => exact vp_in_nI (by omega) (by decide)
              refine S_nm (fun x110 hx110 => ?_)
              refine S_iast (N := ?n_6) (f := ?f_6) (q := 111) hX dX3_listen_110 ?hs_6 ?hi_6 rfl ?_
              case hs_6 => with_reducible first | exact RK.c0 hM | exact RK.c3 hM | exact RK.c1 hM | exact RK.c2 hM | exact RK.c4 hM | exact RK.c5 hM | exact RK.c6 hM | (refine (Fr.at hF hdis).trans ?_; assumption)
              case hi_6 => rw [a1]; exact vp_in_nI (by omega) (by decide)
              refine S_stu (q0 := q) (j := 1) (i := _) hM hF (by decide) rfl (fun σ μ110 e110 hM hF => ?_)
              subst hx110
              have e110x : μ110 = m2 μ1 1 dn.length (nI (C.2 e).2) := by rw [e110, a1, nI_clamp (by omega), nI_clamp (by omega), hfe.1]
              have b1 : μ110 0 1 = nI dn.length := by rw [e110x, m2_o (by decide)]; exact a1
              have b0 : μ110 0 0 = nI lk1 - 1 := by rw [e110x, m2_o (by decide)]; exact a0
              refine S_aload_n (q := 112) hX dX3_listen_111 rfl rfl ?_
              refine S_getf (fs := ?fs_7) (v := ?v_7) (q := 115) hX u_176 (fo_F_lookedFor hci) dX3_listen_112 ?hs_7 ?hv_7 rfl ?_
              case hs_7 => with_reducible first | exact RK.c0 hM | exact RK.c3 hM | exact RK.c1 hM | exact RK.c2 hM | exact RK.c4 hM | exact RK.c5 hM | exact RK.c6 hM | (refine (Fr.at hF hdis).trans ?_; assumption)
              case hv_7 => rfl
              refine S_aload_n (q := 116) hX dX3_listen_115 rfl rfl ?_
              refine S_getf (fs := ?fs_8) (v := ?v_8) (q := 119) hX u_180 (fo_F_heard hci) dX3_listen_116 ?hs_8 ?hv_8 rfl ?_
              case hs_8 => with_reducible first | exact RK.c0 hM | exact RK.c3 hM | exact RK.c1 hM | exact RK.c2 hM | exact RK.c4 hM | exact RK.c5 hM | exact RK.c6 hM | (refine (Fr.at hF hdis).trans ?_; assumption)
              case hv_8 => rfl
              refine S_aload_n (q := 120) hX dX3_listen_119 rfl rfl ?_
              refine S_getf (fs := ?fs_9) (v := ?v_9) (q := 123) hX u_178 (fo_F_looked hci) dX3_listen_120 ?hs_9 ?hv_9 rfl ?_
              case hs_9 => with_reducible first | exact RK.c0 hM | exact RK.c3 hM | exact RK.c1 hM | exact RK.c2 hM | exact RK.c4 hM | exact RK.c5 hM | exact RK.c6 hM | (refine (Fr.at hF hdis).trans ?_; assumption)
              case hv_9 => rfl
              refine S_nm (fun x123 hx123 => ?_)
              refine S_iast (N := ?n_10) (f := ?f_10) (q := 124) hX dX3_listen_123 ?hs_10 ?hi_10 rfl ?_
              case hs_10 => with_reducible first | exact RK.c0 hM | exact RK.c3 hM | exact RK.c1 hM | exact RK.c2 hM | exact RK.c4 hM | exact RK.c5 hM | exact RK.c6 hM | (refine (Fr.at hF hdis).trans ?_; assumption)
              case hi_10 => rw [b1]; exact vp_in_nI (by omega) (by decide)
              refine S_stu (q0 := q) (j := 2) (i := _) hM hF (by decide) rfl (fun σ μ123 e123 hM hF => ?_)
              subst hx123
              have e123x : μ123 = m2 μ110 2 dn.length (nI lk1 - 1) := by rw [e123, b1, b0, nI_clamp (by omega)]
              have d1 : μ123 0 1 = nI dn.length := by rw [e123x, m2_o (by decide)]; exact b1
              refine S_aload_n (q := 125) hX dX3_listen_124 rfl rfl ?_
              refine S_dup (q := 126) hX dX3_listen_125 rfl rfl ?_
              refine S_getf (fs := ?fs_11) (v := ?v_11) (q := 129) hX u_180 (fo_F_heard hci) dX3_listen_126 ?hs_11 ?hv_11 rfl ?_
              case hs_11 => with_reducible first | exact RK.c0 hM | exact RK.c3 hM | exact RK.c1 hM | exact RK.c2 hM | exact RK.c4 hM | exact RK.c5 hM | exact RK.c6 hM | (refine (Fr.at hF hdis).trans ?_; assumption)
              case hv_11 => rfl
              refine S_iconst (q := 130) (v := 1) hX dX3_listen_129 ic_1 rfl ?_
              refine S_iadd (q := 131) hX dX3_listen_130 rfl ?_
              refine S_nm (fun x131 hx131 => ?_)
              refine S_putf (fs := ?fs_12) (q := 134) hX u_180 (fo_F_heard hci) rfl rfl ?hl_12 dX3_listen_131 ?hs_12 rfl ?_
              case hs_12 => with_reducible first | exact RK.c0 hM | exact RK.c3 hM | exact RK.c1 hM | exact RK.c2 hM | exact RK.c4 hM | exact RK.c5 hM | exact RK.c6 hM | (refine (Fr.at hF hdis).trans ?_; assumption)
              case hl_12 => exact Nat.le_of_ble_eq_true rfl
              refine S_stu (q0 := q) (j := 0) (i := 1) hM hF (by decide) rfl (fun σ μ131 e131 hM hF => ?_)
              subst hx131
              have e131x : μ131 = m2 (m2 (m2 μ1 1 dn.length (nI (C.2 e).2)) 2 dn.length (nI lk1 - 1)) 0 1 (nI (dn.length + 1)) := by rw [e131, d1, nI_1, e123x, e110x]
              have hl5 : μ131 5 (nI e).toNatClampNeg = nI (ln (C.2 e).1) := by rw [e131x, m2_o (by decide), m2_o (by decide), m2_o (by decide), nI_clamp (by omega)]; exact hfe.2.1
              refine S_iload (q := 136) hX dX3_listen_134 rfl rfl ?_
              refine S_aload_n (q := 137) hX dX3_listen_136 rfl rfl ?_
              refine S_getf (fs := ?fs_13) (v := ?v_13) (q := 140) hX u_184 (fo_F_lengths hci) dX3_listen_137 ?hs_13 ?hv_13 rfl ?_
              case hs_13 => with_reducible first | exact RK.c0 hM | exact RK.c3 hM | exact RK.c1 hM | exact RK.c2 hM | exact RK.c4 hM | exact RK.c5 hM | exact RK.c6 hM | (refine (Fr.at hF hdis).trans ?_; assumption)
              case hv_13 => rfl
              refine S_iload (q := 142) hX dX3_listen_140 rfl rfl ?_
              refine S_iald (N := ?n_14) (f := ?f_14) (q := 143) hX dX3_listen_142 ?hs_14 ?hi_14 rfl ?_
              case hs_14 => with_reducible first | exact RK.c0 hM | exact RK.c3 hM | exact RK.c1 hM | exact RK.c2 hM | exact RK.c4 hM | exact RK.c5 hM | exact RK.c6 hM | (refine (Fr.at hF hdis).trans ?_; assumption)
              case hi_14 => exact vp_in_nI (by omega) (by decide)
              refine S_iadd (q := 144) hX dX3_listen_143 rfl ?_
              refine S_top (y := nI (b + ln (C.2 e).1)) (by rw [hl5, nI_add]) ?_
              refine S_istore (q := 146) [_, _, _, _, _, _, _] hX dX3_listen_144 rfl (Nat.le_of_ble_eq_true rfl) rfl rfl ?_
              refine S_iinc (q := 149) [_, _, _, _, _, _, _] hX dX3_listen_146 rfl (ii_1 _) rfl (Nat.le_of_ble_eq_true rfl) rfl rfl ?_
              refine S_goto 63 hX dX3_listen_149 rfl ?_
              rw [nI_1]
              have hstep : ∀ v' : Nat → Int32, (∀ i, i < lk1 → v' i = v i) → rdL (srt kd) v' n C (n + 1) 0 = (dn ++ [(C.2 e).2]) ++ rdL (srt kd) v' n C f3 (b + ln (C.2 e).1) := fun v' hv' => by
                rw [hD v' (fun i hi => hv' i (by omega)), rdL, if_pos hlt, gd v' hv', hche, if_pos (by show 0 < ln (C.2 e).1; omega), List.append_assoc, List.singleton_append]
              have hcl2 : b + ln (C.2 e).1 ≤ n := by rcases hcl.2.1 with z | z; have z : ln (C.2 e).1 = 0 := z; omega; exact z
              refine ih (b + 1) (b + ln (C.2 e).1) (b + ln (C.2 e).1) f3 (dn ++ [(C.2 e).2]) lk1 (fu lf dn.length lk1) _ μ131 _ (by omega) hcl2 (by omega) (by omega) (by omega) (by rw [List.length_append, List.length_singleton]; omega) g2 (hLM1.push e131x) hstep (fun j hj => ?_) hM hF
              rw [List.length_append, List.length_singleton] at hj
              by_cases hjd : j = dn.length
              · rw [hjd, fu_eq]
                refine ⟨g2, fun v' hv' => ⟨rdL (srt kd) v' n C f3 (b + ln (C.2 e).1), ?_⟩⟩
                rw [List.take_of_length_le (by rw [List.length_append, List.length_singleton]; omega)]
                exact hstep v' hv'
              · rw [fu_ne hjd]
                have := hJ j (by omega)
                refine ⟨this.1, fun v' hv' => ?_⟩
                rw [List.take_append_of_le_length (by omega)]
                exact this.2 v' hv'
          · have hpb : b < bh := by rw [nI_leI (by omega) (by omega)] at c73; omega
            refine S_iconst (q := 77) (v := (-1)) hX dX3_listen_76 ic_m1 rfl ?_
            refine S_goto 87 hX dX3_listen_77 rfl ?_
            refine S_istore (q := 89) [_, _, _, _, _, _, _] hX dX3_listen_87 rfl (Nat.le_of_ble_eq_true rfl) rfl rfl ?_
            refine S_iload (q := 91) hX dX3_listen_89 rfl rfl ?_
            refine S_iconst (q := 92) (v := (-1)) hX dX3_listen_91 ic_m1 rfl ?_
            refine S_icmp_eq (q := 95) 146 hX dX3_listen_92 rfl rfl (fun c92 => ?_) (fun c92 => absurd rfl c92)
            refine S_iinc (q := 149) [_, _, _, _, _, _, _] hX dX3_listen_146 rfl (ii_1 _) rfl (Nat.le_of_ble_eq_true rfl) rfl rfl ?_
            refine S_goto 63 hX dX3_listen_149 rfl ?_
            rw [nI_1]
            exact ih (b + 1) bh pp f2 dn lk lf _ μ _ (by omega) hbh (by omega) (by omega) hf2 hdl hlkn hLM hD hJ hM hF
  have l18 : ∀ (fl : Nat) (k : Nat) (g : Nat → Int32) (σ : Sg), k ≤ n → n - k < fl → (∀ i, i < k → g i = v i) → RK σ q kd (m1 f 3 g) → Fr q (q + 7) σ0 σ → G X Γ P 0 0 18 [some (.ref q), some (.ref a), some (.int (nI n)), some (.int (nI n)), some (.int (nI k)), none, none] [] σ sz := by
    intro fl
    induction fl with
    | zero =>
      rintro k g σ hk hfu hg hM hF
      exact absurd hfu (Nat.not_lt_zero _)
    | succ fl ih =>
      rintro k g σ hk hfu hg hM hF
      refine S_iload (q := 20) hX dX3_listen_18 rfl rfl ?_
      refine S_iload_n (q := 21) hX dX3_listen_20 rfl rfl ?_
      refine S_icmp_ge (q := 24) 47 hX dX3_listen_21 rfl rfl (fun c21 => ?_) (fun c21 => ?_)
      · have hge : k = n := by rw [nI_leI (by omega) (by omega)] at c21; omega
        refine S_aload_n (q := 48) hX dX3_listen_47 rfl rfl ?_
        refine S_iconst (q := 49) (v := (-1)) hX dX3_listen_48 ic_m1 rfl ?_
        refine S_nm (fun x49 hx49 => ?_)
        refine S_putf (fs := ?fs_15) (q := 52) hX u_178 (fo_F_looked hci) rfl rfl ?hl_15 dX3_listen_49 ?hs_15 rfl ?_
        case hs_15 => with_reducible first | exact RK.c0 hM | exact RK.c3 hM | exact RK.c1 hM | exact RK.c2 hM | exact RK.c4 hM | exact RK.c5 hM | exact RK.c6 hM | (refine (Fr.at hF hdis).trans ?_; assumption)
        case hl_15 => exact Nat.le_of_ble_eq_true rfl
        refine S_stu (q0 := q) (j := 0) (i := 0) hM hF (by decide) rfl (fun σ μ49 e49 hM hF => ?_)
        subst hx49
        refine S_aload_n (q := 53) hX dX3_listen_52 rfl rfl ?_
        refine S_iconst (q := 54) (v := 0) hX dX3_listen_53 ic_0 rfl ?_
        refine S_nm (fun x54 hx54 => ?_)
        refine S_putf (fs := ?fs_16) (q := 57) hX u_180 (fo_F_heard hci) rfl rfl ?hl_16 dX3_listen_54 ?hs_16 rfl ?_
        case hs_16 => with_reducible first | exact RK.c0 hM | exact RK.c3 hM | exact RK.c1 hM | exact RK.c2 hM | exact RK.c4 hM | exact RK.c5 hM | exact RK.c6 hM | (refine (Fr.at hF hdis).trans ?_; assumption)
        case hl_16 => exact Nat.le_of_ble_eq_true rfl
        refine S_stu (q0 := q) (j := 0) (i := 1) hM hF (by decide) rfl (fun σ μ54 e54 hM hF => ?_)
        subst hx54
        refine S_iconst (q := 58) (v := 0) hX dX3_listen_57 ic_0 rfl ?_
        refine S_istore (q := 60) [_, _, _, _, _, _, _] hX dX3_listen_58 rfl (Nat.le_of_ble_eq_true rfl) rfl rfl ?_
        refine S_iconst (q := 61) (v := 0) hX dX3_listen_60 ic_0 rfl ?_
        refine S_istore (q := 63) [_, _, _, _, _, _, _] hX dX3_listen_61 rfl (Nat.le_of_ble_eq_true rfl) rfl rfl ?_
        have hlm : LM f g μ54 [] 0 (fun _ => 0) := by
          have o : ∀ j, j ≠ 0 → μ54 j = m1 f 3 g j := fun j hj => by rw [e54, m2_o hj, e49, m2_o hj]
          exact ⟨by rw [e54, m2_00, if_neg (by decide), e49, m2_00, if_pos rfl]; rfl, by rw [e54, m2_00, if_pos rfl]; rfl, by rw [e54, m2_00, if_neg (by decide), e49, m2_00, if_neg (by decide), m1_ne (by decide)], (o 3 (by decide)).trans (m1_eq _ _ _), (o 4 (by decide)).trans (m1_ne (by decide)), (o 5 (by decide)).trans (m1_ne (by decide)), (o 6 (by decide)).trans (m1_ne (by decide)), WL.nil, fun j hj => absurd hj (Nat.not_lt_zero _)⟩
        exact l63 g (fun i hi => hg i (by omega)) (n + 1) 0 0 0 (n + 1) [] 0 (fun _ => 0) _ μ54 _ (Nat.zero_le _) (Nat.zero_le _) rfl (by omega) (by omega) (Nat.zero_le _) (Nat.zero_le _) hlm (fun v' _ => by rw [List.nil_append]) (fun j hj => absurd hj (Nat.not_lt_zero _)) hM hF
      · have hlt : k < n := by rw [nI_leI (by omega) (by omega)] at c21; omega
        have hgk : g0 (nI k).toNatClampNeg = nI (w k) := by rw [nI_clamp (by omega)]; exact (hg0 k hlt).1
        have hw12 := (hg0 k hlt).2
        refine S_aload_n (q := 25) hX dX3_listen_24 rfl rfl ?_
        refine S_getf (fs := ?fs_17) (v := ?v_17) (q := 28) hX u_182 (fo_F_seen hci) dX3_listen_25 ?hs_17 ?hv_17 rfl ?_
        case hs_17 => with_reducible first | exact RK.c0 hM | exact RK.c3 hM | exact RK.c1 hM | exact RK.c2 hM | exact RK.c4 hM | exact RK.c5 hM | exact RK.c6 hM | (refine (Fr.at hF hdis).trans ?_; assumption)
        case hv_17 => rfl
        refine S_iload (q := 30) hX dX3_listen_28 rfl rfl ?_
        refine S_aload_n (q := 31) hX dX3_listen_30 rfl rfl ?_
        refine S_aload_n (q := 32) hX dX3_listen_31 rfl rfl ?_
        refine S_iload (q := 34) hX dX3_listen_32 rfl rfl ?_
        refine S_iald (N := ?n_18) (f := ?f_18) (q := 35) hX dX3_listen_34 ?hs_18 ?hi_18 rfl ?_
        case hs_18 => with_reducible first | exact RK.c0 hM | exact RK.c3 hM | exact RK.c1 hM | exact RK.c2 hM | exact RK.c4 hM | exact RK.c5 hM | exact RK.c6 hM | (refine (Fr.at hF hdis).trans ?_; assumption)
        case hi_18 => exact vp_in_nI (by omega) (by omega)
        refine S_iload (q := 37) hX dX3_listen_35 rfl rfl ?_
        refine sp_see (s := w k) (b := k) hgk rfl hw12 (by omega) hkd hX ⟨_, RK.c0 hM⟩ (Nat.le_of_ble_eq_true rfl) ?_
        refine S_nm (fun x40 hx40 => ?_)
        refine S_iast (N := ?n_19) (f := ?f_19) (q := 41) hX dX3_listen_40 ?hs_19 ?hi_19 rfl ?_
        case hs_19 => with_reducible first | exact RK.c0 hM | exact RK.c3 hM | exact RK.c1 hM | exact RK.c2 hM | exact RK.c4 hM | exact RK.c5 hM | exact RK.c6 hM | (refine (Fr.at hF hdis).trans ?_; assumption)
        case hi_19 => exact vp_in_nI (by omega) (by decide)
        refine S_stu (q0 := q) (j := 3) (i := _) hM hF (by decide) rfl (fun σ μ40 e40 hM hF => ?_)
        subst hx40
        refine S_iinc (q := 44) [_, _, _, _, _, _, _] hX dX3_listen_41 rfl (ii_1 _) rfl (Nat.le_of_ble_eq_true rfl) rfl rfl ?_
        refine S_goto 18 hX dX3_listen_44 rfl ?_
        rw [nI_clamp (by omega), m2_m1] at e40
        rw [e40] at hM
        rw [nI_1]
        exact ih (k + 1) _ _ hlt (by omega) (fun i hi => by
          by_cases hik : i = k
          · rw [hik, upd_eq, ev]
          · rw [upd_ne hik]; exact hg i (by omega)) hM hF
  refine S_iload_n (q := 1) hX dX3_listen_0 rfl rfl ?_
  refine S_aload_n (q := 2) hX dX3_listen_1 rfl rfl ?_
  refine S_alen (t := ?t_20) (x := ?x_20) (q := 3) hX dX3_listen_2 ?ht_20 ?hs_20 rfl ?_
  case hs_20 => with_reducible first | exact RK.c0 hM | exact RK.c3 hM | exact RK.c1 hM | exact RK.c2 hM | exact RK.c4 hM | exact RK.c5 hM | exact RK.c6 hM | (refine (Fr.at hF hdis).trans ?_; assumption)
  case ht_20 => decide
  refine S_aload_n (q := 4) hX dX3_listen_3 rfl rfl ?_
  refine S_getf (fs := ?fs_21) (v := ?v_21) (q := 7) hX u_182 (fo_F_seen hci) dX3_listen_4 ?hs_21 ?hv_21 rfl ?_
  case hs_21 => with_reducible first | exact RK.c0 hM | exact RK.c3 hM | exact RK.c1 hM | exact RK.c2 hM | exact RK.c4 hM | exact RK.c5 hM | exact RK.c6 hM | (refine (Fr.at hF hdis).trans ?_; assumption)
  case hv_21 => rfl
  refine S_alen (t := ?t_22) (x := ?x_22) (q := 8) hX dX3_listen_7 ?ht_22 ?hs_22 rfl ?_
  case hs_22 => with_reducible first | exact RK.c0 hM | exact RK.c3 hM | exact RK.c1 hM | exact RK.c2 hM | exact RK.c4 hM | exact RK.c5 hM | exact RK.c6 hM | (refine (Fr.at hF hdis).trans ?_; assumption)
  case ht_22 => decide
  refine S_min (q := 11) hX u_545 u_546 u_19 u_547 (by decide) (Nat.le_of_ble_eq_true rfl) ⟨Nat.zero_le _, Nat.zero_le _⟩ dX3_listen_8 rfl ?_
  refine S_min (q := 14) hX u_545 u_546 u_19 u_547 (by decide) (Nat.le_of_ble_eq_true rfl) ⟨Nat.zero_le _, Nat.zero_le _⟩ dX3_listen_11 rfl ?_
  refine S_top hmn ?_
  refine S_istore_n (q := 15) [_, _, _, _, _, _, _] hX dX3_listen_14 rfl (Nat.le_of_ble_eq_true rfl) rfl rfl ?_
  refine S_iconst (q := 16) (v := 0) hX dX3_listen_15 ic_0 rfl ?_
  refine S_istore (q := 18) [_, _, _, _, _, _, _] hX dX3_listen_16 rfl (Nat.le_of_ble_eq_true rfl) rfl rfl ?_
  exact l18 (n + 1) 0 (f 3) σ (Nat.zero_le _) (by omega) (fun i hi => absurd hi (Nat.not_lt_zero _)) (by rw [m1_id f 3 rfl]; exact hM) hF
abbrev shC (q : Nat) : SH := fun j f => match j with
  | 0 => .inr (2, [.int (f 0), .ref (q + 1), .ref (q + 2), .ref (q + 3), .ref (q + 4)])
  | 1 => ia 3 f
  | 2 => ia 24 f
  | 3 => ia 24 f
  | _ => ia 10 f
abbrev CK (σ : Sg) (q : Nat) (f : MF) : Prop := CL σ q 5 (shC q) f
theorem CK.c0 {σ : Sg} {q : Nat} {f : MF} (h : CK σ q f) : σ q = some (.inr (2, [.int (f 0 0), .ref (q + 1), .ref (q + 2), .ref (q + 3), .ref (q + 4)])) := h 0 (by decide)
theorem CK.c1 {σ : Sg} {q : Nat} {f : MF} (h : CK σ q f) : σ (q + 1) = some (ia 3 (f 1)) := h 1 (by decide)
theorem CK.c2 {σ : Sg} {q : Nat} {f : MF} (h : CK σ q f) : σ (q + 2) = some (ia 24 (f 2)) := h 2 (by decide)
theorem CK.c3 {σ : Sg} {q : Nat} {f : MF} (h : CK σ q f) : σ (q + 3) = some (ia 24 (f 3)) := h 3 (by decide)
theorem CK.c4 {σ : Sg} {q : Nat} {f : MF} (h : CK σ q f) : σ (q + 4) = some (ia 10 (f 4)) := h 4 (by decide)
/-- what an object of codes holds of code c -/
def CCode (g : MF) (c : Nat) (C : CodT) : Prop := g 1 c = nI C.1 ∧ ∀ e, e < C.1 → g 2 (8 * c + e) = nI (C.2 e).1 ∧ g 3 (8 * c + e) = nI (C.2 e).2

theorem c_X3_learn (q : Nat) (f : MF) (kd : Nat) (qc c : Nat) (x : Int32) (g : MF) (C : CodT) (hx : x = nI c) : CT_X3_learn [.ref q, .ref qc, .int x] (fun Γ σ sz => RK σ q kd f ∧ CK σ qc g ∧ (qc + 5 ≤ q ∨ q + 7 ≤ qc) ∧ c < 3 ∧ CodOk C ∧ CCode g c C) (fun Γ σ sz v σ' sz' => ∃ f', RK σ' q kd f' ∧ Fr q (q + 7) σ σ' ∧ v = none ∧ (FdC f' C) ∧ sz' = sz) := by
  refine CT.mkP rfl (Nat.le_of_ble_eq_true rfl) [_, _, _, _, _] rfl ?_
  intro X Γ σ sz P hX hpre hsz hP
  obtain ⟨hM, hC, hdis, hc3, hok, hcc⟩ := hpre
  subst hx
  obtain ⟨σ0, eσ0⟩ : ∃ z, z = σ := ⟨σ, rfl⟩
  rw [← eσ0] at hP
  have hF : Fr q (q + 7) σ0 σ := by rw [eσ0]; exact Fr.rf
  have hci := cik_F kd
  have hC0 : CK σ0 qc g := by rw [eσ0]; exact hC
  have h8 := hok.1
  have loop : ∀ (fl : Nat) (i : Nat) (σ : Sg) (μ : MF) (x4 : Option Value), i ≤ C.1 → C.1 - i < fl → (μ 0 2 = nI C.1 ∧ ∀ e, e < i → μ 4 e = nI (C.2 e).2 ∧ μ 5 e = nI (ln (C.2 e).1) ∧ ∀ k, k < ln (C.2 e).1 → μ 6 (3 * e + k) = nI (stN (C.2 e).1 (ln (C.2 e).1) k)) → RK σ q kd μ → Fr q (q + 7) σ0 σ → G X Γ P 0 0 12 [some (.ref q), some (.ref qc), some (.int (nI c)), some (.int (nI i)), x4] [] σ sz := by
    intro fl
    induction fl with
    | zero =>
      rintro i σ μ x4 hi hfu hfi hM hF
      exact absurd hfu (Nat.not_lt_zero _)
    | succ fl ih =>
      rintro i σ μ x4 hi hfu hfi hM hF
      refine S_iload_n (q := 13) hX dX3_learn_12 rfl rfl ?_
      refine S_aload_n (q := 14) hX dX3_learn_13 rfl rfl ?_
      refine S_getf (fs := ?fs_1) (v := ?v_1) (q := 17) hX u_186 (fo_F_entries hci) dX3_learn_14 ?hs_1 ?hv_1 rfl ?_
      case hs_1 => with_reducible first | exact RK.c0 hM | exact RK.c3 hM | exact RK.c1 hM | exact RK.c2 hM | exact RK.c4 hM | exact RK.c5 hM | exact RK.c6 hM | exact CK.c0 (hC0.fr hF hdis) | exact CK.c1 (hC0.fr hF hdis) | exact CK.c2 (hC0.fr hF hdis) | exact CK.c3 (hC0.fr hF hdis) | exact CK.c4 (hC0.fr hF hdis)
      case hv_1 => rfl
      refine S_icmp_ge (q := 20) 86 hX dX3_learn_17 rfl rfl (fun c17 => ?_) (fun c17 => ?_)
      · have hge : i = C.1 := by rw [hfi.1, nI_leI (by omega) (by omega)] at c17; omega
        subst hge
        refine S_vret hX dX3_learn_86 (Nat.zero_le _) (Nat.zero_le _) ?_
        refine hP _ _ _ ?_
        exact ⟨_, hM, hF, rfl, hfi, rfl⟩
      · have hlt : i < C.1 := by rw [hfi.1, nI_leI (by omega) (by omega)] at c17; omega
        have hce := hcc.2 i hlt
        have hoe := hok.2 i hlt
        have hix : nI c * 8 + nI i = nI (8 * c + i) := by rw [i8, pk_mul, nI_add, Nat.mul_comm]
        refine S_iload_n (q := 21) hX dX3_learn_20 rfl rfl ?_
        refine S_bipush (q := 23) (v := 8) hX dX3_learn_21 bp_8 rfl ?_
        refine S_imul (q := 24) hX dX3_learn_23 rfl ?_
        refine S_iload_n (q := 25) hX dX3_learn_24 rfl rfl ?_
        refine S_iadd (q := 26) hX dX3_learn_25 rfl ?_
        refine S_istore (q := 28) [_, _, _, _, _] hX dX3_learn_26 rfl (Nat.le_of_ble_eq_true rfl) rfl rfl ?_
        refine S_aload_n (q := 29) hX dX3_learn_28 rfl rfl ?_
        refine S_getf (fs := ?fs_2) (v := ?v_2) (q := 32) hX u_183 (fo_F_meanings hci) dX3_learn_29 ?hs_2 ?hv_2 rfl ?_
        case hs_2 => with_reducible first | exact RK.c0 hM | exact RK.c3 hM | exact RK.c1 hM | exact RK.c2 hM | exact RK.c4 hM | exact RK.c5 hM | exact RK.c6 hM | exact CK.c0 (hC0.fr hF hdis) | exact CK.c1 (hC0.fr hF hdis) | exact CK.c2 (hC0.fr hF hdis) | exact CK.c3 (hC0.fr hF hdis) | exact CK.c4 (hC0.fr hF hdis)
        case hv_2 => rfl
        refine S_iload_n (q := 33) hX dX3_learn_32 rfl rfl ?_
        refine S_aload_n (q := 34) hX dX3_learn_33 rfl rfl ?_
        refine S_getf (fs := ?fs_3) (v := ?v_3) (q := 37) hX u_51 fo_X2_words dX3_learn_34 ?hs_3 ?hv_3 rfl ?_
        case hs_3 => with_reducible first | exact RK.c0 hM | exact RK.c3 hM | exact RK.c1 hM | exact RK.c2 hM | exact RK.c4 hM | exact RK.c5 hM | exact RK.c6 hM | exact CK.c0 (hC0.fr hF hdis) | exact CK.c1 (hC0.fr hF hdis) | exact CK.c2 (hC0.fr hF hdis) | exact CK.c3 (hC0.fr hF hdis) | exact CK.c4 (hC0.fr hF hdis)
        case hv_3 => rfl
        refine S_iload (q := 39) hX dX3_learn_37 rfl rfl ?_
        refine S_iald (N := ?n_4) (f := ?f_4) (q := 40) hX dX3_learn_39 ?hs_4 ?hi_4 rfl ?_
        case hs_4 => with_reducible first | exact RK.c0 hM | exact RK.c3 hM | exact RK.c1 hM | exact RK.c2 hM | exact RK.c4 hM | exact RK.c5 hM | exact RK.c6 hM | exact CK.c0 (hC0.fr hF hdis) | exact CK.c1 (hC0.fr hF hdis) | exact CK.c2 (hC0.fr hF hdis) | exact CK.c3 (hC0.fr hF hdis) | exact CK.c4 (hC0.fr hF hdis)
        case hi_4 => rw [hix]; exact vp_in_nI (by omega) (by decide)
        refine S_nm (fun x40 hx40 => ?_)
        refine S_iast (N := ?n_5) (f := ?f_5) (q := 41) hX dX3_learn_40 ?hs_5 ?hi_5 rfl ?_
        case hs_5 => with_reducible first | exact RK.c0 hM | exact RK.c3 hM | exact RK.c1 hM | exact RK.c2 hM | exact RK.c4 hM | exact RK.c5 hM | exact RK.c6 hM | exact CK.c0 (hC0.fr hF hdis) | exact CK.c1 (hC0.fr hF hdis) | exact CK.c2 (hC0.fr hF hdis) | exact CK.c3 (hC0.fr hF hdis) | exact CK.c4 (hC0.fr hF hdis)
        case hi_5 => exact vp_in_nI (by omega) (by decide)
        refine S_stu (q0 := q) (j := 4) (i := _) hM hF (by decide) rfl (fun σ μ40 e40 hM hF => ?_)
        subst hx40
        refine S_aload_n (q := 42) hX dX3_learn_41 rfl rfl ?_
        refine S_getf (fs := ?fs_6) (v := ?v_6) (q := 45) hX u_184 (fo_F_lengths hci) dX3_learn_42 ?hs_6 ?hv_6 rfl ?_
        case hs_6 => with_reducible first | exact RK.c0 hM | exact RK.c3 hM | exact RK.c1 hM | exact RK.c2 hM | exact RK.c4 hM | exact RK.c5 hM | exact RK.c6 hM | exact CK.c0 (hC0.fr hF hdis) | exact CK.c1 (hC0.fr hF hdis) | exact CK.c2 (hC0.fr hF hdis) | exact CK.c3 (hC0.fr hF hdis) | exact CK.c4 (hC0.fr hF hdis)
        case hv_6 => rfl
        refine S_iload_n (q := 46) hX dX3_learn_45 rfl rfl ?_
        refine S_aload_n (q := 47) hX dX3_learn_46 rfl rfl ?_
        refine S_getf (fs := ?fs_7) (v := ?v_7) (q := 50) hX u_48 fo_X2_rows dX3_learn_47 ?hs_7 ?hv_7 rfl ?_
        case hs_7 => with_reducible first | exact RK.c0 hM | exact RK.c3 hM | exact RK.c1 hM | exact RK.c2 hM | exact RK.c4 hM | exact RK.c5 hM | exact RK.c6 hM | exact CK.c0 (hC0.fr hF hdis) | exact CK.c1 (hC0.fr hF hdis) | exact CK.c2 (hC0.fr hF hdis) | exact CK.c3 (hC0.fr hF hdis) | exact CK.c4 (hC0.fr hF hdis)
        case hv_7 => rfl
        refine S_iload (q := 52) hX dX3_learn_50 rfl rfl ?_
        refine S_iald (N := ?n_8) (f := ?f_8) (q := 53) hX dX3_learn_52 ?hs_8 ?hi_8 rfl ?_
        case hs_8 => with_reducible first | exact RK.c0 hM | exact RK.c3 hM | exact RK.c1 hM | exact RK.c2 hM | exact RK.c4 hM | exact RK.c5 hM | exact RK.c6 hM | exact CK.c0 (hC0.fr hF hdis) | exact CK.c1 (hC0.fr hF hdis) | exact CK.c2 (hC0.fr hF hdis) | exact CK.c3 (hC0.fr hF hdis) | exact CK.c4 (hC0.fr hF hdis)
        case hi_8 => rw [hix]; exact vp_in_nI (by omega) (by decide)
        refine S_callS (q := 56) 0 0 hX (c_X7_beats _) rfl u_534 u_336 u_13 u_337 ⟨by decide, by decide, rfl⟩ ⟨Nat.le_of_ble_eq_true rfl, Nat.le_of_ble_eq_true rfl⟩ ⟨Nat.le_of_ble_eq_true rfl, Nat.le_of_ble_eq_true rfl⟩ (Nat.le_of_ble_eq_true rfl) dX3_learn_53 ?hp_9 rfl rfl rfl ?_
        case hp_9 => trivial
        rintro v σ1 sz1 ⟨rfl, rfl, rfl⟩
        rw [hix, nI_clamp (n := 8 * c + i) (by omega), hce.1, lnZ_nI hoe.2.2.1]
        refine S_nm (fun x56 hx56 => ?_)
        refine S_iast (N := ?n_10) (f := ?f_10) (q := 57) hX dX3_learn_56 ?hs_10 ?hi_10 rfl ?_
        case hs_10 => with_reducible first | exact RK.c0 hM | exact RK.c3 hM | exact RK.c1 hM | exact RK.c2 hM | exact RK.c4 hM | exact RK.c5 hM | exact RK.c6 hM | exact CK.c0 (hC0.fr hF hdis) | exact CK.c1 (hC0.fr hF hdis) | exact CK.c2 (hC0.fr hF hdis) | exact CK.c3 (hC0.fr hF hdis) | exact CK.c4 (hC0.fr hF hdis)
        case hi_10 => exact vp_in_nI (by omega) (by decide)
        refine S_stu (q0 := q) (j := 5) (i := _) hM hF (by decide) rfl (fun σ μ56 e56 hM hF => ?_)
        subst hx56
        refine S_aload_n (q := 58) hX dX3_learn_57 rfl rfl ?_
        refine S_getf (fs := ?fs_11) (v := ?v_11) (q := 61) hX u_48 fo_X2_rows dX3_learn_58 ?hs_11 ?hv_11 rfl ?_
        case hs_11 => with_reducible first | exact RK.c0 hM | exact RK.c3 hM | exact RK.c1 hM | exact RK.c2 hM | exact RK.c4 hM | exact RK.c5 hM | exact RK.c6 hM | exact CK.c0 (hC0.fr hF hdis) | exact CK.c1 (hC0.fr hF hdis) | exact CK.c2 (hC0.fr hF hdis) | exact CK.c3 (hC0.fr hF hdis) | exact CK.c4 (hC0.fr hF hdis)
        case hv_11 => rfl
        refine S_iload (q := 63) hX dX3_learn_61 rfl rfl ?_
        refine S_iald (N := ?n_12) (f := ?f_12) (q := 64) hX dX3_learn_63 ?hs_12 ?hi_12 rfl ?_
        case hs_12 => with_reducible first | exact RK.c0 hM | exact RK.c3 hM | exact RK.c1 hM | exact RK.c2 hM | exact RK.c4 hM | exact RK.c5 hM | exact RK.c6 hM | exact CK.c0 (hC0.fr hF hdis) | exact CK.c1 (hC0.fr hF hdis) | exact CK.c2 (hC0.fr hF hdis) | exact CK.c3 (hC0.fr hF hdis) | exact CK.c4 (hC0.fr hF hdis)
        case hi_12 => (try rw [hix]); exact vp_in_nI (by omega) (by decide)
        refine S_aload_n (q := 65) hX dX3_learn_64 rfl rfl ?_
        refine S_getf (fs := ?fs_13) (v := ?v_13) (q := 68) hX u_184 (fo_F_lengths hci) dX3_learn_65 ?hs_13 ?hv_13 rfl ?_
        case hs_13 => with_reducible first | exact RK.c0 hM | exact RK.c3 hM | exact RK.c1 hM | exact RK.c2 hM | exact RK.c4 hM | exact RK.c5 hM | exact RK.c6 hM | exact CK.c0 (hC0.fr hF hdis) | exact CK.c1 (hC0.fr hF hdis) | exact CK.c2 (hC0.fr hF hdis) | exact CK.c3 (hC0.fr hF hdis) | exact CK.c4 (hC0.fr hF hdis)
        case hv_13 => rfl
        refine S_iload_n (q := 69) hX dX3_learn_68 rfl rfl ?_
        refine S_iald (N := ?n_14) (f := ?f_14) (q := 70) hX dX3_learn_69 ?hs_14 ?hi_14 rfl ?_
        case hs_14 => with_reducible first | exact RK.c0 hM | exact RK.c3 hM | exact RK.c1 hM | exact RK.c2 hM | exact RK.c4 hM | exact RK.c5 hM | exact RK.c6 hM | exact CK.c0 (hC0.fr hF hdis) | exact CK.c1 (hC0.fr hF hdis) | exact CK.c2 (hC0.fr hF hdis) | exact CK.c3 (hC0.fr hF hdis) | exact CK.c4 (hC0.fr hF hdis)
        case hi_14 => exact vp_in_nI (by omega) (by decide)
        refine S_aload_n (q := 71) hX dX3_learn_70 rfl rfl ?_
        refine S_getf (fs := ?fs_15) (v := ?v_15) (q := 74) hX u_185 (fo_F_states hci) dX3_learn_71 ?hs_15 ?hv_15 rfl ?_
        case hs_15 => with_reducible first | exact RK.c0 hM | exact RK.c3 hM | exact RK.c1 hM | exact RK.c2 hM | exact RK.c4 hM | exact RK.c5 hM | exact RK.c6 hM | exact CK.c0 (hC0.fr hF hdis) | exact CK.c1 (hC0.fr hF hdis) | exact CK.c2 (hC0.fr hF hdis) | exact CK.c3 (hC0.fr hF hdis) | exact CK.c4 (hC0.fr hF hdis)
        case hv_15 => rfl
        refine S_iload_n (q := 75) hX dX3_learn_74 rfl rfl ?_
        refine S_iconst (q := 76) (v := 3) hX dX3_learn_75 ic_3 rfl ?_
        refine S_imul (q := 77) hX dX3_learn_76 rfl ?_
        refine S_callS (q := 80) 0 0 hX (c_X7_spell _ _ _ (q + 6) 24 (C.2 i).1 (ln (C.2 i).1) (i * 3) (μ56 6) (by (try rw [hix]); rw [nI_clamp (by omega)]; exact hce.1) (by rw [e56, nI_clamp (by omega), m2_at, if_pos ⟨rfl, rfl⟩]) (pk_mul i 3)) rfl u_535 u_494 u_13 u_495 ⟨by decide, by decide, rfl⟩ ⟨Nat.le_of_ble_eq_true rfl, Nat.le_of_ble_eq_true rfl⟩ ⟨Nat.le_of_ble_eq_true rfl, Nat.le_of_ble_eq_true rfl⟩ (Nat.le_of_ble_eq_true rfl) dX3_learn_77 ?hp_16 rfl rfl rfl ?_
        case hp_16 => exact ⟨RK.c6 hM, by omega, by decide, hoe.2.2.1⟩
        rintro v σ1 sz1 ⟨g', rfl, rfl, ⟨hg1, hg2⟩, rfl⟩
        have hM := hM.st (j := 6) (g := g') (by decide) rfl
        have hF := hF.su (a := q + 6) (e := ia 24 g') (by omega)
        refine S_iinc (q := 83) [_, _, _, _, _] hX dX3_learn_80 rfl (ii_1 _) rfl (Nat.le_of_ble_eq_true rfl) rfl rfl ?_
        refine S_goto 12 hX dX3_learn_83 rfl ?_
        rw [nI_1]
        refine ih (i + 1) _ _ _ hlt (by omega) ⟨?_, fun e he => ?_⟩ hM hF
        · rw [m1_ne (by decide), e56, m2_o (by decide), e40, m2_o (by decide)]; exact hfi.1
        · rw [nI_clamp (by omega)] at e56 e40
          by_cases hei : e = i
          · subst hei
            refine ⟨?_, ?_, fun k hk => ?_⟩
            · rw [m1_ne (by decide), e56, m2_o (by decide), e40, m2_at, if_pos ⟨rfl, rfl⟩, hix, nI_clamp (by omega)]; exact hce.2
            · rw [m1_ne (by decide), e56, m2_at, if_pos ⟨rfl, rfl⟩]
            · rw [m1_eq, show 3 * e + k = e * 3 + k by omega]; exact hg1 k hk
          · have := hfi.2 e (by omega)
            refine ⟨?_, ?_, fun k hk => ?_⟩
            · rw [m1_ne (by decide), e56, m2_o (by decide), e40, m2_at, if_neg (fun z => hei z.2)]; exact this.1
            · rw [m1_ne (by decide), e56, m2_at, if_neg (fun z => hei z.2), e40, m2_o (by decide)]; exact this.2.1
            · have h3 := (hok.2 e (by omega)).2.1
              rw [m1_eq, hg2 _ (Or.inl (by omega)), e56, m2_o (by decide), e40, m2_o (by decide)]; exact this.2.2 k hk
  refine S_aload_n (q := 1) hX dX3_learn_0 rfl rfl ?_
  refine S_aload_n (q := 2) hX dX3_learn_1 rfl rfl ?_
  refine S_getf (fs := ?fs_17) (v := ?v_17) (q := 5) hX u_45 fo_X2_entries dX3_learn_2 ?hs_17 ?hv_17 rfl ?_
  case hs_17 => with_reducible first | exact RK.c0 hM | exact RK.c3 hM | exact RK.c1 hM | exact RK.c2 hM | exact RK.c4 hM | exact RK.c5 hM | exact RK.c6 hM | exact CK.c0 (hC0.fr hF hdis) | exact CK.c1 (hC0.fr hF hdis) | exact CK.c2 (hC0.fr hF hdis) | exact CK.c3 (hC0.fr hF hdis) | exact CK.c4 (hC0.fr hF hdis)
  case hv_17 => rfl
  refine S_iload_n (q := 6) hX dX3_learn_5 rfl rfl ?_
  refine S_iald (N := ?n_18) (f := ?f_18) (q := 7) hX dX3_learn_6 ?hs_18 ?hi_18 rfl ?_
  case hs_18 => with_reducible first | exact RK.c0 hM | exact RK.c3 hM | exact RK.c1 hM | exact RK.c2 hM | exact RK.c4 hM | exact RK.c5 hM | exact RK.c6 hM | exact CK.c0 (hC0.fr hF hdis) | exact CK.c1 (hC0.fr hF hdis) | exact CK.c2 (hC0.fr hF hdis) | exact CK.c3 (hC0.fr hF hdis) | exact CK.c4 (hC0.fr hF hdis)
  case hi_18 => exact vp_in_nI (by omega) (by decide)
  refine S_nm (fun x7 hx7 => ?_)
  refine S_putf (fs := ?fs_19) (q := 10) hX u_186 (fo_F_entries hci) rfl rfl ?hl_19 dX3_learn_7 ?hs_19 rfl ?_
  case hs_19 => with_reducible first | exact RK.c0 hM | exact RK.c3 hM | exact RK.c1 hM | exact RK.c2 hM | exact RK.c4 hM | exact RK.c5 hM | exact RK.c6 hM | exact CK.c0 (hC0.fr hF hdis) | exact CK.c1 (hC0.fr hF hdis) | exact CK.c2 (hC0.fr hF hdis) | exact CK.c3 (hC0.fr hF hdis) | exact CK.c4 (hC0.fr hF hdis)
  case hl_19 => exact Nat.le_of_ble_eq_true rfl
  refine S_stu (q0 := q) (j := 0) (i := 2) hM hF (by decide) rfl (fun σ μ7 e7 hM hF => ?_)
  subst hx7
  refine S_iconst (q := 11) (v := 0) hX dX3_learn_10 ic_0 rfl ?_
  refine S_istore_n (q := 12) [_, _, _, _, _] hX dX3_learn_11 rfl (Nat.le_of_ble_eq_true rfl) rfl rfl ?_
  exact loop (C.1 + 1) 0 σ μ7 _ (Nat.zero_le _) (by omega) ⟨by rw [e7, m2_00, if_pos rfl, nI_clamp (by omega)]; exact hcc.1, fun e he => absurd he (Nat.not_lt_zero _)⟩ hM hF
theorem c_X3_timesOf (q : Nat) (f : MF) (kd : Nat) (x : Int32) (wd : Nat) (L : List Nat) (hx : x = nI wd) : CT_X3_timesOf [.ref q, .int x] (fun Γ σ sz => RK σ q kd f ∧ f 0 1 = nI L.length ∧ L.length ≤ 60 ∧ WL (f 1) L ∧ wd < 2147483648 ∧ ∀ i, i < L.length → L.getD i 0 < 2147483648) (fun Γ σ sz v σ' sz' => v = some (.int (nI (L.count wd))) ∧ σ' = σ ∧ sz' = sz) := by
  refine CT.mkP rfl (Nat.le_of_ble_eq_true rfl) [_, _, _, _] rfl ?_
  intro X Γ σ sz P hX hpre hsz hP
  obtain ⟨hM, h1, hL, hw, hwd, h10⟩ := hpre
  subst hx
  obtain ⟨σ0, eσ0⟩ : ∃ z, z = σ := ⟨σ, rfl⟩
  rw [← eσ0] at hP
  have hF : Fr q (q + 7) σ0 σ := by rw [eσ0]; exact Fr.rf
  have hci := cik_F kd
  have loop : ∀ (fl : Nat) (k : Nat) (xa : Int32), xa = nI ((L.take k).count wd) → k ≤ L.length → L.length - k < fl → G X Γ P 0 0 4 [some (.ref q), some (.int (nI wd)), some (.int xa), some (.int (nI k))] [] σ sz := by
    intro fl
    induction fl with
    | zero =>
      rintro k _ rfl hk hfu
      exact absurd hfu (Nat.not_lt_zero _)
    | succ fl ih =>
      rintro k _ rfl hk hfu
      refine S_iload_n (q := 5) hX dX3_timesOf_4 rfl rfl ?_
      refine S_aload_n (q := 6) hX dX3_timesOf_5 rfl rfl ?_
      refine S_getf (fs := ?fs_1) (v := ?v_1) (q := 9) hX u_180 (fo_F_heard hci) dX3_timesOf_6 ?hs_1 ?hv_1 rfl ?_
      case hs_1 => with_reducible first | exact RK.c0 hM | exact RK.c3 hM | exact RK.c1 hM | exact RK.c2 hM | exact RK.c4 hM | exact RK.c5 hM | exact RK.c6 hM
      case hv_1 => rfl
      refine S_icmp_ge (q := 12) 31 hX dX3_timesOf_9 rfl rfl (fun c9 => ?_) (fun c9 => ?_)
      · have hge : k = L.length := by rw [h1, nI_leI (by omega) (by omega)] at c9; omega
        subst hge
        refine S_iload_n (q := 32) hX dX3_timesOf_31 rfl rfl ?_
        refine S_iret hX dX3_timesOf_32 (Nat.zero_le _) (Nat.zero_le _) ?_
        refine hP _ _ _ ?_
        rw [List.take_length]
        exact ⟨rfl, eσ0.symm, rfl⟩
      · have hlt : k < L.length := by rw [h1, nI_leI (by omega) (by omega)] at c9; omega
        refine S_aload_n (q := 13) hX dX3_timesOf_12 rfl rfl ?_
        refine S_getf (fs := ?fs_2) (v := ?v_2) (q := 16) hX u_174 (fo_F_words hci) dX3_timesOf_13 ?hs_2 ?hv_2 rfl ?_
        case hs_2 => with_reducible first | exact RK.c0 hM | exact RK.c3 hM | exact RK.c1 hM | exact RK.c2 hM | exact RK.c4 hM | exact RK.c5 hM | exact RK.c6 hM
        case hv_2 => rfl
        refine S_iload_n (q := 17) hX dX3_timesOf_16 rfl rfl ?_
        refine S_iald (N := ?n_3) (f := ?f_3) (q := 18) hX dX3_timesOf_17 ?hs_3 ?hi_3 rfl ?_
        case hs_3 => with_reducible first | exact RK.c0 hM | exact RK.c3 hM | exact RK.c1 hM | exact RK.c2 hM | exact RK.c4 hM | exact RK.c5 hM | exact RK.c6 hM
        case hi_3 => exact vp_in_nI (by omega) (by decide)
        refine S_iload_n (q := 19) hX dX3_timesOf_18 rfl rfl ?_
        refine S_icmp_ne (q := 22) 25 hX dX3_timesOf_19 rfl rfl (fun c19 => ?_) (fun c19 => ?_)
        · refine S_iinc (q := 28) [_, _, _, _] hX dX3_timesOf_25 rfl (ii_1 _) rfl (Nat.le_of_ble_eq_true rfl) rfl rfl ?_
          refine S_goto 4 hX dX3_timesOf_28 rfl ?_
          rw [nI_1]
          exact ih (k + 1) _ (by rw [count_take hlt, if_neg (fun z => c19 (by rw [nI_clamp (by omega), hw k hlt, z])), Nat.add_zero]) hlt (by omega)
        · refine S_iinc (q := 25) [_, _, _, _] hX dX3_timesOf_22 rfl (ii_1 _) rfl (Nat.le_of_ble_eq_true rfl) rfl rfl ?_
          refine S_iinc (q := 28) [_, _, _, _] hX dX3_timesOf_25 rfl (ii_1 _) rfl (Nat.le_of_ble_eq_true rfl) rfl rfl ?_
          refine S_goto 4 hX dX3_timesOf_28 rfl ?_
          rw [nI_1, nI_1]
          exact ih (k + 1) _ (by rw [count_take hlt, if_pos (nI_inj (h10 k hlt) hwd (by rw [nI_clamp (by omega), hw k hlt] at c19; exact c19))]) hlt (by omega)
  refine S_iconst (q := 1) (v := 0) hX dX3_timesOf_0 ic_0 rfl ?_
  refine S_istore_n (q := 2) [_, _, _, _] hX dX3_timesOf_1 rfl (Nat.le_of_ble_eq_true rfl) rfl rfl ?_
  refine S_iconst (q := 3) (v := 0) hX dX3_timesOf_2 ic_0 rfl ?_
  refine S_istore_n (q := 4) [_, _, _, _] hX dX3_timesOf_3 rfl (Nat.le_of_ble_eq_true rfl) rfl rfl ?_
  exact loop (L.length + 1) 0 _ (by rw [List.take_zero]; rfl) (Nat.zero_le _) (by omega)
