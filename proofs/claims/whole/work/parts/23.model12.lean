/-! the reference: hide, save -/
abbrev hid_bad (S : ST) (x y z : Int32) : Prop := ¬ okc x S.1.1.1 ∨ ¬ okc y S.1.1.1 ∨ ¬ inb z 0 5
theorem hid_iff {S : ST} {a b k n : Nat} {r : Nat → Nat} (h : rowOk n r) : hides S a b k n (rv r n) ↔ (rdK 0 (fun b => drw 0 (r b) b) n (S.1.1.2.1 a) = wantL S ∧ (rdK 2 (fun b => drw 0 (r b) b) n (S.1.1.2.1 b)).length ≤ k) := by
  unfold hides
  rw [rdK_0, rdK_0, rdK_congr (w := stN (rv r n) n) (w' := r) (fun b hb => stN_rv n h b hb), rdK_congr (w := stN (rv r n) n) (w' := r) (fun b hb => stN_rv n h b hb)]
theorem scr.go {μ : MF} {g : Nat → Int32} : scr μ (m1 μ 5 g) := ⟨fun j hj => m1_ne (by omega), fun i _ _ => by rw [m1_ne (by decide)]⟩
theorem lt_pow6 {n : Nat} (h : n ≤ 6) : 2 * 12 ^ n ≤ 5971968 := by
  rcases (show n = 0 ∨ n = 1 ∨ n = 2 ∨ n = 3 ∨ n = 4 ∨ n = 5 ∨ n = 6 by omega) with rfl | rfl | rfl | rfl | rfl | rfl | rfl <;> decide

theorem c_X12_hide (m : Nat) (μ : MF) (S : ST) (x y z : Int32) : CT_X12_hide [.ref m, .int x, .int y, .int z] (fun Γ σ sz => MM σ m μ ∧ MR μ S ∧ StOk S) (fun Γ σ sz v σ' sz' => ∃ μ', MM σ' m μ' ∧ Fr m (m + 9) σ σ' ∧ (∃ r, v = some (.int r) ∧ ((hid_bad S x y z ∧ r = -10 ∧ MR μ' (rfS S 0)) ∨ (¬ hid_bad S x y z ∧ HideR S (tN x) (tN y) (tN z) r ∧ MR μ' S))) ∧ sz' = sz) := by
  refine CT.mkP rfl (Nat.le_of_ble_eq_true rfl) [_, _, _, _, _, _] rfl ?_
  intro X Γ σ sz P hX hpre hsz hP
  obtain ⟨hM, hR, ok⟩ := hpre
  have hF : Fr m (m + 9) σ σ := Fr.rf
  have h0 := hR.1
  have hC0 := hR.2.1.1
  obtain ⟨q0, q1, q2, q3, q4, q5, q6, q7, q8, q9⟩ := id hR.2.1
  obtain ⟨o1, o2, o3, o4, o5, o6, o7, o8, o9, o10⟩ := id ok.1
  obtain ⟨σ0, eσ0⟩ : ∃ z, z = σ := ⟨σ, rfl⟩
  rw [← eσ0] at hP
  have hF : Fr m (m + 9) σ0 σ := by rw [eσ0]; exact Fr.rf
  obtain ⟨μ0, eμ0⟩ : ∃ z, z = μ := ⟨μ, rfl⟩
  have hs : scr μ0 μ := by rw [eμ0]; exact scr.rf
  have hR0 := hR
  rw [← eμ0] at hR0
  have outer : okc x S.1.1.1 → okc y S.1.1.1 → inb z 0 5 → ∀ (fl : Nat) (n : Nat) (σ : Sg) (μ : MF) (x4 : Int32) (x5 : Option Value), x4 = nI n → 1 ≤ n → n ≤ 6 → scr μ0 μ → MM σ m μ → Fr m (m + 9) σ0 σ → (∀ n' v', 1 ≤ n' → n' < n → lawful n' v' → ¬ hides S (tN x) (tN y) (tN z) n' v') → 6 - n < fl → G X Γ P 0 0 36 [some (.ref m), some (.int x), some (.int y), some (.int z), some (.int x4), x5] [] σ sz := by
    intro hx hy hz fl
    have cx := okc.ex hx
    have cy := okc.ex hy
    have cz := tN_ex hz.1
    have hz5 : tN z ≤ 5 := by have := hz.2; omega
    have hcx := ok.1.2.1.2.1 (tN x) cx.2.1
    have hcy := ok.1.2.1.2.1 (tN y) cy.2.1
    induction fl with
      | zero => intro n σ μ x4 x5 _ _ _ _ _ _ _ hfu; exact absurd hfu (Nat.not_lt_zero _)
      | succ fl iho =>
        rintro n σ μ _ x5 rfl hn1 hn6 hs hM hF hnone hfu
        have h0 := (hR0.scr hs).1
        have inner : ∀ (fl2 : Nat) (x5 : Int32) (σ : Sg) (μ : MF), n < 6 → ((x5 = 1 ∧ ∃ r, lawF n r ∧ μ 0 7 = nI n ∧ (∀ i, i < n → μ 5 i = nI (r i)) ∧ (∀ v', v' < rv r n → lawful n v' → ¬ hides S (tN x) (tN y) (tN z) n v') ∧ 2 * 12 ^ n - rv r n < fl2) ∨ (x5 = 0 ∧ 0 < fl2 ∧ ∀ v', lawful n v' → ¬ hides S (tN x) (tN y) (tN z) n v')) → scr μ0 μ → MM σ m μ → Fr m (m + 9) σ0 σ → G X Γ P 0 0 52 [some (.ref m), some (.int x), some (.int y), some (.int z), some (.int (nI n)), some (.int x5)] [] σ sz := by
          intro fl2
          induction fl2 with
          | zero =>
            rintro x5 σ μ hn5 hI hs hM hF
            rcases hI with ⟨e5, r, hr, h7, hmk, hlo, hfu⟩ | ⟨e5, hfu, hall⟩
            · exact absurd hfu (Nat.not_lt_zero _)
            · exact absurd hfu (Nat.not_lt_zero _)
          | succ fl2 ih =>
            rintro x5 σ μ hn5 hI hs hM hF
            have go91 : ∀ (r : Nat → Nat) (σ : Sg) (μ : MF), lawF n r → μ 0 7 = nI n → (∀ i, i < n → μ 5 i = nI (r i)) → (∀ v', v' < rv r n → lawful n v' → ¬ hides S (tN x) (tN y) (tN z) n v') → 2 * 12 ^ n - rv r n < fl2 + 1 → ¬ hides S (tN x) (tN y) (tN z) n (rv r n) → scr μ0 μ → MM σ m μ → Fr m (m + 9) σ0 σ → G X Γ P 0 0 91 [some (.ref m), some (.int x), some (.int y), some (.int z), some (.int (nI n)), some (.int x5)] [] σ sz := by
              intro r σ μ hr h7 hmk hlo hfu hno hs hM hF
              refine S_aload_n (q := 92) hX dX12_hide_91 rfl rfl ?_
              refine S_iload (q := 94) hX dX12_hide_92 rfl rfl ?_
              refine S_iconst (q := 95) (v := 1) hX dX12_hide_94 ic_1 rfl ?_
              refine S_isub (q := 96) hX dX12_hide_95 rfl ?_
              refine S_callV (ci := 12) (C := "FanTalkModel") (T := TX12) (N := 17) (q := 99) 0 0 hX (c_X12_goOn _ μ _ n r (by rw [i1, pk_sub (by omega)])) rfl ?hs_1 rfl u_1035 u_1037 us_52 u_12 u_1038 ⟨by decide, by decide, rfl⟩ ⟨Nat.le_of_ble_eq_true rfl, Nat.le_of_ble_eq_true rfl⟩ ⟨Nat.le_of_ble_eq_true rfl, Nat.le_of_ble_eq_true rfl⟩ (Nat.le_of_ble_eq_true rfl) dX12_hide_96 ?hp_1 rfl rfl rfl ?_
              case hs_1 => first | with_reducible assumption | exact ⟨_, by with_reducible assumption⟩ | exact MM.isO hM
              case hp_1 => exact ⟨hM, h7, by omega, by omega, hr, hmk⟩
              rintro v σ sz1 ⟨μ1, hM, hF1, hv, rfl⟩
              have hF := hF.trans hF1
              obtain ⟨y5, hvy, hd, hsn⟩ : ∃ y5, v = some (.int y5) ∧ ((y5 = 1 ∧ ∃ t, μ1 0 7 = μ 0 7 ∧ Nx n r t ∧ ∀ i, i < n → μ1 5 i = nI (t i)) ∨ (y5 = 0 ∧ NoNx n r)) ∧ scr μ μ1 := by
                rcases hv with ⟨hv, g, t, e, h1, h2⟩ | ⟨hv, h1, g, e⟩
                · exact ⟨1, hv, Or.inl ⟨rfl, t, by rw [e, m1_ne (by decide)], h1, fun i hi => by rw [e, m1_eq]; exact h2 i hi⟩, by rw [e]; exact scr.go⟩
                · exact ⟨0, hv, Or.inr ⟨rfl, h1⟩, by rw [e]; exact scr.go⟩
              subst hvy
              refine S_istore (q := 101) [_, _, _, _, _, _] hX dX12_hide_99 rfl (Nat.le_of_ble_eq_true rfl) rfl rfl ?_
              refine S_goto 52 hX dX12_hide_101 rfl ?_
              refine ih _ σ _ hn5 ?_ (hs.trans hsn) hM hF
              rcases hd with ⟨e1, t, eμ, ht, h1⟩ | ⟨e1, hN⟩
              · refine Or.inl ⟨e1, t, ht.1, eμ.trans h7, h1, fun v' a1 a2 => ?_, ?_⟩
                · have := ht.2.2 v' a2 a1
                  rcases Nat.lt_or_ge v' (rv r n) with q | q
                  · exact hlo v' q a2
                  · rw [show v' = rv r n by omega]; exact hno
                · have := ht.2.1
                  have := rv_hi n ht.1.1
                  omega
              · refine Or.inr ⟨e1, by have := rv_hi n hr.1; omega, fun v' a2 => ?_⟩
                have := hN v' a2
                rcases Nat.lt_or_ge v' (rv r n) with q | q
                · exact hlo v' q a2
                · rw [show v' = rv r n by omega]; exact hno
            refine S_iload (q := 54) hX dX12_hide_52 rfl rfl ?_
            refine S_if_eq (q := 57) 104 hX dX12_hide_54 rfl rfl (fun c54 => ?_) (fun c54 => ?_)
            · obtain ⟨rfl, _, hall⟩ := hI.resolve_left (fun q => absurd (q.1.symm.trans c54) (by decide))
              refine S_iinc (q := 107) [_, _, _, _, _, _] hX dX12_hide_104 rfl (ii_1 _) rfl (Nat.le_of_ble_eq_true rfl) rfl rfl ?_
              refine S_goto 36 hX dX12_hide_107 rfl ?_
              exact iho (n + 1) σ μ _ _ (nI_1 _) (by omega) (by omega) hs hM hF (fun n' v' a1 a2 => by
                rcases Nat.lt_succ_iff_lt_or_eq.mp a2 with q | q
                · exact hnone n' v' a1 q
                · rw [q]; exact hall v') (by omega)
            · obtain ⟨rfl, r, hr, h7, hmk, hlo, hfu⟩ := hI.resolve_right (fun q => c54 q.1)
              have h0 := (hR0.scr hs).1
              have hrl := rv_hi n hr.1
              refine S_aload_n (q := 58) hX dX12_hide_57 rfl rfl ?_
              refine S_iconst (q := 59) (v := 0) hX dX12_hide_58 ic_0 rfl ?_
              refine S_iload_n (q := 60) hX dX12_hide_59 rfl rfl ?_
              refine S_iconst (q := 61) (v := 0) hX dX12_hide_60 ic_0 rfl ?_
              refine S_callV (ci := 12) (C := "FanTalkModel") (T := TX12) (N := 17) (q := 64) 0 0 hX (c_X12_readBy _ μ _ _ _ 0 (tN x) 0 n 0 r (S.1.1.2.1 (tN x)) rfl cx.1 rfl) rfl ?hs_2 rfl u_976 u_978 us_46 u_12 u_979 ⟨by decide, by decide, rfl⟩ ⟨Nat.le_of_ble_eq_true rfl, Nat.le_of_ble_eq_true rfl⟩ ⟨Nat.le_of_ble_eq_true rfl, Nat.le_of_ble_eq_true rfl⟩ (Nat.le_of_ble_eq_true rfl) dX12_hide_61 ?hp_2 rfl rfl rfl ?_
              case hs_2 => first | with_reducible assumption | exact ⟨_, by with_reducible assumption⟩ | exact MM.isO hM
              case hp_2 => exact ⟨hM, by omega, by omega, by omega, h0, by omega, h7, fun i hi => ⟨hmk i hi, hr.1 i hi⟩, (hR0.scr hs).2.1.code cx.2.1, hcx⟩
              rintro v σ sz1 ⟨μ1, hM, hF1, rfl, ⟨vf, wf, e1, hw⟩, rfl⟩
              have hF := hF.trans hF1
              have hs1 := hs.trans (scr.read e1)
              have h18 : μ1 0 8 = nI (rdK 0 (fun b => drw 0 (r b) b) n (S.1.1.2.1 (tN x))).length := by rw [e1, m2_at, if_pos ⟨rfl, rfl⟩]
              have hln : (rdK 0 (fun b => drw 0 (r b) b) n (S.1.1.2.1 (tN x))).length ≤ n := rdL_len _ _
              have hw7 : WL (μ1 7) (rdK 0 (fun b => drw 0 (r b) b) n (S.1.1.2.1 (tN x))) := by rw [e1, m2_o (by decide), m1_eq]; exact hw
              have h17 : μ1 0 7 = nI n := by rw [e1, m2_at, if_neg (by decide), m1_ne (by decide), m1_ne (by decide)]; exact h7
              have h1k : ∀ i, i < n → μ1 5 i = nI (r i) := fun i hi => by rw [e1, m2_o (by decide), m1_ne (by decide), m1_ne (by decide)]; exact hmk i hi
              refine S_aload_n (q := 65) hX dX12_hide_64 rfl rfl ?_
              refine S_callV (ci := 12) (C := "FanTalkModel") (T := TX12) (N := 17) (q := 68) 0 0 hX (c_X12_readsWant _ μ1 S (rdK 0 (fun b => drw 0 (r b) b) n (S.1.1.2.1 (tN x)))) rfl ?hs_3 rfl u_1027 u_1029 us_50 u_12 u_1030 ⟨by decide, by decide, rfl⟩ ⟨Nat.le_of_ble_eq_true rfl, Nat.le_of_ble_eq_true rfl⟩ ⟨Nat.le_of_ble_eq_true rfl, Nat.le_of_ble_eq_true rfl⟩ (Nat.le_of_ble_eq_true rfl) dX12_hide_65 ?hp_3 rfl rfl rfl ?_
              case hs_3 => first | with_reducible assumption | exact ⟨_, by with_reducible assumption⟩ | exact MM.isO hM
              case hp_3 => exact ⟨hM, hR0.scr hs1, ok.1, h18, hw7, by omega, rdL_10 hcx _ _⟩
              rintro v σ1 sz1 ⟨rfl, rfl, rfl⟩
              refine S_if_eq_b (q := 71) 91 hX dX12_hide_68 rfl rfl (fun c68 => ?_) (fun c68 => ?_)
              · exact go91 r _ _ hr (by rw [e1, m2_at, if_neg (by decide), m1_ne (by decide), m1_ne (by decide)]; exact h7) (fun i hi => by rw [e1, m2_o (by decide), m1_ne (by decide), m1_ne (by decide)]; exact hmk i hi) hlo (by omega) (fun q => c68 ((hid_iff hr.1).mp q).1) hs1 hM hF
              · refine S_aload_n (q := 72) hX dX12_hide_71 rfl rfl ?_
                refine S_iconst (q := 73) (v := 2) hX dX12_hide_72 ic_2 rfl ?_
                refine S_iload_n (q := 74) hX dX12_hide_73 rfl rfl ?_
                refine S_iconst (q := 75) (v := 0) hX dX12_hide_74 ic_0 rfl ?_
                refine S_callV (ci := 12) (C := "FanTalkModel") (T := TX12) (N := 17) (q := 78) 0 0 hX (c_X12_readBy _ μ1 _ _ _ 2 (tN y) 0 n 0 r (S.1.1.2.1 (tN y)) rfl cy.1 rfl) rfl ?hs_4 rfl u_976 u_978 us_46 u_12 u_979 ⟨by decide, by decide, rfl⟩ ⟨Nat.le_of_ble_eq_true rfl, Nat.le_of_ble_eq_true rfl⟩ ⟨Nat.le_of_ble_eq_true rfl, Nat.le_of_ble_eq_true rfl⟩ (Nat.le_of_ble_eq_true rfl) dX12_hide_75 ?hp_4 rfl rfl rfl ?_
                case hs_4 => first | with_reducible assumption | exact ⟨_, by with_reducible assumption⟩ | exact MM.isO hM
                case hp_4 => exact ⟨hM, by omega, by omega, by omega, (hR0.scr hs1).1, by omega, h17, fun i hi => ⟨h1k i hi, hr.1 i hi⟩, (hR0.scr hs1).2.1.code cy.2.1, hcy⟩
                rintro v σ sz1 ⟨μ2, hM, hF1, rfl, ⟨vf2, wf2, e2, hw2⟩, rfl⟩
                have hF := hF.trans hF1
                have hs2 := hs1.trans (scr.read e2)
                have hln2 : (rdK 2 (fun b => drw 0 (r b) b) n (S.1.1.2.1 (tN y))).length ≤ n := rdL_len _ _
                have h28 : μ2 0 8 = nI (rdK 2 (fun b => drw 0 (r b) b) n (S.1.1.2.1 (tN y))).length := by rw [e2, m2_at, if_pos ⟨rfl, rfl⟩]
                have h2k : ∀ i, i < n → μ2 5 i = nI (r i) := fun i hi => by rw [e2, m2_o (by decide), m1_ne (by decide), m1_ne (by decide)]; exact h1k i hi
                have h27 : μ2 0 7 = nI n := by rw [e2, m2_at, if_neg (by decide), m1_ne (by decide), m1_ne (by decide)]; exact h17
                refine S_aload_n (q := 79) hX dX12_hide_78 rfl rfl ?_
                refine S_getf (fs := ?fs_5) (v := ?v_5) (q := 82) hX u_797 fo_X12_wordMany dX12_hide_79 ?hs_5 ?hv_5 rfl ?_
                case hs_5 => with_reducible first | exact MM.c0 hM | exact MM.c1 hM | exact MM.c5 hM | exact MM.c6 hM | exact MM.c7 hM | exact MM.c3 hM | exact MM.c4 hM | exact MM.c8 hM | exact MM.c2 hM
                case hv_5 => rfl
                refine S_iload_n (q := 83) hX dX12_hide_82 rfl rfl ?_
                refine S_icmp_gt (q := 86) 91 hX dX12_hide_83 rfl rfl (fun c83 => ?_) (fun c83 => ?_)
                · have hgt : ¬ (rdK 2 (fun b => drw 0 (r b) b) n (S.1.1.2.1 (tN y))).length ≤ tN z := by rw [h28, lt_i, nI_toInt (by omega)] at c83; omega
                  exact go91 r _ _ hr (by rw [e2, m2_at, if_neg (by decide), m1_ne (by decide), m1_ne (by decide)]; exact h17) (fun i hi => by rw [e2, m2_o (by decide), m1_ne (by decide), m1_ne (by decide)]; exact h1k i hi) hlo (by omega) (fun q => hgt ((hid_iff hr.1).mp q).2) hs2 hM hF
                · have hle : (rdK 2 (fun b => drw 0 (r b) b) n (S.1.1.2.1 (tN y))).length ≤ tN z := by rw [h28, lt_i, nI_toInt (by omega)] at c83; omega
                  refine S_aload_n (q := 87) hX dX12_hide_86 rfl rfl ?_
                  refine S_callV (ci := 12) (C := "FanTalkModel") (T := TX12) (N := 17) (q := 90) 0 0 hX (c_X12_madeRow _ μ2 n r) rfl ?hs_6 rfl u_1031 u_1033 us_51 u_12 u_1034 ⟨by decide, by decide, rfl⟩ ⟨Nat.le_of_ble_eq_true rfl, Nat.le_of_ble_eq_true rfl⟩ ⟨Nat.le_of_ble_eq_true rfl, Nat.le_of_ble_eq_true rfl⟩ (Nat.le_of_ble_eq_true rfl) dX12_hide_87 ?hp_6 rfl rfl rfl ?_
                  case hs_6 => first | with_reducible assumption | exact ⟨_, by with_reducible assumption⟩ | exact MM.isO hM
                  case hp_6 => exact ⟨hM, by omega, h27, h2k⟩
                  rintro v σ1 sz1 ⟨rfl, rfl, rfl⟩
                  refine S_iret hX dX12_hide_90 (Nat.zero_le _) (Nat.zero_le _) ?_
                  refine hP _ _ _ ?_
                  refine ⟨_, hM, hF, ⟨_, rfl, Or.inr ⟨fun q => ?_, Or.inl ⟨n, rv r n, hn1, by omega, lawF_n hr, (hid_iff hr.1).mpr ⟨c68, hle⟩, rfl, hnone, hlo⟩, hR0.scr hs2⟩⟩, rfl⟩
                  rcases q with q | q | q
                  · exact q hx
                  · exact q hy
                  · exact q hz
        refine S_iload (q := 38) hX dX12_hide_36 rfl rfl ?_
        refine S_bipush (q := 40) (v := 6) hX dX12_hide_38 bp_6 rfl ?_
        refine S_icmp_ge (q := 43) 110 hX dX12_hide_40 rfl rfl (fun c40 => ?_) (fun c40 => ?_)
        · have hge : n = 6 := by rw [i6, nI_leI (by omega) (by omega)] at c40; omega
          subst hge
          refine S_iconst (q := 111) (v := (-1)) hX dX12_hide_110 ic_m1 rfl ?_
          refine S_iret hX dX12_hide_111 (Nat.zero_le _) (Nat.zero_le _) ?_
          refine hP _ _ _ ?_
          refine ⟨_, hM, hF, ⟨_, rfl, Or.inr ⟨fun q => ?_, Or.inr ⟨rfl, fun n' v' a1 a2 => hnone n' v' a1 (by omega)⟩, hR0.scr hs⟩⟩, rfl⟩
          rcases q with q | q | q
          · exact q hx
          · exact q hy
          · exact q hz
        · have hn5 : n < 6 := by rw [i6, nI_leI (by omega) (by omega)] at c40; omega
          refine S_aload_n (q := 44) hX dX12_hide_43 rfl rfl ?_
          refine S_iload (q := 46) hX dX12_hide_44 rfl rfl ?_
          refine S_callV (ci := 12) (C := "FanTalkModel") (T := TX12) (N := 17) (q := 49) 0 0 hX (c_X12_makeLeast _ μ _ n rfl) rfl ?hs_7 rfl u_1023 u_1025 us_49 u_12 u_1026 ⟨by decide, by decide, rfl⟩ ⟨Nat.le_of_ble_eq_true rfl, Nat.le_of_ble_eq_true rfl⟩ ⟨Nat.le_of_ble_eq_true rfl, Nat.le_of_ble_eq_true rfl⟩ (Nat.le_of_ble_eq_true rfl) dX12_hide_46 ?hp_7 rfl rfl rfl ?_
          case hs_7 => first | with_reducible assumption | exact ⟨_, by with_reducible assumption⟩ | exact MM.isO hM
          case hp_7 => exact ⟨hM, by omega⟩
          rintro v σ sz1 ⟨μ1, hM, hF1, rfl, ⟨g, e1, hg⟩, rfl⟩
          have hF := hF.trans hF1
          refine S_iconst (q := 50) (v := 1) hX dX12_hide_49 ic_1 rfl ?_
          refine S_istore (q := 52) [_, _, _, _, _, _] hX dX12_hide_50 rfl (Nat.le_of_ble_eq_true rfl) rfl rfl ?_
          exact inner (2 * 12 ^ n + 1) _ _ μ1 hn5 (Or.inl ⟨rfl, fun _ => 0, (zero_least (fun k _ => rfl)).1, by rw [e1, m1_ne (by decide), m2_at, if_pos ⟨rfl, rfl⟩], fun i hi => by rw [e1, m1_eq]; exact hg i hi, fun v' a1 a2 => by have := (zero_least (n := n) (f := fun _ => 0) (fun k _ => rfl)).2 v' a2; omega, by omega⟩) (hs.trans (scr.make e1)) hM hF
  refine S_aload_n (q := 1) hX dX12_hide_0 rfl rfl ?_
  refine S_iload_n (q := 2) hX dX12_hide_1 rfl rfl ?_
  refine S_callV (ci := 12) (C := "FanTalkModel") (T := TX12) (N := 17) (q := 5) 0 0 hX (c_X12_isCode _ μ _ 0 S.1.1.1) rfl ?hs_8 rfl u_854 u_856 us_29 u_12 u_857 ⟨by decide, by decide, rfl⟩ ⟨Nat.le_of_ble_eq_true rfl, Nat.le_of_ble_eq_true rfl⟩ ⟨Nat.le_of_ble_eq_true rfl, Nat.le_of_ble_eq_true rfl⟩ (Nat.le_of_ble_eq_true rfl) dX12_hide_2 ?hp_8 rfl rfl rfl ?_
  case hs_8 => first | with_reducible assumption | exact ⟨_, by with_reducible assumption⟩ | exact MM.isO hM
  case hp_8 => exact ⟨hM, h0, by decide, hC0, ok.1.1⟩
  rintro v σ1 sz1 ⟨rfl, rfl, rfl⟩
  refine S_if_eq_b (q := 8) 25 hX dX12_hide_5 rfl rfl (fun c5 => ?_) (fun c5 => ?_)
  · refine S_aload_n (q := 26) hX dX12_hide_25 rfl rfl ?_
    refine S_callV (ci := 12) (C := "FanTalkModel") (T := TX12) (N := 17) (q := 29) 0 0 hX (c_X12_bad _ μ) rfl ?hs_9 rfl u_864 u_866 us_30 u_12 u_867 ⟨by decide, by decide, rfl⟩ ⟨Nat.le_of_ble_eq_true rfl, Nat.le_of_ble_eq_true rfl⟩ ⟨Nat.le_of_ble_eq_true rfl, Nat.le_of_ble_eq_true rfl⟩ (Nat.le_of_ble_eq_true rfl) dX12_hide_26 ?hp_9 rfl rfl rfl ?_
    case hs_9 => first | with_reducible assumption | exact ⟨_, by with_reducible assumption⟩ | exact MM.isO hM
    case hp_9 => exact hM
    rintro v σ sz1 ⟨μ9, hM, hF1, rfl, e9, rfl⟩
    have hF := hF.trans hF1
    refine S_pop (q := 30) hX dX12_hide_29 rfl rfl ?_
    refine S_bipush (q := 32) (v := (-10)) hX dX12_hide_30 bp_m10 rfl ?_
    refine S_iret hX dX12_hide_32 (Nat.zero_le _) (Nat.zero_le _) ?_
    refine hP _ _ _ ?_
    exact ⟨_, hM, hF, ⟨_, rfl, Or.inl ⟨Or.inl c5, rfl, hR.rf (by decide) e9⟩⟩, rfl⟩
  · refine S_aload_n (q := 9) hX dX12_hide_8 rfl rfl ?_
    refine S_iload_n (q := 10) hX dX12_hide_9 rfl rfl ?_
    refine S_callV (ci := 12) (C := "FanTalkModel") (T := TX12) (N := 17) (q := 13) 0 0 hX (c_X12_isCode _ μ _ 0 S.1.1.1) rfl ?hs_10 rfl u_854 u_856 us_29 u_12 u_857 ⟨by decide, by decide, rfl⟩ ⟨Nat.le_of_ble_eq_true rfl, Nat.le_of_ble_eq_true rfl⟩ ⟨Nat.le_of_ble_eq_true rfl, Nat.le_of_ble_eq_true rfl⟩ (Nat.le_of_ble_eq_true rfl) dX12_hide_10 ?hp_10 rfl rfl rfl ?_
    case hs_10 => first | with_reducible assumption | exact ⟨_, by with_reducible assumption⟩ | exact MM.isO hM
    case hp_10 => exact ⟨hM, h0, by decide, hC0, ok.1.1⟩
    rintro v σ1 sz1 ⟨rfl, rfl, rfl⟩
    refine S_if_eq_b (q := 16) 25 hX dX12_hide_13 rfl rfl (fun c13 => ?_) (fun c13 => ?_)
    · refine S_aload_n (q := 26) hX dX12_hide_25 rfl rfl ?_
      refine S_callV (ci := 12) (C := "FanTalkModel") (T := TX12) (N := 17) (q := 29) 0 0 hX (c_X12_bad _ μ) rfl ?hs_11 rfl u_864 u_866 us_30 u_12 u_867 ⟨by decide, by decide, rfl⟩ ⟨Nat.le_of_ble_eq_true rfl, Nat.le_of_ble_eq_true rfl⟩ ⟨Nat.le_of_ble_eq_true rfl, Nat.le_of_ble_eq_true rfl⟩ (Nat.le_of_ble_eq_true rfl) dX12_hide_26 ?hp_11 rfl rfl rfl ?_
      case hs_11 => first | with_reducible assumption | exact ⟨_, by with_reducible assumption⟩ | exact MM.isO hM
      case hp_11 => exact hM
      rintro v σ sz1 ⟨μ9, hM, hF1, rfl, e9, rfl⟩
      have hF := hF.trans hF1
      refine S_pop (q := 30) hX dX12_hide_29 rfl rfl ?_
      refine S_bipush (q := 32) (v := (-10)) hX dX12_hide_30 bp_m10 rfl ?_
      refine S_iret hX dX12_hide_32 (Nat.zero_le _) (Nat.zero_le _) ?_
      refine hP _ _ _ ?_
      exact ⟨_, hM, hF, ⟨_, rfl, Or.inl ⟨Or.inr (Or.inl c13), rfl, hR.rf (by decide) e9⟩⟩, rfl⟩
    · refine S_iload_n (q := 17) hX dX12_hide_16 rfl rfl ?_
      refine S_iconst (q := 18) (v := 0) hX dX12_hide_17 ic_0 rfl ?_
      refine S_iconst (q := 19) (v := 5) hX dX12_hide_18 ic_5 rfl ?_
      refine S_callS (q := 22) 0 0 hX (c_X12_in _ _ _) rfl u_858 u_859 u_12 u_860 ⟨by decide, by decide, rfl⟩ ⟨Nat.le_of_ble_eq_true rfl, Nat.le_of_ble_eq_true rfl⟩ ⟨Nat.le_of_ble_eq_true rfl, Nat.le_of_ble_eq_true rfl⟩ (Nat.le_of_ble_eq_true rfl) dX12_hide_19 ?hp_12 rfl rfl rfl ?_
      case hp_12 => trivial
      rintro v σ1 sz1 ⟨rfl, rfl, rfl⟩
      refine S_top (bi_congr (rg z 0 5 _ _ (by decide) (by decide))) ?_
      refine S_if_ne_b (q := 25) 33 hX dX12_hide_22 rfl rfl (fun c22 => ?_) (fun c22 => ?_)
      · refine S_iconst (q := 34) (v := 1) hX dX12_hide_33 ic_1 rfl ?_
        refine S_istore (q := 36) [_, _, _, _, _, _] hX dX12_hide_34 rfl (Nat.le_of_ble_eq_true rfl) rfl rfl ?_
        exact outer c5 c13 c22 6 1 _ _ _ none rfl (Nat.le_refl _) (by omega) hs hM hF (fun n' v' a1 a2 => by omega) (by omega)
      · refine S_aload_n (q := 26) hX dX12_hide_25 rfl rfl ?_
        refine S_callV (ci := 12) (C := "FanTalkModel") (T := TX12) (N := 17) (q := 29) 0 0 hX (c_X12_bad _ μ) rfl ?hs_13 rfl u_864 u_866 us_30 u_12 u_867 ⟨by decide, by decide, rfl⟩ ⟨Nat.le_of_ble_eq_true rfl, Nat.le_of_ble_eq_true rfl⟩ ⟨Nat.le_of_ble_eq_true rfl, Nat.le_of_ble_eq_true rfl⟩ (Nat.le_of_ble_eq_true rfl) dX12_hide_26 ?hp_13 rfl rfl rfl ?_
        case hs_13 => first | with_reducible assumption | exact ⟨_, by with_reducible assumption⟩ | exact MM.isO hM
        case hp_13 => exact hM
        rintro v σ sz1 ⟨μ9, hM, hF1, rfl, e9, rfl⟩
        have hF := hF.trans hF1
        refine S_pop (q := 30) hX dX12_hide_29 rfl rfl ?_
        refine S_bipush (q := 32) (v := (-10)) hX dX12_hide_30 bp_m10 rfl ?_
        refine S_iret hX dX12_hide_32 (Nat.zero_le _) (Nat.zero_le _) ?_
        refine hP _ _ _ ?_
        exact ⟨_, hM, hF, ⟨_, rfl, Or.inl ⟨Or.inr (Or.inr c22), rfl, hR.rf (by decide) e9⟩⟩, rfl⟩
