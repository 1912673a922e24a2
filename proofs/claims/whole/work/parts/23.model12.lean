/-! the reference: hide, save -/
abbrev hid_bad (S : ST) (x y z : Int32) : Prop := ¬ okc x S.1.1.1 ∨ ¬ okc y S.1.1.1 ∨ ¬ inb z 0 5
theorem hid_iff {S : ST} {a b k n : Nat} {r : Nat → Nat} (h : rowOk n r) : hides S a b k n (rv r n) ↔ (rdK 0 (fun b => drw 0 (r b) b) n (S.1.1.2.1 a) = wantL S ∧ (rdK 2 (fun b => drw 0 (r b) b) n (S.1.1.2.1 b)).length ≤ k) := by
  unfold hides
  rw [rdK_0, rdK_0, rdK_congr (w := stN (rv r n) n) (w' := r) (fun b hb => stN_rv n h b hb), rdK_congr (w := stN (rv r n) n) (w' := r) (fun b hb => stN_rv n h b hb)]
theorem scr.go {μ : MF} {g : Nat → Int32} : scr μ (m1 μ 5 g) := ⟨fun j hj => m1_ne (by omega), fun i _ _ => by rw [m1_ne (by decide)]⟩
theorem lt_pow6 {n : Nat} (h : n ≤ 6) : 2 * 12 ^ n ≤ 5971968 := by
  rcases (show n = 0 ∨ n = 1 ∨ n = 2 ∨ n = 3 ∨ n = 4 ∨ n = 5 ∨ n = 6 by omega) with rfl | rfl | rfl | rfl | rfl | rfl | rfl <;> decide

theorem c_X12_hide (m : Nat) (μ : MF) (S : ST) (x y z : Int32) : CT_X12_hide [.ref m, .int x, .int y, .int z] (fun Γ σ sz => MM σ m μ ∧ MR μ S ∧ StOk S) (fun Γ σ sz v σ' sz' => ∃ μ', MM σ' m μ' ∧ Fr m (m + 9) σ σ' ∧ (∃ r, v = some (.int r) ∧ ((hid_bad S x y z ∧ r = -10 ∧ MR μ' (rfS S 0)) ∨ (¬ hid_bad S x y z ∧ HideR S (tN x) (tN y) (tN z) r ∧ MR μ' S))) ∧ sz' = sz) := by
  refine CT.mkP rfl (Nat.le_of_ble_eq_true rfl) [_, _, _, _, _, _] rfl ?_
  intro X Γ σ sz P hX hpre hsz hP
  obtain ⟨hM, hR, ok⟩ := hpre
  have hF : Fr m (m + 9) σ σ := Fr.rf
  have h0 := hR.1
  have hC0 := hR.2.1.1
  obtain ⟨q0, q1, q2, q3, q4, q5, q6, q7, q8, q9⟩ := id hR.2.1
  obtain ⟨o1, o2, o3, o4, o5, o6, o7, o8, o9, o10⟩ := id ok.1
  obtain ⟨σ0, eσ0⟩ : ∃ z, z = σ := ⟨σ, rfl⟩
  rw [← eσ0] at hP
  have hF : Fr m (m + 9) σ0 σ := by rw [eσ0]; exact Fr.rf
  obtain ⟨μ0, eμ0⟩ : ∃ z, z = μ := ⟨μ, rfl⟩
  have hs : scr μ0 μ := by rw [eμ0]; exact scr.rf
  have hR0 := hR
  rw [← eμ0] at hR0
  have outer : okc x S.1.1.1 → okc y S.1.1.1 → inb z 0 5 → ∀ (fl : Nat) (n : Nat) (σ : Sg) (μ : MF) (x4 : Int32) (x5 : Option Value), x4 = nI n → 1 ≤ n → n ≤ 6 → scr μ0 μ → MM σ m μ → Fr m (m + 9) σ0 σ → (∀ n' v', 1 ≤ n' → n' < n → lawful n' v' → ¬ hides S (tN x) (tN y) (tN z) n' v') → 6 - n < fl → G X Γ P 0 0 36 [some (.ref m), some (.int x), some (.int y), some (.int z), some (.int x4), x5] [] σ sz := by
    intro hx hy hz fl
    have cx := okc.ex hx
    have cy := okc.ex hy
    have cz := tN_ex hz.1
    have hz5 : tN z ≤ 5 := by have := hz.2; omega
    have hcx := ok.1.2.1.2.1 (tN x) cx.2.1
    have hcy := ok.1.2.1.2.1 (tN y) cy.2.1
    induction fl with
      | zero => intro n σ μ x4 x5 _ _ _ _ _ _ _ hfu; exact absurd hfu (Nat.not_lt_zero _)
      | succ fl iho =>
        rintro n σ μ _ x5 rfl hn1 hn6 hs hM hF hnone hfu
        have h0 := (hR0.scr hs).1
        have inner : ∀ (fl2 : Nat) (x5 : Int32) (σ : Sg) (μ : MF), n < 6 → ((x5 = 1 ∧ ∃ r, lawF n r ∧ μ 0 7 = nI n ∧ (∀ i, i < n → μ 5 i = nI (r i)) ∧ (∀ v', v' < rv r n → lawful n v' → ¬ hides S (tN x) (tN y) (tN z) n v') ∧ 2 * 12 ^ n - rv r n < fl2) ∨ (x5 = 0 ∧ 0 < fl2 ∧ ∀ v', lawful n v' → ¬ hides S (tN x) (tN y) (tN z) n v')) → scr μ0 μ → MM σ m μ → Fr m (m + 9) σ0 σ → G X Γ P 0 0 52 [some (.ref m), some (.int x), some (.int y), some (.int z), some (.int (nI n)), some (.int x5)] [] σ sz := by
          intro fl2
          induction fl2 with
          | zero =>
            rintro x5 σ μ hn5 hI hs hM hF
            rcases hI with ⟨e5, r, hr, h7, hmk, hlo, hfu⟩ | ⟨e5, hfu, hall⟩
            · exact absurd hfu (Nat.not_lt_zero _)
            · exact absurd hfu (Nat.not_lt_zero _)
          | succ fl2 ih =>
            rintro x5 σ μ hn5 hI hs hM hF
            have go91 : ∀ (r : Nat → Nat) (σ : Sg) (μ : MF), lawF n r → μ 0 7 = nI n → (∀ i, i < n → μ 5 i = nI (r i)) → (∀ v', v' < rv r n → lawful n v' → ¬ hides S (tN x) (tN y) (tN z) n v') → 2 * 12 ^ n - rv r n < fl2 + 1 → ¬ hides S (tN x) (tN y) (tN z) n (rv r n) → scr μ0 μ → MM σ m μ → Fr m (m + 9) σ0 σ → G X Γ P 0 0 91 [some (.ref m), some (.int x), some (.int y), some (.int z), some (.int (nI n)), some (.int x5)] [] σ sz := by
              intro r σ μ hr h7 hmk hlo hfu hno hs hM hF
              refine S_aload_n (q := 92) hX dX12_hide_91 rfl rfl ?_
              refine S_iload (q := 94) hX dX12_hide_92 rfl rfl ?_
              refine S_iconst (q := 95) (v := 1) hX dX12_hide_94 ic_1 rfl ?_
              refine S_isub (q := 96) hX dX12_hide_95 rfl ?_
              refine S_callV (ci := 12) (C := "FanTalkModel") (T := TX12) (N := 17) (q := 99) 0 0 hX (c_X12_goOn _ μ _ n r (by rw [i1, pk_sub (by omega)])) rfl ?hs_1 rfl u_1035 u_1037 us_52 u_12 u_1038 ⟨by decide, by decide, rfl⟩ ⟨Nat.le_of_ble_eq_true rfl, Nat.le_of_ble_eq_true rfl⟩ ⟨Nat.le_of_ble_eq_true rfl, Nat.le_of_ble_eq_true rfl⟩ (Nat.le_of_ble_eq_true rfl) dX12_hide_96 ?hp_1 rfl rfl rfl ?_
              case hs_1 => first | with_reducible assumption | exact ⟨_, by with_reducible assumption⟩ | exact MM.isO hM
              case hp_1 => exact ⟨hM, h7, by omega, by omega, hr, hmk⟩
              rintro v σ sz1 ⟨μ1, hM, hF1, hv, rfl⟩
              have hF := hF.trans hF1
              obtain ⟨y5, hvy, hd, hsn⟩ : ∃ y5, v = some (.int y5) ∧ ((y5 = 1 ∧ ∃ t, μ1 0 7 = μ 0 7 ∧ Nx n r t ∧ ∀ i, i < n → μ1 5 i = nI (t i)) ∨ (y5 = 0 ∧ NoNx n r)) ∧ scr μ μ1 := by
                rcases hv with ⟨hv, g, t, e, h1, h2⟩ | ⟨hv, h1, g, e⟩
                · exact ⟨1, hv, Or.inl ⟨rfl, t, by rw [e, m1_ne (by decide)], h1, fun i hi => by rw [e, m1_eq]; exact h2 i hi⟩, by rw [e]; exact scr.go⟩
                · exact ⟨0, hv, Or.inr ⟨rfl, h1⟩, by rw [e]; exact scr.go⟩
              subst hvy
              refine S_istore (q := 101) [_, _, _, _, _, _] hX dX12_hide_99 rfl (Nat.le_of_ble_eq_true rfl) rfl rfl ?_
              refine S_goto 52 hX dX12_hide_101 rfl ?_
              refine ih _ σ _ hn5 ?_ (hs.trans hsn) hM hF
              rcases hd with ⟨e1, t, eμ, ht, h1⟩ | ⟨e1, hN⟩
              · refine Or.inl ⟨e1, t, ht.1, eμ.trans h7, h1, fun v' a1 a2 => ?_, ?_⟩
                · have := ht.2.2 v' a2 a1
                  rcases Nat.lt_or_ge v' (rv r n) with q | q
                  · exact hlo v' q a2
                  · rw [show v' = rv r n by omega]; exact hno
                · have := ht.2.1
                  have := rv_hi n ht.1.1
                  omega
              · refine Or.inr ⟨e1, by have := rv_hi n hr.1; omega, fun v' a2 => ?_⟩
                have := hN v' a2
                rcases Nat.lt_or_ge v' (rv r n) with q | q
                · exact hlo v' q a2
                · rw [show v' = rv r n by omega]; exact hno
            refine S_iload (q := 54) hX dX12_hide_52 rfl rfl ?_
            refine S_if_eq (q := 57) 104 hX dX12_hide_54 rfl rfl (fun c54 => ?_) (fun c54 => ?_)
            · obtain ⟨rfl, _, hall⟩ := hI.resolve_left (fun q => absurd (q.1.symm.trans c54) (by decide))
              refine S_iinc (q := 107) [_, _, _, _, _, _] hX dX12_hide_104 rfl (ii_1 _) rfl (Nat.le_of_ble_eq_true rfl) rfl rfl ?_
              refine S_goto 36 hX dX12_hide_107 rfl ?_
              exact iho (n + 1) σ μ _ _ (nI_1 _) (by omega) (by omega) hs hM hF (fun n' v' a1 a2 => by
                rcases Nat.lt_succ_iff_lt_or_eq.mp a2 with q | q
                · exact hnone n' v' a1 q
                · rw [q]; exact hall v') (by omega)
            · obtain ⟨rfl, r, hr, h7, hmk, hlo, hfu⟩ := hI.resolve_right (fun q => c54 q.1)
              have h0 := (hR0.scr hs).1
              have hrl := rv_hi n hr.1
              refine S_aload_n (q := 58) hX dX12_hide_57 rfl rfl ?_
              refine S_iconst (q := 59) (v := 0) hX dX12_hide_58 ic_0 rfl ?_
              refine S_iload_n (q := 60) hX dX12_hide_59 rfl rfl ?_
              refine S_iconst (q := 61) (v := 0) hX dX12_hide_60 ic_0 rfl ?_
              refine S_callV (ci := 12) (C := "FanTalkModel") (T := TX12) (N := 17) (q := 64) 0 0 hX (c_X12_readBy _ μ _ _ _ 0 (tN x) 0 n 0 r (S.1.1.2.1 (tN x)) rfl cx.1 rfl) rfl ?hs_2 rfl u_976 u_978 us_46 u_12 u_979 ⟨by decide, by decide, rfl⟩ ⟨Nat.le_of_ble_eq_true rfl, Nat.le_of_ble_eq_true rfl⟩ ⟨Nat.le_of_ble_eq_true rfl, Nat.le_of_ble_eq_true rfl⟩ (Nat.le_of_ble_eq_true rfl) dX12_hide_61 ?hp_2 rfl rfl rfl ?_
              case hs_2 => first | with_reducible assumption | exact ⟨_, by with_reducible assumption⟩ | exact MM.isO hM
              case hp_2 => exact ⟨hM, by omega, by omega, by omega, h0, by omega, h7, fun i hi => ⟨hmk i hi, hr.1 i hi⟩, (hR0.scr hs).2.1.code cx.2.1, hcx⟩
              rintro v σ sz1 ⟨μ1, hM, hF1, rfl, ⟨vf, wf, e1, hw⟩, rfl⟩
              have hF := hF.trans hF1
              have hs1 := hs.trans (scr.read e1)
              have h18 : μ1 0 8 = nI (rdK 0 (fun b => drw 0 (r b) b) n (S.1.1.2.1 (tN x))).length := by rw [e1, m2_at, if_pos ⟨rfl, rfl⟩]
              have hln : (rdK 0 (fun b => drw 0 (r b) b) n (S.1.1.2.1 (tN x))).length ≤ n := rdL_len _ _
              have hw7 : WL (μ1 7) (rdK 0 (fun b => drw 0 (r b) b) n (S.1.1.2.1 (tN x))) := by rw [e1, m2_o (by decide), m1_eq]; exact hw
              have h17 : μ1 0 7 = nI n := by rw [e1, m2_at, if_neg (by decide), m1_ne (by decide), m1_ne (by decide)]; exact h7
              have h1k : ∀ i, i < n → μ1 5 i = nI (r i) := fun i hi => by rw [e1, m2_o (by decide), m1_ne (by decide), m1_ne (by decide)]; exact hmk i hi
              refine S_aload_n (q := 65) hX dX12_hide_64 rfl rfl ?_
              refine S_callV (ci := 12) (C := "FanTalkModel") (T := TX12) (N := 17) (q := 68) 0 0 hX (c_X12_readsWant _ μ1 S (rdK 0 (fun b => drw 0 (r b) b) n (S.1.1.2.1 (tN x)))) rfl ?hs_3 rfl u_1027 u_1029 us_50 u_12 u_1030 ⟨by decide, by decide, rfl⟩ ⟨Nat.le_of_ble_eq_true rfl, Nat.le_of_ble_eq_true rfl⟩ ⟨Nat.le_of_ble_eq_true rfl, Nat.le_of_ble_eq_true rfl⟩ (Nat.le_of_ble_eq_true rfl) dX12_hide_65 ?hp_3 rfl rfl rfl ?_
              case hs_3 => first | with_reducible assumption | exact ⟨_, by with_reducible assumption⟩ | exact MM.isO hM
              case hp_3 => exact ⟨hM, hR0.scr hs1, ok.1, h18, hw7, by omega, rdL_10 hcx _ _⟩
              rintro v σ1 sz1 ⟨rfl, rfl, rfl⟩
              refine S_if_eq_b (q := 71) 91 hX dX12_hide_68 rfl rfl (fun c68 => ?_) (fun c68 => ?_)
              · exact go91 r _ _ hr (by rw [e1, m2_at, if_neg (by decide), m1_ne (by decide), m1_ne (by decide)]; exact h7) (fun i hi => by rw [e1, m2_o (by decide), m1_ne (by decide), m1_ne (by decide)]; exact hmk i hi) hlo (by omega) (fun q => c68 ((hid_iff hr.1).mp q).1) hs1 hM hF
              · refine S_aload_n (q := 72) hX dX12_hide_71 rfl rfl ?_
                refine S_iconst (q := 73) (v := 2) hX dX12_hide_72 ic_2 rfl ?_
                refine S_iload_n (q := 74) hX dX12_hide_73 rfl rfl ?_
                refine S_iconst (q := 75) (v := 0) hX dX12_hide_74 ic_0 rfl ?_
                refine S_callV (ci := 12) (C := "FanTalkModel") (T := TX12) (N := 17) (q := 78) 0 0 hX (c_X12_readBy _ μ1 _ _ _ 2 (tN y) 0 n 0 r (S.1.1.2.1 (tN y)) rfl cy.1 rfl) rfl ?hs_4 rfl u_976 u_978 us_46 u_12 u_979 ⟨by decide, by decide, rfl⟩ ⟨Nat.le_of_ble_eq_true rfl, Nat.le_of_ble_eq_true rfl⟩ ⟨Nat.le_of_ble_eq_true rfl, Nat.le_of_ble_eq_true rfl⟩ (Nat.le_of_ble_eq_true rfl) dX12_hide_75 ?hp_4 rfl rfl rfl ?_
                case hs_4 => first | with_reducible assumption | exact ⟨_, by with_reducible assumption⟩ | exact MM.isO hM
                case hp_4 => exact ⟨hM, by omega, by omega, by omega, (hR0.scr hs1).1, by omega, h17, fun i hi => ⟨h1k i hi, hr.1 i hi⟩, (hR0.scr hs1).2.1.code cy.2.1, hcy⟩
                rintro v σ sz1 ⟨μ2, hM, hF1, rfl, ⟨vf2, wf2, e2, hw2⟩, rfl⟩
                have hF := hF.trans hF1
                have hs2 := hs1.trans (scr.read e2)
                have hln2 : (rdK 2 (fun b => drw 0 (r b) b) n (S.1.1.2.1 (tN y))).length ≤ n := rdL_len _ _
                have h28 : μ2 0 8 = nI (rdK 2 (fun b => drw 0 (r b) b) n (S.1.1.2.1 (tN y))).length := by rw [e2, m2_at, if_pos ⟨rfl, rfl⟩]
                have h2k : ∀ i, i < n → μ2 5 i = nI (r i) := fun i hi => by rw [e2, m2_o (by decide), m1_ne (by decide), m1_ne (by decide)]; exact h1k i hi
                have h27 : μ2 0 7 = nI n := by rw [e2, m2_at, if_neg (by decide), m1_ne (by decide), m1_ne (by decide)]; exact h17
                refine S_aload_n (q := 79) hX dX12_hide_78 rfl rfl ?_
                refine S_getf (fs := ?fs_5) (v := ?v_5) (q := 82) hX u_797 fo_X12_wordMany dX12_hide_79 ?hs_5 ?hv_5 rfl ?_
                case hs_5 => with_reducible first | exact MM.c0 hM | exact MM.c1 hM | exact MM.c5 hM | exact MM.c6 hM | exact MM.c7 hM | exact MM.c3 hM | exact MM.c4 hM | exact MM.c8 hM | exact MM.c2 hM
                case hv_5 => rfl
                refine S_iload_n (q := 83) hX dX12_hide_82 rfl rfl ?_
                refine S_icmp_gt (q := 86) 91 hX dX12_hide_83 rfl rfl (fun c83 => ?_) (fun c83 => ?_)
                · have hgt : ¬ (rdK 2 (fun b => drw 0 (r b) b) n (S.1.1.2.1 (tN y))).length ≤ tN z := by rw [h28, lt_i, nI_toInt (by omega)] at c83; omega
                  exact go91 r _ _ hr (by rw [e2, m2_at, if_neg (by decide), m1_ne (by decide), m1_ne (by decide)]; exact h17) (fun i hi => by rw [e2, m2_o (by decide), m1_ne (by decide), m1_ne (by decide)]; exact h1k i hi) hlo (by omega) (fun q => hgt ((hid_iff hr.1).mp q).2) hs2 hM hF
                · have hle : (rdK 2 (fun b => drw 0 (r b) b) n (S.1.1.2.1 (tN y))).length ≤ tN z := by rw [h28, lt_i, nI_toInt (by omega)] at c83; omega
                  refine S_aload_n (q := 87) hX dX12_hide_86 rfl rfl ?_
                  refine S_callV (ci := 12) (C := "FanTalkModel") (T := TX12) (N := 17) (q := 90) 0 0 hX (c_X12_madeRow _ μ2 n r) rfl ?hs_6 rfl u_1031 u_1033 us_51 u_12 u_1034 ⟨by decide, by decide, rfl⟩ ⟨Nat.le_of_ble_eq_true rfl, Nat.le_of_ble_eq_true rfl⟩ ⟨Nat.le_of_ble_eq_true rfl, Nat.le_of_ble_eq_true rfl⟩ (Nat.le_of_ble_eq_true rfl) dX12_hide_87 ?hp_6 rfl rfl rfl ?_
                  case hs_6 => first | with_reducible assumption | exact ⟨_, by with_reducible assumption⟩ | exact MM.isO hM
                  case hp_6 => exact ⟨hM, by omega, h27, h2k⟩
                  rintro v σ1 sz1 ⟨rfl, rfl, rfl⟩
                  refine S_iret hX dX12_hide_90 (Nat.zero_le _) (Nat.zero_le _) ?_
                  refine hP _ _ _ ?_
                  refine ⟨_, hM, hF, ⟨_, rfl, Or.inr ⟨fun q => ?_, Or.inl ⟨n, rv r n, hn1, by omega, lawF_n hr, (hid_iff hr.1).mpr ⟨c68, hle⟩, rfl, hnone, hlo⟩, hR0.scr hs2⟩⟩, rfl⟩
                  rcases q with q | q | q
                  · exact q hx
                  · exact q hy
                  · exact q hz
        refine S_iload (q := 38) hX dX12_hide_36 rfl rfl ?_
        refine S_bipush (q := 40) (v := 6) hX dX12_hide_38 bp_6 rfl ?_
        refine S_icmp_ge (q := 43) 110 hX dX12_hide_40 rfl rfl (fun c40 => ?_) (fun c40 => ?_)
        · have hge : n = 6 := by rw [i6, nI_leI (by omega) (by omega)] at c40; omega
          subst hge
          refine S_iconst (q := 111) (v := (-1)) hX dX12_hide_110 ic_m1 rfl ?_
          refine S_iret hX dX12_hide_111 (Nat.zero_le _) (Nat.zero_le _) ?_
          refine hP _ _ _ ?_
          refine ⟨_, hM, hF, ⟨_, rfl, Or.inr ⟨fun q => ?_, Or.inr ⟨rfl, fun n' v' a1 a2 => hnone n' v' a1 (by omega)⟩, hR0.scr hs⟩⟩, rfl⟩
          rcases q with q | q | q
          · exact q hx
          · exact q hy
          · exact q hz
        · have hn5 : n < 6 := by rw [i6, nI_leI (by omega) (by omega)] at c40; omega
          refine S_aload_n (q := 44) hX dX12_hide_43 rfl rfl ?_
          refine S_iload (q := 46) hX dX12_hide_44 rfl rfl ?_
          refine S_callV (ci := 12) (C := "FanTalkModel") (T := TX12) (N := 17) (q := 49) 0 0 hX (c_X12_makeLeast _ μ _ n rfl) rfl ?hs_7 rfl u_1023 u_1025 us_49 u_12 u_1026 ⟨by decide, by decide, rfl⟩ ⟨Nat.le_of_ble_eq_true rfl, Nat.le_of_ble_eq_true rfl⟩ ⟨Nat.le_of_ble_eq_true rfl, Nat.le_of_ble_eq_true rfl⟩ (Nat.le_of_ble_eq_true rfl) dX12_hide_46 ?hp_7 rfl rfl rfl ?_
          case hs_7 => first | with_reducible assumption | exact ⟨_, by with_reducible assumption⟩ | exact MM.isO hM
          case hp_7 => exact ⟨hM, by omega⟩
          rintro v σ sz1 ⟨μ1, hM, hF1, rfl, ⟨g, e1, hg⟩, rfl⟩
          have hF := hF.trans hF1
          refine S_iconst (q := 50) (v := 1) hX dX12_hide_49 ic_1 rfl ?_
          refine S_istore (q := 52) [_, _, _, _, _, _] hX dX12_hide_50 rfl (Nat.le_of_ble_eq_true rfl) rfl rfl ?_
          exact inner (2 * 12 ^ n + 1) _ _ μ1 hn5 (Or.inl ⟨rfl, fun _ => 0, (zero_least (fun k _ => rfl)).1, by rw [e1, m1_ne (by decide), m2_at, if_pos ⟨rfl, rfl⟩], fun i hi => by rw [e1, m1_eq]; exact hg i hi, fun v' a1 a2 => by have := (zero_least (n := n) (f := fun _ => 0) (fun k _ => rfl)).2 v' a2; omega, by omega⟩) (hs.trans (scr.make e1)) hM hF
  refine S_aload_n (q := 1) hX dX12_hide_0 rfl rfl ?_
  refine S_iload_n (q := 2) hX dX12_hide_1 rfl rfl ?_
  refine S_callV (ci := 12) (C := "FanTalkModel") (T := TX12) (N := 17) (q := 5) 0 0 hX (c_X12_isCode _ μ _ 0 S.1.1.1) rfl ?hs_8 rfl u_854 u_856 us_29 u_12 u_857 ⟨by decide, by decide, rfl⟩ ⟨Nat.le_of_ble_eq_true rfl, Nat.le_of_ble_eq_true rfl⟩ ⟨Nat.le_of_ble_eq_true rfl, Nat.le_of_ble_eq_true rfl⟩ (Nat.le_of_ble_eq_true rfl) dX12_hide_2 ?hp_8 rfl rfl rfl ?_
  case hs_8 => first | with_reducible assumption | exact ⟨_, by with_reducible assumption⟩ | exact MM.isO hM
  case hp_8 => exact ⟨hM, h0, by decide, hC0, ok.1.1⟩
  rintro v σ1 sz1 ⟨rfl, rfl, rfl⟩
  refine S_if_eq_b (q := 8) 25 hX dX12_hide_5 rfl rfl (fun c5 => ?_) (fun c5 => ?_)
  · refine S_aload_n (q := 26) hX dX12_hide_25 rfl rfl ?_
    refine S_callV (ci := 12) (C := "FanTalkModel") (T := TX12) (N := 17) (q := 29) 0 0 hX (c_X12_bad _ μ) rfl ?hs_9 rfl u_864 u_866 us_30 u_12 u_867 ⟨by decide, by decide, rfl⟩ ⟨Nat.le_of_ble_eq_true rfl, Nat.le_of_ble_eq_true rfl⟩ ⟨Nat.le_of_ble_eq_true rfl, Nat.le_of_ble_eq_true rfl⟩ (Nat.le_of_ble_eq_true rfl) dX12_hide_26 ?hp_9 rfl rfl rfl ?_
    case hs_9 => first | with_reducible assumption | exact ⟨_, by with_reducible assumption⟩ | exact MM.isO hM
    case hp_9 => exact hM
    rintro v σ sz1 ⟨μ9, hM, hF1, rfl, e9, rfl⟩
    have hF := hF.trans hF1
    refine S_pop (q := 30) hX dX12_hide_29 rfl rfl ?_
    refine S_bipush (q := 32) (v := (-10)) hX dX12_hide_30 bp_m10 rfl ?_
    refine S_iret hX dX12_hide_32 (Nat.zero_le _) (Nat.zero_le _) ?_
    refine hP _ _ _ ?_
    exact ⟨_, hM, hF, ⟨_, rfl, Or.inl ⟨Or.inl c5, rfl, hR.rf (by decide) e9⟩⟩, rfl⟩
  · refine S_aload_n (q := 9) hX dX12_hide_8 rfl rfl ?_
    refine S_iload_n (q := 10) hX dX12_hide_9 rfl rfl ?_
    refine S_callV (ci := 12) (C := "FanTalkModel") (T := TX12) (N := 17) (q := 13) 0 0 hX (c_X12_isCode _ μ _ 0 S.1.1.1) rfl ?hs_10 rfl u_854 u_856 us_29 u_12 u_857 ⟨by decide, by decide, rfl⟩ ⟨Nat.le_of_ble_eq_true rfl, Nat.le_of_ble_eq_true rfl⟩ ⟨Nat.le_of_ble_eq_true rfl, Nat.le_of_ble_eq_true rfl⟩ (Nat.le_of_ble_eq_true rfl) dX12_hide_10 ?hp_10 rfl rfl rfl ?_
    case hs_10 => first | with_reducible assumption | exact ⟨_, by with_reducible assumption⟩ | exact MM.isO hM
    case hp_10 => exact ⟨hM, h0, by decide, hC0, ok.1.1⟩
    rintro v σ1 sz1 ⟨rfl, rfl, rfl⟩
    refine S_if_eq_b (q := 16) 25 hX dX12_hide_13 rfl rfl (fun c13 => ?_) (fun c13 => ?_)
    · refine S_aload_n (q := 26) hX dX12_hide_25 rfl rfl ?_
      refine S_callV (ci := 12) (C := "FanTalkModel") (T := TX12) (N := 17) (q := 29) 0 0 hX (c_X12_bad _ μ) rfl ?hs_11 rfl u_864 u_866 us_30 u_12 u_867 ⟨by decide, by decide, rfl⟩ ⟨Nat.le_of_ble_eq_true rfl, Nat.le_of_ble_eq_true rfl⟩ ⟨Nat.le_of_ble_eq_true rfl, Nat.le_of_ble_eq_true rfl⟩ (Nat.le_of_ble_eq_true rfl) dX12_hide_26 ?hp_11 rfl rfl rfl ?_
      case hs_11 => first | with_reducible assumption | exact ⟨_, by with_reducible assumption⟩ | exact MM.isO hM
      case hp_11 => exact hM
      rintro v σ sz1 ⟨μ9, hM, hF1, rfl, e9, rfl⟩
      have hF := hF.trans hF1
      refine S_pop (q := 30) hX dX12_hide_29 rfl rfl ?_
      refine S_bipush (q := 32) (v := (-10)) hX dX12_hide_30 bp_m10 rfl ?_
      refine S_iret hX dX12_hide_32 (Nat.zero_le _) (Nat.zero_le _) ?_
      refine hP _ _ _ ?_
      exact ⟨_, hM, hF, ⟨_, rfl, Or.inl ⟨Or.inr (Or.inl c13), rfl, hR.rf (by decide) e9⟩⟩, rfl⟩
    · refine S_iload_n (q := 17) hX dX12_hide_16 rfl rfl ?_
      refine S_iconst (q := 18) (v := 0) hX dX12_hide_17 ic_0 rfl ?_
      refine S_iconst (q := 19) (v := 5) hX dX12_hide_18 ic_5 rfl ?_
      refine S_callS (q := 22) 0 0 hX (c_X12_in _ _ _) rfl u_858 u_859 u_12 u_860 ⟨by decide, by decide, rfl⟩ ⟨Nat.le_of_ble_eq_true rfl, Nat.le_of_ble_eq_true rfl⟩ ⟨Nat.le_of_ble_eq_true rfl, Nat.le_of_ble_eq_true rfl⟩ (Nat.le_of_ble_eq_true rfl) dX12_hide_19 ?hp_12 rfl rfl rfl ?_
      case hp_12 => trivial
      rintro v σ1 sz1 ⟨rfl, rfl, rfl⟩
      refine S_top (bi_congr (rg z 0 5 _ _ (by decide) (by decide))) ?_
      refine S_if_ne_b (q := 25) 33 hX dX12_hide_22 rfl rfl (fun c22 => ?_) (fun c22 => ?_)
      · refine S_iconst (q := 34) (v := 1) hX dX12_hide_33 ic_1 rfl ?_
        refine S_istore (q := 36) [_, _, _, _, _, _] hX dX12_hide_34 rfl (Nat.le_of_ble_eq_true rfl) rfl rfl ?_
        exact outer c5 c13 c22 6 1 _ _ _ none rfl (Nat.le_refl _) (by omega) hs hM hF (fun n' v' a1 a2 => by omega) (by omega)
      · refine S_aload_n (q := 26) hX dX12_hide_25 rfl rfl ?_
        refine S_callV (ci := 12) (C := "FanTalkModel") (T := TX12) (N := 17) (q := 29) 0 0 hX (c_X12_bad _ μ) rfl ?hs_13 rfl u_864 u_866 us_30 u_12 u_867 ⟨by decide, by decide, rfl⟩ ⟨Nat.le_of_ble_eq_true rfl, Nat.le_of_ble_eq_true rfl⟩ ⟨Nat.le_of_ble_eq_true rfl, Nat.le_of_ble_eq_true rfl⟩ (Nat.le_of_ble_eq_true rfl) dX12_hide_26 ?hp_13 rfl rfl rfl ?_
        case hs_13 => first | with_reducible assumption | exact ⟨_, by with_reducible assumption⟩ | exact MM.isO hM
        case hp_13 => exact hM
        rintro v σ sz1 ⟨μ9, hM, hF1, rfl, e9, rfl⟩
        have hF := hF.trans hF1
        refine S_pop (q := 30) hX dX12_hide_29 rfl rfl ?_
        refine S_bipush (q := 32) (v := (-10)) hX dX12_hide_30 bp_m10 rfl ?_
        refine S_iret hX dX12_hide_32 (Nat.zero_le _) (Nat.zero_le _) ?_
        refine hP _ _ _ ?_
        exact ⟨_, hM, hF, ⟨_, rfl, Or.inl ⟨Or.inr (Or.inr c22), rfl, hR.rf (by decide) e9⟩⟩, rfl⟩
abbrev sav_bad (S : ST) (x y z : Int32) : Prop := ¬ okc x S.1.1.1 ∨ ¬ inb y 0 9 ∨ ¬ inb z 0 1
theorem apN_le (n v w : Nat) : apN n v w ≤ n := by
  unfold apN
  exact Nat.le_trans (List.length_filter_le _ _) (Nat.le_of_eq List.length_range)
theorem sav_iff {S : ST} {c wd n : Nat} {r : Nat → Nat} (h : rowOk n r) : saves S c wd n (rv r n) ↔ wd ∉ rdK 0 (fun b => drw S.1.2.2.1 (r b) b) n (S.1.1.2.1 c) := by
  unfold saves
  rw [rdK_congr (w := fun b => drw S.1.2.2.1 (stN (rv r n) n b) b) (w' := fun b => drw S.1.2.2.1 (r b) b) (fun b hb => by rw [stN_rv n h b hb])]
/-- the best of the rows below bd -/
def BT (S : ST) (c wd n bd : Nat) (x5 x6 : Int32) : Prop := (x5 = -1 ∧ x6 = -1 ∧ ∀ v', v' < bd → lawful n v' → ¬ saves S c wd n v') ∨
  ∃ v, v < bd ∧ x5 = nI (apN n v S.1.2.2.2.1) ∧ x6 = nI v ∧ lawful n v ∧ saves S c wd n v ∧ ∀ v', v' < bd → lawful n v' → saves S c wd n v' → apN n v S.1.2.2.2.1 < apN n v' S.1.2.2.2.1 ∨ (apN n v S.1.2.2.2.1 = apN n v' S.1.2.2.2.1 ∧ v ≤ v')
theorem BT.mono {S : ST} {c wd n bd bd' : Nat} {x5 x6 : Int32} (h : BT S c wd n bd x5 x6) (h1 : bd ≤ bd') (h2 : ∀ v', v' < bd' → lawful n v' → v' < bd) : BT S c wd n bd' x5 x6 := by
  rcases h with ⟨a, b, k⟩ | ⟨v, a, b, d, e, f, k⟩
  · exact Or.inl ⟨a, b, fun v' q1 q2 => k v' (h2 v' q1 q2) q2⟩
  · exact Or.inr ⟨v, by omega, b, d, e, f, fun v' q1 q2 => k v' (h2 v' q1 q2) q2⟩
theorem BT.keep {S : ST} {c wd n bd : Nat} {x5 x6 : Int32} (h : BT S c wd n bd x5 x6) (h1 : ¬ saves S c wd n bd) : BT S c wd n (bd + 1) x5 x6 := by
  rcases h with ⟨a, b, k⟩ | ⟨v, a, b, d, e, f, k⟩
  · refine Or.inl ⟨a, b, fun v' q1 q2 => ?_⟩
    rcases Nat.lt_succ_iff_lt_or_eq.mp q1 with q | q
    · exact k v' q q2
    · rw [q]; exact h1
  · refine Or.inr ⟨v, by omega, b, d, e, f, fun v' q1 q2 q3 => ?_⟩
    rcases Nat.lt_succ_iff_lt_or_eq.mp q1 with q | q
    · exact k v' q q2 q3
    · rw [q] at q3; exact absurd q3 h1
theorem BT.skip {S : ST} {c wd n bd : Nat} {x5 x6 : Int32} (h : BT S c wd n bd x5 x6) (hn : n ≤ 6) (h0 : ¬ x5 = -1) (h1 : x5 ≤ nI (apN n bd S.1.2.2.2.1)) : BT S c wd n (bd + 1) x5 x6 := by
  rcases h with ⟨a, b, k⟩ | ⟨v, a, b, d, e, f, k⟩
  · exact absurd a h0
  · have b1 := apN_le n v S.1.2.2.2.1
    have b2 := apN_le n bd S.1.2.2.2.1
    rw [b, nI_leI (by omega) (by omega)] at h1
    refine Or.inr ⟨v, by omega, b, d, e, f, fun v' q1 q2 q3 => ?_⟩
    rcases Nat.lt_succ_iff_lt_or_eq.mp q1 with q | q
    · exact k v' q q2 q3
    · rw [q]
      omega
theorem BT.new {S : ST} {c wd n bd : Nat} {x5 x6 : Int32} (h : BT S c wd n bd x5 x6) (hn : n ≤ 6) (h0 : x5 = -1 ∨ ¬ x5 ≤ nI (apN n bd S.1.2.2.2.1)) (hl : lawful n bd) (hs : saves S c wd n bd) : BT S c wd n (bd + 1) (nI (apN n bd S.1.2.2.2.1)) (nI bd) := by
  refine Or.inr ⟨bd, by omega, rfl, rfl, hl, hs, fun v' q1 q2 q3 => ?_⟩
  rcases Nat.lt_succ_iff_lt_or_eq.mp q1 with q | q
  · rcases h with ⟨a, b, k⟩ | ⟨v, a, b, d, e, f, k⟩
    · exact absurd q3 (k v' q q2)
    · have b1 := apN_le n v S.1.2.2.2.1
      have b2 := apN_le n bd S.1.2.2.2.1
      rcases h0 with h0 | h0
      · rw [b] at h0
        have := congrArg Int32.toInt h0
        rw [nI_toInt (by omega), show ((-1 : Int32)).toInt = -1 by decide] at this
        omega
      · rw [b, nI_leI (by omega) (by omega)] at h0
        have := k v' q q2 q3
        omega
  · rw [q]
    omega

theorem c_X12_save (m : Nat) (μ : MF) (S : ST) (x y z : Int32) : CT_X12_save [.ref m, .int x, .int y, .int z] (fun Γ σ sz => MM σ m μ ∧ MR μ S ∧ StOk S) (fun Γ σ sz v σ' sz' => ∃ μ', MM σ' m μ' ∧ Fr m (m + 9) σ σ' ∧ (∃ r, v = some (.int r) ∧ ((sav_bad S x y z ∧ r = -10 ∧ MR μ' (rfS S 0)) ∨ (¬ sav_bad S x y z ∧ S.1.2.2.2.1 = 0 ∧ r = -20 ∧ MR μ' (rfS S 1)) ∨ (¬ sav_bad S x y z ∧ ¬ S.1.2.2.2.1 = 0 ∧ SaveR S (tN x) (tN y) (ln S.1.2.2.2.1) z.toInt r ∧ MR μ' S))) ∧ sz' = sz) := by
  refine CT.mkP rfl (Nat.le_of_ble_eq_true rfl) [_, _, _, _, _, _, _, _, _] rfl ?_
  intro X Γ σ sz P hX hpre hsz hP
  obtain ⟨hM, hR, ok⟩ := hpre
  have hF : Fr m (m + 9) σ σ := Fr.rf
  have h0 := hR.1
  have hC0 := hR.2.1.1
  obtain ⟨q0, q1, q2, q3, q4, q5, q6, q7, q8, q9⟩ := id hR.2.1
  obtain ⟨o1, o2, o3, o4, o5, o6, o7, o8, o9, o10⟩ := id ok.1
  obtain ⟨σ0, eσ0⟩ : ∃ z, z = σ := ⟨σ, rfl⟩
  rw [← eσ0] at hP
  have hF : Fr m (m + 9) σ0 σ := by rw [eσ0]; exact Fr.rf
  obtain ⟨μ0, eμ0⟩ : ∃ z, z = μ := ⟨μ, rfl⟩
  have hs : scr μ0 μ := by rw [eμ0]; exact scr.rf
  have hR0 := hR
  rw [← eμ0] at hR0
  have hsy := sy_lt ok
  obtain ⟨n, en⟩ : ∃ n, n = ln S.1.2.2.2.1 := ⟨_, rfl⟩
  have hn6 : n ≤ 6 := by rw [en]; exact ln_6 _
  have outer : okc x S.1.1.1 → inb y 0 9 → inb z 0 1 → ¬ S.1.2.2.2.1 = 0 → 1 ≤ n → ∀ (fl : Nat) (x5 x6 x7 : Int32) (x8 : Option Value) (σ : Sg) (μ : MF), ((x7 = 1 ∧ ∃ r, lawF n r ∧ μ 0 7 = nI n ∧ (∀ i, i < n → μ 5 i = nI (r i)) ∧ BT S (tN x) (tN y) n (rv r n) x5 x6 ∧ 2 * 12 ^ n - rv r n < fl) ∨ (x7 = 0 ∧ 0 < fl ∧ BT S (tN x) (tN y) n (2 * 12 ^ n) x5 x6)) → scr μ0 μ → MM σ m μ → Fr m (m + 9) σ0 σ → G X Γ P 0 0 73 [some (.ref m), some (.int x), some (.int y), some (.int z), some (.int (nI S.1.2.2.2.1)), some (.int x5), some (.int x6), some (.int x7), x8] [] σ sz := by
    intro hx hy hz hsy0 hn1 fl
    have cx := okc.ex hx
    have cy := tN_ex hy.1
    have hy9 : tN y ≤ 9 := by have := hy.2; omega
    have hcx := ok.1.2.1.2.1 (tN x) cx.2.1
    induction fl with
      | zero =>
        rintro x5 x6 x7 x8 σ μ hI hs hM hF
        rcases hI with ⟨_, r, _, _, _, _, hfu⟩ | ⟨_, hfu, _⟩
        · exact absurd hfu (Nat.not_lt_zero _)
        · exact absurd hfu (Nat.not_lt_zero _)
      | succ fl ih =>
        rintro x5 x6 x7 x8 σ μ hI hs hM hF
        have h0 := (hR0.scr hs).1
        have go128 : ∀ (r : Nat → Nat) (x5 x6 : Int32) (x8 : Option Value) (σ : Sg) (μ : MF), lawF n r → μ 0 7 = nI n → (∀ i, i < n → μ 5 i = nI (r i)) → BT S (tN x) (tN y) n (rv r n + 1) x5 x6 → 2 * 12 ^ n - rv r n < fl + 1 → scr μ0 μ → MM σ m μ → Fr m (m + 9) σ0 σ → G X Γ P 0 0 128 [some (.ref m), some (.int x), some (.int y), some (.int z), some (.int (nI S.1.2.2.2.1)), some (.int x5), some (.int x6), some (.int x7), x8] [] σ sz := by
          intro r x5 x6 x8 σ μ hr h7 hmk hB hfu hs hM hF
          refine S_aload_n (q := 129) hX dX12_save_128 rfl rfl ?_
          refine S_aload_n (q := 130) hX dX12_save_129 rfl rfl ?_
          refine S_getf (fs := ?fs_1) (v := ?v_1) (q := 133) hX u_794 fo_X12_beats dX12_save_130 ?hs_1 ?hv_1 rfl ?_
          case hs_1 => with_reducible first | exact MM.c0 hM | exact MM.c1 hM | exact MM.c5 hM | exact MM.c6 hM | exact MM.c7 hM | exact MM.c3 hM | exact MM.c4 hM | exact MM.c8 hM | exact MM.c2 hM
          case hv_1 => rfl
          refine S_iconst (q := 134) (v := 1) hX dX12_save_133 ic_1 rfl ?_
          refine S_isub (q := 135) hX dX12_save_134 rfl ?_
          refine S_callV (ci := 12) (C := "FanTalkModel") (T := TX12) (N := 17) (q := 138) 0 0 hX (c_X12_goOn _ μ _ n r (by rw [h7, i1, pk_sub (by omega)])) rfl ?hs_2 rfl u_1035 u_1037 us_52 u_12 u_1038 ⟨by decide, by decide, rfl⟩ ⟨Nat.le_of_ble_eq_true rfl, Nat.le_of_ble_eq_true rfl⟩ ⟨Nat.le_of_ble_eq_true rfl, Nat.le_of_ble_eq_true rfl⟩ (Nat.le_of_ble_eq_true rfl) dX12_save_135 ?hp_2 rfl rfl rfl ?_
          case hs_2 => first | with_reducible assumption | exact ⟨_, by with_reducible assumption⟩ | exact MM.isO hM
          case hp_2 => exact ⟨hM, h7, by omega, by omega, hr, hmk⟩
          rintro v σ sz1 ⟨μ1, hM, hF1, hv, rfl⟩
          have hF := hF.trans hF1
          obtain ⟨y7, hvy, hd, hsn⟩ : ∃ y7, v = some (.int y7) ∧ ((y7 = 1 ∧ ∃ t, μ1 0 7 = μ 0 7 ∧ Nx n r t ∧ ∀ i, i < n → μ1 5 i = nI (t i)) ∨ (y7 = 0 ∧ NoNx n r)) ∧ scr μ μ1 := by
            rcases hv with ⟨hv, g, t, e, h1, h2⟩ | ⟨hv, h1, g, e⟩
            · exact ⟨1, hv, Or.inl ⟨rfl, t, by rw [e, m1_ne (by decide)], h1, fun i hi => by rw [e, m1_eq]; exact h2 i hi⟩, by rw [e]; exact scr.go⟩
            · exact ⟨0, hv, Or.inr ⟨rfl, h1⟩, by rw [e]; exact scr.go⟩
          subst hvy
          refine S_istore (q := 140) [_, _, _, _, _, _, _, _, _] hX dX12_save_138 rfl (Nat.le_of_ble_eq_true rfl) rfl rfl ?_
          refine S_goto 73 hX dX12_save_140 rfl ?_
          refine ih _ _ _ _ _ _ ?_ (hs.trans hsn) hM hF
          have hrh := rv_hi n hr.1
          rcases hd with ⟨e1, t, eμ, ht, h1⟩ | ⟨e1, hN⟩
          · refine Or.inl ⟨e1, t, ht.1, eμ.trans h7, h1, hB.mono ht.2.1 (fun v' a1 a2 => ?_), ?_⟩
            · have := ht.2.2 v' a2 a1
              omega
            · have := ht.2.1
              omega
          · refine Or.inr ⟨e1, by omega, hB.mono hrh (fun v' a1 a2 => ?_)⟩
            have := hN v' a2
            omega
        refine S_iload (q := 75) hX dX12_save_73 rfl rfl ?_
        refine S_if_eq (q := 78) 143 hX dX12_save_75 rfl rfl (fun c75 => ?_) (fun c75 => ?_)
        · obtain ⟨rfl, _, hall⟩ := hI.resolve_left (fun q => absurd (q.1.symm.trans c75) (by decide))
          refine S_iload_n (q := 144) hX dX12_save_143 rfl rfl ?_
          refine S_if_ne (q := 147) 152 hX dX12_save_144 rfl rfl (fun c144 => ?_) (fun c144 => ?_)
          · refine S_iload (q := 154) hX dX12_save_152 rfl rfl ?_
            refine S_iret hX dX12_save_154 (Nat.zero_le _) (Nat.zero_le _) ?_
            refine hP _ _ _ ?_
            refine ⟨_, hM, hF, ⟨_, rfl, Or.inr (Or.inr ⟨fun q => by
              rcases q with q | q | q
              · exact q hx
              · exact q hy
              · exact q hz, hsy0, ?_, hR0.scr hs⟩)⟩, rfl⟩
            rw [← en]
            rcases hall with ⟨a, b, k⟩ | ⟨v, a, b, d, e, f, k⟩
            · exact Or.inr ⟨b, fun v' a1 => k v' a1.2.1 a1⟩
            · exact Or.inl ⟨v, e, f, fun v' a1 => k v' a1.2.1 a1, by rw [if_neg (fun q => c144 (eq_i.mpr (q.trans toI0.symm)))]; exact d⟩
          · refine S_iload (q := 149) hX dX12_save_147 rfl rfl ?_
            refine S_goto 154 hX dX12_save_149 rfl ?_
            refine S_iret hX dX12_save_154 (Nat.zero_le _) (Nat.zero_le _) ?_
            refine hP _ _ _ ?_
            refine ⟨_, hM, hF, ⟨_, rfl, Or.inr (Or.inr ⟨fun q => by
              rcases q with q | q | q
              · exact q hx
              · exact q hy
              · exact q hz, hsy0, ?_, hR0.scr hs⟩)⟩, rfl⟩
            rw [← en]
            rcases hall with ⟨a, b, k⟩ | ⟨v, a, b, d, e, f, k⟩
            · exact Or.inr ⟨a, fun v' a1 => k v' a1.2.1 a1⟩
            · exact Or.inl ⟨v, e, f, fun v' a1 => k v' a1.2.1 a1, by rw [c144, if_pos toI0]; exact b⟩
        · obtain ⟨rfl, r, hr, h7, hmk, hB, hfu⟩ := hI.resolve_right (fun q => c75 q.1)
          have h0 := (hR0.scr hs).1
          have hrl := rv_hi n hr.1
          refine S_aload_n (q := 79) hX dX12_save_78 rfl rfl ?_
          refine S_iload (q := 81) hX dX12_save_79 rfl rfl ?_
          refine S_callV (ci := 12) (C := "FanTalkModel") (T := TX12) (N := 17) (q := 84) 0 0 hX (c_X12_apart _ μ _ n S.1.2.2.2.1 r rfl) rfl ?hs_3 rfl u_1043 u_1045 us_53 u_12 u_1046 ⟨by decide, by decide, rfl⟩ ⟨Nat.le_of_ble_eq_true rfl, Nat.le_of_ble_eq_true rfl⟩ ⟨Nat.le_of_ble_eq_true rfl, Nat.le_of_ble_eq_true rfl⟩ (Nat.le_of_ble_eq_true rfl) dX12_save_81 ?hp_3 rfl rfl rfl ?_
          case hs_3 => first | with_reducible assumption | exact ⟨_, by with_reducible assumption⟩ | exact MM.isO hM
          case hp_3 => exact ⟨hM, hn6, h7, hsy, hr.1, hmk⟩
          rintro v σ1 sz1 ⟨rfl, rfl, rfl⟩
          refine S_istore (q := 86) [_, _, _, _, _, _, _, _, _] hX dX12_save_84 rfl (Nat.le_of_ble_eq_true rfl) rfl rfl ?_
          refine S_iload (q := 88) hX dX12_save_86 rfl rfl ?_
          refine S_iconst (q := 89) (v := (-1)) hX dX12_save_88 ic_m1 rfl ?_
          refine S_icmp_eq (q := 92) 99 hX dX12_save_89 rfl rfl (fun c89 => ?_) (fun c89 => ?_)
          · refine S_aload_n (q := 100) hX dX12_save_99 rfl rfl ?_
            refine S_iconst (q := 101) (v := 0) hX dX12_save_100 ic_0 rfl ?_
            refine S_iload_n (q := 102) hX dX12_save_101 rfl rfl ?_
            refine S_aload_n (q := 103) hX dX12_save_102 rfl rfl ?_
            refine S_iconst (q := 104) (v := 1) hX dX12_save_103 ic_1 rfl ?_
            refine S_callV (ci := 12) (C := "FanTalkModel") (T := TX12) (N := 17) (q := 107) 0 0 hX (c_X12_get _ μ _ 0 (1) (by first | rfl | (simp only [i0, i1, i2, i3, i4, i5, i6, i7, i8, i9, i10, i11, i12, i17, i20, i24, i26, i27, i31, i32, i36, i48, i57, i59, i60, i61, i63, i64, i87, i96, i97, i99, i122, i148, i250, i255, i305, i453, i999, i1359, i1812, pk_mul, nI_add]; done) | (simp only [i0, i1, i2, i3, i4, i5, i6, i7, i8, i9, i10, i11, i12, i17, i20, i24, i26, i27, i31, i32, i36, i48, i57, i59, i60, i61, i63, i64, i87, i96, i97, i99, i122, i148, i250, i255, i305, i453, i999, i1359, i1812, pk_mul, nI_add]; congr 1; omega))) rfl ?hs_4 rfl u_838 u_840 us_26 u_12 u_841 ⟨by decide, by decide, rfl⟩ ⟨Nat.le_of_ble_eq_true rfl, Nat.le_of_ble_eq_true rfl⟩ ⟨Nat.le_of_ble_eq_true rfl, Nat.le_of_ble_eq_true rfl⟩ (Nat.le_of_ble_eq_true rfl) dX12_save_104 ?hp_4 rfl rfl rfl ?_
            case hs_4 => first | with_reducible assumption | exact ⟨_, by with_reducible assumption⟩ | exact MM.isO hM
            case hp_4 => exact ⟨hM, h0, by omega⟩
            rintro v σ1 sz1 ⟨rfl, rfl, rfl⟩
            rw [(hR0.scr hs).2.1.2.1]
            refine S_callV (ci := 12) (C := "FanTalkModel") (T := TX12) (N := 17) (q := 110) 0 0 hX (c_X12_readBy _ μ _ _ _ 0 (tN x) S.1.2.2.1 n 0 r (S.1.1.2.1 (tN x)) rfl cx.1 rfl) rfl ?hs_5 rfl u_976 u_978 us_46 u_12 u_979 ⟨by decide, by decide, rfl⟩ ⟨Nat.le_of_ble_eq_true rfl, Nat.le_of_ble_eq_true rfl⟩ ⟨Nat.le_of_ble_eq_true rfl, Nat.le_of_ble_eq_true rfl⟩ (Nat.le_of_ble_eq_true rfl) dX12_save_107 ?hp_5 rfl rfl rfl ?_
            case hs_5 => first | with_reducible assumption | exact ⟨_, by with_reducible assumption⟩ | exact MM.isO hM
            case hp_5 => exact ⟨hM, by omega, o5, by omega, h0, by omega, h7, fun i hi => ⟨hmk i hi, hr.1 i hi⟩, (hR0.scr hs).2.1.code cx.2.1, hcx⟩
            rintro v σ sz1 ⟨μ1, hM, hF1, rfl, ⟨vf, wf, e1, hw⟩, rfl⟩
            have hF := hF.trans hF1
            have hs1 := hs.trans (scr.read e1)
            have h18 : μ1 0 8 = nI (rdK 0 (fun b => drw S.1.2.2.1 (r b) b) n (S.1.1.2.1 (tN x))).length := by rw [e1, m2_at, if_pos ⟨rfl, rfl⟩]
            have hln : (rdK 0 (fun b => drw S.1.2.2.1 (r b) b) n (S.1.1.2.1 (tN x))).length ≤ n := rdL_len _ _
            have hw7 : WL (μ1 7) (rdK 0 (fun b => drw S.1.2.2.1 (r b) b) n (S.1.1.2.1 (tN x))) := by rw [e1, m2_o (by decide), m1_eq]; exact hw
            have h17 : μ1 0 7 = nI n := by rw [e1, m2_at, if_neg (by decide), m1_ne (by decide), m1_ne (by decide)]; exact h7
            have h1k : ∀ i, i < n → μ1 5 i = nI (r i) := fun i hi => by rw [e1, m2_o (by decide), m1_ne (by decide), m1_ne (by decide)]; exact hmk i hi
            refine S_aload_n (q := 111) hX dX12_save_110 rfl rfl ?_
            refine S_iload_n (q := 112) hX dX12_save_111 rfl rfl ?_
            refine S_callV (ci := 12) (C := "FanTalkModel") (T := TX12) (N := 17) (q := 115) 0 0 hX (c_X12_hasRead _ μ1 _ (tN y) (rdK 0 (fun b => drw S.1.2.2.1 (r b) b) n (S.1.1.2.1 (tN x))) cy.1) rfl ?hs_6 rfl u_1047 u_1049 us_54 u_12 u_1050 ⟨by decide, by decide, rfl⟩ ⟨Nat.le_of_ble_eq_true rfl, Nat.le_of_ble_eq_true rfl⟩ ⟨Nat.le_of_ble_eq_true rfl, Nat.le_of_ble_eq_true rfl⟩ (Nat.le_of_ble_eq_true rfl) dX12_save_112 ?hp_6 rfl rfl rfl ?_
            case hs_6 => first | with_reducible assumption | exact ⟨_, by with_reducible assumption⟩ | exact MM.isO hM
            case hp_6 => exact ⟨hM, h18, by omega, hw7, by omega, fun i hi => by have := getD_10 (L := rdK 0 (fun b => drw S.1.2.2.1 (r b) b) n (S.1.1.2.1 (tN x))) (rdL_10 hcx _ _) i; omega⟩
            rintro v σ1 sz1 ⟨rfl, rfl, rfl⟩
            refine S_if_ne_b (q := 118) 128 hX dX12_save_115 rfl rfl (fun c115 => ?_) (fun c115 => ?_)
            · exact go128 r _ _ _ _ _ hr h17 h1k (hB.keep (fun q => (sav_iff hr.1).mp q c115)) (by omega) hs1 hM hF
            · refine S_iload (q := 120) hX dX12_save_118 rfl rfl ?_
              refine S_istore (q := 122) [_, _, _, _, _, _, _, _, _] hX dX12_save_120 rfl (Nat.le_of_ble_eq_true rfl) rfl rfl ?_
              refine S_aload_n (q := 123) hX dX12_save_122 rfl rfl ?_
              refine S_callV (ci := 12) (C := "FanTalkModel") (T := TX12) (N := 17) (q := 126) 0 0 hX (c_X12_madeRow _ μ1 n r) rfl ?hs_7 rfl u_1031 u_1033 us_51 u_12 u_1034 ⟨by decide, by decide, rfl⟩ ⟨Nat.le_of_ble_eq_true rfl, Nat.le_of_ble_eq_true rfl⟩ ⟨Nat.le_of_ble_eq_true rfl, Nat.le_of_ble_eq_true rfl⟩ (Nat.le_of_ble_eq_true rfl) dX12_save_123 ?hp_7 rfl rfl rfl ?_
              case hs_7 => first | with_reducible assumption | exact ⟨_, by with_reducible assumption⟩ | exact MM.isO hM
              case hp_7 => exact ⟨hM, hn6, h17, h1k⟩
              rintro v σ1 sz1 ⟨rfl, rfl, rfl⟩
              refine S_istore (q := 128) [_, _, _, _, _, _, _, _, _] hX dX12_save_126 rfl (Nat.le_of_ble_eq_true rfl) rfl rfl ?_
              exact go128 r _ _ _ _ _ hr h17 h1k (hB.new hn6 (Or.inl c89) (lawF_n hr) ((sav_iff hr.1).mpr c115)) (by omega) hs1 hM hF
          · refine S_iload (q := 94) hX dX12_save_92 rfl rfl ?_
            refine S_iload (q := 96) hX dX12_save_94 rfl rfl ?_
            refine S_icmp_ge (q := 99) 128 hX dX12_save_96 rfl rfl (fun c96 => ?_) (fun c96 => ?_)
            · exact go128 r _ _ _ _ _ hr h7 hmk (hB.skip hn6 c89 c96) (by omega) hs hM hF
            · refine S_aload_n (q := 100) hX dX12_save_99 rfl rfl ?_
              refine S_iconst (q := 101) (v := 0) hX dX12_save_100 ic_0 rfl ?_
              refine S_iload_n (q := 102) hX dX12_save_101 rfl rfl ?_
              refine S_aload_n (q := 103) hX dX12_save_102 rfl rfl ?_
              refine S_iconst (q := 104) (v := 1) hX dX12_save_103 ic_1 rfl ?_
              refine S_callV (ci := 12) (C := "FanTalkModel") (T := TX12) (N := 17) (q := 107) 0 0 hX (c_X12_get _ μ _ 0 (1) (by first | rfl | (simp only [i0, i1, i2, i3, i4, i5, i6, i7, i8, i9, i10, i11, i12, i17, i20, i24, i26, i27, i31, i32, i36, i48, i57, i59, i60, i61, i63, i64, i87, i96, i97, i99, i122, i148, i250, i255, i305, i453, i999, i1359, i1812, pk_mul, nI_add]; done) | (simp only [i0, i1, i2, i3, i4, i5, i6, i7, i8, i9, i10, i11, i12, i17, i20, i24, i26, i27, i31, i32, i36, i48, i57, i59, i60, i61, i63, i64, i87, i96, i97, i99, i122, i148, i250, i255, i305, i453, i999, i1359, i1812, pk_mul, nI_add]; congr 1; omega))) rfl ?hs_8 rfl u_838 u_840 us_26 u_12 u_841 ⟨by decide, by decide, rfl⟩ ⟨Nat.le_of_ble_eq_true rfl, Nat.le_of_ble_eq_true rfl⟩ ⟨Nat.le_of_ble_eq_true rfl, Nat.le_of_ble_eq_true rfl⟩ (Nat.le_of_ble_eq_true rfl) dX12_save_104 ?hp_8 rfl rfl rfl ?_
              case hs_8 => first | with_reducible assumption | exact ⟨_, by with_reducible assumption⟩ | exact MM.isO hM
              case hp_8 => exact ⟨hM, h0, by omega⟩
              rintro v σ1 sz1 ⟨rfl, rfl, rfl⟩
              rw [(hR0.scr hs).2.1.2.1]
              refine S_callV (ci := 12) (C := "FanTalkModel") (T := TX12) (N := 17) (q := 110) 0 0 hX (c_X12_readBy _ μ _ _ _ 0 (tN x) S.1.2.2.1 n 0 r (S.1.1.2.1 (tN x)) rfl cx.1 rfl) rfl ?hs_9 rfl u_976 u_978 us_46 u_12 u_979 ⟨by decide, by decide, rfl⟩ ⟨Nat.le_of_ble_eq_true rfl, Nat.le_of_ble_eq_true rfl⟩ ⟨Nat.le_of_ble_eq_true rfl, Nat.le_of_ble_eq_true rfl⟩ (Nat.le_of_ble_eq_true rfl) dX12_save_107 ?hp_9 rfl rfl rfl ?_
              case hs_9 => first | with_reducible assumption | exact ⟨_, by with_reducible assumption⟩ | exact MM.isO hM
              case hp_9 => exact ⟨hM, by omega, o5, by omega, h0, by omega, h7, fun i hi => ⟨hmk i hi, hr.1 i hi⟩, (hR0.scr hs).2.1.code cx.2.1, hcx⟩
              rintro v σ sz1 ⟨μ1, hM, hF1, rfl, ⟨vf, wf, e1, hw⟩, rfl⟩
              have hF := hF.trans hF1
              have hs1 := hs.trans (scr.read e1)
              have h18 : μ1 0 8 = nI (rdK 0 (fun b => drw S.1.2.2.1 (r b) b) n (S.1.1.2.1 (tN x))).length := by rw [e1, m2_at, if_pos ⟨rfl, rfl⟩]
              have hln : (rdK 0 (fun b => drw S.1.2.2.1 (r b) b) n (S.1.1.2.1 (tN x))).length ≤ n := rdL_len _ _
              have hw7 : WL (μ1 7) (rdK 0 (fun b => drw S.1.2.2.1 (r b) b) n (S.1.1.2.1 (tN x))) := by rw [e1, m2_o (by decide), m1_eq]; exact hw
              have h17 : μ1 0 7 = nI n := by rw [e1, m2_at, if_neg (by decide), m1_ne (by decide), m1_ne (by decide)]; exact h7
              have h1k : ∀ i, i < n → μ1 5 i = nI (r i) := fun i hi => by rw [e1, m2_o (by decide), m1_ne (by decide), m1_ne (by decide)]; exact hmk i hi
              refine S_aload_n (q := 111) hX dX12_save_110 rfl rfl ?_
              refine S_iload_n (q := 112) hX dX12_save_111 rfl rfl ?_
              refine S_callV (ci := 12) (C := "FanTalkModel") (T := TX12) (N := 17) (q := 115) 0 0 hX (c_X12_hasRead _ μ1 _ (tN y) (rdK 0 (fun b => drw S.1.2.2.1 (r b) b) n (S.1.1.2.1 (tN x))) cy.1) rfl ?hs_10 rfl u_1047 u_1049 us_54 u_12 u_1050 ⟨by decide, by decide, rfl⟩ ⟨Nat.le_of_ble_eq_true rfl, Nat.le_of_ble_eq_true rfl⟩ ⟨Nat.le_of_ble_eq_true rfl, Nat.le_of_ble_eq_true rfl⟩ (Nat.le_of_ble_eq_true rfl) dX12_save_112 ?hp_10 rfl rfl rfl ?_
              case hs_10 => first | with_reducible assumption | exact ⟨_, by with_reducible assumption⟩ | exact MM.isO hM
              case hp_10 => exact ⟨hM, h18, by omega, hw7, by omega, fun i hi => by have := getD_10 (L := rdK 0 (fun b => drw S.1.2.2.1 (r b) b) n (S.1.1.2.1 (tN x))) (rdL_10 hcx _ _) i; omega⟩
              rintro v σ1 sz1 ⟨rfl, rfl, rfl⟩
              refine S_if_ne_b (q := 118) 128 hX dX12_save_115 rfl rfl (fun c115 => ?_) (fun c115 => ?_)
              · exact go128 r _ _ _ _ _ hr h17 h1k (hB.keep (fun q => (sav_iff hr.1).mp q c115)) (by omega) hs1 hM hF
              · refine S_iload (q := 120) hX dX12_save_118 rfl rfl ?_
                refine S_istore (q := 122) [_, _, _, _, _, _, _, _, _] hX dX12_save_120 rfl (Nat.le_of_ble_eq_true rfl) rfl rfl ?_
                refine S_aload_n (q := 123) hX dX12_save_122 rfl rfl ?_
                refine S_callV (ci := 12) (C := "FanTalkModel") (T := TX12) (N := 17) (q := 126) 0 0 hX (c_X12_madeRow _ μ1 n r) rfl ?hs_11 rfl u_1031 u_1033 us_51 u_12 u_1034 ⟨by decide, by decide, rfl⟩ ⟨Nat.le_of_ble_eq_true rfl, Nat.le_of_ble_eq_true rfl⟩ ⟨Nat.le_of_ble_eq_true rfl, Nat.le_of_ble_eq_true rfl⟩ (Nat.le_of_ble_eq_true rfl) dX12_save_123 ?hp_11 rfl rfl rfl ?_
                case hs_11 => first | with_reducible assumption | exact ⟨_, by with_reducible assumption⟩ | exact MM.isO hM
                case hp_11 => exact ⟨hM, hn6, h17, h1k⟩
                rintro v σ1 sz1 ⟨rfl, rfl, rfl⟩
                refine S_istore (q := 128) [_, _, _, _, _, _, _, _, _] hX dX12_save_126 rfl (Nat.le_of_ble_eq_true rfl) rfl rfl ?_
                exact go128 r _ _ _ _ _ hr h17 h1k (hB.new hn6 (Or.inr c96) (lawF_n hr) ((sav_iff hr.1).mpr c115)) (by omega) hs1 hM hF
  refine S_aload_n (q := 1) hX dX12_save_0 rfl rfl ?_
  refine S_iload_n (q := 2) hX dX12_save_1 rfl rfl ?_
  refine S_callV (ci := 12) (C := "FanTalkModel") (T := TX12) (N := 17) (q := 5) 0 0 hX (c_X12_isCode _ μ _ 0 S.1.1.1) rfl ?hs_12 rfl u_854 u_856 us_29 u_12 u_857 ⟨by decide, by decide, rfl⟩ ⟨Nat.le_of_ble_eq_true rfl, Nat.le_of_ble_eq_true rfl⟩ ⟨Nat.le_of_ble_eq_true rfl, Nat.le_of_ble_eq_true rfl⟩ (Nat.le_of_ble_eq_true rfl) dX12_save_2 ?hp_12 rfl rfl rfl ?_
  case hs_12 => first | with_reducible assumption | exact ⟨_, by with_reducible assumption⟩ | exact MM.isO hM
  case hp_12 => exact ⟨hM, h0, by decide, hC0, ok.1.1⟩
  rintro v σ1 sz1 ⟨rfl, rfl, rfl⟩
  refine S_if_eq_b (q := 8) 27 hX dX12_save_5 rfl rfl (fun c5 => ?_) (fun c5 => ?_)
  · refine S_aload_n (q := 28) hX dX12_save_27 rfl rfl ?_
    refine S_callV (ci := 12) (C := "FanTalkModel") (T := TX12) (N := 17) (q := 31) 0 0 hX (c_X12_bad _ μ) rfl ?hs_13 rfl u_864 u_866 us_30 u_12 u_867 ⟨by decide, by decide, rfl⟩ ⟨Nat.le_of_ble_eq_true rfl, Nat.le_of_ble_eq_true rfl⟩ ⟨Nat.le_of_ble_eq_true rfl, Nat.le_of_ble_eq_true rfl⟩ (Nat.le_of_ble_eq_true rfl) dX12_save_28 ?hp_13 rfl rfl rfl ?_
    case hs_13 => first | with_reducible assumption | exact ⟨_, by with_reducible assumption⟩ | exact MM.isO hM
    case hp_13 => exact hM
    rintro v σ sz1 ⟨μ9, hM, hF1, rfl, e9, rfl⟩
    have hF := hF.trans hF1
    refine S_pop (q := 32) hX dX12_save_31 rfl rfl ?_
    refine S_bipush (q := 34) (v := (-10)) hX dX12_save_32 bp_m10 rfl ?_
    refine S_iret hX dX12_save_34 (Nat.zero_le _) (Nat.zero_le _) ?_
    refine hP _ _ _ ?_
    exact ⟨_, hM, hF, ⟨_, rfl, Or.inl ⟨Or.inl c5, rfl, hR.rf (by decide) e9⟩⟩, rfl⟩
  · refine S_iload_n (q := 9) hX dX12_save_8 rfl rfl ?_
    refine S_iconst (q := 10) (v := 0) hX dX12_save_9 ic_0 rfl ?_
    refine S_bipush (q := 12) (v := 9) hX dX12_save_10 bp_9 rfl ?_
    refine S_callS (q := 15) 0 0 hX (c_X12_in _ _ _) rfl u_858 u_859 u_12 u_860 ⟨by decide, by decide, rfl⟩ ⟨Nat.le_of_ble_eq_true rfl, Nat.le_of_ble_eq_true rfl⟩ ⟨Nat.le_of_ble_eq_true rfl, Nat.le_of_ble_eq_true rfl⟩ (Nat.le_of_ble_eq_true rfl) dX12_save_12 ?hp_14 rfl rfl rfl ?_
    case hp_14 => trivial
    rintro v σ1 sz1 ⟨rfl, rfl, rfl⟩
    refine S_top (bi_congr (rg y 0 9 _ _ (by decide) (by decide))) ?_
    refine S_if_eq_b (q := 18) 27 hX dX12_save_15 rfl rfl (fun c15 => ?_) (fun c15 => ?_)
    · refine S_aload_n (q := 28) hX dX12_save_27 rfl rfl ?_
      refine S_callV (ci := 12) (C := "FanTalkModel") (T := TX12) (N := 17) (q := 31) 0 0 hX (c_X12_bad _ μ) rfl ?hs_15 rfl u_864 u_866 us_30 u_12 u_867 ⟨by decide, by decide, rfl⟩ ⟨Nat.le_of_ble_eq_true rfl, Nat.le_of_ble_eq_true rfl⟩ ⟨Nat.le_of_ble_eq_true rfl, Nat.le_of_ble_eq_true rfl⟩ (Nat.le_of_ble_eq_true rfl) dX12_save_28 ?hp_15 rfl rfl rfl ?_
      case hs_15 => first | with_reducible assumption | exact ⟨_, by with_reducible assumption⟩ | exact MM.isO hM
      case hp_15 => exact hM
      rintro v σ sz1 ⟨μ9, hM, hF1, rfl, e9, rfl⟩
      have hF := hF.trans hF1
      refine S_pop (q := 32) hX dX12_save_31 rfl rfl ?_
      refine S_bipush (q := 34) (v := (-10)) hX dX12_save_32 bp_m10 rfl ?_
      refine S_iret hX dX12_save_34 (Nat.zero_le _) (Nat.zero_le _) ?_
      refine hP _ _ _ ?_
      exact ⟨_, hM, hF, ⟨_, rfl, Or.inl ⟨Or.inr (Or.inl c15), rfl, hR.rf (by decide) e9⟩⟩, rfl⟩
    · refine S_iload_n (q := 19) hX dX12_save_18 rfl rfl ?_
      refine S_iconst (q := 20) (v := 0) hX dX12_save_19 ic_0 rfl ?_
      refine S_iconst (q := 21) (v := 1) hX dX12_save_20 ic_1 rfl ?_
      refine S_callS (q := 24) 0 0 hX (c_X12_in _ _ _) rfl u_858 u_859 u_12 u_860 ⟨by decide, by decide, rfl⟩ ⟨Nat.le_of_ble_eq_true rfl, Nat.le_of_ble_eq_true rfl⟩ ⟨Nat.le_of_ble_eq_true rfl, Nat.le_of_ble_eq_true rfl⟩ (Nat.le_of_ble_eq_true rfl) dX12_save_21 ?hp_16 rfl rfl rfl ?_
      case hp_16 => trivial
      rintro v σ1 sz1 ⟨rfl, rfl, rfl⟩
      refine S_top (bi_congr (rg z 0 1 _ _ (by decide) (by decide))) ?_
      refine S_if_ne_b (q := 27) 35 hX dX12_save_24 rfl rfl (fun c24 => ?_) (fun c24 => ?_)
      · refine S_aload_n (q := 36) hX dX12_save_35 rfl rfl ?_
        refine S_iconst (q := 37) (v := 2) hX dX12_save_36 ic_2 rfl ?_
        refine S_callV (ci := 12) (C := "FanTalkModel") (T := TX12) (N := 17) (q := 40) 0 0 hX (c_X12_get _ μ _ 0 (2) (by first | rfl | (simp only [i0, i1, i2, i3, i4, i5, i6, i7, i8, i9, i10, i11, i12, i17, i20, i24, i26, i27, i31, i32, i36, i48, i57, i59, i60, i61, i63, i64, i87, i96, i97, i99, i122, i148, i250, i255, i305, i453, i999, i1359, i1812, pk_mul, nI_add]; done) | (simp only [i0, i1, i2, i3, i4, i5, i6, i7, i8, i9, i10, i11, i12, i17, i20, i24, i26, i27, i31, i32, i36, i48, i57, i59, i60, i61, i63, i64, i87, i96, i97, i99, i122, i148, i250, i255, i305, i453, i999, i1359, i1812, pk_mul, nI_add]; congr 1; omega))) rfl ?hs_17 rfl u_838 u_840 us_26 u_12 u_841 ⟨by decide, by decide, rfl⟩ ⟨Nat.le_of_ble_eq_true rfl, Nat.le_of_ble_eq_true rfl⟩ ⟨Nat.le_of_ble_eq_true rfl, Nat.le_of_ble_eq_true rfl⟩ (Nat.le_of_ble_eq_true rfl) dX12_save_37 ?hp_17 rfl rfl rfl ?_
        case hs_17 => first | with_reducible assumption | exact ⟨_, by with_reducible assumption⟩ | exact MM.isO hM
        case hp_17 => exact ⟨hM, h0, by omega⟩
        rintro v σ1 sz1 ⟨rfl, rfl, rfl⟩
        rw [q2]
        refine S_istore (q := 42) [_, _, _, _, _, _, _, _, _] hX dX12_save_40 rfl (Nat.le_of_ble_eq_true rfl) rfl rfl ?_
        refine S_iload (q := 44) hX dX12_save_42 rfl rfl ?_
        refine S_if_ne (q := 47) 55 hX dX12_save_44 rfl rfl (fun c44 => ?_) (fun c44 => ?_)
        · have hsy0 : ¬ S.1.2.2.2.1 = 0 := fun q => c44 (by rw [q]; rfl)
          refine S_iconst (q := 56) (v := (-1)) hX dX12_save_55 ic_m1 rfl ?_
          refine S_istore (q := 58) [_, _, _, _, _, _, _, _, _] hX dX12_save_56 rfl (Nat.le_of_ble_eq_true rfl) rfl rfl ?_
          refine S_iconst (q := 59) (v := (-1)) hX dX12_save_58 ic_m1 rfl ?_
          refine S_istore (q := 61) [_, _, _, _, _, _, _, _, _] hX dX12_save_59 rfl (Nat.le_of_ble_eq_true rfl) rfl rfl ?_
          refine S_aload_n (q := 62) hX dX12_save_61 rfl rfl ?_
          refine S_iload (q := 64) hX dX12_save_62 rfl rfl ?_
          refine S_callS (q := 67) 0 0 hX (c_X12_lengthOf _) rfl u_861 u_862 u_12 u_863 ⟨by decide, by decide, rfl⟩ ⟨Nat.le_of_ble_eq_true rfl, Nat.le_of_ble_eq_true rfl⟩ ⟨Nat.le_of_ble_eq_true rfl, Nat.le_of_ble_eq_true rfl⟩ (Nat.le_of_ble_eq_true rfl) dX12_save_64 ?hp_18 rfl rfl rfl ?_
          case hp_18 => trivial
          rintro v σ1 sz1 ⟨rfl, rfl, rfl⟩
          refine S_top (y := nI n) (by rw [nI_toInt hsy, en]; exact if_neg (by
            rcases ok.1.2.2.2.2.2.1 with q | q
            · exact absurd q hsy0
            · have := q.1; show ¬ ln S.1.2.2.2.1 = 0; omega)) ?_
          refine S_callV (ci := 12) (C := "FanTalkModel") (T := TX12) (N := 17) (q := 70) 0 0 hX (c_X12_makeLeast _ μ _ n rfl) rfl ?hs_19 rfl u_1023 u_1025 us_49 u_12 u_1026 ⟨by decide, by decide, rfl⟩ ⟨Nat.le_of_ble_eq_true rfl, Nat.le_of_ble_eq_true rfl⟩ ⟨Nat.le_of_ble_eq_true rfl, Nat.le_of_ble_eq_true rfl⟩ (Nat.le_of_ble_eq_true rfl) dX12_save_67 ?hp_19 rfl rfl rfl ?_
          case hs_19 => first | with_reducible assumption | exact ⟨_, by with_reducible assumption⟩ | exact MM.isO hM
          case hp_19 => exact ⟨hM, by omega⟩
          rintro v σ sz1 ⟨μ1, hM, hF1, rfl, ⟨g, e1, hg⟩, rfl⟩
          have hF := hF.trans hF1
          refine S_iconst (q := 71) (v := 1) hX dX12_save_70 ic_1 rfl ?_
          refine S_istore (q := 73) [_, _, _, _, _, _, _, _, _] hX dX12_save_71 rfl (Nat.le_of_ble_eq_true rfl) rfl rfl ?_
          have hn1 : 1 ≤ n := by rcases ok.1.2.2.2.2.2.1 with q | q; exact absurd q hsy0; rw [en]; exact q.1
          exact outer c5 c15 c24 hsy0 hn1 (2 * 12 ^ n + 1) _ _ _ none _ μ1 (Or.inl ⟨rfl, fun _ => 0, (zero_least (fun k _ => rfl)).1, by rw [e1, m1_ne (by decide), m2_at, if_pos ⟨rfl, rfl⟩], fun i hi => by rw [e1, m1_eq]; exact hg i hi, Or.inl ⟨rfl, rfl, fun v' a1 a2 => by have := (zero_least (n := n) (f := fun _ => 0) (fun k _ => rfl)).2 v' a2; omega⟩, by omega⟩) (hs.trans (scr.make e1)) hM hF
        · have hsy0 : S.1.2.2.2.1 = 0 := nI_inj (by omega) (by decide) c44
          refine S_aload_n (q := 48) hX dX12_save_47 rfl rfl ?_
          refine S_callV (ci := 12) (C := "FanTalkModel") (T := TX12) (N := 17) (q := 51) 0 0 hX (c_X12_no _ μ) rfl ?hs_20 rfl u_880 u_882 us_34 u_12 u_883 ⟨by decide, by decide, rfl⟩ ⟨Nat.le_of_ble_eq_true rfl, Nat.le_of_ble_eq_true rfl⟩ ⟨Nat.le_of_ble_eq_true rfl, Nat.le_of_ble_eq_true rfl⟩ (Nat.le_of_ble_eq_true rfl) dX12_save_48 ?hp_20 rfl rfl rfl ?_
          case hs_20 => first | with_reducible assumption | exact ⟨_, by with_reducible assumption⟩ | exact MM.isO hM
          case hp_20 => exact hM
          rintro v σ sz1 ⟨μ9, hM, hF1, rfl, e9, rfl⟩
          have hF := hF.trans hF1
          refine S_pop (q := 52) hX dX12_save_51 rfl rfl ?_
          refine S_bipush (q := 54) (v := (-20)) hX dX12_save_52 bp_m20 rfl ?_
          refine S_iret hX dX12_save_54 (Nat.zero_le _) (Nat.zero_le _) ?_
          refine hP _ _ _ ?_
          refine ⟨_, hM, hF, ⟨_, rfl, Or.inr (Or.inl ⟨fun q => by
            rcases q with q | q | q
            · exact q c5
            · exact q c15
            · exact q c24, hsy0, rfl, hR.rf (by decide) e9⟩)⟩, rfl⟩
      · refine S_aload_n (q := 28) hX dX12_save_27 rfl rfl ?_
        refine S_callV (ci := 12) (C := "FanTalkModel") (T := TX12) (N := 17) (q := 31) 0 0 hX (c_X12_bad _ μ) rfl ?hs_21 rfl u_864 u_866 us_30 u_12 u_867 ⟨by decide, by decide, rfl⟩ ⟨Nat.le_of_ble_eq_true rfl, Nat.le_of_ble_eq_true rfl⟩ ⟨Nat.le_of_ble_eq_true rfl, Nat.le_of_ble_eq_true rfl⟩ (Nat.le_of_ble_eq_true rfl) dX12_save_28 ?hp_21 rfl rfl rfl ?_
        case hs_21 => first | with_reducible assumption | exact ⟨_, by with_reducible assumption⟩ | exact MM.isO hM
        case hp_21 => exact hM
        rintro v σ sz1 ⟨μ9, hM, hF1, rfl, e9, rfl⟩
        have hF := hF.trans hF1
        refine S_pop (q := 32) hX dX12_save_31 rfl rfl ?_
        refine S_bipush (q := 34) (v := (-10)) hX dX12_save_32 bp_m10 rfl ?_
        refine S_iret hX dX12_save_34 (Nat.zero_le _) (Nat.zero_le _) ?_
        refine hP _ _ _ ?_
        exact ⟨_, hM, hF, ⟨_, rfl, Or.inl ⟨Or.inr (Or.inr c24), rfl, hR.rf (by decide) e9⟩⟩, rfl⟩
