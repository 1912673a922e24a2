/-! the reference: safe, mayBe -/
noncomputable def orb (p : Prop) (a b : Int32) : Int32 := @ite _ p (Classical.propDecidable p) (a ||| b) a
theorem orb_t {p : Prop} {a b : Int32} (h : p) : orb p a b = a ||| b := if_pos h
theorem orb_f {p : Prop} {a b : Int32} (h : ¬ p) : orb p a b = a := if_neg h
theorem orb_or {p q : Prop} {a b : Int32} (h : q) : orb p a b ||| b = orb q a b := by
  rw [orb_t h]
  by_cases hp : p
  · rw [orb_t hp, Int32.or_assoc, Int32.or_self]
  · rw [orb_f hp]
theorem or_0 (a : Int32) : a ||| 0 = a := Int32.or_zero
theorem orb_c {p q : Prop} {a b : Int32} (h : p ↔ q) : orb p a b = orb q a b := by
  by_cases hp : p
  · rw [orb_t hp, orb_t (h.mp hp)]
  · rw [orb_f hp, orb_f (fun z => hp (h.mpr z))]
theorem sh_pow {n : Nat} (h : n ≤ 6) : ((1 : Int32) <<< (nI n &&& 31)) = nI (2 ^ n) := by
  rcases (show n = 0 ∨ n = 1 ∨ n = 2 ∨ n = 3 ∨ n = 4 ∨ n = 5 ∨ n = 6 by omega) with rfl | rfl | rfl | rfl | rfl | rfl | rfl <;> decide
/-- by some draughts below set, or by set as far as k words, another word is read -/
def unsA (C : CodT) (r wd set k : Nat) : Prop := (∃ s, s < set ∧ ∃ w, w ∈ rdR 0 s r C ∧ w ≠ wd) ∨ ∃ j, j < k ∧ (rdR 0 set r C).getD j 0 ≠ wd
theorem unsA_0 {C : CodT} {r wd : Nat} : ¬ unsA C r wd 0 0 := by
  rintro (⟨s, h, _⟩ | ⟨j, h, _⟩)
  · exact absurd h (Nat.not_lt_zero _)
  · exact absurd h (Nat.not_lt_zero _)
theorem unsA_e {C : CodT} {r wd set k : Nat} (h : (rdR 0 set r C).getD k 0 = wd) : unsA C r wd set (k + 1) ↔ unsA C r wd set k := by
  constructor
  · rintro (h1 | ⟨j, a, b⟩)
    · exact Or.inl h1
    · rcases Nat.lt_succ_iff_lt_or_eq.mp a with q | q
      · exact Or.inr ⟨j, q, b⟩
      · rw [q] at b; exact absurd h b
  · rintro (h1 | ⟨j, a, b⟩)
    · exact Or.inl h1
    · exact Or.inr ⟨j, by omega, b⟩
theorem unsA_n {C : CodT} {r wd set k : Nat} (h : ¬ (rdR 0 set r C).getD k 0 = wd) : unsA C r wd set (k + 1) := Or.inr ⟨k, Nat.lt_succ_self _, h⟩
theorem unsA_s {C : CodT} {r wd set : Nat} : unsA C r wd set (rdR 0 set r C).length ↔ unsA C r wd (set + 1) 0 := by
  constructor
  · rintro (⟨s, h, x⟩ | ⟨j, a, b⟩)
    · exact Or.inl ⟨s, by omega, x⟩
    · refine Or.inl ⟨set, Nat.lt_succ_self _, (rdR 0 set r C).getD j 0, ?_, b⟩
      rw [List.getD_eq_getElem?_getD, List.getElem?_eq_getElem a, Option.getD_some]
      exact List.getElem_mem a
  · rintro (⟨s, h, x⟩ | ⟨j, a, b⟩)
    · rcases Nat.lt_succ_iff_lt_or_eq.mp h with q | q
      · exact Or.inl ⟨s, q, x⟩
      · obtain ⟨w, w1, w2⟩ := x
        rw [q] at w1
        obtain ⟨j, hj, e⟩ := List.getElem_of_mem w1
        refine Or.inr ⟨j, hj, ?_⟩
        rw [List.getD_eq_getElem?_getD, List.getElem?_eq_getElem hj, Option.getD_some, e]
        exact w2
    · exact absurd a (Nat.not_lt_zero _)
theorem unsA_E {C : CodT} {e : Nat} : unsA C (C.2 e).1 (C.2 e).2 (2 ^ ln (C.2 e).1) 0 ↔ unsE C e := by
  constructor
  · rintro (h | ⟨j, a, b⟩)
    · exact h
    · exact absurd a (Nat.not_lt_zero _)
  · exact fun h => Or.inl h
theorem two_pow3 {n : Nat} (h : n ≤ 3) : 2 ^ n ≤ 8 := by
  rcases (show n = 0 ∨ n = 1 ∨ n = 2 ∨ n = 3 by omega) with rfl | rfl | rfl | rfl <;> decide

theorem c_X12_safe (m : Nat) (μ : MF) (S : ST) (x : Int32) : CT_X12_safe [.ref m, .int x] (fun Γ σ sz => MM σ m μ ∧ MR μ S ∧ StOk S) (fun Γ σ sz v σ' sz' => ∃ μ', MM σ' m μ' ∧ Fr m (m + 9) σ σ' ∧ v = some (.int (sp_safe S x).1) ∧ MR μ' (sp_safe S x).2 ∧ sz' = sz) := by
  refine CT.mkP rfl (Nat.le_of_ble_eq_true rfl) [_, _, _, _, _, _, _, _] rfl ?_
  intro X Γ σ sz P hX hpre hsz hP
  obtain ⟨hM, hR, ok⟩ := hpre
  have hF : Fr m (m + 9) σ σ := Fr.rf
  have h0 := hR.1
  have hC0 := hR.2.1.1
  obtain ⟨q0, q1, q2, q3, q4, q5, q6, q7, q8, q9⟩ := id hR.2.1
  obtain ⟨o1, o2, o3, o4, o5, o6, o7, o8, o9, o10⟩ := id ok.1
  obtain ⟨σ0, eσ0⟩ : ∃ z, z = σ := ⟨σ, rfl⟩
  rw [← eσ0] at hP
  have hF : Fr m (m + 9) σ0 σ := by rw [eσ0]; exact Fr.rf
  obtain ⟨μ0, eμ0⟩ : ∃ z, z = μ := ⟨μ, rfl⟩
  have hs : scr μ0 μ := by rw [eμ0]; exact scr.rf
  have hR0 := hR
  rw [← eμ0] at hR0
  have l1 : okc x S.1.1.1 → ∀ (fl : Nat) (e : Nat) (x2 x3 x4 : Int32) (x5 x6 x7 : Option Value) (σ : Sg) (μ : MF), x2 = (sfI (S.1.1.2.1 (tN x)) e).1 → x3 = (sfI (S.1.1.2.1 (tN x)) e).2 → x4 = nI e → e ≤ (S.1.1.2.1 (tN x)).1 → scr μ0 μ → MM σ m μ → Fr m (m + 9) σ0 σ → (S.1.1.2.1 (tN x)).1 - e < fl → G X Γ P 0 0 20 [some (.ref m), some (.int x), some (.int x2), some (.int x3), some (.int x4), x5, x6, x7] [] σ sz := by
    intro hx fl
    have cx := okc.ex hx
    have hcx := ok.1.2.1.2.1 (tN x) cx.2.1
    have hc8 := hcx.1
    induction fl with
      | zero => intro e _ _ _ _ _ _ σ μ _ _ _ _ _ _ _ hfu; exact absurd hfu (Nat.not_lt_zero _)
      | succ fl ih1 =>
        rintro e _ _ _ x5 x6 x7 σ μ rfl rfl rfl he hs hM hF hfu
        have h0 := (hR0.scr hs).1
        have hcc := (hR0.scr hs).2.1.code cx.2.1
        have l2 : e < (S.1.1.2.1 (tN x)).1 → ∀ (fl2 : Nat) (s : Nat) (x3 x6 : Int32) (x7 : Option Value) (σ : Sg) (μ : MF), x3 = orb (unsA (S.1.1.2.1 (tN x)) ((S.1.1.2.1 (tN x)).2 e).1 ((S.1.1.2.1 (tN x)).2 e).2 s 0) (sfI (S.1.1.2.1 (tN x)) e).2 ((1 : Int32) <<< (nI ((S.1.1.2.1 (tN x)).2 e).2 &&& 31)) → x6 = nI s → s ≤ 2 ^ ln ((S.1.1.2.1 (tN x)).2 e).1 → μ 0 7 = nI (ln ((S.1.1.2.1 (tN x)).2 e).1) → (∀ i, i < ln ((S.1.1.2.1 (tN x)).2 e).1 → μ 5 i = nI (stN ((S.1.1.2.1 (tN x)).2 e).1 (ln ((S.1.1.2.1 (tN x)).2 e).1) i)) → scr μ0 μ → MM σ m μ → Fr m (m + 9) σ0 σ → 2 ^ ln ((S.1.1.2.1 (tN x)).2 e).1 - s < fl2 → G X Γ P 0 0 60 [some (.ref m), some (.int x), some (.int ((sfI (S.1.1.2.1 (tN x)) e).1 ||| ((1 : Int32) <<< (nI ((S.1.1.2.1 (tN x)).2 e).2 &&& 31)))), some (.int x3), some (.int (nI e)), some (.int (nI ((S.1.1.2.1 (tN x)).2 e).2)), some (.int x6), x7] [] σ sz := by
          intro hlt fl2
          have hce := hcx.2 e hlt
          have hp8 := two_pow3 hce.2.1
          induction fl2 with
            | zero => intro s _ _ _ σ μ _ _ _ _ _ _ _ _ hfu2; exact absurd hfu2 (Nat.not_lt_zero _)
            | succ fl2 ih2 =>
              rintro s _ _ x7 σ μ rfl rfl hs8 h7 hmk hs hM hF hfu2
              have h0 := (hR0.scr hs).1
              have hl6 : (rdR 0 s ((S.1.1.2.1 (tN x)).2 e).1 (S.1.1.2.1 (tN x))).length ≤ ln ((S.1.1.2.1 (tN x)).2 e).1 := rdL_len _ _
              have hL10 : ∀ w ∈ (rdR 0 s ((S.1.1.2.1 (tN x)).2 e).1 (S.1.1.2.1 (tN x))), w < 10 := rdL_10 hcx _ _
              have l3 : ∀ (fl3 : Nat) (k : Nat) (x3 x7 : Int32) (σ : Sg) (μ : MF), s < 2 ^ ln ((S.1.1.2.1 (tN x)).2 e).1 → x3 = orb (unsA (S.1.1.2.1 (tN x)) ((S.1.1.2.1 (tN x)).2 e).1 ((S.1.1.2.1 (tN x)).2 e).2 s k) (sfI (S.1.1.2.1 (tN x)) e).2 ((1 : Int32) <<< (nI ((S.1.1.2.1 (tN x)).2 e).2 &&& 31)) → x7 = nI k → k ≤ (rdR 0 s ((S.1.1.2.1 (tN x)).2 e).1 (S.1.1.2.1 (tN x))).length → μ 0 7 = nI (ln ((S.1.1.2.1 (tN x)).2 e).1) → (∀ i, i < ln ((S.1.1.2.1 (tN x)).2 e).1 → μ 5 i = nI (stN ((S.1.1.2.1 (tN x)).2 e).1 (ln ((S.1.1.2.1 (tN x)).2 e).1) i)) → μ 0 8 = nI (rdR 0 s ((S.1.1.2.1 (tN x)).2 e).1 (S.1.1.2.1 (tN x))).length → WL (μ 7) (rdR 0 s ((S.1.1.2.1 (tN x)).2 e).1 (S.1.1.2.1 (tN x))) → scr μ0 μ → MM σ m μ → Fr m (m + 9) σ0 σ → (rdR 0 s ((S.1.1.2.1 (tN x)).2 e).1 (S.1.1.2.1 (tN x))).length - k < fl3 → G X Γ P 0 0 82 [some (.ref m), some (.int x), some (.int ((sfI (S.1.1.2.1 (tN x)) e).1 ||| ((1 : Int32) <<< (nI ((S.1.1.2.1 (tN x)).2 e).2 &&& 31)))), some (.int x3), some (.int (nI e)), some (.int (nI ((S.1.1.2.1 (tN x)).2 e).2)), some (.int (nI s)), some (.int x7)] [] σ sz := by
                intro fl3
                induction fl3 with
                  | zero => intro k _ _ σ μ _ _ _ _ _ _ _ _ _ _ _ hfu3; exact absurd hfu3 (Nat.not_lt_zero _)
                  | succ fl3 ih3 =>
                    rintro k _ _ σ μ hs2 rfl rfl hk h7 hmk h8 hw hs hM hF hfu3
                    refine S_iload (q := 84) hX dX12_safe_82 rfl rfl ?_
                    refine S_aload_n (q := 85) hX dX12_safe_84 rfl rfl ?_
                    refine S_getf (fs := ?fs_1) (v := ?v_1) (q := 88) hX u_797 fo_X12_wordMany dX12_safe_85 ?hs_1 ?hv_1 rfl ?_
                    case hs_1 => with_reducible first | exact MM.c0 hM | exact MM.c1 hM | exact MM.c5 hM | exact MM.c6 hM | exact MM.c7 hM | exact MM.c3 hM | exact MM.c4 hM | exact MM.c8 hM | exact MM.c2 hM
                    case hv_1 => rfl
                    refine S_icmp_ge (q := 91) 120 hX dX12_safe_88 rfl rfl (fun c88 => ?_) (fun c88 => ?_)
                    · have hkl : k = (rdR 0 s ((S.1.1.2.1 (tN x)).2 e).1 (S.1.1.2.1 (tN x))).length := by rw [h8, nI_leI (by have := hce.2.1; omega) (by have := hce.2.1; omega)] at c88; omega
                      refine S_iinc (q := 123) [_, _, _, _, _, _, _, _] hX dX12_safe_120 rfl (ii_1 _) rfl (Nat.le_of_ble_eq_true rfl) rfl rfl ?_
                      refine S_goto 60 hX dX12_safe_123 rfl ?_
                      subst hkl
                      exact ih2 (s + 1) _ _ _ _ _ (orb_c unsA_s) (nI_1 _) hs2 h7 hmk hs hM hF (by omega)
                    · have hk2 : k < (rdR 0 s ((S.1.1.2.1 (tN x)).2 e).1 (S.1.1.2.1 (tN x))).length := by rw [h8, nI_leI (by have := hce.2.1; omega) (by have := hce.2.1; omega)] at c88; omega
                      refine S_iload_n (q := 92) hX dX12_safe_91 rfl rfl ?_
                      refine S_aload_n (q := 93) hX dX12_safe_92 rfl rfl ?_
                      refine S_getf (fs := ?fs_2) (v := ?v_2) (q := 96) hX u_796 fo_X12_words dX12_safe_93 ?hs_2 ?hv_2 rfl ?_
                      case hs_2 => with_reducible first | exact MM.c0 hM | exact MM.c1 hM | exact MM.c5 hM | exact MM.c6 hM | exact MM.c7 hM | exact MM.c3 hM | exact MM.c4 hM | exact MM.c8 hM | exact MM.c2 hM
                      case hv_2 => rfl
                      refine S_iload (q := 98) hX dX12_safe_96 rfl rfl ?_
                      refine S_iald (N := ?n_3) (f := ?f_3) (q := 99) hX dX12_safe_98 ?hs_3 ?hi_3 rfl ?_
                      case hs_3 => with_reducible first | exact MM.c0 hM | exact MM.c1 hM | exact MM.c5 hM | exact MM.c6 hM | exact MM.c7 hM | exact MM.c3 hM | exact MM.c4 hM | exact MM.c8 hM | exact MM.c2 hM
                      case hi_3 => exact vp_in_nI (by have := hce.2.1; omega) (by decide)
                      refine S_iload (q := 101) hX dX12_safe_99 rfl rfl ?_
                      refine S_icmp_ne (q := 104) 108 hX dX12_safe_101 rfl rfl (fun c101 => ?_) (fun c101 => ?_)
                      · refine S_iconst (q := 109) (v := 1) hX dX12_safe_108 ic_1 rfl ?_
                        refine S_iload (q := 111) hX dX12_safe_109 rfl rfl ?_
                        refine S_ishl (q := 112) hX dX12_safe_111 rfl ?_
                        refine S_ior (q := 113) hX dX12_safe_112 rfl ?_
                        refine S_istore_n (q := 114) [_, _, _, _, _, _, _, _] hX dX12_safe_113 rfl (Nat.le_of_ble_eq_true rfl) rfl rfl ?_
                        refine S_iinc (q := 117) [_, _, _, _, _, _, _, _] hX dX12_safe_114 rfl (ii_1 _) rfl (Nat.le_of_ble_eq_true rfl) rfl rfl ?_
                        refine S_goto 82 hX dX12_safe_117 rfl ?_
                        refine ih3 (k + 1) _ _ _ _ hs2 ?_ (nI_1 _) hk2 h7 hmk h8 hw hs hM hF (by omega)
                        exact orb_or (unsA_n (fun q => c101 (by rw [nI_clamp (by omega), hw k hk2, q])))
                      · refine S_iconst (q := 105) (v := 0) hX dX12_safe_104 ic_0 rfl ?_
                        refine S_goto 112 hX dX12_safe_105 rfl ?_
                        refine S_ior (q := 113) hX dX12_safe_112 rfl ?_
                        refine S_istore_n (q := 114) [_, _, _, _, _, _, _, _] hX dX12_safe_113 rfl (Nat.le_of_ble_eq_true rfl) rfl rfl ?_
                        refine S_iinc (q := 117) [_, _, _, _, _, _, _, _] hX dX12_safe_114 rfl (ii_1 _) rfl (Nat.le_of_ble_eq_true rfl) rfl rfl ?_
                        refine S_goto 82 hX dX12_safe_117 rfl ?_
                        refine ih3 (k + 1) _ _ _ _ hs2 ?_ (nI_1 _) hk2 h7 hmk h8 hw hs hM hF (by omega)
                        rw [or_0]
                        exact orb_c (unsA_e (by rw [nI_clamp (by omega), hw k hk2] at c101; exact nI_inj (by have := getD_10 hL10 k; omega) (by have := hce.2.2.2; omega) c101)).symm
              refine S_iload (q := 62) hX dX12_safe_60 rfl rfl ?_
              refine S_iconst (q := 63) (v := 1) hX dX12_safe_62 ic_1 rfl ?_
              refine S_aload_n (q := 64) hX dX12_safe_63 rfl rfl ?_
              refine S_getf (fs := ?fs_4) (v := ?v_4) (q := 67) hX u_794 fo_X12_beats dX12_safe_64 ?hs_4 ?hv_4 rfl ?_
              case hs_4 => with_reducible first | exact MM.c0 hM | exact MM.c1 hM | exact MM.c5 hM | exact MM.c6 hM | exact MM.c7 hM | exact MM.c3 hM | exact MM.c4 hM | exact MM.c8 hM | exact MM.c2 hM
              case hv_4 => rfl
              refine S_ishl (q := 68) hX dX12_safe_67 rfl ?_
              refine S_top (y := nI (2 ^ ln ((S.1.1.2.1 (tN x)).2 e).1)) (by rw [h7]; exact sh_pow (by have := hce.2.1; omega)) ?_
              refine S_icmp_ge (q := 71) 126 hX dX12_safe_68 rfl rfl (fun c68 => ?_) (fun c68 => ?_)
              · have hge : s = 2 ^ ln ((S.1.1.2.1 (tN x)).2 e).1 := by rw [nI_leI (by omega) (by omega)] at c68; omega
                refine S_iinc (q := 129) [_, _, _, _, _, _, _, _] hX dX12_safe_126 rfl (ii_1 _) rfl (Nat.le_of_ble_eq_true rfl) rfl rfl ?_
                refine S_goto 20 hX dX12_safe_129 rfl ?_
                subst hge
                exact ih1 (e + 1) _ _ _ _ _ _ _ _ rfl (orb_c unsA_E) (nI_1 _) hlt hs hM hF (by omega)
              · have hs2 : s < 2 ^ ln ((S.1.1.2.1 (tN x)).2 e).1 := by rw [nI_leI (by omega) (by omega)] at c68; omega
                refine S_aload_n (q := 72) hX dX12_safe_71 rfl rfl ?_
                refine S_iconst (q := 73) (v := 0) hX dX12_safe_72 ic_0 rfl ?_
                refine S_iload_n (q := 74) hX dX12_safe_73 rfl rfl ?_
                refine S_iload (q := 76) hX dX12_safe_74 rfl rfl ?_
                refine S_callV (ci := 12) (C := "FanTalkModel") (T := TX12) (N := 17) (q := 79) 0 0 hX (c_X12_readBy _ μ _ _ _ 0 (tN x) s (ln ((S.1.1.2.1 (tN x)).2 e).1) 0 (stN ((S.1.1.2.1 (tN x)).2 e).1 (ln ((S.1.1.2.1 (tN x)).2 e).1)) (S.1.1.2.1 (tN x)) rfl cx.1 rfl) rfl ?hs_5 rfl u_976 u_978 us_46 u_12 u_979 ⟨by decide, by decide, rfl⟩ ⟨Nat.le_of_ble_eq_true rfl, Nat.le_of_ble_eq_true rfl⟩ ⟨Nat.le_of_ble_eq_true rfl, Nat.le_of_ble_eq_true rfl⟩ (Nat.le_of_ble_eq_true rfl) dX12_safe_76 ?hp_5 rfl rfl rfl ?_
                case hs_5 => first | with_reducible assumption | exact ⟨_, by with_reducible assumption⟩ | exact MM.isO hM
                case hp_5 => exact ⟨hM, by omega, by omega, by have := hce.2.1; omega, h0, by omega, h7, fun i hi => ⟨hmk i hi, stN_lt _ _ _⟩, (hR0.scr hs).2.1.code cx.2.1, hcx⟩
                rintro v σ sz1 ⟨μ1, hM, hF1, rfl, ⟨vf, wf, e1, hw⟩, rfl⟩
                have hF := hF.trans hF1
                have hs1 := hs.trans (scr.read e1)
                have h18 : μ1 0 8 = nI (rdR 0 s ((S.1.1.2.1 (tN x)).2 e).1 (S.1.1.2.1 (tN x))).length := by rw [e1, m2_at, if_pos ⟨rfl, rfl⟩]; rfl
                have hw7 : WL (μ1 7) (rdR 0 s ((S.1.1.2.1 (tN x)).2 e).1 (S.1.1.2.1 (tN x))) := by rw [e1, m2_o (by decide), m1_eq]; exact hw
                have h17 : μ1 0 7 = nI (ln ((S.1.1.2.1 (tN x)).2 e).1) := by rw [e1, m2_at, if_neg (by decide), m1_ne (by decide), m1_ne (by decide)]; exact h7
                have h1k : ∀ i, i < ln ((S.1.1.2.1 (tN x)).2 e).1 → μ1 5 i = nI (stN ((S.1.1.2.1 (tN x)).2 e).1 (ln ((S.1.1.2.1 (tN x)).2 e).1) i) := fun i hi => by rw [e1, m2_o (by decide), m1_ne (by decide), m1_ne (by decide)]; exact hmk i hi
                refine S_iconst (q := 80) (v := 0) hX dX12_safe_79 ic_0 rfl ?_
                refine S_istore (q := 82) [_, _, _, _, _, _, _, _] hX dX12_safe_80 rfl (Nat.le_of_ble_eq_true rfl) rfl rfl ?_
                exact l3 7 0 _ _ _ _ hs2 rfl rfl (Nat.zero_le _) h17 h1k h18 hw7 hs1 hM hF (by have := hce.2.1; omega)
        refine S_iload (q := 22) hX dX12_safe_20 rfl rfl ?_
        refine S_aload_n (q := 23) hX dX12_safe_22 rfl rfl ?_
        refine S_iload_n (q := 24) hX dX12_safe_23 rfl rfl ?_
        refine S_callV (ci := 12) (C := "FanTalkModel") (T := TX12) (N := 17) (q := 27) 0 0 hX (c_X12_entriesOf _ μ _ 0 (tN x) cx.1) rfl ?hs_6 rfl u_872 u_874 us_32 u_12 u_875 ⟨by decide, by decide, rfl⟩ ⟨Nat.le_of_ble_eq_true rfl, Nat.le_of_ble_eq_true rfl⟩ ⟨Nat.le_of_ble_eq_true rfl, Nat.le_of_ble_eq_true rfl⟩ (Nat.le_of_ble_eq_true rfl) dX12_safe_24 ?hp_6 rfl rfl rfl ?_
        case hs_6 => first | with_reducible assumption | exact ⟨_, by with_reducible assumption⟩ | exact MM.isO hM
        case hp_6 => exact ⟨hM, h0, by omega⟩
        rintro v σ1 sz1 ⟨rfl, rfl, rfl⟩
        rw [hcc.1]
        refine S_icmp_ge (q := 30) 132 hX dX12_safe_27 rfl rfl (fun c27 => ?_) (fun c27 => ?_)
        · have hge : e = (S.1.1.2.1 (tN x)).1 := by rw [nI_leI (by omega) (by omega)] at c27; omega
          refine S_iload_n (q := 133) hX dX12_safe_132 rfl rfl ?_
          refine S_iload_n (q := 134) hX dX12_safe_133 rfl rfl ?_
          refine S_iconst (q := 135) (v := (-1)) hX dX12_safe_134 ic_m1 rfl ?_
          refine S_ixor (q := 136) hX dX12_safe_135 rfl ?_
          refine S_iand (q := 137) hX dX12_safe_136 rfl ?_
          refine S_iret hX dX12_safe_137 (Nat.zero_le _) (Nat.zero_le _) ?_
          refine hP _ _ _ ?_
          have hsp : sp_safe S x = (((sfI (S.1.1.2.1 (tN x)) (S.1.1.2.1 (tN x)).1).1 &&& ((sfI (S.1.1.2.1 (tN x)) (S.1.1.2.1 (tN x)).1).2 ^^^ (-1))), S) := by unfold sp_safe; rw [if_neg (fun z => z hx)]
          rw [hsp]
          subst hge
          exact ⟨_, hM, hF, rfl, hR0.scr hs, rfl⟩
        · have hlt : e < (S.1.1.2.1 (tN x)).1 := by rw [nI_leI (by omega) (by omega)] at c27; omega
          have hce := hcx.2 e hlt
          refine S_aload_n (q := 31) hX dX12_safe_30 rfl rfl ?_
          refine S_iload_n (q := 32) hX dX12_safe_31 rfl rfl ?_
          refine S_iload (q := 34) hX dX12_safe_32 rfl rfl ?_
          refine S_callV (ci := 12) (C := "FanTalkModel") (T := TX12) (N := 17) (q := 37) 0 0 hX (c_X12_wordOf _ μ _ _ 0 (tN x) e cx.1 rfl) rfl ?hs_7 rfl u_892 u_894 us_36 u_12 u_895 ⟨by decide, by decide, rfl⟩ ⟨Nat.le_of_ble_eq_true rfl, Nat.le_of_ble_eq_true rfl⟩ ⟨Nat.le_of_ble_eq_true rfl, Nat.le_of_ble_eq_true rfl⟩ (Nat.le_of_ble_eq_true rfl) dX12_safe_34 ?hp_7 rfl rfl rfl ?_
          case hs_7 => first | with_reducible assumption | exact ⟨_, by with_reducible assumption⟩ | exact MM.isO hM
          case hp_7 => exact ⟨hM, h0, by omega⟩
          rintro v σ1 sz1 ⟨rfl, rfl, rfl⟩
          rw [(hcc.2 e hlt).2]
          refine S_istore (q := 39) [_, _, _, _, _, _, _, _] hX dX12_safe_37 rfl (Nat.le_of_ble_eq_true rfl) rfl rfl ?_
          refine S_iload_n (q := 40) hX dX12_safe_39 rfl rfl ?_
          refine S_iconst (q := 41) (v := 1) hX dX12_safe_40 ic_1 rfl ?_
          refine S_iload (q := 43) hX dX12_safe_41 rfl rfl ?_
          refine S_ishl (q := 44) hX dX12_safe_43 rfl ?_
          refine S_ior (q := 45) hX dX12_safe_44 rfl ?_
          refine S_istore_n (q := 46) [_, _, _, _, _, _, _, _] hX dX12_safe_45 rfl (Nat.le_of_ble_eq_true rfl) rfl rfl ?_
          refine S_aload_n (q := 47) hX dX12_safe_46 rfl rfl ?_
          refine S_aload_n (q := 48) hX dX12_safe_47 rfl rfl ?_
          refine S_iload_n (q := 49) hX dX12_safe_48 rfl rfl ?_
          refine S_iload (q := 51) hX dX12_safe_49 rfl rfl ?_
          refine S_callV (ci := 12) (C := "FanTalkModel") (T := TX12) (N := 17) (q := 54) 0 0 hX (c_X12_rowOf _ μ _ _ 0 (tN x) e cx.1 rfl) rfl ?hs_8 rfl u_876 u_878 us_33 u_12 u_879 ⟨by decide, by decide, rfl⟩ ⟨Nat.le_of_ble_eq_true rfl, Nat.le_of_ble_eq_true rfl⟩ ⟨Nat.le_of_ble_eq_true rfl, Nat.le_of_ble_eq_true rfl⟩ (Nat.le_of_ble_eq_true rfl) dX12_safe_51 ?hp_8 rfl rfl rfl ?_
          case hs_8 => first | with_reducible assumption | exact ⟨_, by with_reducible assumption⟩ | exact MM.isO hM
          case hp_8 => exact ⟨hM, h0, by omega⟩
          rintro v σ1 sz1 ⟨rfl, rfl, rfl⟩
          rw [(hcc.2 e hlt).1]
          refine S_callV (ci := 12) (C := "FanTalkModel") (T := TX12) (N := 17) (q := 57) 0 0 hX (c_X12_make _ μ _ ((S.1.1.2.1 (tN x)).2 e).1 rfl) rfl ?hs_9 rfl u_958 u_960 us_44 u_12 u_961 ⟨by decide, by decide, rfl⟩ ⟨Nat.le_of_ble_eq_true rfl, Nat.le_of_ble_eq_true rfl⟩ ⟨Nat.le_of_ble_eq_true rfl, Nat.le_of_ble_eq_true rfl⟩ (Nat.le_of_ble_eq_true rfl) dX12_safe_54 ?hp_9 rfl rfl rfl ?_
          case hs_9 => first | with_reducible assumption | exact ⟨_, by with_reducible assumption⟩ | exact MM.isO hM
          case hp_9 => exact ⟨hM, hce.2.2.1⟩
          rintro v σ sz1 ⟨μ1, hM, hF1, rfl, ⟨g, e1, hg⟩, rfl⟩
          have hF := hF.trans hF1
          refine S_iconst (q := 58) (v := 0) hX dX12_safe_57 ic_0 rfl ?_
          refine S_istore (q := 60) [_, _, _, _, _, _, _, _] hX dX12_safe_58 rfl (Nat.le_of_ble_eq_true rfl) rfl rfl ?_
          exact l2 hlt 9 0 _ _ _ _ _ (orb_f unsA_0).symm rfl (Nat.zero_le _) (by rw [e1, m1_ne (by decide), m2_at, if_pos ⟨rfl, rfl⟩]) (fun i hi => by rw [e1, m1_eq]; exact hg i hi) (hs.trans (scr.make e1)) hM hF (by have := two_pow3 hce.2.1; omega)
  refine S_aload_n (q := 1) hX dX12_safe_0 rfl rfl ?_
  refine S_iload_n (q := 2) hX dX12_safe_1 rfl rfl ?_
  refine S_callV (ci := 12) (C := "FanTalkModel") (T := TX12) (N := 17) (q := 5) 0 0 hX (c_X12_isCode _ μ _ 0 S.1.1.1) rfl ?hs_10 rfl u_854 u_856 us_29 u_12 u_857 ⟨by decide, by decide, rfl⟩ ⟨Nat.le_of_ble_eq_true rfl, Nat.le_of_ble_eq_true rfl⟩ ⟨Nat.le_of_ble_eq_true rfl, Nat.le_of_ble_eq_true rfl⟩ (Nat.le_of_ble_eq_true rfl) dX12_safe_2 ?hp_10 rfl rfl rfl ?_
  case hs_10 => first | with_reducible assumption | exact ⟨_, by with_reducible assumption⟩ | exact MM.isO hM
  case hp_10 => exact ⟨hM, h0, by decide, hC0, ok.1.1⟩
  rintro v σ1 sz1 ⟨rfl, rfl, rfl⟩
  refine S_if_ne_b (q := 8) 13 hX dX12_safe_5 rfl rfl (fun c5 => ?_) (fun c5 => ?_)
  · refine S_iconst (q := 14) (v := 0) hX dX12_safe_13 ic_0 rfl ?_
    refine S_istore_n (q := 15) [_, _, _, _, _, _, _, _] hX dX12_safe_14 rfl (Nat.le_of_ble_eq_true rfl) rfl rfl ?_
    refine S_iconst (q := 16) (v := 0) hX dX12_safe_15 ic_0 rfl ?_
    refine S_istore_n (q := 17) [_, _, _, _, _, _, _, _] hX dX12_safe_16 rfl (Nat.le_of_ble_eq_true rfl) rfl rfl ?_
    refine S_iconst (q := 18) (v := 0) hX dX12_safe_17 ic_0 rfl ?_
    refine S_istore (q := 20) [_, _, _, _, _, _, _, _] hX dX12_safe_18 rfl (Nat.le_of_ble_eq_true rfl) rfl rfl ?_
    exact l1 c5 ((S.1.1.2.1 (tN x)).1 + 1) 0 _ _ _ _ _ _ _ _ rfl rfl rfl (Nat.zero_le _) hs hM hF (by omega)
  · refine S_aload_n (q := 9) hX dX12_safe_8 rfl rfl ?_
    refine S_callV (ci := 12) (C := "FanTalkModel") (T := TX12) (N := 17) (q := 12) 0 0 hX (c_X12_bad _ μ) rfl ?hs_11 rfl u_864 u_866 us_30 u_12 u_867 ⟨by decide, by decide, rfl⟩ ⟨Nat.le_of_ble_eq_true rfl, Nat.le_of_ble_eq_true rfl⟩ ⟨Nat.le_of_ble_eq_true rfl, Nat.le_of_ble_eq_true rfl⟩ (Nat.le_of_ble_eq_true rfl) dX12_safe_9 ?hp_11 rfl rfl rfl ?_
    case hs_11 => first | with_reducible assumption | exact ⟨_, by with_reducible assumption⟩ | exact MM.isO hM
    case hp_11 => exact hM
    rintro v σ sz1 ⟨μ9, hM, hF1, rfl, e9, rfl⟩
    have hF := hF.trans hF1
    refine S_iret hX dX12_safe_12 (Nat.zero_le _) (Nat.zero_le _) ?_
    refine hP _ _ _ ?_
    have hsp : sp_safe S x = (-2, rfS S 0) := by unfold sp_safe; rw [if_pos c5]
    rw [hsp]
    exact ⟨_, hM, hF, rfl, hR.rf (by decide) e9, rfl⟩
/-- the first k facts are borne by code c *-/
def berK (S : ST) (c k : Nat) : Prop := ∀ j, j < k → (S.1.2.2.2.2.2.2 j).2 ∈ rdR 0 0 (S.1.2.2.2.2.2.2 j).1 (S.1.1.2.1 c)
noncomputable def bP (p : Prop) : Int32 := @ite _ p (Classical.propDecidable p) 1 0
theorem bP_t {p : Prop} (h : p) : bP p = 1 := if_pos h
theorem bP_f {p : Prop} (h : ¬ p) : bP p = 0 := if_neg h
theorem mbI_t {S : ST} {c : Nat} (h : bears S c) : mbI S (c + 1) = mbI S c ||| ((1 : Int32) <<< (nI c &&& 31)) := by
  rw [mbI]
  exact if_pos h
theorem mbI_f {S : ST} {c : Nat} (h : ¬ bears S c) : mbI S (c + 1) = mbI S c ||| 0 := by
  rw [mbI, or_0]
  exact if_neg h

theorem c_X12_mayBe (m : Nat) (μ : MF) (S : ST) : CT_X12_mayBe [.ref m] (fun Γ σ sz => MM σ m μ ∧ MR μ S ∧ StOk S) (fun Γ σ sz v σ' sz' => ∃ μ', MM σ' m μ' ∧ Fr m (m + 9) σ σ' ∧ v = some (.int (sp_mayBe S).1) ∧ MR μ' (sp_mayBe S).2 ∧ sz' = sz) := by
  refine CT.mkP rfl (Nat.le_of_ble_eq_true rfl) [_, _, _, _, _] rfl ?_
  intro X Γ σ sz P hX hpre hsz hP
  obtain ⟨hM, hR, ok⟩ := hpre
  have hF : Fr m (m + 9) σ σ := Fr.rf
  have h0 := hR.1
  have hC0 := hR.2.1.1
  obtain ⟨q0, q1, q2, q3, q4, q5, q6, q7, q8, q9⟩ := id hR.2.1
  obtain ⟨o1, o2, o3, o4, o5, o6, o7, o8, o9, o10⟩ := id ok.1
  obtain ⟨σ0, eσ0⟩ : ∃ z, z = σ := ⟨σ, rfl⟩
  rw [← eσ0] at hP
  have hF : Fr m (m + 9) σ0 σ := by rw [eσ0]; exact Fr.rf
  obtain ⟨μ0, eμ0⟩ : ∃ z, z = μ := ⟨μ, rfl⟩
  have hs : scr μ0 μ := by rw [eμ0]; exact scr.rf
  have hR0 := hR
  rw [← eμ0] at hR0
  have l1 : ∀ (fl : Nat) (c : Nat) (x1 x2 : Int32) (x3 x4 : Option Value) (σ : Sg) (μ : MF), x1 = mbI S c → x2 = nI c → c ≤ S.1.1.1 → scr μ0 μ → MM σ m μ → Fr m (m + 9) σ0 σ → S.1.1.1 - c < fl → G X Γ P 0 0 4 [some (.ref m), some (.int x1), some (.int x2), x3, x4] [] σ sz := by
    intro fl
    induction fl with
      | zero => intro c _ _ _ _ σ μ _ _ _ _ _ _ hfu; exact absurd hfu (Nat.not_lt_zero _)
      | succ fl ih1 =>
        rintro c _ _ x3 x4 σ μ rfl rfl hc hs hM hF hfu
        have h0 := (hR0.scr hs).1
        have l2 : c < S.1.1.1 → ∀ (fl2 : Nat) (k : Nat) (x3 x4 : Int32) (σ : Sg) (μ : MF), x3 = bP (berK S c k) → x4 = nI k → k ≤ S.1.2.2.2.2.2.1 → scr μ0 μ → MM σ m μ → Fr m (m + 9) σ0 σ → S.1.2.2.2.2.2.1 - k < fl2 → G X Γ P 0 0 18 [some (.ref m), some (.int (mbI S c)), some (.int (nI c)), some (.int x3), some (.int x4)] [] σ sz := by
          intro hlt fl2
          have hcx := ok.1.2.1.2.1 c hlt
          induction fl2 with
            | zero => intro k _ _ σ μ _ _ _ _ _ _ hfu2; exact absurd hfu2 (Nat.not_lt_zero _)
            | succ fl2 ih2 =>
              rintro k _ _ σ μ rfl rfl hk hs hM hF hfu2
              have h0 := (hR0.scr hs).1
              refine S_iload (q := 20) hX dX12_mayBe_18 rfl rfl ?_
              refine S_aload_n (q := 21) hX dX12_mayBe_20 rfl rfl ?_
              refine S_iconst (q := 22) (v := 4) hX dX12_mayBe_21 ic_4 rfl ?_
              refine S_callV (ci := 12) (C := "FanTalkModel") (T := TX12) (N := 17) (q := 25) 0 0 hX (c_X12_get _ μ _ 0 (4) (by first | rfl | (simp only [i0, i1, i2, i3, i4, i5, i6, i7, i8, i9, i10, i11, i12, i17, i20, i24, i26, i27, i31, i32, i36, i48, i57, i59, i60, i61, i63, i64, i87, i96, i97, i99, i122, i148, i250, i255, i305, i453, i999, i1359, i1812, pk_mul, nI_add]; done) | (simp only [i0, i1, i2, i3, i4, i5, i6, i7, i8, i9, i10, i11, i12, i17, i20, i24, i26, i27, i31, i32, i36, i48, i57, i59, i60, i61, i63, i64, i87, i96, i97, i99, i122, i148, i250, i255, i305, i453, i999, i1359, i1812, pk_mul, nI_add]; congr 1; omega))) rfl ?hs_1 rfl u_838 u_840 us_26 u_12 u_841 ⟨by decide, by decide, rfl⟩ ⟨Nat.le_of_ble_eq_true rfl, Nat.le_of_ble_eq_true rfl⟩ ⟨Nat.le_of_ble_eq_true rfl, Nat.le_of_ble_eq_true rfl⟩ (Nat.le_of_ble_eq_true rfl) dX12_mayBe_22 ?hp_1 rfl rfl rfl ?_
              case hs_1 => first | with_reducible assumption | exact ⟨_, by with_reducible assumption⟩ | exact MM.isO hM
              case hp_1 => exact ⟨hM, h0, by omega⟩
              rintro v σ1 sz1 ⟨rfl, rfl, rfl⟩
              rw [show μ 1 (0 + 4) = nI S.1.2.2.2.2.2.1 from (hR0.scr hs).2.1.2.2.2.2.1]
              refine S_icmp_ge (q := 28) 78 hX dX12_mayBe_25 rfl rfl (fun c25 => ?_) (fun c25 => ?_)
              · have hge : k = S.1.2.2.2.2.2.1 := by rw [nI_leI (by omega) (by omega)] at c25; omega
                refine S_iload_n (q := 79) hX dX12_mayBe_78 rfl rfl ?_
                refine S_iload_n (q := 80) hX dX12_mayBe_79 rfl rfl ?_
                refine S_if_eq (q := 83) 89 hX dX12_mayBe_80 rfl rfl (fun c80 => ?_) (fun c80 => ?_)
                · refine S_iconst (q := 90) (v := 0) hX dX12_mayBe_89 ic_0 rfl ?_
                  refine S_ior (q := 91) hX dX12_mayBe_90 rfl ?_
                  refine S_istore_n (q := 92) [_, _, _, _, _] hX dX12_mayBe_91 rfl (Nat.le_of_ble_eq_true rfl) rfl rfl ?_
                  refine S_iinc (q := 95) [_, _, _, _, _] hX dX12_mayBe_92 rfl (ii_1 _) rfl (Nat.le_of_ble_eq_true rfl) rfl rfl ?_
                  refine S_goto 4 hX dX12_mayBe_95 rfl ?_
                  exact ih1 (c + 1) _ _ _ _ _ _ (mbI_f (fun q => absurd (c80.symm.trans (bP_t (by subst hge; exact q))) (by decide))).symm (nI_1 _) hlt hs hM hF (by omega)
                · refine S_iconst (q := 84) (v := 1) hX dX12_mayBe_83 ic_1 rfl ?_
                  refine S_iload_n (q := 85) hX dX12_mayBe_84 rfl rfl ?_
                  refine S_ishl (q := 86) hX dX12_mayBe_85 rfl ?_
                  refine S_goto 90 hX dX12_mayBe_86 rfl ?_
                  refine S_ior (q := 91) hX dX12_mayBe_90 rfl ?_
                  refine S_istore_n (q := 92) [_, _, _, _, _] hX dX12_mayBe_91 rfl (Nat.le_of_ble_eq_true rfl) rfl rfl ?_
                  refine S_iinc (q := 95) [_, _, _, _, _] hX dX12_mayBe_92 rfl (ii_1 _) rfl (Nat.le_of_ble_eq_true rfl) rfl rfl ?_
                  refine S_goto 4 hX dX12_mayBe_95 rfl ?_
                  exact ih1 (c + 1) _ _ _ _ _ _ (mbI_t (Classical.byContradiction fun q => c80 (bP_f (by subst hge; exact q)))).symm (nI_1 _) hlt hs hM hF (by omega)
              · have hlt2 : k < S.1.2.2.2.2.2.1 := by rw [nI_leI (by omega) (by omega)] at c25; omega
                have hfk := o10 k hlt2
                have hrk : (S.1.2.2.2.2.2.2 k).1 < 2147483648 := by have := ln_lt (show 0 < ln (S.1.2.2.2.2.2.2 k).1 by omega); omega
                refine S_iload_n (q := 29) hX dX12_mayBe_28 rfl rfl ?_
                refine S_if_eq (q := 32) 78 hX dX12_mayBe_29 rfl rfl (fun c29 => ?_) (fun c29 => ?_)
                · refine S_iload_n (q := 79) hX dX12_mayBe_78 rfl rfl ?_
                  refine S_iload_n (q := 80) hX dX12_mayBe_79 rfl rfl ?_
                  refine S_if_eq (q := 83) 89 hX dX12_mayBe_80 rfl rfl (fun c80 => ?_) (fun c80 => ?_)
                  · refine S_iconst (q := 90) (v := 0) hX dX12_mayBe_89 ic_0 rfl ?_
                    refine S_ior (q := 91) hX dX12_mayBe_90 rfl ?_
                    refine S_istore_n (q := 92) [_, _, _, _, _] hX dX12_mayBe_91 rfl (Nat.le_of_ble_eq_true rfl) rfl rfl ?_
                    refine S_iinc (q := 95) [_, _, _, _, _] hX dX12_mayBe_92 rfl (ii_1 _) rfl (Nat.le_of_ble_eq_true rfl) rfl rfl ?_
                    refine S_goto 4 hX dX12_mayBe_95 rfl ?_
                    exact ih1 (c + 1) _ _ _ _ _ _ (mbI_f (fun q => absurd (c29.symm.trans (bP_t (fun j hj => q j (by omega)))) (by decide))).symm (nI_1 _) hlt hs hM hF (by omega)
                  · refine S_iconst (q := 84) (v := 1) hX dX12_mayBe_83 ic_1 rfl ?_
                    refine S_iload_n (q := 85) hX dX12_mayBe_84 rfl rfl ?_
                    refine S_ishl (q := 86) hX dX12_mayBe_85 rfl ?_
                    refine S_goto 90 hX dX12_mayBe_86 rfl ?_
                    refine S_ior (q := 91) hX dX12_mayBe_90 rfl ?_
                    refine S_istore_n (q := 92) [_, _, _, _, _] hX dX12_mayBe_91 rfl (Nat.le_of_ble_eq_true rfl) rfl rfl ?_
                    refine S_iinc (q := 95) [_, _, _, _, _] hX dX12_mayBe_92 rfl (ii_1 _) rfl (Nat.le_of_ble_eq_true rfl) rfl rfl ?_
                    refine S_goto 4 hX dX12_mayBe_95 rfl ?_
                    exact absurd c29 c80
                · refine S_aload_n (q := 33) hX dX12_mayBe_32 rfl rfl ?_
                  refine S_aload_n (q := 34) hX dX12_mayBe_33 rfl rfl ?_
                  refine S_bipush (q := 36) (v := 10) hX dX12_mayBe_34 bp_10 rfl ?_
                  refine S_iconst (q := 37) (v := 2) hX dX12_mayBe_36 ic_2 rfl ?_
                  refine S_iload (q := 39) hX dX12_mayBe_37 rfl rfl ?_
                  refine S_imul (q := 40) hX dX12_mayBe_39 rfl ?_
                  refine S_iadd (q := 41) hX dX12_mayBe_40 rfl ?_
                  refine S_callV (ci := 12) (C := "FanTalkModel") (T := TX12) (N := 17) (q := 44) 0 0 hX (c_X12_get _ μ _ 0 (10 + 2 * k) (by first | rfl | (simp only [i0, i1, i2, i3, i4, i5, i6, i7, i8, i9, i10, i11, i12, i17, i20, i24, i26, i27, i31, i32, i36, i48, i57, i59, i60, i61, i63, i64, i87, i96, i97, i99, i122, i148, i250, i255, i305, i453, i999, i1359, i1812, pk_mul, nI_add]; done) | (simp only [i0, i1, i2, i3, i4, i5, i6, i7, i8, i9, i10, i11, i12, i17, i20, i24, i26, i27, i31, i32, i36, i48, i57, i59, i60, i61, i63, i64, i87, i96, i97, i99, i122, i148, i250, i255, i305, i453, i999, i1359, i1812, pk_mul, nI_add]; congr 1; omega))) rfl ?hs_2 rfl u_838 u_840 us_26 u_12 u_841 ⟨by decide, by decide, rfl⟩ ⟨Nat.le_of_ble_eq_true rfl, Nat.le_of_ble_eq_true rfl⟩ ⟨Nat.le_of_ble_eq_true rfl, Nat.le_of_ble_eq_true rfl⟩ (Nat.le_of_ble_eq_true rfl) dX12_mayBe_41 ?hp_2 rfl rfl rfl ?_
                  case hs_2 => first | with_reducible assumption | exact ⟨_, by with_reducible assumption⟩ | exact MM.isO hM
                  case hp_2 => exact ⟨hM, h0, by omega⟩
                  rintro v σ1 sz1 ⟨rfl, rfl, rfl⟩
                  rw [show μ 1 (0 + (10 + 2 * k)) = nI (S.1.2.2.2.2.2.2 k).1 from ((hR0.scr hs).2.1.2.2.2.2.2.2.2.1 k hlt2).1]
                  refine S_callV (ci := 12) (C := "FanTalkModel") (T := TX12) (N := 17) (q := 47) 0 0 hX (c_X12_make _ μ _ (S.1.2.2.2.2.2.2 k).1 rfl) rfl ?hs_3 rfl u_958 u_960 us_44 u_12 u_961 ⟨by decide, by decide, rfl⟩ ⟨Nat.le_of_ble_eq_true rfl, Nat.le_of_ble_eq_true rfl⟩ ⟨Nat.le_of_ble_eq_true rfl, Nat.le_of_ble_eq_true rfl⟩ (Nat.le_of_ble_eq_true rfl) dX12_mayBe_44 ?hp_3 rfl rfl rfl ?_
                  case hs_3 => first | with_reducible assumption | exact ⟨_, by with_reducible assumption⟩ | exact MM.isO hM
                  case hp_3 => exact ⟨hM, hrk⟩
                  rintro v σ sz1 ⟨μ1, hM, hF1, rfl, ⟨g, e1, hg⟩, rfl⟩
                  have hF := hF.trans hF1
                  have hs1 := hs.trans (scr.make e1)
                  refine S_aload_n (q := 48) hX dX12_mayBe_47 rfl rfl ?_
                  refine S_iconst (q := 49) (v := 0) hX dX12_mayBe_48 ic_0 rfl ?_
                  refine S_iload_n (q := 50) hX dX12_mayBe_49 rfl rfl ?_
                  refine S_iconst (q := 51) (v := 0) hX dX12_mayBe_50 ic_0 rfl ?_
                  refine S_callV (ci := 12) (C := "FanTalkModel") (T := TX12) (N := 17) (q := 54) 0 0 hX (c_X12_readBy _ μ1 _ _ _ 0 c 0 (ln (S.1.2.2.2.2.2.2 k).1) 0 (stN (S.1.2.2.2.2.2.2 k).1 (ln (S.1.2.2.2.2.2.2 k).1)) (S.1.1.2.1 c) rfl rfl rfl) rfl ?hs_4 rfl u_976 u_978 us_46 u_12 u_979 ⟨by decide, by decide, rfl⟩ ⟨Nat.le_of_ble_eq_true rfl, Nat.le_of_ble_eq_true rfl⟩ ⟨Nat.le_of_ble_eq_true rfl, Nat.le_of_ble_eq_true rfl⟩ (Nat.le_of_ble_eq_true rfl) dX12_mayBe_51 ?hp_4 rfl rfl rfl ?_
                  case hs_4 => first | with_reducible assumption | exact ⟨_, by with_reducible assumption⟩ | exact MM.isO hM
                  case hp_4 => exact ⟨hM, by omega, by omega, by omega, (hR0.scr hs1).1, by omega, by rw [e1, m1_ne (by decide), m2_at, if_pos ⟨rfl, rfl⟩], fun i hi => ⟨by rw [e1, m1_eq]; exact hg i hi, stN_lt _ _ _⟩, (hR0.scr hs1).2.1.code hlt, hcx⟩
                  rintro v σ sz1 ⟨μ2, hM, hF1, rfl, ⟨vf, wf, e2, hw⟩, rfl⟩
                  have hF := hF.trans hF1
                  have hs2 := hs1.trans (scr.read e2)
                  have h18 : μ2 0 8 = nI (rdR 0 0 (S.1.2.2.2.2.2.2 k).1 (S.1.1.2.1 c)).length := by rw [e2, m2_at, if_pos ⟨rfl, rfl⟩]; rfl
                  have hw7 : WL (μ2 7) (rdR 0 0 (S.1.2.2.2.2.2.2 k).1 (S.1.1.2.1 c)) := by rw [e2, m2_o (by decide), m1_eq]; exact hw
                  have hl6 : (rdR 0 0 (S.1.2.2.2.2.2.2 k).1 (S.1.1.2.1 c)).length ≤ ln (S.1.2.2.2.2.2.2 k).1 := rdL_len _ _
                  have hL10 : ∀ w ∈ rdR 0 0 (S.1.2.2.2.2.2.2 k).1 (S.1.1.2.1 c), w < 10 := rdL_10 hcx _ _
                  have h02 := (hR0.scr hs2).1
                  refine S_aload_n (q := 55) hX dX12_mayBe_54 rfl rfl ?_
                  refine S_aload_n (q := 56) hX dX12_mayBe_55 rfl rfl ?_
                  refine S_bipush (q := 58) (v := 10) hX dX12_mayBe_56 bp_10 rfl ?_
                  refine S_iconst (q := 59) (v := 2) hX dX12_mayBe_58 ic_2 rfl ?_
                  refine S_iload (q := 61) hX dX12_mayBe_59 rfl rfl ?_
                  refine S_imul (q := 62) hX dX12_mayBe_61 rfl ?_
                  refine S_iadd (q := 63) hX dX12_mayBe_62 rfl ?_
                  refine S_iconst (q := 64) (v := 1) hX dX12_mayBe_63 ic_1 rfl ?_
                  refine S_iadd (q := 65) hX dX12_mayBe_64 rfl ?_
                  refine S_callV (ci := 12) (C := "FanTalkModel") (T := TX12) (N := 17) (q := 68) 0 0 hX (c_X12_get _ μ2 _ 0 (10 + 2 * k + 1) (by first | rfl | (simp only [i0, i1, i2, i3, i4, i5, i6, i7, i8, i9, i10, i11, i12, i17, i20, i24, i26, i27, i31, i32, i36, i48, i57, i59, i60, i61, i63, i64, i87, i96, i97, i99, i122, i148, i250, i255, i305, i453, i999, i1359, i1812, pk_mul, nI_add]; done) | (simp only [i0, i1, i2, i3, i4, i5, i6, i7, i8, i9, i10, i11, i12, i17, i20, i24, i26, i27, i31, i32, i36, i48, i57, i59, i60, i61, i63, i64, i87, i96, i97, i99, i122, i148, i250, i255, i305, i453, i999, i1359, i1812, pk_mul, nI_add]; congr 1; omega))) rfl ?hs_5 rfl u_838 u_840 us_26 u_12 u_841 ⟨by decide, by decide, rfl⟩ ⟨Nat.le_of_ble_eq_true rfl, Nat.le_of_ble_eq_true rfl⟩ ⟨Nat.le_of_ble_eq_true rfl, Nat.le_of_ble_eq_true rfl⟩ (Nat.le_of_ble_eq_true rfl) dX12_mayBe_65 ?hp_5 rfl rfl rfl ?_
                  case hs_5 => first | with_reducible assumption | exact ⟨_, by with_reducible assumption⟩ | exact MM.isO hM
                  case hp_5 => exact ⟨hM, h02, by omega⟩
                  rintro v σ1 sz1 ⟨rfl, rfl, rfl⟩
                  rw [show μ2 1 (0 + (10 + 2 * k + 1)) = nI (S.1.2.2.2.2.2.2 k).2 from ((hR0.scr hs2).2.1.2.2.2.2.2.2.2.1 k hlt2).2]
                  refine S_callV (ci := 12) (C := "FanTalkModel") (T := TX12) (N := 17) (q := 71) 0 0 hX (c_X12_hasRead _ μ2 _ (S.1.2.2.2.2.2.2 k).2 (rdR 0 0 (S.1.2.2.2.2.2.2 k).1 (S.1.1.2.1 c)) rfl) rfl ?hs_6 rfl u_1047 u_1049 us_54 u_12 u_1050 ⟨by decide, by decide, rfl⟩ ⟨Nat.le_of_ble_eq_true rfl, Nat.le_of_ble_eq_true rfl⟩ ⟨Nat.le_of_ble_eq_true rfl, Nat.le_of_ble_eq_true rfl⟩ (Nat.le_of_ble_eq_true rfl) dX12_mayBe_68 ?hp_6 rfl rfl rfl ?_
                  case hs_6 => first | with_reducible assumption | exact ⟨_, by with_reducible assumption⟩ | exact MM.isO hM
                  case hp_6 => exact ⟨hM, h18, by omega, hw7, by omega, fun i hi => by have := getD_10 hL10 i; omega⟩
                  rintro v σ1 sz1 ⟨rfl, rfl, rfl⟩
                  refine S_istore_n (q := 72) [_, _, _, _, _] hX dX12_mayBe_71 rfl (Nat.le_of_ble_eq_true rfl) rfl rfl ?_
                  refine S_iinc (q := 75) [_, _, _, _, _] hX dX12_mayBe_72 rfl (ii_1 _) rfl (Nat.le_of_ble_eq_true rfl) rfl rfl ?_
                  refine S_goto 18 hX dX12_mayBe_75 rfl ?_
                  refine ih2 (k + 1) _ _ _ _ ?_ (nI_1 _) hlt2 hs2 hM hF (by omega)
                  have hbk : berK S c k := Classical.byContradiction fun q => c29 (bP_f q)
                  unfold bi
                  by_cases hin : (S.1.2.2.2.2.2.2 k).2 ∈ rdR 0 0 (S.1.2.2.2.2.2.2 k).1 (S.1.1.2.1 c)
                  · rw [if_pos hin, bP_t]
                    intro j hj
                    rcases Nat.lt_succ_iff_lt_or_eq.mp hj with q | q
                    · exact hbk j q
                    · rw [q]; exact hin
                  · rw [if_neg hin, bP_f]
                    exact fun q => hin (q k (Nat.lt_succ_self _))
        refine S_iload_n (q := 5) hX dX12_mayBe_4 rfl rfl ?_
        refine S_aload_n (q := 6) hX dX12_mayBe_5 rfl rfl ?_
        refine S_iconst (q := 7) (v := 0) hX dX12_mayBe_6 ic_0 rfl ?_
        refine S_callV (ci := 12) (C := "FanTalkModel") (T := TX12) (N := 17) (q := 10) 0 0 hX (c_X12_get _ μ _ 0 (0) (by first | rfl | (simp only [i0, i1, i2, i3, i4, i5, i6, i7, i8, i9, i10, i11, i12, i17, i20, i24, i26, i27, i31, i32, i36, i48, i57, i59, i60, i61, i63, i64, i87, i96, i97, i99, i122, i148, i250, i255, i305, i453, i999, i1359, i1812, pk_mul, nI_add]; done) | (simp only [i0, i1, i2, i3, i4, i5, i6, i7, i8, i9, i10, i11, i12, i17, i20, i24, i26, i27, i31, i32, i36, i48, i57, i59, i60, i61, i63, i64, i87, i96, i97, i99, i122, i148, i250, i255, i305, i453, i999, i1359, i1812, pk_mul, nI_add]; congr 1; omega))) rfl ?hs_7 rfl u_838 u_840 us_26 u_12 u_841 ⟨by decide, by decide, rfl⟩ ⟨Nat.le_of_ble_eq_true rfl, Nat.le_of_ble_eq_true rfl⟩ ⟨Nat.le_of_ble_eq_true rfl, Nat.le_of_ble_eq_true rfl⟩ (Nat.le_of_ble_eq_true rfl) dX12_mayBe_7 ?hp_7 rfl rfl rfl ?_
        case hs_7 => first | with_reducible assumption | exact ⟨_, by with_reducible assumption⟩ | exact MM.isO hM
        case hp_7 => exact ⟨hM, h0, by omega⟩
        rintro v σ1 sz1 ⟨rfl, rfl, rfl⟩
        rw [show μ 1 (0 + 0) = nI S.1.1.1 from (hR0.scr hs).2.1.1]
        refine S_icmp_ge (q := 13) 98 hX dX12_mayBe_10 rfl rfl (fun c10 => ?_) (fun c10 => ?_)
        · have hge : c = S.1.1.1 := by rw [nI_leI (by omega) (by omega)] at c10; omega
          refine S_iload_n (q := 99) hX dX12_mayBe_98 rfl rfl ?_
          refine S_iret hX dX12_mayBe_99 (Nat.zero_le _) (Nat.zero_le _) ?_
          refine hP _ _ _ ?_
          refine ⟨_, hM, hF, ?_, hR0.scr hs, rfl⟩
          subst hge
          rfl
        · have hcn : c < S.1.1.1 := by rw [nI_leI (by omega) (by omega)] at c10; omega
          refine S_iconst (q := 14) (v := 1) hX dX12_mayBe_13 ic_1 rfl ?_
          refine S_istore_n (q := 15) [_, _, _, _, _] hX dX12_mayBe_14 rfl (Nat.le_of_ble_eq_true rfl) rfl rfl ?_
          refine S_iconst (q := 16) (v := 0) hX dX12_mayBe_15 ic_0 rfl ?_
          refine S_istore (q := 18) [_, _, _, _, _] hX dX12_mayBe_16 rfl (Nat.le_of_ble_eq_true rfl) rfl rfl ?_
          exact l2 hcn 9 0 _ _ _ _ (bP_t (fun j hj => absurd hj (Nat.not_lt_zero _))).symm rfl (Nat.zero_le _) hs hM hF (by omega)
  refine S_iconst (q := 1) (v := 0) hX dX12_mayBe_0 ic_0 rfl ?_
  refine S_istore_n (q := 2) [_, _, _, _, _] hX dX12_mayBe_1 rfl (Nat.le_of_ble_eq_true rfl) rfl rfl ?_
  refine S_iconst (q := 3) (v := 0) hX dX12_mayBe_2 ic_0 rfl ?_
  refine S_istore_n (q := 4) [_, _, _, _, _] hX dX12_mayBe_3 rfl (Nat.le_of_ble_eq_true rfl) rfl rfl ?_
  exact l1 4 0 _ _ _ _ _ _ rfl rfl (Nat.zero_le _) hs hM hF (by omega)
