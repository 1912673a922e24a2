/-! the reference: heat, digest -/
theorem lcg_lt (x : Nat) : lcg x < 2147483648 := Nat.mod_lt _ (by decide)
theorem lcgN_lt {s : Nat} (h : s < 2147483648) : ∀ k, lcgN s k < 2147483648
  | 0 => h
  | k + 1 => lcg_lt _
theorem l_lcg {x : Nat} (h : x < 2147483648) : (lN x * 1103515245 + 12345 - (lN x * 1103515245 + 12345) / 2147483648 * 2147483648 : Int64) = lN (lcg x) := by
  rw [show (1103515245 : Int64) = lN 1103515245 from rfl, show (12345 : Int64) = lN 12345 from rfl, show (2147483648 : Int64) = lN 2147483648 from rfl, lN_mul, lN_add, pk_lRem (by omega) (by decide) (by decide)]
  rfl
theorem l_ht {x : Nat} (h : x < 2147483648) : ((lN x / 65536 - lN x / 65536 / 12 * 12 : Int64)).toInt32 = nI (x / 65536 % 12) := by
  rw [show (65536 : Int64) = lN 65536 from rfl, show (12 : Int64) = lN 12 from rfl, pk_lDiv (by omega) (by decide) (by decide), pk_lRem (by omega) (by decide) (by decide), lN_i]
theorem lcgN_s (s k : Nat) : lcg (lcgN s k) = lcgN s (k + 1) := rfl
theorem lcgN_0 (s : Nat) : lcgN s 0 = s := rfl
theorem l_lcg2 {s k : Nat} (h : lcgN s k < 2147483648) : (lN (lcgN s k) * 1103515245 + 12345 - (lN (lcgN s k) * 1103515245 + 12345) / 2147483648 * 2147483648 : Int64) = lN (lcgN s (k + 1)) := (l_lcg h).trans (congrArg lN (lcgN_s s k))
theorem htS_e (s k : Nat) : lcgN s (k + 1) / 65536 % 12 = htS s k := rfl
theorem l_ht2 {s k : Nat} (h : lcgN s (k + 1) < 2147483648) : ((lN (lcgN s (k + 1)) / 65536 - lN (lcgN s (k + 1)) / 65536 / 12 * 12 : Int64)).toInt32 = nI (htS s k) := (l_ht h).trans (congrArg nI (htS_e s k))
theorem inb_le {x : Int32} {hi : Int} {n : Nat} (h : inb x 0 hi) (e : hi ≤ n) : tN x ≤ n := by
  have := h.2
  unfold tN
  omega
theorem htS_lt (s k : Nat) : htS s k < 12 := Nat.mod_lt _ (by decide)
theorem count_take {L : List Nat} {k w : Nat} (hk : k < L.length) : (L.take (k + 1)).count w = (L.take k).count w + (if L.getD k 0 = w then 1 else 0) := by
  rw [List.take_succ_eq_append_getElem hk, List.count_append, List.getD_eq_getElem?_getD, List.getElem?_eq_getElem hk, Option.getD_some]
  congr 1
  by_cases h : L[k] = w
  · rw [if_pos h, h]; simp
  · rw [if_neg h]; simp [h]

theorem c_X12_heat (m : Nat) (μ : MF) (S : ST) (x y z u s : Int32) : CT_X12_heat [.ref m, .int x, .int y, .int z, .int u, .int s] (fun Γ σ sz => MM σ m μ ∧ MR μ S ∧ StOk S) (fun Γ σ sz v σ' sz' => ∃ μ', MM σ' m μ' ∧ Fr m (m + 9) σ σ' ∧ v = some (.int (sp_heat S x y z u s).1) ∧ MR μ' (sp_heat S x y z u s).2 ∧ sz' = sz) := by
  refine CT.mkP rfl (Nat.le_of_ble_eq_true rfl) [_, _, _, _, _, _, _, _, _, _] rfl ?_
  intro X Γ σ sz P hX hpre hsz hP
  obtain ⟨hM, hR, ok⟩ := hpre
  have hF : Fr m (m + 9) σ σ := Fr.rf
  have h0 := hR.1
  have hC0 := hR.2.1.1
  obtain ⟨q0, q1, q2, q3, q4, q5, q6, q7, q8, q9⟩ := id hR.2.1
  obtain ⟨o1, o2, o3, o4, o5, o6, o7, o8, o9, o10⟩ := id ok.1
  obtain ⟨σ0, eσ0⟩ : ∃ z, z = σ := ⟨σ, rfl⟩
  rw [← eσ0] at hP
  have hF : Fr m (m + 9) σ0 σ := by rw [eσ0]; exact Fr.rf
  obtain ⟨μ0, eμ0⟩ : ∃ z, z = μ := ⟨μ, rfl⟩
  have hs : scr μ0 μ := by rw [eμ0]; exact scr.rf
  have hR0 := hR
  rw [← eμ0] at hR0
  obtain ⟨kd, ekd⟩ : ∃ q, q = tN x := ⟨_, rfl⟩
  obtain ⟨c, ec⟩ : ∃ q, q = tN y := ⟨_, rfl⟩
  obtain ⟨wd, ewd⟩ : ∃ q, q = tN z := ⟨_, rfl⟩
  obtain ⟨n, en⟩ : ∃ q, q = tN u := ⟨_, rfl⟩
  obtain ⟨sd, esd⟩ : ∃ q, q = tN s := ⟨_, rfl⟩
  have l2 : ¬ (¬ inb x 0 4 ∨ ¬ okc y S.1.1.1 ∨ ¬ inb z 0 9 ∨ ¬ inb u 0 60 ∨ ¬ inb s 0 999999) → x = nI kd → y = nI c → z = nI wd → u = nI n → s = nI sd → kd < 5 → c < S.1.1.1 → wd < 10 → n ≤ 60 → ∀ (fl : Nat) (k : Nat) (h : Int64) (x8 x9 : Int32) (σ : Sg) (μ : MF), x8 = nI (((rdK kd (fun b => htS sd b) n (S.1.1.2.1 c)).take k).count wd) → x9 = nI k → k ≤ (rdK kd (fun b => htS sd b) n (S.1.1.2.1 c)).length → μ 0 8 = nI (rdK kd (fun b => htS sd b) n (S.1.1.2.1 c)).length → WL (μ 7) (rdK kd (fun b => htS sd b) n (S.1.1.2.1 c)) → scr μ0 μ → MM σ m μ → Fr m (m + 9) σ0 σ → (rdK kd (fun b => htS sd b) n (S.1.1.2.1 c)).length - k < fl → G X Γ P 0 0 126 [some (.ref m), some (.int x), some (.int y), some (.int z), some (.int u), some (.int s), some (.long h), none, some (.int x8), some (.int x9)] [] σ sz := by
    intro hok ex ey ez eu es hkd hc hwd hn fl
    have hcx := ok.1.2.1.2.1 c hc
    have hl6 : (rdK kd (fun b => htS sd b) n (S.1.1.2.1 c)).length ≤ n := rdL_len _ _
    have hL10 : ∀ w ∈ (rdK kd (fun b => htS sd b) n (S.1.1.2.1 c)), w < 10 := rdL_10 hcx _ _
    induction fl with
      | zero => intro k _ _ _ σ μ _ _ _ _ _ _ _ _ hfu; exact absurd hfu (Nat.not_lt_zero _)
      | succ fl ih =>
        rintro k h _ _ σ μ rfl rfl hk h8 hw hs hM hF hfu
        refine S_iload (q := 128) hX dX12_heat_126 rfl rfl ?_
        refine S_aload_n (q := 129) hX dX12_heat_128 rfl rfl ?_
        refine S_getf (fs := ?fs_1) (v := ?v_1) (q := 132) hX u_797 fo_X12_wordMany dX12_heat_129 ?hs_1 ?hv_1 rfl ?_
        case hs_1 => with_reducible first | exact MM.c0 hM | exact MM.c1 hM | exact MM.c5 hM | exact MM.c6 hM | exact MM.c7 hM | exact MM.c3 hM | exact MM.c4 hM | exact MM.c8 hM | exact MM.c2 hM
        case hv_1 => rfl
        refine S_icmp_ge (q := 135) 162 hX dX12_heat_132 rfl rfl (fun c132 => ?_) (fun c132 => ?_)
        · have hge : k = (rdK kd (fun b => htS sd b) n (S.1.1.2.1 c)).length := by rw [h8, nI_leI (by omega) (by omega)] at c132; omega
          refine S_iload (q := 164) hX dX12_heat_162 rfl rfl ?_
          refine S_iret hX dX12_heat_164 (Nat.zero_le _) (Nat.zero_le _) ?_
          refine hP _ _ _ ?_
          have hsp : sp_heat S x y z u s = (nI ((rdK kd (fun b => htS sd b) n (S.1.1.2.1 c)).count wd), S) := by unfold sp_heat; rw [if_neg hok, ← ekd, ← ec, ← ewd, ← en, ← esd]
          rw [hsp]
          rw [hge, List.take_length]
          exact ⟨_, hM, hF, rfl, hR0.scr hs, rfl⟩
        · have hk2 : k < (rdK kd (fun b => htS sd b) n (S.1.1.2.1 c)).length := by rw [h8, nI_leI (by omega) (by omega)] at c132; omega
          refine S_iload (q := 137) hX dX12_heat_135 rfl rfl ?_
          refine S_aload_n (q := 138) hX dX12_heat_137 rfl rfl ?_
          refine S_getf (fs := ?fs_2) (v := ?v_2) (q := 141) hX u_796 fo_X12_words dX12_heat_138 ?hs_2 ?hv_2 rfl ?_
          case hs_2 => with_reducible first | exact MM.c0 hM | exact MM.c1 hM | exact MM.c5 hM | exact MM.c6 hM | exact MM.c7 hM | exact MM.c3 hM | exact MM.c4 hM | exact MM.c8 hM | exact MM.c2 hM
          case hv_2 => rfl
          refine S_iload (q := 143) hX dX12_heat_141 rfl rfl ?_
          refine S_iald (N := ?n_3) (f := ?f_3) (q := 144) hX dX12_heat_143 ?hs_3 ?hi_3 rfl ?_
          case hs_3 => with_reducible first | exact MM.c0 hM | exact MM.c1 hM | exact MM.c5 hM | exact MM.c6 hM | exact MM.c7 hM | exact MM.c3 hM | exact MM.c4 hM | exact MM.c8 hM | exact MM.c2 hM
          case hi_3 => exact vp_in_nI (by omega) (by decide)
          refine S_iload_n (q := 145) hX dX12_heat_144 rfl rfl ?_
          refine S_icmp_ne (q := 148) 152 hX dX12_heat_145 rfl rfl (fun c145 => ?_) (fun c145 => ?_)
          · refine S_iconst (q := 153) (v := 0) hX dX12_heat_152 ic_0 rfl ?_
            refine S_iadd (q := 154) hX dX12_heat_153 rfl ?_
            refine S_istore (q := 156) [_, _, _, _, _, _, _, _, _, _] hX dX12_heat_154 rfl (Nat.le_of_ble_eq_true rfl) rfl rfl ?_
            refine S_iinc (q := 159) [_, _, _, _, _, _, _, _, _, _] hX dX12_heat_156 rfl (ii_1 _) rfl (Nat.le_of_ble_eq_true rfl) rfl rfl ?_
            refine S_goto 126 hX dX12_heat_159 rfl ?_
            refine ih (k + 1) _ _ _ _ _ ?_ (nI_1 _) hk2 h8 hw hs hM hF (by omega)
            rw [count_take hk2, if_neg (fun q => c145 (by rw [nI_clamp (by omega), hw k hk2, q, ez])), i0, nI_add]
          · refine S_iconst (q := 149) (v := 1) hX dX12_heat_148 ic_1 rfl ?_
            refine S_goto 153 hX dX12_heat_149 rfl ?_
            refine S_iadd (q := 154) hX dX12_heat_153 rfl ?_
            refine S_istore (q := 156) [_, _, _, _, _, _, _, _, _, _] hX dX12_heat_154 rfl (Nat.le_of_ble_eq_true rfl) rfl rfl ?_
            refine S_iinc (q := 159) [_, _, _, _, _, _, _, _, _, _] hX dX12_heat_156 rfl (ii_1 _) rfl (Nat.le_of_ble_eq_true rfl) rfl rfl ?_
            refine S_goto 126 hX dX12_heat_159 rfl ?_
            refine ih (k + 1) _ _ _ _ _ ?_ (nI_1 _) hk2 h8 hw hs hM hF (by omega)
            rw [count_take hk2, if_pos (by rw [nI_clamp (by omega), hw k hk2, ez] at c145; exact nI_inj (by have := getD_10 hL10 k; omega) (by omega) c145), i1, nI_add]
  have l1 : ¬ (¬ inb x 0 4 ∨ ¬ okc y S.1.1.1 ∨ ¬ inb z 0 9 ∨ ¬ inb u 0 60 ∨ ¬ inb s 0 999999) → x = nI kd → y = nI c → z = nI wd → u = nI n → s = nI sd → kd < 5 → c < S.1.1.1 → wd < 10 → n ≤ 60 → sd < 2147483648 → ∀ (fl : Nat) (k : Nat) (x8 : Int32) (x9 : Option Value) (σ : Sg) (g : Nat → Int32), x8 = nI k → k ≤ n → (∀ i, i < k → g i = nI (htS sd i)) → MM σ m (m1 (m2 μ 0 7 (nI n)) 5 g) → Fr m (m + 9) σ0 σ → n - k < fl → G X Γ P 0 0 66 [some (.ref m), some (.int x), some (.int y), some (.int z), some (.int u), some (.int s), some (.long (lN (lcgN sd k))), none, some (.int x8), x9] [] σ sz := by
    intro hok ex ey ez eu es hkd hc hwd hn hsd fl
    have hcx := ok.1.2.1.2.1 c hc
    induction fl with
      | zero => intro k _ _ σ g _ _ _ _ _ hfu; exact absurd hfu (Nat.not_lt_zero _)
      | succ fl ih =>
        rintro k _ x9 σ g rfl hk hg hM hF hfu
        have hl := lcgN_lt hsd k
        have hs1 : scr μ0 (m1 (m2 μ 0 7 (nI n)) 5 g) := hs.trans (scr.make rfl)
        refine S_iload (q := 68) hX dX12_heat_66 rfl rfl ?_
        refine S_iload (q := 70) hX dX12_heat_68 rfl rfl ?_
        refine S_icmp_ge (q := 73) 113 hX dX12_heat_70 rfl rfl (fun c70 => ?_) (fun c70 => ?_)
        · have hge : k = n := by rw [eu, nI_leI (by omega) (by omega)] at c70; omega
          subst hge
          refine S_aload_n (q := 114) hX dX12_heat_113 rfl rfl ?_
          refine S_iload_n (q := 115) hX dX12_heat_114 rfl rfl ?_
          refine S_iload_n (q := 116) hX dX12_heat_115 rfl rfl ?_
          refine S_iconst (q := 117) (v := 0) hX dX12_heat_116 ic_0 rfl ?_
          refine S_callV (ci := 12) (C := "FanTalkModel") (T := TX12) (N := 17) (q := 120) 0 0 hX (c_X12_readBy _ (m1 (m2 μ 0 7 (nI k)) 5 g) _ _ _ kd c 0 k 0 (htS sd) (S.1.1.2.1 c) ex ey rfl) rfl ?hs_4 rfl u_976 u_978 us_46 u_12 u_979 ⟨by decide, by decide, rfl⟩ ⟨Nat.le_of_ble_eq_true rfl, Nat.le_of_ble_eq_true rfl⟩ ⟨Nat.le_of_ble_eq_true rfl, Nat.le_of_ble_eq_true rfl⟩ (Nat.le_of_ble_eq_true rfl) dX12_heat_117 ?hp_4 rfl rfl rfl ?_
          case hs_4 => first | with_reducible assumption | exact ⟨_, by with_reducible assumption⟩ | exact MM.isO hM
          case hp_4 => exact ⟨hM, hkd, by omega, by omega, (hR0.scr hs1).1, by have := ok.1.1; omega, by rw [m1_ne (by decide), m2_at, if_pos ⟨rfl, rfl⟩], fun i hi => ⟨by rw [m1_eq]; exact hg i hi, htS_lt _ _⟩, (hR0.scr hs1).2.1.code hc, hcx⟩
          rintro v σ sz1 ⟨μ1, hM, hF1, rfl, ⟨vf, wf, e1, hw⟩, rfl⟩
          have hF := hF.trans hF1
          rw [rdK_0] at e1 hw
          have h18 : μ1 0 8 = nI (rdK kd (fun b => htS sd b) k (S.1.1.2.1 c)).length := by rw [e1, m2_at, if_pos ⟨rfl, rfl⟩]
          have hw7 : WL (μ1 7) (rdK kd (fun b => htS sd b) k (S.1.1.2.1 c)) := by rw [e1, m2_o (by decide), m1_eq]; exact hw
          refine S_iconst (q := 121) (v := 0) hX dX12_heat_120 ic_0 rfl ?_
          refine S_istore (q := 123) [_, _, _, _, _, _, _, _, _, _] hX dX12_heat_121 rfl (Nat.le_of_ble_eq_true rfl) rfl rfl ?_
          refine S_iconst (q := 124) (v := 0) hX dX12_heat_123 ic_0 rfl ?_
          refine S_istore (q := 126) [_, _, _, _, _, _, _, _, _, _] hX dX12_heat_124 rfl (Nat.le_of_ble_eq_true rfl) rfl rfl ?_
          exact l2 hok ex ey ez eu es hkd hc hwd hn 61 0 _ _ _ _ μ1 (by rw [List.take_zero]; rfl) rfl (Nat.zero_le _) h18 hw7 (hs1.trans (scr.read e1)) hM hF (by have hl6 : (rdK kd (fun b => htS sd b) k (S.1.1.2.1 c)).length ≤ k := rdL_len _ _; omega)
        · have hk2 : k < n := by rw [eu, nI_leI (by omega) (by omega)] at c70; omega
          refine S_lload (q := 75) hX dX12_heat_73 rfl rfl ?_
          refine S_ldc2 (q := 78) hX u_1068 dX12_heat_75 rfl ?_
          refine S_lmul (q := 79) hX dX12_heat_78 rfl ?_
          refine S_ldc2 (q := 82) hX u_1069 dX12_heat_79 rfl ?_
          refine S_ladd (q := 83) hX dX12_heat_82 rfl ?_
          refine S_ldc2 (q := 86) hX u_1070 dX12_heat_83 rfl ?_
          refine S_lrem (q := 87) hX dX12_heat_86 (by decide) rfl ?_
          refine S_topl (l_lcg2 hl) ?_
          refine S_lstore (q := 89) [_, _, _, _, _, _, _, _, _, _] hX dX12_heat_87 rfl (Nat.le_of_ble_eq_true rfl) rfl rfl ?_
          refine S_aload_n (q := 90) hX dX12_heat_89 rfl rfl ?_
          refine S_getf (fs := ?fs_5) (v := ?v_5) (q := 93) hX u_793 fo_X12_made dX12_heat_90 ?hs_5 ?hv_5 rfl ?_
          case hs_5 => with_reducible first | exact MM.c0 hM | exact MM.c1 hM | exact MM.c5 hM | exact MM.c6 hM | exact MM.c7 hM | exact MM.c3 hM | exact MM.c4 hM | exact MM.c8 hM | exact MM.c2 hM
          case hv_5 => rfl
          refine S_iload (q := 95) hX dX12_heat_93 rfl rfl ?_
          refine S_lload (q := 97) hX dX12_heat_95 rfl rfl ?_
          refine S_ldc2 (q := 100) hX u_1071 dX12_heat_97 rfl ?_
          refine S_ldiv (q := 101) hX dX12_heat_100 (by decide) rfl ?_
          refine S_ldc2 (q := 104) hX u_1072 dX12_heat_101 rfl ?_
          refine S_lrem (q := 105) hX dX12_heat_104 (by decide) rfl ?_
          refine S_l2i (q := 106) hX dX12_heat_105 rfl ?_
          refine S_nm (fun x106 hx106 => ?_)
          refine S_iast (N := ?n_6) (f := ?f_6) (q := 107) hX dX12_heat_106 ?hs_6 ?hi_6 rfl ?_
          case hs_6 => with_reducible first | exact MM.c0 hM | exact MM.c1 hM | exact MM.c5 hM | exact MM.c6 hM | exact MM.c7 hM | exact MM.c3 hM | exact MM.c4 hM | exact MM.c8 hM | exact MM.c2 hM
          case hi_6 => exact vp_in_nI (by omega) (by decide)
          refine S_stu (q0 := m) (j := 5) (i := _) hM hF (by decide) rfl (fun σ μ106 e106 hM hF => ?_)
          subst hx106
          refine S_iinc (q := 110) [_, _, _, _, _, _, _, _, _, _] hX dX12_heat_107 rfl (ii_1 _) rfl (Nat.le_of_ble_eq_true rfl) rfl rfl ?_
          refine S_goto 66 hX dX12_heat_110 rfl ?_
          rw [nI_clamp (by omega), m2_m1] at e106
          subst e106
          refine ih (k + 1) _ _ _ _ (nI_1 _) hk2 (fun i hi => ?_) hM hF (by omega)
          rcases Nat.lt_succ_iff_lt_or_eq.mp hi with q | q
          · rw [upd_ne (by omega)]; exact hg i q
          · subst q; rw [upd_eq]; exact l_ht2 (lcgN_lt hsd _)
  refine S_iload_n (q := 1) hX dX12_heat_0 rfl rfl ?_
  refine S_callS (q := 4) 0 0 hX (c_X12_isKind _) rfl u_969 u_970 u_12 u_971 ⟨by decide, by decide, rfl⟩ ⟨Nat.le_of_ble_eq_true rfl, Nat.le_of_ble_eq_true rfl⟩ ⟨Nat.le_of_ble_eq_true rfl, Nat.le_of_ble_eq_true rfl⟩ (Nat.le_of_ble_eq_true rfl) dX12_heat_1 ?hp_7 rfl rfl rfl ?_
  case hp_7 => trivial
  rintro v σ1 sz1 ⟨rfl, rfl, rfl⟩
  refine S_if_eq_b (q := 7) 47 hX dX12_heat_4 rfl rfl (fun c4 => ?_) (fun c4 => ?_)
  · refine S_aload_n (q := 48) hX dX12_heat_47 rfl rfl ?_
    refine S_callV (ci := 12) (C := "FanTalkModel") (T := TX12) (N := 17) (q := 51) 0 0 hX (c_X12_bad _ μ) rfl ?hs_8 rfl u_864 u_866 us_30 u_12 u_867 ⟨by decide, by decide, rfl⟩ ⟨Nat.le_of_ble_eq_true rfl, Nat.le_of_ble_eq_true rfl⟩ ⟨Nat.le_of_ble_eq_true rfl, Nat.le_of_ble_eq_true rfl⟩ (Nat.le_of_ble_eq_true rfl) dX12_heat_48 ?hp_8 rfl rfl rfl ?_
    case hs_8 => first | with_reducible assumption | exact ⟨_, by with_reducible assumption⟩ | exact MM.isO hM
    case hp_8 => exact hM
    rintro v σ sz1 ⟨μ9, hM, hF1, rfl, e9, rfl⟩
    have hF := hF.trans hF1
    refine S_iret hX dX12_heat_51 (Nat.zero_le _) (Nat.zero_le _) ?_
    refine hP _ _ _ ?_
    have hsp : sp_heat S x y z u s = (-2, rfS S 0) := by unfold sp_heat; rw [if_pos (Or.inl c4)]
    rw [hsp]
    exact ⟨_, hM, hF, rfl, hR.rf (by decide) e9, rfl⟩
  · refine S_aload_n (q := 8) hX dX12_heat_7 rfl rfl ?_
    refine S_iload_n (q := 9) hX dX12_heat_8 rfl rfl ?_
    refine S_callV (ci := 12) (C := "FanTalkModel") (T := TX12) (N := 17) (q := 12) 0 0 hX (c_X12_isCode _ μ _ 0 S.1.1.1) rfl ?hs_9 rfl u_854 u_856 us_29 u_12 u_857 ⟨by decide, by decide, rfl⟩ ⟨Nat.le_of_ble_eq_true rfl, Nat.le_of_ble_eq_true rfl⟩ ⟨Nat.le_of_ble_eq_true rfl, Nat.le_of_ble_eq_true rfl⟩ (Nat.le_of_ble_eq_true rfl) dX12_heat_9 ?hp_9 rfl rfl rfl ?_
    case hs_9 => first | with_reducible assumption | exact ⟨_, by with_reducible assumption⟩ | exact MM.isO hM
    case hp_9 => exact ⟨hM, h0, by decide, hC0, ok.1.1⟩
    rintro v σ1 sz1 ⟨rfl, rfl, rfl⟩
    refine S_if_eq_b (q := 15) 47 hX dX12_heat_12 rfl rfl (fun c12 => ?_) (fun c12 => ?_)
    · refine S_aload_n (q := 48) hX dX12_heat_47 rfl rfl ?_
      refine S_callV (ci := 12) (C := "FanTalkModel") (T := TX12) (N := 17) (q := 51) 0 0 hX (c_X12_bad _ μ) rfl ?hs_10 rfl u_864 u_866 us_30 u_12 u_867 ⟨by decide, by decide, rfl⟩ ⟨Nat.le_of_ble_eq_true rfl, Nat.le_of_ble_eq_true rfl⟩ ⟨Nat.le_of_ble_eq_true rfl, Nat.le_of_ble_eq_true rfl⟩ (Nat.le_of_ble_eq_true rfl) dX12_heat_48 ?hp_10 rfl rfl rfl ?_
      case hs_10 => first | with_reducible assumption | exact ⟨_, by with_reducible assumption⟩ | exact MM.isO hM
      case hp_10 => exact hM
      rintro v σ sz1 ⟨μ9, hM, hF1, rfl, e9, rfl⟩
      have hF := hF.trans hF1
      refine S_iret hX dX12_heat_51 (Nat.zero_le _) (Nat.zero_le _) ?_
      refine hP _ _ _ ?_
      have hsp : sp_heat S x y z u s = (-2, rfS S 0) := by unfold sp_heat; rw [if_pos (Or.inr (Or.inl c12))]
      rw [hsp]
      exact ⟨_, hM, hF, rfl, hR.rf (by decide) e9, rfl⟩
    · refine S_iload_n (q := 16) hX dX12_heat_15 rfl rfl ?_
      refine S_iconst (q := 17) (v := 0) hX dX12_heat_16 ic_0 rfl ?_
      refine S_bipush (q := 19) (v := 9) hX dX12_heat_17 bp_9 rfl ?_
      refine S_callS (q := 22) 0 0 hX (c_X12_in _ _ _) rfl u_858 u_859 u_12 u_860 ⟨by decide, by decide, rfl⟩ ⟨Nat.le_of_ble_eq_true rfl, Nat.le_of_ble_eq_true rfl⟩ ⟨Nat.le_of_ble_eq_true rfl, Nat.le_of_ble_eq_true rfl⟩ (Nat.le_of_ble_eq_true rfl) dX12_heat_19 ?hp_11 rfl rfl rfl ?_
      case hp_11 => trivial
      rintro v σ1 sz1 ⟨rfl, rfl, rfl⟩
      refine S_top (bi_congr (rg z 0 9 _ _ (by decide) (by decide))) ?_
      refine S_if_eq_b (q := 25) 47 hX dX12_heat_22 rfl rfl (fun c22 => ?_) (fun c22 => ?_)
      · refine S_aload_n (q := 48) hX dX12_heat_47 rfl rfl ?_
        refine S_callV (ci := 12) (C := "FanTalkModel") (T := TX12) (N := 17) (q := 51) 0 0 hX (c_X12_bad _ μ) rfl ?hs_12 rfl u_864 u_866 us_30 u_12 u_867 ⟨by decide, by decide, rfl⟩ ⟨Nat.le_of_ble_eq_true rfl, Nat.le_of_ble_eq_true rfl⟩ ⟨Nat.le_of_ble_eq_true rfl, Nat.le_of_ble_eq_true rfl⟩ (Nat.le_of_ble_eq_true rfl) dX12_heat_48 ?hp_12 rfl rfl rfl ?_
        case hs_12 => first | with_reducible assumption | exact ⟨_, by with_reducible assumption⟩ | exact MM.isO hM
        case hp_12 => exact hM
        rintro v σ sz1 ⟨μ9, hM, hF1, rfl, e9, rfl⟩
        have hF := hF.trans hF1
        refine S_iret hX dX12_heat_51 (Nat.zero_le _) (Nat.zero_le _) ?_
        refine hP _ _ _ ?_
        have hsp : sp_heat S x y z u s = (-2, rfS S 0) := by unfold sp_heat; rw [if_pos (Or.inr (Or.inr (Or.inl c22)))]
        rw [hsp]
        exact ⟨_, hM, hF, rfl, hR.rf (by decide) e9, rfl⟩
      · refine S_iload (q := 27) hX dX12_heat_25 rfl rfl ?_
        refine S_iconst (q := 28) (v := 0) hX dX12_heat_27 ic_0 rfl ?_
        refine S_bipush (q := 30) (v := 60) hX dX12_heat_28 bp_60 rfl ?_
        refine S_callS (q := 33) 0 0 hX (c_X12_in _ _ _) rfl u_858 u_859 u_12 u_860 ⟨by decide, by decide, rfl⟩ ⟨Nat.le_of_ble_eq_true rfl, Nat.le_of_ble_eq_true rfl⟩ ⟨Nat.le_of_ble_eq_true rfl, Nat.le_of_ble_eq_true rfl⟩ (Nat.le_of_ble_eq_true rfl) dX12_heat_30 ?hp_13 rfl rfl rfl ?_
        case hp_13 => trivial
        rintro v σ1 sz1 ⟨rfl, rfl, rfl⟩
        refine S_top (bi_congr (rg u 0 60 _ _ (by decide) (by decide))) ?_
        refine S_if_eq_b (q := 36) 47 hX dX12_heat_33 rfl rfl (fun c33 => ?_) (fun c33 => ?_)
        · refine S_aload_n (q := 48) hX dX12_heat_47 rfl rfl ?_
          refine S_callV (ci := 12) (C := "FanTalkModel") (T := TX12) (N := 17) (q := 51) 0 0 hX (c_X12_bad _ μ) rfl ?hs_14 rfl u_864 u_866 us_30 u_12 u_867 ⟨by decide, by decide, rfl⟩ ⟨Nat.le_of_ble_eq_true rfl, Nat.le_of_ble_eq_true rfl⟩ ⟨Nat.le_of_ble_eq_true rfl, Nat.le_of_ble_eq_true rfl⟩ (Nat.le_of_ble_eq_true rfl) dX12_heat_48 ?hp_14 rfl rfl rfl ?_
          case hs_14 => first | with_reducible assumption | exact ⟨_, by with_reducible assumption⟩ | exact MM.isO hM
          case hp_14 => exact hM
          rintro v σ sz1 ⟨μ9, hM, hF1, rfl, e9, rfl⟩
          have hF := hF.trans hF1
          refine S_iret hX dX12_heat_51 (Nat.zero_le _) (Nat.zero_le _) ?_
          refine hP _ _ _ ?_
          have hsp : sp_heat S x y z u s = (-2, rfS S 0) := by unfold sp_heat; rw [if_pos (Or.inr (Or.inr (Or.inr (Or.inl c33))))]
          rw [hsp]
          exact ⟨_, hM, hF, rfl, hR.rf (by decide) e9, rfl⟩
        · refine S_iload (q := 38) hX dX12_heat_36 rfl rfl ?_
          refine S_iconst (q := 39) (v := 0) hX dX12_heat_38 ic_0 rfl ?_
          refine S_ldc (q := 41) hX u_1067 dX12_heat_39 rfl ?_
          refine S_callS (q := 44) 0 0 hX (c_X12_in _ _ _) rfl u_858 u_859 u_12 u_860 ⟨by decide, by decide, rfl⟩ ⟨Nat.le_of_ble_eq_true rfl, Nat.le_of_ble_eq_true rfl⟩ ⟨Nat.le_of_ble_eq_true rfl, Nat.le_of_ble_eq_true rfl⟩ (Nat.le_of_ble_eq_true rfl) dX12_heat_41 ?hp_15 rfl rfl rfl ?_
          case hp_15 => trivial
          rintro v σ1 sz1 ⟨rfl, rfl, rfl⟩
          refine S_top (bi_congr (rg s 0 999999 _ _ (by decide) (by decide))) ?_
          refine S_if_ne_b (q := 47) 52 hX dX12_heat_44 rfl rfl (fun c44 => ?_) (fun c44 => ?_)
          · refine S_iload (q := 54) hX dX12_heat_52 rfl rfl ?_
            refine S_i2l (q := 55) hX dX12_heat_54 rfl ?_
            refine S_lstore (q := 57) [_, _, _, _, _, _, _, _, _, _] hX dX12_heat_55 rfl (Nat.le_of_ble_eq_true rfl) rfl rfl ?_
            refine S_aload_n (q := 58) hX dX12_heat_57 rfl rfl ?_
            refine S_iload (q := 60) hX dX12_heat_58 rfl rfl ?_
            refine S_nm (fun x60 hx60 => ?_)
            refine S_putf (fs := ?fs_16) (q := 63) hX u_794 fo_X12_beats rfl rfl ?hl_16 dX12_heat_60 ?hs_16 rfl ?_
            case hs_16 => with_reducible first | exact MM.c0 hM | exact MM.c1 hM | exact MM.c5 hM | exact MM.c6 hM | exact MM.c7 hM | exact MM.c3 hM | exact MM.c4 hM | exact MM.c8 hM | exact MM.c2 hM
            case hl_16 => exact Nat.le_of_ble_eq_true rfl
            refine S_stu (q0 := m) (j := 0) (i := 7) hM hF (by decide) rfl (fun σ μ60 e60 hM hF => ?_)
            subst hx60
            refine S_iconst (q := 64) (v := 0) hX dX12_heat_63 ic_0 rfl ?_
            refine S_istore (q := 66) [_, _, _, _, _, _, _, _, _, _] hX dX12_heat_64 rfl (Nat.le_of_ble_eq_true rfl) rfl rfl ?_
            have hsx := tN_ex c44.1
            have hzx := tN_ex c22.1
            have hux := tN_ex c33.1
            have hyx := okc.ex c12
            have hxx := tN_ex c4.1
            have hq : ¬ (¬ inb x 0 4 ∨ ¬ okc y S.1.1.1 ∨ ¬ inb z 0 9 ∨ ¬ inb x60 0 60 ∨ ¬ inb s 0 999999) := fun q => q.elim (fun q => q c4) (fun q => q.elim (fun q => q c12) (fun q => q.elim (fun q => q c22) (fun q => q.elim (fun q => q c33) (fun q => q c44))))
            have b1 : kd ≤ 4 := by rw [ekd]; exact inb_le c4 (by decide)
            have b2 : wd ≤ 9 := by rw [ewd]; exact inb_le c22 (by decide)
            have b3 : n ≤ 60 := by rw [en]; exact inb_le c33 (by decide)
            have b4 : sd < 2147483648 := by rw [esd]; exact hsx.2.1
            have e1 : x = nI kd := by rw [ekd]; exact hxx.1
            have e2 : y = nI c := by rw [ec]; exact hyx.1
            have e3 : z = nI wd := by rw [ewd]; exact hzx.1
            have e4 : x60 = nI n := by rw [en]; exact hux.1
            have e5 : s = nI sd := by rw [esd]; exact hsx.1
            have h2 : c < S.1.1.1 := by rw [ec]; exact hyx.2.1
            have e6 : s.toInt64 = lN (lcgN sd 0) := by rw [lcgN_0, e5]; exact nI_l b4
            have e60b : μ60 = m1 (m2 μ 0 7 (nI n)) 5 (μ 5) := by rw [e60, m1_id (m2 μ 0 7 (nI n)) 5 (m1_ne (by decide)), ← e4]
            rw [e60b] at hM
            rw [e6]
            exact l1 hq e1 e2 e3 e4 e5 (Nat.lt_succ_of_le b1) h2 (Nat.lt_succ_of_le b2) b3 b4 61 0 _ none _ (μ 5) rfl (Nat.zero_le _) (fun i hi => absurd hi (Nat.not_lt_zero _)) hM hF (Nat.lt_succ_of_le b3)
          · refine S_aload_n (q := 48) hX dX12_heat_47 rfl rfl ?_
            refine S_callV (ci := 12) (C := "FanTalkModel") (T := TX12) (N := 17) (q := 51) 0 0 hX (c_X12_bad _ μ) rfl ?hs_17 rfl u_864 u_866 us_30 u_12 u_867 ⟨by decide, by decide, rfl⟩ ⟨Nat.le_of_ble_eq_true rfl, Nat.le_of_ble_eq_true rfl⟩ ⟨Nat.le_of_ble_eq_true rfl, Nat.le_of_ble_eq_true rfl⟩ (Nat.le_of_ble_eq_true rfl) dX12_heat_48 ?hp_17 rfl rfl rfl ?_
            case hs_17 => first | with_reducible assumption | exact ⟨_, by with_reducible assumption⟩ | exact MM.isO hM
            case hp_17 => exact hM
            rintro v σ sz1 ⟨μ9, hM, hF1, rfl, e9, rfl⟩
            have hF := hF.trans hF1
            refine S_iret hX dX12_heat_51 (Nat.zero_le _) (Nat.zero_le _) ?_
            refine hP _ _ _ ?_
            have hsp : sp_heat S x y z u s = (-2, rfS S 0) := by unfold sp_heat; rw [if_pos (Or.inr (Or.inr (Or.inr (Or.inr c44))))]
            rw [hsp]
            exact ⟨_, hM, hF, rfl, hR.rf (by decide) e9, rfl⟩
