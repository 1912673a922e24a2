/-! THE CLASS: a talk, with its codes and what may be undone -/
abbrev shT (q : Nat) : SH := fun j f => if j = 0 then .inr (9, [.ref (q + 1), .ref (q + 6), .int (f 0), .ref (q + 38), .int (f 1), .ref (q + 39), .int (f 2), .ref (q + 40), .ref (q + 41), .int (f 3)])
  else if j < 6 then shC (q + 1) (j - 1) f
  else if j = 6 then .inr (6, [.ref (q + 7), .int (f 0)])
  else if j = 7 then .inl (4, 6, .inr (.inr (.inr (.inr fun k => some (q + (8 + 5 * tN (f k)))))))
  else if j < 38 then shC (q + (8 + 5 * ((j - 8) / 5))) ((j - 8) % 5) f
  else if j = 38 then ia 6 f
  else if j = 39 then ia 4 f
  else ia 8 f
abbrev TK (σ : Sg) (q : Nat) (f : MF) : Prop := CL σ q 42 (shT q) f
theorem TK.c0 {σ : Sg} {q : Nat} {f : MF} (h : TK σ q f) : σ q = some (.inr (9, [.ref (q + 1), .ref (q + 6), .int (f 0 0), .ref (q + 38), .int (f 0 1), .ref (q + 39), .int (f 0 2), .ref (q + 40), .ref (q + 41), .int (f 0 3)])) := h 0 (by decide)
theorem TK.c6 {σ : Sg} {q : Nat} {f : MF} (h : TK σ q f) : σ (q + 6) = some (.inr (6, [.ref (q + 7), .int (f 6 0)])) := h 6 (by decide)
theorem TK.c7 {σ : Sg} {q : Nat} {f : MF} (h : TK σ q f) : σ (q + 7) = some (.inl (4, 6, .inr (.inr (.inr (.inr fun k => some (q + (8 + 5 * tN (f 7 k)))))))) := h 7 (by decide)
theorem TK.c38 {σ : Sg} {q : Nat} {f : MF} (h : TK σ q f) : σ (q + 38) = some (ia 6 (f 38)) := h 38 (by decide)
theorem TK.c39 {σ : Sg} {q : Nat} {f : MF} (h : TK σ q f) : σ (q + 39) = some (ia 4 (f 39)) := h 39 (by decide)
theorem TK.c40 {σ : Sg} {q : Nat} {f : MF} (h : TK σ q f) : σ (q + 40) = some (ia 8 (f 40)) := h 40 (by decide)
theorem TK.c41 {σ : Sg} {q : Nat} {f : MF} (h : TK σ q f) : σ (q + 41) = some (ia 8 (f 41)) := h 41 (by decide)
/-- where codes lie in a talk: those that are on, those that may come back -/
def cOf (d : Nat) : Prop := d = 1 ∨ ∃ k, k < 6 ∧ d = 8 + 5 * k
theorem cOf.sh {d q : Nat} (h : cOf d) : ∀ j, j < 5 → ∀ g, shT q (d + j) g = shC (q + d) j g := by
  intro j hj g
  rcases h with rfl | ⟨k, hk, rfl⟩
  · unfold shT
    rw [if_neg (by omega), if_pos (by omega), show 1 + j - 1 = j by omega]
  · unfold shT
    rw [if_neg (by omega), if_neg (by omega), if_neg (by omega), if_neg (by omega), if_pos (by omega), show (8 + 5 * k + j - 8) / 5 = k by omega, show (8 + 5 * k + j - 8) % 5 = j by omega]
theorem cOf.le {d : Nat} (h : cOf d) : d + 5 ≤ 42 := by
  rcases h with rfl | ⟨k, hk, rfl⟩ <;> omega
theorem TK.co {σ : Sg} {q d : Nat} {f : MF} (h : TK σ q f) (hd : cOf d) : CK σ (q + d) (fun j => f (d + j)) := CL.sub h hd.le hd.sh
theorem TK.jn {σ σ' : Sg} {q d : Nat} {f g : MF} (h : TK σ q f) (hd : cOf d) (hF : Fr (q + d) (q + d + 5) σ σ') (h' : CK σ' (q + d) g) : TK σ' q (spl f d 5 g) := CL.join h hd.le hd.sh hF h'
theorem CoR.ext {f g : MF} {B : BkT} (h : CoR g B) (e : ∀ j, j < 5 → f j = g j) : CoR f B := by
  obtain ⟨h0, h1, h2⟩ := h
  refine ⟨by rw [e 0 (by decide)]; exact h0, fun c hc => ?_, fun w hw => by rw [e 4 (by decide)]; exact h2 w hw⟩
  have := h1 c hc
  exact ⟨by rw [e 1 (by decide)]; exact this.1, fun k hk => ⟨by rw [e 2 (by decide)]; exact (this.2 k hk).1, by rw [e 3 (by decide)]; exact (this.2 k hk).2⟩⟩
theorem tN_nI {n : Nat} (h : n < 2147483648) : tN (nI n) = n := by unfold tN; rw [nI_toInt h]; rfl
def PmOk (pm : Nat → Nat) : Prop := (∀ k, k < 6 → pm k < 6) ∧ ∀ a b, a < 6 → b < 6 → pm a = pm b → a = b
def PmR (f : MF) : Prop := ∃ pm, PmOk pm ∧ ∀ k, k < 6 → f 7 k = nI (pm k)
def PaR (f : MF) (p : Nat × (Nat → BkT)) : Prop := f 6 0 = nI p.1 ∧ ∃ pm, PmOk pm ∧ (∀ k, k < 6 → f 7 k = nI (pm k)) ∧ ∀ k, k < p.1 → CoR (fun j => f (8 + 5 * pm k + j)) (p.2 k)
def TkR (f : MF) (C : CtT) : Prop := CoR (fun j => f (1 + j)) C.1 ∧ PaR f C.2.1 ∧ f 0 0 = nI C.2.2.1 ∧ f 0 1 = nI (ln C.2.2.2.1) ∧ (∀ k, k < ln C.2.2.2.1 → f 38 k = nI (stN C.2.2.2.1 (ln C.2.2.2.1) k)) ∧ f 0 2 = nI C.2.2.2.2.1.1 ∧ (∀ k, k < C.2.2.2.2.1.1 → f 39 k = nI (C.2.2.2.2.1.2 k)) ∧ f 0 3 = nI C.2.2.2.2.2.1 ∧ ∀ k, k < C.2.2.2.2.2.1 → f 40 k = nI (C.2.2.2.2.2.2 k).1 ∧ f 41 k = nI (C.2.2.2.2.2.2 k).2
theorem PaR.pm {f : MF} {p : Nat × (Nat → BkT)} (h : PaR f p) : PmR f := by
  obtain ⟨_, pm, h1, h2, _⟩ := h
  exact ⟨pm, h1, h2⟩
theorem cOf.at {k : Nat} {pm : Nat → Nat} (h : PmOk pm) (hk : k < 6) : cOf (8 + 5 * pm k) := Or.inr ⟨pm k, h.1 k hk, rfl⟩
/-- a reference put into the row of those that may come back -/
theorem TK.sta {σ : Sg} {q i p y : Nat} {f : MF} (h : TK σ q f) (hp : p < 6) (hy : y = q + (8 + 5 * p)) : TK (su σ (q + 7) (.inl (4, 6, .inr (.inr (.inr (.inr (va_up (fun k => some (q + (8 + 5 * tN (f 7 k)))) i (some y)))))))) q (m2 f 7 i (nI p)) := by
  refine CL.st h (by decide) ?_
  have e : (fun k => some (q + (8 + 5 * tN (upd (f 7) i (nI p) k)))) = va_up (fun k => some (q + (8 + 5 * tN (f 7 k)))) i (some y) := by
    funext k
    show _ = if k = i then some y else some (q + (8 + 5 * tN (f 7 k)))
    by_cases hk : k = i
    · rw [hk, upd_eq, if_pos rfl, tN_nI (by omega), hy]
    · rw [upd_ne hk, if_neg hk]
  rw [← e]
  rfl
/-- codes of a talk made anew: what lies elsewhere stays -/
theorem CoR.sIn {f g : MF} {d : Nat} {B : BkT} (h : CoR g B) : CoR (fun j => spl f d 5 g (d + j)) B := h.ext fun j hj => by
  show spl f d 5 g (d + j) = g j
  rw [spl_in ⟨by omega, by omega⟩, show d + j - d = j by omega]
theorem CoR.sOut {f g : MF} {d e : Nat} {B : BkT} (h : CoR (fun j => f (e + j)) B) (hd : d + 5 ≤ e ∨ e + 5 ≤ d) : CoR (fun j => spl f d 5 g (e + j)) B := h.ext fun j hj => by
  show spl f d 5 g (e + j) = f (e + j)
  rw [spl_out (by omega)]
theorem PmOk.ne {pm : Nat → Nat} (h : PmOk pm) {a b : Nat} (ha : a < 6) (hb : b < 6) (hab : a ≠ b) : 8 + 5 * pm a + 5 ≤ 8 + 5 * pm b ∨ 8 + 5 * pm b + 5 ≤ 8 + 5 * pm a := by
  have : pm a ≠ pm b := fun z => hab (h.2 a b ha hb z)
  omega
/-- the past with one of its codes made anew -/
theorem psh_full {p : Nat × (Nat → BkT)} {b : BkT} (h : p.1 = 6) : psh p b = (6, fun k => if k < 5 then p.2 (k + 1) else b) := by unfold psh; rw [if_pos h]
theorem psh_part {p : Nat × (Nat → BkT)} {b : BkT} (h : ¬ p.1 = 6) : psh p b = (p.1 + 1, fu p.2 p.1 b) := by unfold psh; rw [if_neg h]
section STA
variable {X : CX} {Γ : Gm} {P : PO} {k n pc : Nat} {L : List (Option Value)} {st : List Value} {σ σ0 : Sg} {sz : Nat}
theorem S_sta {q i p y : Nat} {f : MF} (h : TK σ q f) (hF : Fr q (q + 42) σ0 σ) (hp : p < 6) (hy : y = q + (8 + 5 * p)) (kk : ∀ σ' μ', μ' = m2 f 7 i (nI p) → TK σ' q μ' → Fr q (q + 42) σ0 σ' → G X Γ P k n pc L st σ' sz) : G X Γ P k n pc L st (su σ (q + 7) (.inl (4, 6, .inr (.inr (.inr (.inr (va_up (fun k => some (q + (8 + 5 * tN (f 7 k)))) i (some y)))))))) sz :=
  kk _ _ rfl (h.sta hp hy) (hF.su (by omega))
end STA

theorem c_X6_letTheOldestGo (q : Nat) (f : MF) (p : Nat × (Nat → BkT)) : CT_X6_letTheOldestGo [.ref (q + 6)] (fun Γ σ sz => TK σ q f ∧ PaR f p ∧ p.1 = 6) (fun Γ σ sz v σ' sz' => ∃ f', TK σ' q f' ∧ Fr q (q + 42) σ σ' ∧ v = none ∧ (PaR f' (5, fun k => p.2 (k + 1)) ∧ (∀ j, j ≠ 6 → j ≠ 7 → f' j = f j)) ∧ sz' = sz) := by
  refine CT.mkP rfl (Nat.le_of_ble_eq_true rfl) [_, _, _] rfl ?_
  intro X Γ σ sz P hX hpre hsz hP
  obtain ⟨hM, hp, h6⟩ := hpre
  obtain ⟨σ0, eσ0⟩ : ∃ z, z = σ := ⟨σ, rfl⟩
  rw [← eσ0] at hP
  have hF : Fr q (q + 42) σ0 σ := by rw [eσ0]; exact Fr.rf
  obtain ⟨hk, pm, hok, hpm, hco⟩ := hp
  have loop : ∀ (fl : Nat) (i : Nat) (σ : Sg) (μ : MF), 1 ≤ i → i ≤ 6 → 6 - i < fl → (∀ j, j ≠ 7 → μ j = f j) → (∀ j, j < 6 → μ 7 j = nI (if j + 1 < i then pm (j + 1) else pm j)) → TK σ q μ → Fr q (q + 42) σ0 σ → G X Γ P 0 0 9 [some (.ref (q + 6)), some (.ref (q + (8 + 5 * pm 0))), some (.int (nI i))] [] σ sz := by
    intro fl
    induction fl with
    | zero =>
      rintro i σ μ h1 hi hfu ho hm hM hF
      exact absurd hfu (Nat.not_lt_zero _)
    | succ fl ih =>
      rintro i σ μ h1 hi hfu ho hm hM hF
      refine S_iload_n (q := 10) hX dX6_letTheOldestGo_9 rfl rfl ?_
      refine S_bipush (q := 12) (v := 6) hX dX6_letTheOldestGo_10 bp_6 rfl ?_
      refine S_icmp_ge (q := 15) 35 hX dX6_letTheOldestGo_12 rfl rfl (fun c12 => ?_) (fun c12 => ?_)
      · have hge : i = 6 := by rw [i6, nI_leI (by decide) (by omega)] at c12; omega
        refine S_aload_n (q := 36) hX dX6_letTheOldestGo_35 rfl rfl ?_
        refine S_getf (fs := ?fs_1) (v := ?v_1) (q := 39) hX u_76 fo_X6_before dX6_letTheOldestGo_36 ?hs_1 ?hv_1 rfl ?_
        case hs_1 => with_reducible first | exact TK.c6 hM | exact TK.c7 hM | exact TK.c0 hM | exact TK.c38 hM | exact TK.c39 hM | exact TK.c40 hM | exact TK.c41 hM
        case hv_1 => rfl
        refine S_iconst (q := 40) (v := 5) hX dX6_letTheOldestGo_39 ic_5 rfl ?_
        refine S_aload_n (q := 41) hX dX6_letTheOldestGo_40 rfl rfl ?_
        refine S_aast (N := ?n_2) (f := ?f_2) (ci := ?ci_2) (vs := ?vs_2) (r := ?r_2) (q := 42) (t := 4) hX dX6_letTheOldestGo_41 (by decide) rfl ?hs_2 ?hv_2 ?hc_2 ?hk_2 ?hi_2 rfl ?_
        case hs_2 => with_reducible first | exact TK.c6 hM | exact TK.c7 hM | exact TK.c0 hM | exact TK.c38 hM | exact TK.c39 hM | exact TK.c40 hM | exact TK.c41 hM
        case hv_2 => exact (TK.co hM (Or.inr ⟨pm 0, (hok.1 0 (by decide)), rfl⟩)).c0
        case hc_2 => rfl
        case hk_2 => exact Or.inl rfl
        case hi_2 => exact vp_in_nI (n := 5) (by decide) (by decide)
        refine S_sta (p := pm 0) hM hF (hok.1 0 (by decide)) rfl (fun σ μ41 e41 hM hF => ?_)
        refine S_aload_n (q := 43) hX dX6_letTheOldestGo_42 rfl rfl ?_
        refine S_dup (q := 44) hX dX6_letTheOldestGo_43 rfl rfl ?_
        refine S_getf (fs := ?fs_3) (v := ?v_3) (q := 47) hX u_77 fo_X6_kept dX6_letTheOldestGo_44 ?hs_3 ?hv_3 rfl ?_
        case hs_3 => with_reducible first | exact TK.c6 hM | exact TK.c7 hM | exact TK.c0 hM | exact TK.c38 hM | exact TK.c39 hM | exact TK.c40 hM | exact TK.c41 hM
        case hv_3 => rfl
        refine S_iconst (q := 48) (v := 1) hX dX6_letTheOldestGo_47 ic_1 rfl ?_
        refine S_isub (q := 49) hX dX6_letTheOldestGo_48 rfl ?_
        refine S_nm (fun x49 hx49 => ?_)
        refine S_putf (fs := ?fs_4) (q := 52) hX u_77 fo_X6_kept rfl rfl ?hl_4 dX6_letTheOldestGo_49 ?hs_4 rfl ?_
        case hs_4 => with_reducible first | exact TK.c6 hM | exact TK.c7 hM | exact TK.c0 hM | exact TK.c38 hM | exact TK.c39 hM | exact TK.c40 hM | exact TK.c41 hM
        case hl_4 => exact Nat.le_of_ble_eq_true rfl
        refine S_stu (q0 := q) (j := 6) (i := 0) hM hF (by decide) rfl (fun σ μ49 e49 hM hF => ?_)
        subst hx49
        refine S_vret hX dX6_letTheOldestGo_52 (Nat.zero_le _) (Nat.zero_le _) ?_
        refine hP _ _ _ ?_
        subst hge
        refine ⟨_, hM, hF, rfl, ⟨⟨?_, fun k => if k < 5 then pm (k + 1) else pm 0, ⟨fun k hk => ?_, fun a b ha hb hab => ?_⟩, fun k hk => ?_, fun k hk => ?_⟩, fun j h6' h7 => ?_⟩, rfl⟩
        · rw [e49, m2_at, if_pos ⟨rfl, rfl⟩, e41, m2_o (by decide), ho 6 (by decide), hk, h6]; show nI 6 - 1 = nI 5; decide
        · dsimp only
          split
          · exact hok.1 _ (by omega)
          · exact hok.1 _ (by omega)
        · dsimp only at hab
          split at hab <;> split at hab
          · have := hok.2 _ _ (by omega) (by omega) hab; omega
          · have := hok.2 _ _ (by omega) (by omega) hab; omega
          · have := hok.2 _ _ (by omega) (by omega) hab; omega
          · omega
        · rw [e49, m2_o (by decide), e41, show (5 : Int32).toNatClampNeg = 5 by decide, m2_at]
          show _ = nI (if k < 5 then pm (k + 1) else pm 0)
          by_cases hk5 : k = 5
          · rw [if_pos ⟨rfl, hk5⟩, if_neg (by omega)]
          · rw [if_neg (fun z => hk5 z.2), hm k hk, if_pos (by omega), if_pos (by omega)]
        · have hk : k < 5 := hk
          have hco1 := hco (k + 1) (by omega)
          show CoR (fun j => μ49 (8 + 5 * (if k < 5 then pm (k + 1) else pm 0) + j)) (p.2 (k + 1))
          rw [if_pos hk]
          refine hco1.ext (fun j hj => ?_)
          show μ49 (8 + 5 * pm (k + 1) + j) = f (8 + 5 * pm (k + 1) + j)
          rw [e49, m2_o (by omega), e41, m2_o (by omega), ho _ (by omega)]
        · rw [e49, m2_o h6', e41, m2_o h7, ho j h7]
      · have hlt : i < 6 := by rw [i6, nI_leI (by decide) (by omega)] at c12; omega
        have hi1 : nI i - 1 = nI (i - 1) := pk_sub (b := 1) (by omega)
        have hmi : μ 7 i = nI (pm i) := by rw [hm i hlt, if_neg (by omega)]
        have hpi := hok.1 i hlt
        refine S_aload_n (q := 16) hX dX6_letTheOldestGo_15 rfl rfl ?_
        refine S_getf (fs := ?fs_5) (v := ?v_5) (q := 19) hX u_76 fo_X6_before dX6_letTheOldestGo_16 ?hs_5 ?hv_5 rfl ?_
        case hs_5 => with_reducible first | exact TK.c6 hM | exact TK.c7 hM | exact TK.c0 hM | exact TK.c38 hM | exact TK.c39 hM | exact TK.c40 hM | exact TK.c41 hM
        case hv_5 => rfl
        refine S_iload_n (q := 20) hX dX6_letTheOldestGo_19 rfl rfl ?_
        refine S_iconst (q := 21) (v := 1) hX dX6_letTheOldestGo_20 ic_1 rfl ?_
        refine S_isub (q := 22) hX dX6_letTheOldestGo_21 rfl ?_
        refine S_aload_n (q := 23) hX dX6_letTheOldestGo_22 rfl rfl ?_
        refine S_getf (fs := ?fs_6) (v := ?v_6) (q := 26) hX u_76 fo_X6_before dX6_letTheOldestGo_23 ?hs_6 ?hv_6 rfl ?_
        case hs_6 => with_reducible first | exact TK.c6 hM | exact TK.c7 hM | exact TK.c0 hM | exact TK.c38 hM | exact TK.c39 hM | exact TK.c40 hM | exact TK.c41 hM
        case hv_6 => rfl
        refine S_iload_n (q := 27) hX dX6_letTheOldestGo_26 rfl rfl ?_
        refine S_aald (N := ?n_7) (f := ?f_7) (y := q + (8 + 5 * pm i)) (q := 28) (t := 4) hX dX6_letTheOldestGo_27 (by decide) rfl ?hs_7 ?hi_7 ?hy_7 rfl ?_
        case hs_7 => with_reducible first | exact TK.c6 hM | exact TK.c7 hM | exact TK.c0 hM | exact TK.c38 hM | exact TK.c39 hM | exact TK.c40 hM | exact TK.c41 hM
        case hi_7 => exact vp_in_nI (by omega) (by decide)
        case hy_7 => show some (q + (8 + 5 * tN (μ 7 (nI i).toNatClampNeg))) = some _; rw [nI_clamp (by omega), hmi, tN_nI (by omega)]
        refine S_aast (N := ?n_8) (f := ?f_8) (ci := ?ci_8) (vs := ?vs_8) (r := ?r_8) (q := 29) (t := 4) hX dX6_letTheOldestGo_28 (by decide) rfl ?hs_8 ?hv_8 ?hc_8 ?hk_8 ?hi_8 rfl ?_
        case hs_8 => with_reducible first | exact TK.c6 hM | exact TK.c7 hM | exact TK.c0 hM | exact TK.c38 hM | exact TK.c39 hM | exact TK.c40 hM | exact TK.c41 hM
        case hv_8 => exact (TK.co hM (Or.inr ⟨pm i, hpi, rfl⟩)).c0
        case hc_8 => rfl
        case hk_8 => exact Or.inl rfl
        case hi_8 => rw [hi1]; exact vp_in_nI (by omega) (by decide)
        refine S_sta (p := pm i) hM hF hpi rfl (fun σ μ28 e28 hM hF => ?_)
        refine S_iinc (q := 32) [_, _, _] hX dX6_letTheOldestGo_29 rfl (ii_1 _) rfl (Nat.le_of_ble_eq_true rfl) rfl rfl ?_
        refine S_goto 9 hX dX6_letTheOldestGo_32 rfl ?_
        rw [nI_1]
        refine ih (i + 1) _ _ (by omega) hlt (by omega) (fun j hj => by rw [e28, m2_o hj]; exact ho j hj) (fun j hj => ?_) hM hF
        rw [e28, hi1, nI_clamp (by omega), m2_at]
        by_cases hji : j = i - 1
        · rw [if_pos ⟨rfl, hji⟩, if_pos (by omega), show j + 1 = i by omega]
        · rw [if_neg (fun z => hji z.2), hm j hj]
          by_cases h : j + 1 < i
          · rw [if_pos h, if_pos (by omega)]
          · rw [if_neg h, if_neg (by omega)]
  refine S_aload_n (q := 1) hX dX6_letTheOldestGo_0 rfl rfl ?_
  refine S_getf (fs := ?fs_9) (v := ?v_9) (q := 4) hX u_76 fo_X6_before dX6_letTheOldestGo_1 ?hs_9 ?hv_9 rfl ?_
  case hs_9 => with_reducible first | exact TK.c6 hM | exact TK.c7 hM | exact TK.c0 hM | exact TK.c38 hM | exact TK.c39 hM | exact TK.c40 hM | exact TK.c41 hM
  case hv_9 => rfl
  refine S_iconst (q := 5) (v := 0) hX dX6_letTheOldestGo_4 ic_0 rfl ?_
  refine S_aald (N := ?n_10) (f := ?f_10) (y := q + (8 + 5 * pm 0)) (q := 6) (t := 4) hX dX6_letTheOldestGo_5 (by decide) rfl ?hs_10 ?hi_10 ?hy_10 rfl ?_
  case hs_10 => with_reducible first | exact TK.c6 hM | exact TK.c7 hM | exact TK.c0 hM | exact TK.c38 hM | exact TK.c39 hM | exact TK.c40 hM | exact TK.c41 hM
  case hi_10 => exact vp_in_nI (n := 0) (by decide) (by decide)
  case hy_10 => show some (q + (8 + 5 * tN (f 7 0))) = some _; rw [hpm 0 (by decide), tN_nI (by have := hok.1 0 (by decide); omega)]
  refine S_astore_n (q := 7) [_, _, _] hX dX6_letTheOldestGo_6 rfl (Nat.le_of_ble_eq_true rfl) rfl rfl ?_
  refine S_iconst (q := 8) (v := 1) hX dX6_letTheOldestGo_7 ic_1 rfl ?_
  refine S_istore_n (q := 9) [_, _, _] hX dX6_letTheOldestGo_8 rfl (Nat.le_of_ble_eq_true rfl) rfl rfl ?_
  exact loop 7 1 σ f (Nat.le_refl _) (by decide) (by decide) (fun _ _ => rfl) (fun j hj => by rw [if_neg (by omega)]; exact hpm j hj) hM hF
theorem c_X6_keep (q : Nat) (f : MF) (p : Nat × (Nat → BkT)) (B : BkT) : CT_X6_keep [.ref (q + 6), .ref (q + 1)] (fun Γ σ sz => TK σ q f ∧ PaR f p ∧ p.1 ≤ 6 ∧ CoR (fun j => f (1 + j)) B ∧ BkS B) (fun Γ σ sz v σ' sz' => ∃ f', TK σ' q f' ∧ Fr q (q + 42) σ σ' ∧ v = none ∧ (PaR f' (psh p B) ∧ (∀ j, j ≠ 6 → j ≠ 7 → (j < 8 ∨ 38 ≤ j) → f' j = f j)) ∧ sz' = sz) := by
  refine CT.mkP rfl (Nat.le_of_ble_eq_true rfl) [_, _] rfl ?_
  intro X Γ σ sz P hX hpre hsz hP
  obtain ⟨hM, hp, hp6, hB, hs⟩ := hpre
  obtain ⟨σ0, eσ0⟩ : ∃ z, z = σ := ⟨σ, rfl⟩
  rw [← eσ0] at hP
  have hF : Fr q (q + 42) σ0 σ := by rw [eσ0]; exact Fr.rf
  obtain ⟨PF, ePF⟩ : ∃ z, z = psh p B := ⟨_, rfl⟩
  rw [← ePF] at hP
  have l13 : ∀ (σ : Sg) (μ : MF) (p1 : Nat × (Nat → BkT)), p1.1 ≤ 5 → PF.1 = p1.1 + 1 → (∀ k, k < p1.1 + 1 → PF.2 k = fu p1.2 p1.1 B k) → PaR μ p1 → (∀ j, j ≠ 6 → j ≠ 7 → (j < 8 ∨ 38 ≤ j) → μ j = f j) → TK σ q μ → Fr q (q + 42) σ0 σ → G X Γ P 0 0 13 [some (.ref (q + 6)), some (.ref (q + 1))] [] σ sz := by
    intro σ μ p1 h5 eP1 eP2 hp ho hM hF
    obtain ⟨hk, pm, hok, hpm, hco⟩ := hp
    have hBm : CoR (fun j => μ (1 + j)) B := hB.ext (fun j hj => by show μ (1 + j) = f (1 + j); exact ho _ (by omega) (by omega) (by omega))
    have hpk := hok.1 p1.1 (by omega)
    refine S_aload_n (q := 14) hX dX6_keep_13 rfl rfl ?_
    refine S_getf (fs := ?fs_1) (v := ?v_1) (q := 17) hX u_76 fo_X6_before dX6_keep_14 ?hs_1 ?hv_1 rfl ?_
    case hs_1 => with_reducible first | exact TK.c6 hM | exact TK.c7 hM | exact TK.c0 hM | exact TK.c38 hM | exact TK.c39 hM | exact TK.c40 hM | exact TK.c41 hM
    case hv_1 => rfl
    refine S_aload_n (q := 18) hX dX6_keep_17 rfl rfl ?_
    refine S_getf (fs := ?fs_2) (v := ?v_2) (q := 21) hX u_77 fo_X6_kept dX6_keep_18 ?hs_2 ?hv_2 rfl ?_
    case hs_2 => with_reducible first | exact TK.c6 hM | exact TK.c7 hM | exact TK.c0 hM | exact TK.c38 hM | exact TK.c39 hM | exact TK.c40 hM | exact TK.c41 hM
    case hv_2 => rfl
    refine S_aald (N := ?n_3) (f := ?f_3) (y := q + (8 + 5 * pm p1.1)) (q := 22) (t := 4) hX dX6_keep_21 (by decide) rfl ?hs_3 ?hi_3 ?hy_3 rfl ?_
    case hs_3 => with_reducible first | exact TK.c6 hM | exact TK.c7 hM | exact TK.c0 hM | exact TK.c38 hM | exact TK.c39 hM | exact TK.c40 hM | exact TK.c41 hM
    case hi_3 => rw [hk]; exact vp_in_nI (by omega) (by decide)
    case hy_3 => show some (q + (8 + 5 * tN (μ 7 (μ 6 0).toNatClampNeg))) = some _; rw [hk, nI_clamp (by omega), hpm _ (by omega), tN_nI (by omega)]
    refine S_aload_n (q := 23) hX dX6_keep_22 rfl rfl ?_
    refine S_callV (ci := 2) (C := "FanTalk$Codes") (T := TX2) (N := 5) (q := 26) 0 0 hX (c_X2_take (q + (8 + 5 * pm p1.1)) (fun j => μ (8 + 5 * pm p1.1 + j)) (q + (1)) (fun j => μ (1 + j))) rfl ?hs_4 rfl u_606 u_482 u_483 u_3 u_484 ⟨by decide, by decide, rfl⟩ ⟨Nat.le_of_ble_eq_true rfl, Nat.le_of_ble_eq_true rfl⟩ ⟨Nat.le_of_ble_eq_true rfl, Nat.le_of_ble_eq_true rfl⟩ (Nat.le_of_ble_eq_true rfl) dX6_keep_23 ?hp_4 rfl rfl rfl ?_
    case hs_4 => exact ⟨_, (TK.co hM (cOf.at hok (by omega))).c0⟩
    case hp_4 => exact ⟨TK.co hM (cOf.at hok (by omega)), TK.co hM (Or.inl rfl), by right; omega⟩
    rintro v σ sz1 ⟨g1, hM1, hF1, rfl, he, rfl⟩
    have hM := TK.jn hM (cOf.at hok (by omega)) hF1 hM1
    have hF := hF.trans (hF1.mono (Nat.le_add_right _ _) (by have := ((cOf.at hok (by omega))).le; omega))
    refine S_aload_n (q := 27) hX dX6_keep_26 rfl rfl ?_
    refine S_dup (q := 28) hX dX6_keep_27 rfl rfl ?_
    refine S_getf (fs := ?fs_5) (v := ?v_5) (q := 31) hX u_77 fo_X6_kept dX6_keep_28 ?hs_5 ?hv_5 rfl ?_
    case hs_5 => with_reducible first | exact TK.c6 hM | exact TK.c7 hM | exact TK.c0 hM | exact TK.c38 hM | exact TK.c39 hM | exact TK.c40 hM | exact TK.c41 hM
    case hv_5 => rfl
    refine S_iconst (q := 32) (v := 1) hX dX6_keep_31 ic_1 rfl ?_
    refine S_iadd (q := 33) hX dX6_keep_32 rfl ?_
    refine S_nm (fun x33 hx33 => ?_)
    refine S_putf (fs := ?fs_6) (q := 36) hX u_77 fo_X6_kept rfl rfl ?hl_6 dX6_keep_33 ?hs_6 rfl ?_
    case hs_6 => with_reducible first | exact TK.c6 hM | exact TK.c7 hM | exact TK.c0 hM | exact TK.c38 hM | exact TK.c39 hM | exact TK.c40 hM | exact TK.c41 hM
    case hl_6 => exact Nat.le_of_ble_eq_true rfl
    refine S_stu (q0 := q) (j := 6) (i := 0) hM hF (by decide) rfl (fun σ μ33 e33 hM hF => ?_)
    subst hx33
    refine S_vret hX dX6_keep_36 (Nat.zero_le _) (Nat.zero_le _) ?_
    refine hP _ _ _ ?_
    refine ⟨_, hM, hF, rfl, ⟨?_, fun j h6' h7 h8 => ?_⟩, rfl⟩
    · refine ⟨?_, pm, hok, fun k hk2 => ?_, fun k hk2 => ?_⟩
      · rw [e33, m2_at, if_pos ⟨rfl, rfl⟩, spl_out (by omega), hk, nI_1, eP1]
      · rw [e33, m2_o (by decide), spl_out (by omega)]; exact hpm k hk2
      · rw [eP1] at hk2
        rw [eP2 k hk2]
        have e2 : ∀ j, j < 5 → μ33 (8 + 5 * pm k + j) = spl μ (8 + 5 * pm p1.1) 5 g1 (8 + 5 * pm k + j) := fun j hj => by rw [e33, m2_o (by omega)]
        by_cases hkp : k = p1.1
        · rw [hkp, fu_eq]
          exact ((hBm.eq hs he).sIn (f := μ) (d := 8 + 5 * pm p1.1)).ext (fun j hj => by have := e2 j hj; rw [hkp] at this; exact this)
        · rw [fu_ne hkp]
          exact ((hco k (by omega)).sOut (g := g1) (hok.ne (by omega) (by omega) (fun z => hkp z.symm))).ext e2
    · rw [e33, m2_o h6', spl_out (by omega)]
      exact ho j h6' h7 h8
  refine S_aload_n (q := 1) hX dX6_keep_0 rfl rfl ?_
  refine S_getf (fs := ?fs_7) (v := ?v_7) (q := 4) hX u_77 fo_X6_kept dX6_keep_1 ?hs_7 ?hv_7 rfl ?_
  case hs_7 => with_reducible first | exact TK.c6 hM | exact TK.c7 hM | exact TK.c0 hM | exact TK.c38 hM | exact TK.c39 hM | exact TK.c40 hM | exact TK.c41 hM
  case hv_7 => rfl
  refine S_bipush (q := 6) (v := 6) hX dX6_keep_4 bp_6 rfl ?_
  refine S_icmp_ne (q := 9) 13 hX dX6_keep_6 rfl rfl (fun c6 => ?_) (fun c6 => ?_)
  · have h6 : ¬ p.1 = 6 := fun z => c6 (by rw [hp.1, z]; rfl)
    exact l13 _ f p (by omega) (by rw [ePF, psh_part h6]) (fun k hk => by rw [ePF, psh_part h6]) hp (fun j _ _ _ => rfl) hM hF
  · have h6 : p.1 = 6 := nI_inj (by omega) (by decide) (hp.1.symm.trans c6)
    refine S_aload_n (q := 10) hX dX6_keep_9 rfl rfl ?_
    refine S_callV (ci := 6) (C := "FanTalk$Past") (T := TX6) (N := 2) (q := 13) 0 0 hX (c_X6_letTheOldestGo q f p) rfl ?hs_8 rfl u_602 u_604 us_16 u_4 u_605 ⟨by decide, by decide, rfl⟩ ⟨Nat.le_of_ble_eq_true rfl, Nat.le_of_ble_eq_true rfl⟩ ⟨Nat.le_of_ble_eq_true rfl, Nat.le_of_ble_eq_true rfl⟩ (Nat.le_of_ble_eq_true rfl) dX6_keep_10 ?hp_8 rfl rfl rfl ?_
    case hs_8 => first | with_reducible assumption | exact ⟨_, TK.c0 hM⟩ | exact ⟨_, TK.c6 hM⟩
    case hp_8 => exact ⟨hM, hp, h6⟩
    rintro v σ sz1 ⟨μ1, hM, hF1, rfl, ⟨hp1, ho1⟩, rfl⟩
    have hF := hF.trans hF1
    exact l13 _ μ1 (5, fun k => p.2 (k + 1)) (Nat.le_refl _) (by rw [ePF, psh_full h6]) (fun k hk => by
      rw [ePF, psh_full h6]
      have hk : k < 6 := hk
      show (if k < 5 then p.2 (k + 1) else B) = fu (fun k => p.2 (k + 1)) 5 B k
      by_cases h : k < 5
      · rw [if_pos h, fu_ne (by omega)]
      · rw [if_neg h, show k = 5 by omega, fu_eq]) hp1 (fun j a b _ => ho1 j a b) hM hF
