/-! THE CLASS: all its cells -/
abbrev shF (B : Nat) : SH := fun j f => if j = 0 then .inr (11, [.ref (B + 1), .ref (B + 43), .ref (B + 128), .ref (B + 129), .ref (B + 136), .ref (B + 137), .ref (B + 173), .ref (B + 175), .ref (B + 176), .ref (B + 177), .ref (B + 178)])
  else if j < 43 then shT (B + 1) (j - 1) f
  else if j = 43 then .inl (5, 2, .inr (.inr (.inr (.inr fun k => some (B + (44 + 42 * k))))))
  else if j < 128 then shT (B + (44 + 42 * ((j - 44) / 42))) ((j - 44) % 42) f
  else if j = 128 then .inl (1, 2, .inl f)
  else if j < 136 then shS (B + 129) (j - 129) f
  else if j = 136 then ia 3 f
  else if j = 137 then .inl (3, 5, .inr (.inr (.inr (.inr fun k => some (B + (138 + 7 * k))))))
  else if j < 173 then shR (cik ((j - 138) / 7)) (B + (138 + 7 * ((j - 138) / 7))) ((j - 138) % 7) f
  else if j < 175 then shW (B + 173) (j - 173) f
  else if j < 178 then ia 6 f
  else ia 60 f
abbrev FK (σ : Sg) (B : Nat) (f : MF) : Prop := CL σ B 179 (shF B) f
theorem FK.c0 {σ : Sg} {B : Nat} {f : MF} (h : FK σ B f) : σ B = some (.inr (11, [.ref (B + 1), .ref (B + 43), .ref (B + 128), .ref (B + 129), .ref (B + 136), .ref (B + 137), .ref (B + 173), .ref (B + 175), .ref (B + 176), .ref (B + 177), .ref (B + 178)])) := h 0 (by decide)
theorem FK.c1 {σ : Sg} {B : Nat} {f : MF} (h : FK σ B f) : σ (B + 1) = some (.inr (9, [.ref (B + 2), .ref (B + 7), .int (f 1 0), .ref (B + 39), .int (f 1 1), .ref (B + 40), .int (f 1 2), .ref (B + 41), .ref (B + 42), .int (f 1 3)])) := h 1 (by decide)
theorem FK.c2 {σ : Sg} {B : Nat} {f : MF} (h : FK σ B f) : σ (B + 2) = some (.inr (2, [.int (f 2 0), .ref (B + 3), .ref (B + 4), .ref (B + 5), .ref (B + 6)])) := h 2 (by decide)
theorem FK.c3 {σ : Sg} {B : Nat} {f : MF} (h : FK σ B f) : σ (B + 3) = some (ia 3 (f 3)) := h 3 (by decide)
theorem FK.c4 {σ : Sg} {B : Nat} {f : MF} (h : FK σ B f) : σ (B + 4) = some (ia 24 (f 4)) := h 4 (by decide)
theorem FK.c5 {σ : Sg} {B : Nat} {f : MF} (h : FK σ B f) : σ (B + 5) = some (ia 24 (f 5)) := h 5 (by decide)
theorem FK.c6 {σ : Sg} {B : Nat} {f : MF} (h : FK σ B f) : σ (B + 6) = some (ia 10 (f 6)) := h 6 (by decide)
theorem FK.c7 {σ : Sg} {B : Nat} {f : MF} (h : FK σ B f) : σ (B + 7) = some (.inr (6, [.ref (B + 8), .int (f 7 0)])) := h 7 (by decide)
theorem FK.c39 {σ : Sg} {B : Nat} {f : MF} (h : FK σ B f) : σ (B + 39) = some (ia 6 (f 39)) := h 39 (by decide)
theorem FK.c40 {σ : Sg} {B : Nat} {f : MF} (h : FK σ B f) : σ (B + 40) = some (ia 4 (f 40)) := h 40 (by decide)
theorem FK.c41 {σ : Sg} {B : Nat} {f : MF} (h : FK σ B f) : σ (B + 41) = some (ia 8 (f 41)) := h 41 (by decide)
theorem FK.c42 {σ : Sg} {B : Nat} {f : MF} (h : FK σ B f) : σ (B + 42) = some (ia 8 (f 42)) := h 42 (by decide)
theorem FK.c43 {σ : Sg} {B : Nat} {f : MF} (h : FK σ B f) : σ (B + 43) = some (.inl (5, 2, .inr (.inr (.inr (.inr fun k => some (B + (44 + 42 * k))))))) := h 43 (by decide)
theorem FK.c128 {σ : Sg} {B : Nat} {f : MF} (h : FK σ B f) : σ (B + 128) = some (.inl (1, 2, .inl (f 128))) := h 128 (by decide)
theorem FK.c129 {σ : Sg} {B : Nat} {f : MF} (h : FK σ B f) : σ (B + 129) = some (.inr (8, [.ref (B + 130), .int (f 129 0), .ref (B + 131), .int (f 129 1), .int (f 129 2), .int (f 129 3), .int (f 129 4), .int (f 129 5), .int (f 129 6)])) := h 129 (by decide)
theorem FK.c136 {σ : Sg} {B : Nat} {f : MF} (h : FK σ B f) : σ (B + 136) = some (ia 3 (f 136)) := h 136 (by decide)
theorem FK.c137 {σ : Sg} {B : Nat} {f : MF} (h : FK σ B f) : σ (B + 137) = some (.inl (3, 5, .inr (.inr (.inr (.inr fun k => some (B + (138 + 7 * k))))))) := h 137 (by decide)
theorem FK.c173 {σ : Sg} {B : Nat} {f : MF} (h : FK σ B f) : σ (B + 173) = some (.inr (10, [.ref (B + 174), .int (f 173 0)])) := h 173 (by decide)
theorem FK.c174 {σ : Sg} {B : Nat} {f : MF} (h : FK σ B f) : σ (B + 174) = some (ia 6 (f 174)) := h 174 (by decide)
theorem FK.c175 {σ : Sg} {B : Nat} {f : MF} (h : FK σ B f) : σ (B + 175) = some (ia 6 (f 175)) := h 175 (by decide)
theorem FK.c176 {σ : Sg} {B : Nat} {f : MF} (h : FK σ B f) : σ (B + 176) = some (ia 6 (f 176)) := h 176 (by decide)
theorem FK.c177 {σ : Sg} {B : Nat} {f : MF} (h : FK σ B f) : σ (B + 177) = some (ia 6 (f 177)) := h 177 (by decide)
theorem FK.c178 {σ : Sg} {B : Nat} {f : MF} (h : FK σ B f) : σ (B + 178) = some (ia 60 (f 178)) := h 178 (by decide)
theorem FK.sT {B : Nat} : ∀ j, j < 42 → ∀ g, shF B (1 + j) g = shT (B + 1) j g := by
  intro j hj g
  unfold shF
  rw [if_neg (by omega), if_pos (by omega), show 1 + j - 1 = j by omega]
theorem FK.sI {B i : Nat} (hi : i < 2) : ∀ j, j < 42 → ∀ g, shF B (44 + 42 * i + j) g = shT (B + (44 + 42 * i)) j g := by
  intro j hj g
  unfold shF
  rw [if_neg (by omega), if_neg (by omega), if_neg (by omega), if_pos (by omega), show (44 + 42 * i + j - 44) / 42 = i by omega, show (44 + 42 * i + j - 44) % 42 = j by omega]
theorem FK.sS {B : Nat} : ∀ j, j < 7 → ∀ g, shF B (129 + j) g = shS (B + 129) j g := by
  intro j hj g
  unfold shF
  rw [if_neg (by omega), if_neg (by omega), if_neg (by omega), if_neg (by omega), if_neg (by omega), if_pos (by omega), show 129 + j - 129 = j by omega]
theorem FK.sR {B kd : Nat} (hk : kd < 5) : ∀ j, j < 7 → ∀ g, shF B (138 + 7 * kd + j) g = shR (cik kd) (B + (138 + 7 * kd)) j g := by
  intro j hj g
  unfold shF
  rw [if_neg (by omega), if_neg (by omega), if_neg (by omega), if_neg (by omega), if_neg (by omega), if_neg (by omega), if_neg (by omega), if_neg (by omega), if_pos (by omega), show (138 + 7 * kd + j - 138) / 7 = kd by omega, show (138 + 7 * kd + j - 138) % 7 = j by omega]
theorem FK.sW {B : Nat} : ∀ j, j < 2 → ∀ g, shF B (173 + j) g = shW (B + 173) j g := by
  intro j hj g
  unfold shF
  rw [if_neg (by omega), if_neg (by omega), if_neg (by omega), if_neg (by omega), if_neg (by omega), if_neg (by omega), if_neg (by omega), if_neg (by omega), if_neg (by omega), if_pos (by omega), show 173 + j - 173 = j by omega]
theorem FK.sC {B : Nat} : ∀ j, j < 5 → ∀ g, shF B (2 + j) g = shC (B + 2) j g := by
  intro j hj g
  have h1 := FK.sT (B := B) (1 + j) (by omega) g
  have h2 := cOf.sh (q := B + 1) (Or.inl rfl) j hj g
  rw [show 2 + j = 1 + (1 + j) by omega, h1, h2]
theorem FK.tk {σ : Sg} {B : Nat} {f : MF} (h : FK σ B f) : TK σ (B + 1) (fun j => f (1 + j)) := CL.sub h (by decide) FK.sT
theorem FK.jtk {σ σ' : Sg} {B : Nat} {f g : MF} (h : FK σ B f) (hF : Fr (B + 1) (B + 1 + 42) σ σ') (h' : TK σ' (B + 1) g) : FK σ' B (spl f 1 42 g) := CL.join h (by decide) FK.sT hF h'
theorem FK.sk {σ : Sg} {B : Nat} {f : MF} (h : FK σ B f) : SK σ (B + 129) (fun j => f (129 + j)) := CL.sub h (by decide) FK.sS
theorem FK.jsk {σ σ' : Sg} {B : Nat} {f g : MF} (h : FK σ B f) (hF : Fr (B + 129) (B + 129 + 7) σ σ') (h' : SK σ' (B + 129) g) : FK σ' B (spl f 129 7 g) := CL.join h (by decide) FK.sS hF h'
theorem FK.wk {σ : Sg} {B : Nat} {f : MF} (h : FK σ B f) : WK σ (B + 173) (fun j => f (173 + j)) := CL.sub h (by decide) FK.sW
theorem FK.jwk {σ σ' : Sg} {B : Nat} {f g : MF} (h : FK σ B f) (hF : Fr (B + 173) (B + 173 + 2) σ σ') (h' : WK σ' (B + 173) g) : FK σ' B (spl f 173 2 g) := CL.join h (by decide) FK.sW hF h'
theorem FK.co {σ : Sg} {B : Nat} {f : MF} (h : FK σ B f) : CK σ (B + 2) (fun j => f (2 + j)) := CL.sub h (by decide) FK.sC
theorem FK.jco {σ σ' : Sg} {B : Nat} {f g : MF} (h : FK σ B f) (hF : Fr (B + 2) (B + 2 + 5) σ σ') (h' : CK σ' (B + 2) g) : FK σ' B (spl f 2 5 g) := CL.join h (by decide) FK.sC hF h'
theorem FK.im {σ : Sg} {B i : Nat} {f : MF} (hi : i < 2) (h : FK σ B f) : TK σ (B + (44 + 42 * i)) (fun j => f (44 + 42 * i + j)) := CL.sub h (by omega) (FK.sI hi)
theorem FK.jim {σ σ' : Sg} {B i : Nat} {f g : MF} (hi : i < 2) (h : FK σ B f) (hF : Fr (B + (44 + 42 * i)) (B + (44 + 42 * i) + 42) σ σ') (h' : TK σ' (B + (44 + 42 * i)) g) : FK σ' B (spl f (44 + 42 * i) 42 g) := CL.join h (by omega) (FK.sI hi) hF h'
theorem FK.rk {σ : Sg} {B kd : Nat} {f : MF} (hk : kd < 5) (h : FK σ B f) : RK σ (B + (138 + 7 * kd)) kd (fun j => f (138 + 7 * kd + j)) := CL.sub h (by omega) (FK.sR hk)
theorem FK.jrk {σ σ' : Sg} {B kd : Nat} {f g : MF} (hk : kd < 5) (h : FK σ B f) (hF : Fr (B + (138 + 7 * kd)) (B + (138 + 7 * kd) + 7) σ σ') (h' : RK σ' (B + (138 + 7 * kd)) kd g) : FK σ' B (spl f (138 + 7 * kd) 7 g) := CL.join h (by omega) (FK.sR hk) hF h'
/-- the class holds a state -/
def FR (γ : MF) (S : ST) : Prop := TkR (fun j => γ (1 + j)) S.1 ∧ (∀ i, i < 2 → PmR (fun j => γ (44 + 42 * i + j)) ∧ γ 128 i = bi ((S.2.1 i).isSome = true) ∧ ∀ C, S.2.1 i = some C → TkR (fun j => γ (44 + 42 * i + j)) C) ∧ (∀ k, k < 3 → γ 136 k = S.2.2.1 k) ∧ γ 129 0 = nI S.2.2.2.1 ∧ (∀ i, i < S.2.2.2.1 → γ 130 i = nI (S.2.2.2.2 i)) ∧ U0 (fun j => γ (129 + j))
theorem TkR.ext {f g : MF} {C : CtT} (h : TkR f C) (h6 : C.2.1.1 ≤ 6) (e : ∀ j, j < 42 → g j = f j) : TkR g C := by
  obtain ⟨r0, ⟨p0, pm, p1, p2, p3⟩, r2, r3, r4, r5, r6, r7, r8⟩ := h
  have e0 := e 0 (by decide)
  refine ⟨r0.ext (fun j hj => e _ (by omega)), ⟨by rw [e 6 (by decide)]; exact p0, pm, p1, fun k hk => by rw [e 7 (by decide)]; exact p2 k hk, fun k hk => ?_⟩, by rw [e0]; exact r2, by rw [e0]; exact r3, fun k hk => by rw [e 38 (by decide)]; exact r4 k hk, by rw [e0]; exact r5, fun k hk => by rw [e 39 (by decide)]; exact r6 k hk, by rw [e0]; exact r7, fun k hk => by rw [e 40 (by decide), e 41 (by decide)]; exact r8 k hk⟩
  have := p1.1 k (by omega)
  exact (p3 k hk).ext (fun j hj => e _ (by omega))
theorem PmR.ext {f g : MF} (h : PmR f) (e : g 7 = f 7) : PmR g := by
  obtain ⟨pm, h1, h2⟩ := h
  exact ⟨pm, h1, fun k hk => by rw [e]; exact h2 k hk⟩
/-- the court that is on has changed, nothing else -/
theorem FR.now {γ γ' : MF} {S : ST} {C : CtT} (h : FR γ S) (ok : StOk S) (e : ∀ j, 43 ≤ j → j < 137 → γ' j = γ j) (hC : TkR (fun j => γ' (1 + j)) C) : FR γ' (stC S C) := by
  obtain ⟨h0, h1, h2, h3, h4, h5⟩ := h
  refine ⟨hC, fun i hi => ⟨(h1 i hi).1.ext (e _ (by omega) (by omega)), by rw [e 128 (by decide) (by decide)]; exact (h1 i hi).2.1, fun D hD => ((h1 i hi).2.2 D hD).ext (ok.2.1 i hi D hD).2.2.1 (fun j hj => e _ (by omega) (by omega))⟩, fun k hk => by rw [e 136 (by decide) (by decide)]; exact h2 k hk, by rw [e 129 (by decide) (by decide)]; exact h3, fun i hi => by rw [e 130 (by decide) (by decide)]; exact h4 i hi, fun w hw => by show γ' (129 + 6) w = nI 0; rw [e _ (by omega) (by omega)]; exact h5 w hw⟩
/-- only what is looked at in passing has changed -/
theorem FR.scr {γ γ' : MF} {S : ST} (h : FR γ S) (ok : StOk S) (e : ∀ j, j < 137 → γ' j = γ j) : FR γ' S :=
  h.now ok (fun j _ hj => e j hj) (h.1.ext ok.1.2.2.1 (fun j hj => e _ (by omega)))
theorem FR.rf {γ γ' : MF} {S : ST} {k : Nat} (h : FR γ S) (ok : StOk S) (e : γ' = m2 γ 136 k (γ 136 k + 1)) : FR γ' (rfS S k) := by
  subst e
  obtain ⟨h0, h1, h2, h3, h4, h5⟩ := h
  have o : ∀ j, j ≠ 136 → m2 γ 136 k (γ 136 k + 1) j = γ j := fun j hj => m2_o hj
  refine ⟨h0.ext ok.1.2.2.1 (fun j hj => o _ (by omega)), fun i hi => ⟨(h1 i hi).1.ext (o _ (by omega)), by rw [o 128 (by decide)]; exact (h1 i hi).2.1, fun D hD => ((h1 i hi).2.2 D hD).ext (ok.2.1 i hi D hD).2.2.1 (fun j hj => o _ (by omega))⟩, fun i hi => ?_, by rw [o 129 (by decide)]; exact h3, fun i hi => by rw [o 130 (by decide)]; exact h4 i hi, fun w hw => by show m2 γ 136 k (γ 136 k + 1) (129 + 6) w = nI 0; rw [o _ (by decide)]; exact h5 w hw⟩
  show m2 γ 136 k (γ 136 k + 1) 136 i = upd S.2.2.1 k (S.2.2.1 k + 1) i
  rw [m2_at]
  unfold upd
  by_cases hi2 : i = k
  · rw [if_pos ⟨rfl, hi2⟩, if_pos hi2, ← hi2, h2 i hi]
  · rw [if_neg (fun z => hi2 z.2), if_neg hi2, h2 i hi]
theorem TkR.newB {f f' : MF} {C : CtT} {B : BkT} (h : TkR f C) (hB : CoR (fun j => f' (1 + j)) B) (h6 : f' 6 0 = nI 0) (e : ∀ j, j = 0 ∨ j = 7 ∨ 38 ≤ j → j < 42 → f' j = f j) : TkR f' (newB C B) := by
  obtain ⟨r0, ⟨p0, pm, p1, p2, p3⟩, r2, r3, r4, r5, r6, r7, r8⟩ := h
  have e0 := e 0 (by decide) (by decide)
  exact ⟨hB, ⟨h6, pm, p1, fun k hk => by rw [e 7 (by decide) (by decide)]; exact p2 k hk, fun k hk => absurd hk (Nat.not_lt_zero _)⟩, by rw [e0]; exact r2, by rw [e0]; exact r3, fun k hk => by rw [e 38 (by decide) (by decide)]; exact r4 k hk, by rw [e0]; exact r5, fun k hk => by rw [e 39 (by decide) (by decide)]; exact r6 k hk, by rw [e0]; exact r7, fun k hk => by rw [e 40 (by decide) (by decide), e 41 (by decide) (by decide)]; exact r8 k hk⟩
theorem inb_ok {x : Int32} {n : Nat} (h0 : 0 ≤ x.toInt) (h1 : x.toInt < n) : x = nI (tN x) ∧ tN x < n ∧ tN x < 2147483648 := okc.ex ⟨h0, h1⟩


theorem c_X11_isWord (x : Int32) : CT_X11_isWord [.int x] (fun Γ σ sz => True) (fun Γ σ sz v σ' sz' => v = some (.int (bi (inb x 0 9))) ∧ σ' = σ ∧ sz' = sz) := by
  refine CT.mkP rfl (Nat.le_of_ble_eq_true rfl) [_] rfl ?_
  intro X Γ σ sz P hX hpre hsz hP
  refine S_iload_n (q := 1) hX dX11_isWord_0 rfl rfl ?_
  refine S_if_lt (q := 4) 14 hX dX11_isWord_1 rfl rfl (fun c1 => ?_) (fun c1 => ?_)
  · have k1 := c1
    rw [lt_i, show ((0 : Int32)).toInt = 0 by decide] at k1
    refine S_iconst (q := 15) (v := 0) hX dX11_isWord_14 ic_0 rfl ?_
    refine S_xret hX dX11_isWord_15 (Nat.zero_le _) (Nat.zero_le _) (by decide) ?_
    refine hP _ _ _ ?_
    refine ⟨?_, rfl, rfl⟩
    first | rw [bi_t (by show 0 ≤ x.toInt ∧ x.toInt ≤ 9; omega)] | rw [bi_f (by show ¬ (0 ≤ x.toInt ∧ x.toInt ≤ 9); omega)]
  · have k1 := c1
    rw [lt_i, show ((0 : Int32)).toInt = 0 by decide] at k1
    refine S_iload_n (q := 5) hX dX11_isWord_4 rfl rfl ?_
    refine S_bipush (q := 7) (v := 10) hX dX11_isWord_5 bp_10 rfl ?_
    refine S_icmp_ge (q := 10) 14 hX dX11_isWord_7 rfl rfl (fun c7 => ?_) (fun c7 => ?_)
    · have k7 := c7
      rw [le_i, show ((10 : Int32)).toInt = 10 by decide] at k7
      refine S_iconst (q := 15) (v := 0) hX dX11_isWord_14 ic_0 rfl ?_
      refine S_xret hX dX11_isWord_15 (Nat.zero_le _) (Nat.zero_le _) (by decide) ?_
      refine hP _ _ _ ?_
      refine ⟨?_, rfl, rfl⟩
      first | rw [bi_t (by show 0 ≤ x.toInt ∧ x.toInt ≤ 9; omega)] | rw [bi_f (by show ¬ (0 ≤ x.toInt ∧ x.toInt ≤ 9); omega)]
    · have k7 := c7
      rw [le_i, show ((10 : Int32)).toInt = 10 by decide] at k7
      refine S_iconst (q := 11) (v := 1) hX dX11_isWord_10 ic_1 rfl ?_
      refine S_goto 15 hX dX11_isWord_11 rfl ?_
      refine S_xret hX dX11_isWord_15 (Nat.zero_le _) (Nat.zero_le _) (by decide) ?_
      refine hP _ _ _ ?_
      refine ⟨?_, rfl, rfl⟩
      first | rw [bi_t (by show 0 ≤ x.toInt ∧ x.toInt ≤ 9; omega)] | rw [bi_f (by show ¬ (0 ≤ x.toInt ∧ x.toInt ≤ 9); omega)]
theorem c_X11_isKind (x : Int32) : CT_X11_isKind [.int x] (fun Γ σ sz => True) (fun Γ σ sz v σ' sz' => v = some (.int (bi (inb x 0 4))) ∧ σ' = σ ∧ sz' = sz) := by
  refine CT.mkP rfl (Nat.le_of_ble_eq_true rfl) [_] rfl ?_
  intro X Γ σ sz P hX hpre hsz hP
  refine S_iload_n (q := 1) hX dX11_isKind_0 rfl rfl ?_
  refine S_if_lt (q := 4) 13 hX dX11_isKind_1 rfl rfl (fun c1 => ?_) (fun c1 => ?_)
  · have k1 := c1
    rw [lt_i, show ((0 : Int32)).toInt = 0 by decide] at k1
    refine S_iconst (q := 14) (v := 0) hX dX11_isKind_13 ic_0 rfl ?_
    refine S_xret hX dX11_isKind_14 (Nat.zero_le _) (Nat.zero_le _) (by decide) ?_
    refine hP _ _ _ ?_
    refine ⟨?_, rfl, rfl⟩
    first | rw [bi_t (by show 0 ≤ x.toInt ∧ x.toInt ≤ 4; omega)] | rw [bi_f (by show ¬ (0 ≤ x.toInt ∧ x.toInt ≤ 4); omega)]
  · have k1 := c1
    rw [lt_i, show ((0 : Int32)).toInt = 0 by decide] at k1
    refine S_iload_n (q := 5) hX dX11_isKind_4 rfl rfl ?_
    refine S_iconst (q := 6) (v := 5) hX dX11_isKind_5 ic_5 rfl ?_
    refine S_icmp_ge (q := 9) 13 hX dX11_isKind_6 rfl rfl (fun c6 => ?_) (fun c6 => ?_)
    · have k6 := c6
      rw [le_i, show ((5 : Int32)).toInt = 5 by decide] at k6
      refine S_iconst (q := 14) (v := 0) hX dX11_isKind_13 ic_0 rfl ?_
      refine S_xret hX dX11_isKind_14 (Nat.zero_le _) (Nat.zero_le _) (by decide) ?_
      refine hP _ _ _ ?_
      refine ⟨?_, rfl, rfl⟩
      first | rw [bi_t (by show 0 ≤ x.toInt ∧ x.toInt ≤ 4; omega)] | rw [bi_f (by show ¬ (0 ≤ x.toInt ∧ x.toInt ≤ 4); omega)]
    · have k6 := c6
      rw [le_i, show ((5 : Int32)).toInt = 5 by decide] at k6
      refine S_iconst (q := 10) (v := 1) hX dX11_isKind_9 ic_1 rfl ?_
      refine S_goto 14 hX dX11_isKind_10 rfl ?_
      refine S_xret hX dX11_isKind_14 (Nat.zero_le _) (Nat.zero_le _) (by decide) ?_
      refine hP _ _ _ ?_
      refine ⟨?_, rfl, rfl⟩
      first | rw [bi_t (by show 0 ≤ x.toInt ∧ x.toInt ≤ 4; omega)] | rw [bi_f (by show ¬ (0 ≤ x.toInt ∧ x.toInt ≤ 4); omega)]
theorem c_X11_isCode (q : Nat) (γ : MF) (S : ST) (x : Int32) : CT_X11_isCode [.ref q, .int x] (fun Γ σ sz => FK σ q γ ∧ FR γ S ∧ StOk S) (fun Γ σ sz v σ' sz' => v = some (.int (bi (okc x S.1.1.1))) ∧ σ' = σ ∧ sz' = sz) := by
  refine CT.mkP rfl (Nat.le_of_ble_eq_true rfl) [_, _] rfl ?_
  intro X Γ σ sz P hX hpre hsz hP
  obtain ⟨hM, hR, ok⟩ := hpre
  obtain ⟨σ0, eσ0⟩ : ∃ z, z = σ := ⟨σ, rfl⟩
  rw [← eσ0] at hP
  have hF : Fr q (q + 179) σ0 σ := by rw [eσ0]; exact Fr.rf
  have hn : γ 2 0 = nI S.1.1.1 := hR.1.1.1
  have h3 := ok.1.1
  refine S_iload_n (q := 1) hX dX11_isCode_0 rfl rfl ?_
  refine S_if_lt (q := 4) 22 hX dX11_isCode_1 rfl rfl (fun c1 => ?_) (fun c1 => ?_)
  · have k1 := c1
    rw [lt_i, show ((0 : Int32)).toInt = 0 by decide] at k1
    refine S_iconst (q := 23) (v := 0) hX dX11_isCode_22 ic_0 rfl ?_
    refine S_xret hX dX11_isCode_23 (Nat.zero_le _) (Nat.zero_le _) (by decide) ?_
    refine hP _ _ _ ?_
    refine ⟨?_, eσ0.symm, rfl⟩
    first | rw [bi_t (by show 0 ≤ x.toInt ∧ x.toInt < S.1.1.1; omega)] | rw [bi_f (by show ¬ (0 ≤ x.toInt ∧ x.toInt < S.1.1.1); omega)]
  · have k1 := c1
    rw [lt_i, show ((0 : Int32)).toInt = 0 by decide] at k1
    refine S_iload_n (q := 5) hX dX11_isCode_4 rfl rfl ?_
    refine S_aload_n (q := 6) hX dX11_isCode_5 rfl rfl ?_
    refine S_getf (fs := ?fs_1) (v := ?v_1) (q := 9) hX u_285 fo_X11_now dX11_isCode_6 ?hs_1 ?hv_1 rfl ?_
    case hs_1 => with_reducible first | exact FK.c0 hM | exact FK.c1 hM | exact FK.c2 hM | exact FK.c7 hM | exact FK.c129 hM | exact FK.c3 hM | exact FK.c4 hM | exact FK.c5 hM | exact FK.c6 hM | exact FK.c39 hM | exact FK.c40 hM | exact FK.c41 hM | exact FK.c42 hM | exact FK.c43 hM | exact FK.c128 hM | exact FK.c136 hM | exact FK.c137 hM | exact FK.c173 hM | exact FK.c174 hM | exact FK.c175 hM | exact FK.c176 hM | exact FK.c177 hM | exact FK.c178 hM
    case hv_1 => rfl
    refine S_getf (fs := ?fs_2) (v := ?v_2) (q := 12) hX u_85 fo_X9_codes dX11_isCode_9 ?hs_2 ?hv_2 rfl ?_
    case hs_2 => with_reducible first | exact FK.c0 hM | exact FK.c1 hM | exact FK.c2 hM | exact FK.c7 hM | exact FK.c129 hM | exact FK.c3 hM | exact FK.c4 hM | exact FK.c5 hM | exact FK.c6 hM | exact FK.c39 hM | exact FK.c40 hM | exact FK.c41 hM | exact FK.c42 hM | exact FK.c43 hM | exact FK.c128 hM | exact FK.c136 hM | exact FK.c137 hM | exact FK.c173 hM | exact FK.c174 hM | exact FK.c175 hM | exact FK.c176 hM | exact FK.c177 hM | exact FK.c178 hM
    case hv_2 => rfl
    refine S_getf (fs := ?fs_3) (v := ?v_3) (q := 15) hX u_41 fo_X2_codes dX11_isCode_12 ?hs_3 ?hv_3 rfl ?_
    case hs_3 => with_reducible first | exact FK.c0 hM | exact FK.c1 hM | exact FK.c2 hM | exact FK.c7 hM | exact FK.c129 hM | exact FK.c3 hM | exact FK.c4 hM | exact FK.c5 hM | exact FK.c6 hM | exact FK.c39 hM | exact FK.c40 hM | exact FK.c41 hM | exact FK.c42 hM | exact FK.c43 hM | exact FK.c128 hM | exact FK.c136 hM | exact FK.c137 hM | exact FK.c173 hM | exact FK.c174 hM | exact FK.c175 hM | exact FK.c176 hM | exact FK.c177 hM | exact FK.c178 hM
    case hv_3 => rfl
    refine S_icmp_ge (q := 18) 22 hX dX11_isCode_15 rfl rfl (fun c15 => ?_) (fun c15 => ?_)
    · have k15 := c15
      rw [hn, le_i, nI_toInt (by omega)] at k15
      refine S_iconst (q := 23) (v := 0) hX dX11_isCode_22 ic_0 rfl ?_
      refine S_xret hX dX11_isCode_23 (Nat.zero_le _) (Nat.zero_le _) (by decide) ?_
      refine hP _ _ _ ?_
      refine ⟨?_, eσ0.symm, rfl⟩
      first | rw [bi_t (by show 0 ≤ x.toInt ∧ x.toInt < S.1.1.1; omega)] | rw [bi_f (by show ¬ (0 ≤ x.toInt ∧ x.toInt < S.1.1.1); omega)]
    · have k15 := c15
      rw [hn, le_i, nI_toInt (by omega)] at k15
      refine S_iconst (q := 19) (v := 1) hX dX11_isCode_18 ic_1 rfl ?_
      refine S_goto 23 hX dX11_isCode_19 rfl ?_
      refine S_xret hX dX11_isCode_23 (Nat.zero_le _) (Nat.zero_le _) (by decide) ?_
      refine hP _ _ _ ?_
      refine ⟨?_, eσ0.symm, rfl⟩
      first | rw [bi_t (by show 0 ≤ x.toInt ∧ x.toInt < S.1.1.1; omega)] | rw [bi_f (by show ¬ (0 ≤ x.toInt ∧ x.toInt < S.1.1.1); omega)]
theorem c_X11_refused (q : Nat) (γ : MF) (x y : Int32) (k : Nat) (hx : -2 - x = nI k) : CT_X11_refused [.ref q, .int x, .int y] (fun Γ σ sz => FK σ q γ ∧ k < 3) (fun Γ σ sz v σ' sz' => ∃ γ', FK σ' q γ' ∧ Fr q (q + 179) σ σ' ∧ v = some (.int y) ∧ γ' = m2 γ 136 k (γ 136 k + 1) ∧ sz' = sz) := by
  refine CT.mkP rfl (Nat.le_of_ble_eq_true rfl) [_, _, _] rfl ?_
  intro X Γ σ sz P hX hpre hsz hP
  obtain ⟨hM, hk⟩ := hpre
  obtain ⟨σ0, eσ0⟩ : ∃ z, z = σ := ⟨σ, rfl⟩
  rw [← eσ0] at hP
  have hF : Fr q (q + 179) σ0 σ := by rw [eσ0]; exact Fr.rf
  refine S_aload_n (q := 1) hX dX11_refused_0 rfl rfl ?_
  refine S_getf (fs := ?fs_1) (v := ?v_1) (q := 4) hX u_289 fo_X11_refusals dX11_refused_1 ?hs_1 ?hv_1 rfl ?_
  case hs_1 => with_reducible first | exact FK.c0 hM | exact FK.c1 hM | exact FK.c2 hM | exact FK.c7 hM | exact FK.c129 hM | exact FK.c3 hM | exact FK.c4 hM | exact FK.c5 hM | exact FK.c6 hM | exact FK.c39 hM | exact FK.c40 hM | exact FK.c41 hM | exact FK.c42 hM | exact FK.c43 hM | exact FK.c128 hM | exact FK.c136 hM | exact FK.c137 hM | exact FK.c173 hM | exact FK.c174 hM | exact FK.c175 hM | exact FK.c176 hM | exact FK.c177 hM | exact FK.c178 hM
  case hv_1 => rfl
  refine S_bipush (q := 6) (v := (-2)) hX dX11_refused_4 bp_m2 rfl ?_
  refine S_iload_n (q := 7) hX dX11_refused_6 rfl rfl ?_
  refine S_isub (q := 8) hX dX11_refused_7 rfl ?_
  rw [hx]
  refine S_dup2_11 (q := 9) hX dX11_refused_8 rfl rfl rfl ?_
  refine S_iald (N := ?n_2) (f := ?f_2) (q := 10) hX dX11_refused_9 ?hs_2 ?hi_2 rfl ?_
  case hs_2 => with_reducible first | exact FK.c0 hM | exact FK.c1 hM | exact FK.c2 hM | exact FK.c7 hM | exact FK.c129 hM | exact FK.c3 hM | exact FK.c4 hM | exact FK.c5 hM | exact FK.c6 hM | exact FK.c39 hM | exact FK.c40 hM | exact FK.c41 hM | exact FK.c42 hM | exact FK.c43 hM | exact FK.c128 hM | exact FK.c136 hM | exact FK.c137 hM | exact FK.c173 hM | exact FK.c174 hM | exact FK.c175 hM | exact FK.c176 hM | exact FK.c177 hM | exact FK.c178 hM
  case hi_2 => exact vp_in_nI hk (by decide)
  refine S_iconst (q := 11) (v := 1) hX dX11_refused_10 ic_1 rfl ?_
  refine S_iadd (q := 12) hX dX11_refused_11 rfl ?_
  refine S_nm (fun x12 hx12 => ?_)
  refine S_iast (N := ?n_3) (f := ?f_3) (q := 13) hX dX11_refused_12 ?hs_3 ?hi_3 rfl ?_
  case hs_3 => with_reducible first | exact FK.c0 hM | exact FK.c1 hM | exact FK.c2 hM | exact FK.c7 hM | exact FK.c129 hM | exact FK.c3 hM | exact FK.c4 hM | exact FK.c5 hM | exact FK.c6 hM | exact FK.c39 hM | exact FK.c40 hM | exact FK.c41 hM | exact FK.c42 hM | exact FK.c43 hM | exact FK.c128 hM | exact FK.c136 hM | exact FK.c137 hM | exact FK.c173 hM | exact FK.c174 hM | exact FK.c175 hM | exact FK.c176 hM | exact FK.c177 hM | exact FK.c178 hM
  case hi_3 => exact vp_in_nI hk (by decide)
  refine S_stu (q0 := q) (j := 136) (i := _) hM hF (by decide) rfl (fun σ μ12 e12 hM hF => ?_)
  subst hx12
  refine S_iload_n (q := 14) hX dX11_refused_13 rfl rfl ?_
  refine S_iret hX dX11_refused_14 (Nat.zero_le _) (Nat.zero_le _) ?_
  refine hP _ _ _ ?_
  rw [nI_clamp (by omega)] at e12
  exact ⟨_, hM, hF, rfl, e12, rfl⟩
theorem c_X11_code (q : Nat) (γ : MF) (S : ST)  : CT_X11_code [.ref q] (fun Γ σ sz => FK σ q γ ∧ FR γ S ∧ StOk S) (fun Γ σ sz v σ' sz' => ∃ γ', FK σ' q γ' ∧ Fr q (q + 179) σ σ' ∧ v = some (.int (sp_code S).1) ∧ FR γ' (sp_code S).2 ∧ sz' = sz) := by
  refine CT.mkP rfl (Nat.le_of_ble_eq_true rfl) [_] rfl ?_
  intro X Γ σ sz P hX hpre hsz hP
  obtain ⟨hM, hR, ok⟩ := hpre
  obtain ⟨σ0, eσ0⟩ : ∃ z, z = σ := ⟨σ, rfl⟩
  rw [← eσ0] at hP
  have hF : Fr q (q + 179) σ0 σ := by rw [eσ0]; exact Fr.rf
  obtain ⟨r0, r1, r2, r3, r4, r5⟩ := id hR
  obtain ⟨t0, t1, t2, t3, t4, t5, t6, t7, t8⟩ := id r0
  obtain ⟨o1, o2, o3, o4, o5, o6, o7, o8, o9, o10⟩ := id ok.1
  have hn : γ 2 0 = nI S.1.1.1 := t0.1
  refine S_aload_n (q := 1) hX dX11_code_0 rfl rfl ?_
  refine S_getf (fs := ?fs_1) (v := ?v_1) (q := 4) hX u_285 fo_X11_now dX11_code_1 ?hs_1 ?hv_1 rfl ?_
  case hs_1 => with_reducible first | exact FK.c0 hM | exact FK.c1 hM | exact FK.c2 hM | exact FK.c7 hM | exact FK.c129 hM | exact FK.c3 hM | exact FK.c4 hM | exact FK.c5 hM | exact FK.c6 hM | exact FK.c39 hM | exact FK.c40 hM | exact FK.c41 hM | exact FK.c42 hM | exact FK.c43 hM | exact FK.c128 hM | exact FK.c136 hM | exact FK.c137 hM | exact FK.c173 hM | exact FK.c174 hM | exact FK.c175 hM | exact FK.c176 hM | exact FK.c177 hM | exact FK.c178 hM
  case hv_1 => rfl
  refine S_getf (fs := ?fs_2) (v := ?v_2) (q := 7) hX u_85 fo_X9_codes dX11_code_4 ?hs_2 ?hv_2 rfl ?_
  case hs_2 => with_reducible first | exact FK.c0 hM | exact FK.c1 hM | exact FK.c2 hM | exact FK.c7 hM | exact FK.c129 hM | exact FK.c3 hM | exact FK.c4 hM | exact FK.c5 hM | exact FK.c6 hM | exact FK.c39 hM | exact FK.c40 hM | exact FK.c41 hM | exact FK.c42 hM | exact FK.c43 hM | exact FK.c128 hM | exact FK.c136 hM | exact FK.c137 hM | exact FK.c173 hM | exact FK.c174 hM | exact FK.c175 hM | exact FK.c176 hM | exact FK.c177 hM | exact FK.c178 hM
  case hv_2 => rfl
  refine S_getf (fs := ?fs_3) (v := ?v_3) (q := 10) hX u_41 fo_X2_codes dX11_code_7 ?hs_3 ?hv_3 rfl ?_
  case hs_3 => with_reducible first | exact FK.c0 hM | exact FK.c1 hM | exact FK.c2 hM | exact FK.c7 hM | exact FK.c129 hM | exact FK.c3 hM | exact FK.c4 hM | exact FK.c5 hM | exact FK.c6 hM | exact FK.c39 hM | exact FK.c40 hM | exact FK.c41 hM | exact FK.c42 hM | exact FK.c43 hM | exact FK.c128 hM | exact FK.c136 hM | exact FK.c137 hM | exact FK.c173 hM | exact FK.c174 hM | exact FK.c175 hM | exact FK.c176 hM | exact FK.c177 hM | exact FK.c178 hM
  case hv_3 => rfl
  refine S_iconst (q := 11) (v := 3) hX dX11_code_10 ic_3 rfl ?_
  refine S_icmp_lt (q := 14) 23 hX dX11_code_11 rfl rfl (fun c11 => ?_) (fun c11 => ?_)
  · have h3 : S.1.1.1 < 3 := by rw [hn, show (3 : Int32) = nI 3 from rfl, nI_ltI (by omega) (by omega)] at c11; exact c11
    refine S_aload_n (q := 24) hX dX11_code_23 rfl rfl ?_
    refine S_getf (fs := ?fs_4) (v := ?v_4) (q := 27) hX u_285 fo_X11_now dX11_code_24 ?hs_4 ?hv_4 rfl ?_
    case hs_4 => with_reducible first | exact FK.c0 hM | exact FK.c1 hM | exact FK.c2 hM | exact FK.c7 hM | exact FK.c129 hM | exact FK.c3 hM | exact FK.c4 hM | exact FK.c5 hM | exact FK.c6 hM | exact FK.c39 hM | exact FK.c40 hM | exact FK.c41 hM | exact FK.c42 hM | exact FK.c43 hM | exact FK.c128 hM | exact FK.c136 hM | exact FK.c137 hM | exact FK.c173 hM | exact FK.c174 hM | exact FK.c175 hM | exact FK.c176 hM | exact FK.c177 hM | exact FK.c178 hM
    case hv_4 => rfl
    refine S_getf (fs := ?fs_5) (v := ?v_5) (q := 30) hX u_87 fo_X9_past dX11_code_27 ?hs_5 ?hv_5 rfl ?_
    case hs_5 => with_reducible first | exact FK.c0 hM | exact FK.c1 hM | exact FK.c2 hM | exact FK.c7 hM | exact FK.c129 hM | exact FK.c3 hM | exact FK.c4 hM | exact FK.c5 hM | exact FK.c6 hM | exact FK.c39 hM | exact FK.c40 hM | exact FK.c41 hM | exact FK.c42 hM | exact FK.c43 hM | exact FK.c128 hM | exact FK.c136 hM | exact FK.c137 hM | exact FK.c173 hM | exact FK.c174 hM | exact FK.c175 hM | exact FK.c176 hM | exact FK.c177 hM | exact FK.c178 hM
    case hv_5 => rfl
    refine S_iconst (q := 31) (v := 0) hX dX11_code_30 ic_0 rfl ?_
    refine S_nm (fun x31 hx31 => ?_)
    refine S_putf (fs := ?fs_6) (q := 34) hX u_78 fo_X6_kept rfl rfl ?hl_6 dX11_code_31 ?hs_6 rfl ?_
    case hs_6 => with_reducible first | exact FK.c0 hM | exact FK.c1 hM | exact FK.c2 hM | exact FK.c7 hM | exact FK.c129 hM | exact FK.c3 hM | exact FK.c4 hM | exact FK.c5 hM | exact FK.c6 hM | exact FK.c39 hM | exact FK.c40 hM | exact FK.c41 hM | exact FK.c42 hM | exact FK.c43 hM | exact FK.c128 hM | exact FK.c136 hM | exact FK.c137 hM | exact FK.c173 hM | exact FK.c174 hM | exact FK.c175 hM | exact FK.c176 hM | exact FK.c177 hM | exact FK.c178 hM
    case hl_6 => exact Nat.le_of_ble_eq_true rfl
    refine S_stu (q0 := q) (j := 7) (i := 0) hM hF (by decide) rfl (fun σ μ31 e31 hM hF => ?_)
    subst hx31
    refine S_aload_n (q := 35) hX dX11_code_34 rfl rfl ?_
    refine S_getf (fs := ?fs_7) (v := ?v_7) (q := 38) hX u_285 fo_X11_now dX11_code_35 ?hs_7 ?hv_7 rfl ?_
    case hs_7 => with_reducible first | exact FK.c0 hM | exact FK.c1 hM | exact FK.c2 hM | exact FK.c7 hM | exact FK.c129 hM | exact FK.c3 hM | exact FK.c4 hM | exact FK.c5 hM | exact FK.c6 hM | exact FK.c39 hM | exact FK.c40 hM | exact FK.c41 hM | exact FK.c42 hM | exact FK.c43 hM | exact FK.c128 hM | exact FK.c136 hM | exact FK.c137 hM | exact FK.c173 hM | exact FK.c174 hM | exact FK.c175 hM | exact FK.c176 hM | exact FK.c177 hM | exact FK.c178 hM
    case hv_7 => rfl
    refine S_getf (fs := ?fs_8) (v := ?v_8) (q := 41) hX u_85 fo_X9_codes dX11_code_38 ?hs_8 ?hv_8 rfl ?_
    case hs_8 => with_reducible first | exact FK.c0 hM | exact FK.c1 hM | exact FK.c2 hM | exact FK.c7 hM | exact FK.c129 hM | exact FK.c3 hM | exact FK.c4 hM | exact FK.c5 hM | exact FK.c6 hM | exact FK.c39 hM | exact FK.c40 hM | exact FK.c41 hM | exact FK.c42 hM | exact FK.c43 hM | exact FK.c128 hM | exact FK.c136 hM | exact FK.c137 hM | exact FK.c173 hM | exact FK.c174 hM | exact FK.c175 hM | exact FK.c176 hM | exact FK.c177 hM | exact FK.c178 hM
    case hv_8 => rfl
    refine S_callV (ci := 2) (C := "FanTalk$Codes") (T := TX2) (N := 5) (q := 44) 0 0 hX (c_X2_open (q + 2) (fun j => μ31 (2 + j)) S.1.1) rfl ?hs_9 rfl u_327 u_328 u_329 u_3 u_330 ⟨by decide, by decide, rfl⟩ ⟨Nat.le_of_ble_eq_true rfl, Nat.le_of_ble_eq_true rfl⟩ ⟨Nat.le_of_ble_eq_true rfl, Nat.le_of_ble_eq_true rfl⟩ (Nat.le_of_ble_eq_true rfl) dX11_code_41 ?hp_9 rfl rfl rfl ?_
    case hs_9 => exact ⟨_, FK.c2 hM⟩
    case hp_9 => exact ⟨FK.co hM, t0.ext (fun j hj => by show μ31 (2 + j) = γ (1 + (1 + j)); rw [e31, m2_o (by omega)]; congr 1; omega), h3⟩
    rintro v σ sz1 ⟨g1, hM1, hF1, rfl, hg1, rfl⟩
    have hM := FK.jco hM hF1 hM1
    have hF := hF.trans (hF1.mono (Nat.le_add_right _ _) (by omega))
    refine S_iret hX dX11_code_44 (Nat.zero_le _) (Nat.zero_le _) ?_
    refine hP _ _ _ ?_
    have hsp : sp_code S = (nI S.1.1.1, stC S (newB S.1 (S.1.1.1 + 1, fu S.1.1.2.1 S.1.1.1 (0, (S.1.1.2.1 S.1.1.1).2), S.1.1.2.2))) := by unfold sp_code; rw [if_neg (by omega)]
    rw [hsp]
    refine ⟨_, hM, hF, rfl, hR.now ok (fun j a b => by rw [spl_out (by omega), e31, m2_o (by omega)]) (r0.newB ?_ ?_ (fun j a b => ?_)), rfl⟩
    · exact hg1.ext (fun j hj => by show spl μ31 2 5 g1 (1 + (1 + j)) = g1 j; rw [spl_in (by omega), show 1 + (1 + j) - 2 = j by omega])
    · show spl μ31 2 5 g1 (1 + 6) 0 = nI 0; rw [spl_out (by omega), e31, m2_at, if_pos ⟨rfl, rfl⟩]; rfl
    · show spl μ31 2 5 g1 (1 + j) = γ (1 + j); by_cases hj6 : j = 6
      · omega
      · rw [spl_out (by omega), e31, m2_o (by omega)]
  · have h3 : ¬ S.1.1.1 < 3 := by rw [hn, show (3 : Int32) = nI 3 from rfl, nI_ltI (by omega) (by omega)] at c11; exact c11
    refine S_aload_n (q := 15) hX dX11_code_14 rfl rfl ?_
    refine S_bipush (q := 17) (v := (-4)) hX dX11_code_15 bp_m4 rfl ?_
    refine S_bipush (q := 19) (v := (-4)) hX dX11_code_17 bp_m4 rfl ?_
    refine S_callV (ci := 11) (C := "FanTalk") (T := TX11) (N := 11) (q := 22) 0 0 hX (c_X11_refused q γ _ _ 2 (by decide)) rfl ?hs_10 rfl u_323 u_325 us_0 u_1 u_326 ⟨by decide, by decide, rfl⟩ ⟨Nat.le_of_ble_eq_true rfl, Nat.le_of_ble_eq_true rfl⟩ ⟨Nat.le_of_ble_eq_true rfl, Nat.le_of_ble_eq_true rfl⟩ (Nat.le_of_ble_eq_true rfl) dX11_code_19 ?hp_10 rfl rfl rfl ?_
    case hs_10 => first | with_reducible assumption | exact ⟨_, FK.c0 hM⟩ | exact ⟨_, FK.c2 hM⟩ | exact ⟨_, FK.c7 hM⟩ | exact ⟨_, FK.c129 hM⟩ | exact ⟨_, FK.c173 hM⟩ | exact ⟨_, FK.c1 hM⟩
    case hp_10 => exact ⟨hM, by decide⟩
    rintro v σ sz1 ⟨μ9, hM, hF1, rfl, e9, rfl⟩
    have hF := hF.trans hF1
    refine S_iret hX dX11_code_22 (Nat.zero_le _) (Nat.zero_le _) ?_
    refine hP _ _ _ ?_
    have hsp : sp_code S = (-4, rfS S 2) := by unfold sp_code; rw [if_pos (by omega)]
    rw [hsp]
    exact ⟨_, hM, hF, rfl, hR.rf ok e9, rfl⟩
theorem PaR.ext {f g : MF} {p : Nat × (Nat → BkT)} (h : PaR f p) (h6 : p.1 ≤ 6) (e : ∀ j, 6 ≤ j → j < 38 → g j = f j) : PaR g p := by
  obtain ⟨p0, pm, p1, p2, p3⟩ := h
  refine ⟨by rw [e 6 (by decide) (by decide)]; exact p0, pm, p1, fun k hk => by rw [e 7 (by decide) (by decide)]; exact p2 k hk, fun k hk => ?_⟩
  have := p1.1 k (by omega)
  exact (p3 k hk).ext (fun j hj => e _ (by omega) (by omega))

theorem c_X11_draughts (q : Nat) (γ : MF) (S : ST) (x : Int32) : CT_X11_draughts [.ref q, .int x] (fun Γ σ sz => FK σ q γ ∧ FR γ S ∧ StOk S) (fun Γ σ sz v σ' sz' => ∃ γ', FK σ' q γ' ∧ Fr q (q + 179) σ σ' ∧ v = some (.int (sp_draughts S x).1) ∧ FR γ' (sp_draughts S x).2 ∧ sz' = sz) := by
  refine CT.mkP rfl (Nat.le_of_ble_eq_true rfl) [_, _, _] rfl ?_
  intro X Γ σ sz P hX hpre hsz hP
  obtain ⟨hM, hR, ok⟩ := hpre
  obtain ⟨σ0, eσ0⟩ : ∃ z, z = σ := ⟨σ, rfl⟩
  rw [← eσ0] at hP
  have hF : Fr q (q + 179) σ0 σ := by rw [eσ0]; exact Fr.rf
  obtain ⟨r0, r1, r2, r3, r4, r5⟩ := id hR
  obtain ⟨t0, t1, t2, t3, t4, t5, t6, t7, t8⟩ := id r0
  obtain ⟨o1, o2, o3, o4, o5, o6, o7, o8, o9, o10⟩ := id ok.1
  refine S_iload_n (q := 1) hX dX11_draughts_0 rfl rfl ?_
  refine S_if_lt (q := 4) 10 hX dX11_draughts_1 rfl rfl (fun c1 => ?_) (fun c1 => ?_)
  · have k1 := c1
    rw [lt_i, show ((0 : Int32)).toInt = 0 by decide] at k1
    refine S_aload_n (q := 11) hX dX11_draughts_10 rfl rfl ?_
    refine S_bipush (q := 13) (v := (-2)) hX dX11_draughts_11 bp_m2 rfl ?_
    refine S_bipush (q := 15) (v := (-2)) hX dX11_draughts_13 bp_m2 rfl ?_
    refine S_callV (ci := 11) (C := "FanTalk") (T := TX11) (N := 11) (q := 18) 0 0 hX (c_X11_refused q γ _ _ 0 (by decide)) rfl ?hs_1 rfl u_323 u_325 us_0 u_1 u_326 ⟨by decide, by decide, rfl⟩ ⟨Nat.le_of_ble_eq_true rfl, Nat.le_of_ble_eq_true rfl⟩ ⟨Nat.le_of_ble_eq_true rfl, Nat.le_of_ble_eq_true rfl⟩ (Nat.le_of_ble_eq_true rfl) dX11_draughts_15 ?hp_1 rfl rfl rfl ?_
    case hs_1 => first | with_reducible assumption | exact ⟨_, FK.c0 hM⟩ | exact ⟨_, FK.c2 hM⟩ | exact ⟨_, FK.c7 hM⟩ | exact ⟨_, FK.c129 hM⟩ | exact ⟨_, FK.c173 hM⟩ | exact ⟨_, FK.c1 hM⟩
    case hp_1 => exact ⟨hM, by decide⟩
    rintro v σ sz1 ⟨μ9, hM, hF1, rfl, e9, rfl⟩
    have hF := hF.trans hF1
    refine S_iret hX dX11_draughts_18 (Nat.zero_le _) (Nat.zero_le _) ?_
    refine hP _ _ _ ?_
    have hsp : sp_draughts S x = (-2, rfS S 0) := by unfold sp_draughts; rw [if_pos (fun z => by have := z.1; have := z.2; omega)]
    rw [hsp]
    exact ⟨_, hM, hF, rfl, hR.rf ok e9, rfl⟩
  · have k1 := c1
    rw [lt_i, show ((0 : Int32)).toInt = 0 by decide] at k1
    refine S_iload_n (q := 5) hX dX11_draughts_4 rfl rfl ?_
    refine S_bipush (q := 7) (v := 64) hX dX11_draughts_5 bp_64 rfl ?_
    refine S_icmp_lt (q := 10) 19 hX dX11_draughts_7 rfl rfl (fun c7 => ?_) (fun c7 => ?_)
    · have k7 := c7
      rw [lt_i, show ((64 : Int32)).toInt = 64 by decide] at k7
      refine S_aload_n (q := 20) hX dX11_draughts_19 rfl rfl ?_
      refine S_getf (fs := ?fs_2) (v := ?v_2) (q := 23) hX u_285 fo_X11_now dX11_draughts_20 ?hs_2 ?hv_2 rfl ?_
      case hs_2 => with_reducible first | exact FK.c0 hM | exact FK.c1 hM | exact FK.c2 hM | exact FK.c7 hM | exact FK.c129 hM | exact FK.c3 hM | exact FK.c4 hM | exact FK.c5 hM | exact FK.c6 hM | exact FK.c39 hM | exact FK.c40 hM | exact FK.c41 hM | exact FK.c42 hM | exact FK.c43 hM | exact FK.c128 hM | exact FK.c136 hM | exact FK.c137 hM | exact FK.c173 hM | exact FK.c174 hM | exact FK.c175 hM | exact FK.c176 hM | exact FK.c177 hM | exact FK.c178 hM
      case hv_2 => rfl
      refine S_getf (fs := ?fs_3) (v := ?v_3) (q := 26) hX u_89 fo_X9_draughts dX11_draughts_23 ?hs_3 ?hv_3 rfl ?_
      case hs_3 => with_reducible first | exact FK.c0 hM | exact FK.c1 hM | exact FK.c2 hM | exact FK.c7 hM | exact FK.c129 hM | exact FK.c3 hM | exact FK.c4 hM | exact FK.c5 hM | exact FK.c6 hM | exact FK.c39 hM | exact FK.c40 hM | exact FK.c41 hM | exact FK.c42 hM | exact FK.c43 hM | exact FK.c128 hM | exact FK.c136 hM | exact FK.c137 hM | exact FK.c173 hM | exact FK.c174 hM | exact FK.c175 hM | exact FK.c176 hM | exact FK.c177 hM | exact FK.c178 hM
      case hv_3 => rfl
      refine S_istore_n (q := 27) [_, _, _] hX dX11_draughts_26 rfl (Nat.le_of_ble_eq_true rfl) rfl rfl ?_
      refine S_aload_n (q := 28) hX dX11_draughts_27 rfl rfl ?_
      refine S_getf (fs := ?fs_4) (v := ?v_4) (q := 31) hX u_285 fo_X11_now dX11_draughts_28 ?hs_4 ?hv_4 rfl ?_
      case hs_4 => with_reducible first | exact FK.c0 hM | exact FK.c1 hM | exact FK.c2 hM | exact FK.c7 hM | exact FK.c129 hM | exact FK.c3 hM | exact FK.c4 hM | exact FK.c5 hM | exact FK.c6 hM | exact FK.c39 hM | exact FK.c40 hM | exact FK.c41 hM | exact FK.c42 hM | exact FK.c43 hM | exact FK.c128 hM | exact FK.c136 hM | exact FK.c137 hM | exact FK.c173 hM | exact FK.c174 hM | exact FK.c175 hM | exact FK.c176 hM | exact FK.c177 hM | exact FK.c178 hM
      case hv_4 => rfl
      refine S_iload_n (q := 32) hX dX11_draughts_31 rfl rfl ?_
      refine S_nm (fun x32 hx32 => ?_)
      refine S_putf (fs := ?fs_5) (q := 35) hX u_89 fo_X9_draughts rfl rfl ?hl_5 dX11_draughts_32 ?hs_5 rfl ?_
      case hs_5 => with_reducible first | exact FK.c0 hM | exact FK.c1 hM | exact FK.c2 hM | exact FK.c7 hM | exact FK.c129 hM | exact FK.c3 hM | exact FK.c4 hM | exact FK.c5 hM | exact FK.c6 hM | exact FK.c39 hM | exact FK.c40 hM | exact FK.c41 hM | exact FK.c42 hM | exact FK.c43 hM | exact FK.c128 hM | exact FK.c136 hM | exact FK.c137 hM | exact FK.c173 hM | exact FK.c174 hM | exact FK.c175 hM | exact FK.c176 hM | exact FK.c177 hM | exact FK.c178 hM
      case hl_5 => exact Nat.le_of_ble_eq_true rfl
      refine S_stu (q0 := q) (j := 1) (i := 0) hM hF (by decide) rfl (fun σ μ32 e32 hM hF => ?_)
      subst hx32
      refine S_iload_n (q := 36) hX dX11_draughts_35 rfl rfl ?_
      refine S_iret hX dX11_draughts_36 (Nat.zero_le _) (Nat.zero_le _) ?_
      refine hP _ _ _ ?_
      have cx := tN_ex (x := x32) (by omega)
      have hsp : sp_draughts S x32 = (nI S.1.2.2.1, stC S (S.1.1, S.1.2.1, tN x32, S.1.2.2.2)) := by unfold sp_draughts; rw [if_neg (fun z => z ⟨by omega, by omega⟩)]
      rw [hsp]
      have g : ∀ j, j ≠ 1 → μ32 j = γ j := fun j hj => by rw [e32, m2_o hj]
      have g0 : ∀ i, i ≠ 0 → μ32 1 i = γ 1 i := fun i hi => by rw [e32, m2_at, if_neg (fun z => hi z.2)]
      have e1 : γ 1 0 = nI S.1.2.2.1 := t2
      refine ⟨_, hM, hF, by rw [e1], hR.now ok (fun j a b => g j (by omega)) ⟨t0.ext (fun j hj => g _ (by omega)), ?_, ?_, (g0 1 (by decide)).trans t3, fun k hk => by show μ32 (1 + 38) k = _; rw [g _ (by decide)]; exact t4 k hk, (g0 2 (by decide)).trans t5, fun k hk => by show μ32 (1 + 39) k = _; rw [g _ (by decide)]; exact t6 k hk, (g0 3 (by decide)).trans t7, fun k hk => by show μ32 (1 + 40) k = _ ∧ μ32 (1 + 41) k = _; rw [g _ (by decide), g _ (by decide)]; exact t8 k hk⟩, rfl⟩
      · exact t1.ext o3 (fun j h1 h2 => g _ (by omega))
      · show μ32 1 0 = _; rw [e32, m2_at, if_pos ⟨rfl, rfl⟩]; exact cx.1
    · have k7 := c7
      rw [lt_i, show ((64 : Int32)).toInt = 64 by decide] at k7
      refine S_aload_n (q := 11) hX dX11_draughts_10 rfl rfl ?_
      refine S_bipush (q := 13) (v := (-2)) hX dX11_draughts_11 bp_m2 rfl ?_
      refine S_bipush (q := 15) (v := (-2)) hX dX11_draughts_13 bp_m2 rfl ?_
      refine S_callV (ci := 11) (C := "FanTalk") (T := TX11) (N := 11) (q := 18) 0 0 hX (c_X11_refused q γ _ _ 0 (by decide)) rfl ?hs_6 rfl u_323 u_325 us_0 u_1 u_326 ⟨by decide, by decide, rfl⟩ ⟨Nat.le_of_ble_eq_true rfl, Nat.le_of_ble_eq_true rfl⟩ ⟨Nat.le_of_ble_eq_true rfl, Nat.le_of_ble_eq_true rfl⟩ (Nat.le_of_ble_eq_true rfl) dX11_draughts_15 ?hp_6 rfl rfl rfl ?_
      case hs_6 => first | with_reducible assumption | exact ⟨_, FK.c0 hM⟩ | exact ⟨_, FK.c2 hM⟩ | exact ⟨_, FK.c7 hM⟩ | exact ⟨_, FK.c129 hM⟩ | exact ⟨_, FK.c173 hM⟩ | exact ⟨_, FK.c1 hM⟩
      case hp_6 => exact ⟨hM, by decide⟩
      rintro v σ sz1 ⟨μ9, hM, hF1, rfl, e9, rfl⟩
      have hF := hF.trans hF1
      refine S_iret hX dX11_draughts_18 (Nat.zero_le _) (Nat.zero_le _) ?_
      refine hP _ _ _ ?_
      have hsp : sp_draughts S x = (-2, rfS S 0) := by unfold sp_draughts; rw [if_pos (fun z => by have := z.1; have := z.2; omega)]
      rw [hsp]
      exact ⟨_, hM, hF, rfl, hR.rf ok e9, rfl⟩
theorem c_X11_clear (q : Nat) (γ : MF) (S : ST)  : CT_X11_clear [.ref q] (fun Γ σ sz => FK σ q γ ∧ FR γ S ∧ StOk S) (fun Γ σ sz v σ' sz' => ∃ γ', FK σ' q γ' ∧ Fr q (q + 179) σ σ' ∧ v = some (.int (sp_clear S).1) ∧ FR γ' (sp_clear S).2 ∧ sz' = sz) := by
  refine CT.mkP rfl (Nat.le_of_ble_eq_true rfl) [_, _] rfl ?_
  intro X Γ σ sz P hX hpre hsz hP
  obtain ⟨hM, hR, ok⟩ := hpre
  obtain ⟨σ0, eσ0⟩ : ∃ z, z = σ := ⟨σ, rfl⟩
  rw [← eσ0] at hP
  have hF : Fr q (q + 179) σ0 σ := by rw [eσ0]; exact Fr.rf
  obtain ⟨r0, r1, r2, r3, r4, r5⟩ := id hR
  obtain ⟨t0, t1, t2, t3, t4, t5, t6, t7, t8⟩ := id r0
  obtain ⟨o1, o2, o3, o4, o5, o6, o7, o8, o9, o10⟩ := id ok.1
  refine S_aload_n (q := 1) hX dX11_clear_0 rfl rfl ?_
  refine S_getf (fs := ?fs_1) (v := ?v_1) (q := 4) hX u_288 fo_X11_script dX11_clear_1 ?hs_1 ?hv_1 rfl ?_
  case hs_1 => with_reducible first | exact FK.c0 hM | exact FK.c1 hM | exact FK.c2 hM | exact FK.c7 hM | exact FK.c129 hM | exact FK.c3 hM | exact FK.c4 hM | exact FK.c5 hM | exact FK.c6 hM | exact FK.c39 hM | exact FK.c40 hM | exact FK.c41 hM | exact FK.c42 hM | exact FK.c43 hM | exact FK.c128 hM | exact FK.c136 hM | exact FK.c137 hM | exact FK.c173 hM | exact FK.c174 hM | exact FK.c175 hM | exact FK.c176 hM | exact FK.c177 hM | exact FK.c178 hM
  case hv_1 => rfl
  refine S_getf (fs := ?fs_2) (v := ?v_2) (q := 7) hX u_136 fo_X8_length dX11_clear_4 ?hs_2 ?hv_2 rfl ?_
  case hs_2 => with_reducible first | exact FK.c0 hM | exact FK.c1 hM | exact FK.c2 hM | exact FK.c7 hM | exact FK.c129 hM | exact FK.c3 hM | exact FK.c4 hM | exact FK.c5 hM | exact FK.c6 hM | exact FK.c39 hM | exact FK.c40 hM | exact FK.c41 hM | exact FK.c42 hM | exact FK.c43 hM | exact FK.c128 hM | exact FK.c136 hM | exact FK.c137 hM | exact FK.c173 hM | exact FK.c174 hM | exact FK.c175 hM | exact FK.c176 hM | exact FK.c177 hM | exact FK.c178 hM
  case hv_2 => rfl
  refine S_istore_n (q := 8) [_, _] hX dX11_clear_7 rfl (Nat.le_of_ble_eq_true rfl) rfl rfl ?_
  refine S_aload_n (q := 9) hX dX11_clear_8 rfl rfl ?_
  refine S_getf (fs := ?fs_3) (v := ?v_3) (q := 12) hX u_288 fo_X11_script dX11_clear_9 ?hs_3 ?hv_3 rfl ?_
  case hs_3 => with_reducible first | exact FK.c0 hM | exact FK.c1 hM | exact FK.c2 hM | exact FK.c7 hM | exact FK.c129 hM | exact FK.c3 hM | exact FK.c4 hM | exact FK.c5 hM | exact FK.c6 hM | exact FK.c39 hM | exact FK.c40 hM | exact FK.c41 hM | exact FK.c42 hM | exact FK.c43 hM | exact FK.c128 hM | exact FK.c136 hM | exact FK.c137 hM | exact FK.c173 hM | exact FK.c174 hM | exact FK.c175 hM | exact FK.c176 hM | exact FK.c177 hM | exact FK.c178 hM
  case hv_3 => rfl
  refine S_iconst (q := 13) (v := 0) hX dX11_clear_12 ic_0 rfl ?_
  refine S_nm (fun x13 hx13 => ?_)
  refine S_putf (fs := ?fs_4) (q := 16) hX u_136 fo_X8_length rfl rfl ?hl_4 dX11_clear_13 ?hs_4 rfl ?_
  case hs_4 => with_reducible first | exact FK.c0 hM | exact FK.c1 hM | exact FK.c2 hM | exact FK.c7 hM | exact FK.c129 hM | exact FK.c3 hM | exact FK.c4 hM | exact FK.c5 hM | exact FK.c6 hM | exact FK.c39 hM | exact FK.c40 hM | exact FK.c41 hM | exact FK.c42 hM | exact FK.c43 hM | exact FK.c128 hM | exact FK.c136 hM | exact FK.c137 hM | exact FK.c173 hM | exact FK.c174 hM | exact FK.c175 hM | exact FK.c176 hM | exact FK.c177 hM | exact FK.c178 hM
  case hl_4 => exact Nat.le_of_ble_eq_true rfl
  refine S_stu (q0 := q) (j := 129) (i := 0) hM hF (by decide) rfl (fun σ μ13 e13 hM hF => ?_)
  subst hx13
  refine S_iload_n (q := 17) hX dX11_clear_16 rfl rfl ?_
  refine S_iret hX dX11_clear_17 (Nat.zero_le _) (Nat.zero_le _) ?_
  refine hP _ _ _ ?_
  rw [show γ 129 0 = nI S.2.2.2.1 from r3]
  have g : ∀ j, j ≠ 129 → μ13 j = γ j := fun j hj => by rw [e13, m2_o hj]
  refine ⟨_, hM, hF, rfl, ⟨r0.ext o3 (fun j hj => g _ (by omega)), fun i hi => ⟨(r1 i hi).1.ext (g _ (by omega)), by rw [g 128 (by decide)]; exact (r1 i hi).2.1, fun D hD => ((r1 i hi).2.2 D hD).ext (ok.2.1 i hi D hD).2.2.1 (fun j hj => g _ (by omega))⟩, fun k hk => by rw [g 136 (by decide)]; exact r2 k hk, by rw [e13, m2_at, if_pos ⟨rfl, rfl⟩]; rfl, fun i hi => absurd hi (Nat.not_lt_zero _), fun w hw => by show μ13 (129 + 6) w = nI 0; rw [g _ (by decide)]; exact r5 w hw⟩, rfl⟩
theorem c_X11_uses (q : Nat) (γ : MF) (S : ST) (x : Int32) : CT_X11_uses [.ref q, .int x] (fun Γ σ sz => FK σ q γ ∧ FR γ S ∧ StOk S) (fun Γ σ sz v σ' sz' => ∃ γ', FK σ' q γ' ∧ Fr q (q + 179) σ σ' ∧ v = some (.int (sp_uses S x).1) ∧ FR γ' (sp_uses S x).2 ∧ sz' = sz) := by
  refine CT.mkP rfl (Nat.le_of_ble_eq_true rfl) [_, _] rfl ?_
  intro X Γ σ sz P hX hpre hsz hP
  obtain ⟨hM, hR, ok⟩ := hpre
  obtain ⟨σ0, eσ0⟩ : ∃ z, z = σ := ⟨σ, rfl⟩
  rw [← eσ0] at hP
  have hF : Fr q (q + 179) σ0 σ := by rw [eσ0]; exact Fr.rf
  obtain ⟨r0, r1, r2, r3, r4, r5⟩ := id hR
  obtain ⟨t0, t1, t2, t3, t4, t5, t6, t7, t8⟩ := id r0
  obtain ⟨o1, o2, o3, o4, o5, o6, o7, o8, o9, o10⟩ := id ok.1
  refine S_iload_n (q := 1) hX dX11_uses_0 rfl rfl ?_
  refine S_callS (q := 4) 0 0 hX (c_X11_isWord _) rfl u_342 u_343 u_1 u_344 ⟨by decide, by decide, rfl⟩ ⟨Nat.le_of_ble_eq_true rfl, Nat.le_of_ble_eq_true rfl⟩ ⟨Nat.le_of_ble_eq_true rfl, Nat.le_of_ble_eq_true rfl⟩ (Nat.le_of_ble_eq_true rfl) dX11_uses_1 ?hp_1 rfl rfl rfl ?_
  case hp_1 => trivial
  rintro v σ1 sz1 ⟨rfl, rfl, rfl⟩
  refine S_if_eq_b (q := 7) 22 hX dX11_uses_4 rfl rfl (fun c4 => ?_) (fun c4 => ?_)
  · refine S_aload_n (q := 23) hX dX11_uses_22 rfl rfl ?_
    refine S_bipush (q := 25) (v := (-2)) hX dX11_uses_23 bp_m2 rfl ?_
    refine S_bipush (q := 27) (v := (-2)) hX dX11_uses_25 bp_m2 rfl ?_
    refine S_callV (ci := 11) (C := "FanTalk") (T := TX11) (N := 11) (q := 30) 0 0 hX (c_X11_refused q γ _ _ 0 (by decide)) rfl ?hs_2 rfl u_323 u_325 us_0 u_1 u_326 ⟨by decide, by decide, rfl⟩ ⟨Nat.le_of_ble_eq_true rfl, Nat.le_of_ble_eq_true rfl⟩ ⟨Nat.le_of_ble_eq_true rfl, Nat.le_of_ble_eq_true rfl⟩ (Nat.le_of_ble_eq_true rfl) dX11_uses_27 ?hp_2 rfl rfl rfl ?_
    case hs_2 => first | with_reducible assumption | exact ⟨_, FK.c0 hM⟩ | exact ⟨_, FK.c2 hM⟩ | exact ⟨_, FK.c7 hM⟩ | exact ⟨_, FK.c129 hM⟩ | exact ⟨_, FK.c173 hM⟩ | exact ⟨_, FK.c1 hM⟩
    case hp_2 => exact ⟨hM, by decide⟩
    rintro v σ sz1 ⟨μ9, hM, hF1, rfl, e9, rfl⟩
    have hF := hF.trans hF1
    refine S_iret hX dX11_uses_30 (Nat.zero_le _) (Nat.zero_le _) ?_
    refine hP _ _ _ ?_
    have hsp : sp_uses S x = (-2, rfS S 0) := by unfold sp_uses; rw [if_pos c4]
    rw [hsp]
    exact ⟨_, hM, hF, rfl, hR.rf ok e9, rfl⟩
  · refine S_aload_n (q := 8) hX dX11_uses_7 rfl rfl ?_
    refine S_getf (fs := ?fs_3) (v := ?v_3) (q := 11) hX u_285 fo_X11_now dX11_uses_8 ?hs_3 ?hv_3 rfl ?_
    case hs_3 => with_reducible first | exact FK.c0 hM | exact FK.c1 hM | exact FK.c2 hM | exact FK.c7 hM | exact FK.c129 hM | exact FK.c3 hM | exact FK.c4 hM | exact FK.c5 hM | exact FK.c6 hM | exact FK.c39 hM | exact FK.c40 hM | exact FK.c41 hM | exact FK.c42 hM | exact FK.c43 hM | exact FK.c128 hM | exact FK.c136 hM | exact FK.c137 hM | exact FK.c173 hM | exact FK.c174 hM | exact FK.c175 hM | exact FK.c176 hM | exact FK.c177 hM | exact FK.c178 hM
    case hv_3 => rfl
    refine S_getf (fs := ?fs_4) (v := ?v_4) (q := 14) hX u_85 fo_X9_codes dX11_uses_11 ?hs_4 ?hv_4 rfl ?_
    case hs_4 => with_reducible first | exact FK.c0 hM | exact FK.c1 hM | exact FK.c2 hM | exact FK.c7 hM | exact FK.c129 hM | exact FK.c3 hM | exact FK.c4 hM | exact FK.c5 hM | exact FK.c6 hM | exact FK.c39 hM | exact FK.c40 hM | exact FK.c41 hM | exact FK.c42 hM | exact FK.c43 hM | exact FK.c128 hM | exact FK.c136 hM | exact FK.c137 hM | exact FK.c173 hM | exact FK.c174 hM | exact FK.c175 hM | exact FK.c176 hM | exact FK.c177 hM | exact FK.c178 hM
    case hv_4 => rfl
    refine S_getf (fs := ?fs_5) (v := ?v_5) (q := 17) hX u_54 fo_X2_uses dX11_uses_14 ?hs_5 ?hv_5 rfl ?_
    case hs_5 => with_reducible first | exact FK.c0 hM | exact FK.c1 hM | exact FK.c2 hM | exact FK.c7 hM | exact FK.c129 hM | exact FK.c3 hM | exact FK.c4 hM | exact FK.c5 hM | exact FK.c6 hM | exact FK.c39 hM | exact FK.c40 hM | exact FK.c41 hM | exact FK.c42 hM | exact FK.c43 hM | exact FK.c128 hM | exact FK.c136 hM | exact FK.c137 hM | exact FK.c173 hM | exact FK.c174 hM | exact FK.c175 hM | exact FK.c176 hM | exact FK.c177 hM | exact FK.c178 hM
    case hv_5 => rfl
    refine S_iload_n (q := 18) hX dX11_uses_17 rfl rfl ?_
    refine S_iald (N := ?n_6) (f := ?f_6) (q := 19) hX dX11_uses_18 ?hs_6 ?hi_6 rfl ?_
    case hs_6 => with_reducible first | exact FK.c0 hM | exact FK.c1 hM | exact FK.c2 hM | exact FK.c7 hM | exact FK.c129 hM | exact FK.c3 hM | exact FK.c4 hM | exact FK.c5 hM | exact FK.c6 hM | exact FK.c39 hM | exact FK.c40 hM | exact FK.c41 hM | exact FK.c42 hM | exact FK.c43 hM | exact FK.c128 hM | exact FK.c136 hM | exact FK.c137 hM | exact FK.c173 hM | exact FK.c174 hM | exact FK.c175 hM | exact FK.c176 hM | exact FK.c177 hM | exact FK.c178 hM
    case hi_6 => rw [vp_in_iff]; have := c4.1; have := c4.2; omega
    refine S_goto 30 hX dX11_uses_19 rfl ?_
    refine S_iret hX dX11_uses_30 (Nat.zero_le _) (Nat.zero_le _) ?_
    refine hP _ _ _ ?_
    have cx := inb_ok (n := 10) c4.1 (by have := c4.2; omega)
    have hsp : sp_uses S x = (nI (S.1.1.2.2 (tN x)), S) := by unfold sp_uses; rw [if_neg (fun z => z c4)]
    rw [hsp]
    exact ⟨_, hM, hF, congrArg (fun z => some (Value.int z)) (t0.2.2 (tN x) cx.2.1), hR, rfl⟩
theorem c_X11_told (q : Nat) (γ : MF) (S : ST) (x y z : Int32) : CT_X11_told [.ref q, .int x, .int y, .int z] (fun Γ σ sz => FK σ q γ ∧ FR γ S ∧ StOk S) (fun Γ σ sz v σ' sz' => ∃ γ', FK σ' q γ' ∧ Fr q (q + 179) σ σ' ∧ v = some (.int (sp_told S x y z).1) ∧ FR γ' (sp_told S x y z).2 ∧ sz' = sz) := by
  refine CT.mkP rfl (Nat.le_of_ble_eq_true rfl) [_, _, _, _, _] rfl ?_
  intro X Γ σ sz P hX hpre hsz hP
  obtain ⟨hM, hR, ok⟩ := hpre
  obtain ⟨σ0, eσ0⟩ : ∃ z, z = σ := ⟨σ, rfl⟩
  rw [← eσ0] at hP
  have hF : Fr q (q + 179) σ0 σ := by rw [eσ0]; exact Fr.rf
  obtain ⟨r0, r1, r2, r3, r4, r5⟩ := id hR
  obtain ⟨t0, t1, t2, t3, t4, t5, t6, t7, t8⟩ := id r0
  obtain ⟨o1, o2, o3, o4, o5, o6, o7, o8, o9, o10⟩ := id ok.1
  refine S_aload_n (q := 1) hX dX11_told_0 rfl rfl ?_
  refine S_iload_n (q := 2) hX dX11_told_1 rfl rfl ?_
  refine S_callV (ci := 11) (C := "FanTalk") (T := TX11) (N := 11) (q := 5) 0 0 hX (c_X11_isCode q γ S _) rfl ?hs_1 rfl u_338 u_340 us_1 u_1 u_341 ⟨by decide, by decide, rfl⟩ ⟨Nat.le_of_ble_eq_true rfl, Nat.le_of_ble_eq_true rfl⟩ ⟨Nat.le_of_ble_eq_true rfl, Nat.le_of_ble_eq_true rfl⟩ (Nat.le_of_ble_eq_true rfl) dX11_told_2 ?hp_1 rfl rfl rfl ?_
  case hs_1 => first | with_reducible assumption | exact ⟨_, FK.c0 hM⟩ | exact ⟨_, FK.c2 hM⟩ | exact ⟨_, FK.c7 hM⟩ | exact ⟨_, FK.c129 hM⟩ | exact ⟨_, FK.c173 hM⟩ | exact ⟨_, FK.c1 hM⟩
  case hp_1 => exact ⟨hM, hR, ok⟩
  rintro v σ1 sz1 ⟨rfl, rfl, rfl⟩
  refine S_if_eq_b (q := 8) 37 hX dX11_told_5 rfl rfl (fun c5 => ?_) (fun c5 => ?_)
  · refine S_aload_n (q := 38) hX dX11_told_37 rfl rfl ?_
    refine S_bipush (q := 40) (v := (-2)) hX dX11_told_38 bp_m2 rfl ?_
    refine S_bipush (q := 42) (v := (-2)) hX dX11_told_40 bp_m2 rfl ?_
    refine S_callV (ci := 11) (C := "FanTalk") (T := TX11) (N := 11) (q := 45) 0 0 hX (c_X11_refused q γ _ _ 0 (by decide)) rfl ?hs_2 rfl u_323 u_325 us_0 u_1 u_326 ⟨by decide, by decide, rfl⟩ ⟨Nat.le_of_ble_eq_true rfl, Nat.le_of_ble_eq_true rfl⟩ ⟨Nat.le_of_ble_eq_true rfl, Nat.le_of_ble_eq_true rfl⟩ (Nat.le_of_ble_eq_true rfl) dX11_told_42 ?hp_2 rfl rfl rfl ?_
    case hs_2 => first | with_reducible assumption | exact ⟨_, FK.c0 hM⟩ | exact ⟨_, FK.c2 hM⟩ | exact ⟨_, FK.c7 hM⟩ | exact ⟨_, FK.c129 hM⟩ | exact ⟨_, FK.c173 hM⟩ | exact ⟨_, FK.c1 hM⟩
    case hp_2 => exact ⟨hM, by decide⟩
    rintro v σ sz1 ⟨μ9, hM, hF1, rfl, e9, rfl⟩
    have hF := hF.trans hF1
    refine S_iret hX dX11_told_45 (Nat.zero_le _) (Nat.zero_le _) ?_
    refine hP _ _ _ ?_
    have hsp : sp_told S x y z = (-2, rfS S 0) := by unfold sp_told; rw [if_pos (Or.inl c5)]
    rw [hsp]
    exact ⟨_, hM, hF, rfl, hR.rf ok e9, rfl⟩
  · have cx := okc.ex c5
    have hcc := t0.2.1 (tN x) cx.2.1
    have hc8 := (o2.2.1 (tN x) cx.2.1).1
    have hln : γ 3 x.toNatClampNeg = nI (S.1.1.2.1 (tN x)).1 := hcc.1
    refine S_iload_n (q := 9) hX dX11_told_8 rfl rfl ?_
    refine S_if_lt (q := 12) 37 hX dX11_told_9 rfl rfl (fun c9 => ?_) (fun c9 => ?_)
    · have k9 := c9
      rw [lt_i, show ((0 : Int32)).toInt = 0 by decide] at k9
      refine S_aload_n (q := 38) hX dX11_told_37 rfl rfl ?_
      refine S_bipush (q := 40) (v := (-2)) hX dX11_told_38 bp_m2 rfl ?_
      refine S_bipush (q := 42) (v := (-2)) hX dX11_told_40 bp_m2 rfl ?_
      refine S_callV (ci := 11) (C := "FanTalk") (T := TX11) (N := 11) (q := 45) 0 0 hX (c_X11_refused q γ _ _ 0 (by decide)) rfl ?hs_3 rfl u_323 u_325 us_0 u_1 u_326 ⟨by decide, by decide, rfl⟩ ⟨Nat.le_of_ble_eq_true rfl, Nat.le_of_ble_eq_true rfl⟩ ⟨Nat.le_of_ble_eq_true rfl, Nat.le_of_ble_eq_true rfl⟩ (Nat.le_of_ble_eq_true rfl) dX11_told_42 ?hp_3 rfl rfl rfl ?_
      case hs_3 => first | with_reducible assumption | exact ⟨_, FK.c0 hM⟩ | exact ⟨_, FK.c2 hM⟩ | exact ⟨_, FK.c7 hM⟩ | exact ⟨_, FK.c129 hM⟩ | exact ⟨_, FK.c173 hM⟩ | exact ⟨_, FK.c1 hM⟩
      case hp_3 => exact ⟨hM, by decide⟩
      rintro v σ sz1 ⟨μ9, hM, hF1, rfl, e9, rfl⟩
      have hF := hF.trans hF1
      refine S_iret hX dX11_told_45 (Nat.zero_le _) (Nat.zero_le _) ?_
      refine hP _ _ _ ?_
      have hsp : sp_told S x y z = (-2, rfS S 0) := by unfold sp_told; rw [if_pos (Or.inr (Or.inl (fun w => by have := w.1; omega)))]
      rw [hsp]
      exact ⟨_, hM, hF, rfl, hR.rf ok e9, rfl⟩
    · have k9 := c9
      rw [lt_i, show ((0 : Int32)).toInt = 0 by decide] at k9
      refine S_iload_n (q := 13) hX dX11_told_12 rfl rfl ?_
      refine S_aload_n (q := 14) hX dX11_told_13 rfl rfl ?_
      refine S_getf (fs := ?fs_4) (v := ?v_4) (q := 17) hX u_285 fo_X11_now dX11_told_14 ?hs_4 ?hv_4 rfl ?_
      case hs_4 => with_reducible first | exact FK.c0 hM | exact FK.c1 hM | exact FK.c2 hM | exact FK.c7 hM | exact FK.c129 hM | exact FK.c3 hM | exact FK.c4 hM | exact FK.c5 hM | exact FK.c6 hM | exact FK.c39 hM | exact FK.c40 hM | exact FK.c41 hM | exact FK.c42 hM | exact FK.c43 hM | exact FK.c128 hM | exact FK.c136 hM | exact FK.c137 hM | exact FK.c173 hM | exact FK.c174 hM | exact FK.c175 hM | exact FK.c176 hM | exact FK.c177 hM | exact FK.c178 hM
      case hv_4 => rfl
      refine S_getf (fs := ?fs_5) (v := ?v_5) (q := 20) hX u_85 fo_X9_codes dX11_told_17 ?hs_5 ?hv_5 rfl ?_
      case hs_5 => with_reducible first | exact FK.c0 hM | exact FK.c1 hM | exact FK.c2 hM | exact FK.c7 hM | exact FK.c129 hM | exact FK.c3 hM | exact FK.c4 hM | exact FK.c5 hM | exact FK.c6 hM | exact FK.c39 hM | exact FK.c40 hM | exact FK.c41 hM | exact FK.c42 hM | exact FK.c43 hM | exact FK.c128 hM | exact FK.c136 hM | exact FK.c137 hM | exact FK.c173 hM | exact FK.c174 hM | exact FK.c175 hM | exact FK.c176 hM | exact FK.c177 hM | exact FK.c178 hM
      case hv_5 => rfl
      refine S_getf (fs := ?fs_6) (v := ?v_6) (q := 23) hX u_44 fo_X2_entries dX11_told_20 ?hs_6 ?hv_6 rfl ?_
      case hs_6 => with_reducible first | exact FK.c0 hM | exact FK.c1 hM | exact FK.c2 hM | exact FK.c7 hM | exact FK.c129 hM | exact FK.c3 hM | exact FK.c4 hM | exact FK.c5 hM | exact FK.c6 hM | exact FK.c39 hM | exact FK.c40 hM | exact FK.c41 hM | exact FK.c42 hM | exact FK.c43 hM | exact FK.c128 hM | exact FK.c136 hM | exact FK.c137 hM | exact FK.c173 hM | exact FK.c174 hM | exact FK.c175 hM | exact FK.c176 hM | exact FK.c177 hM | exact FK.c178 hM
      case hv_6 => rfl
      refine S_iload_n (q := 24) hX dX11_told_23 rfl rfl ?_
      refine S_iald (N := ?n_7) (f := ?f_7) (q := 25) hX dX11_told_24 ?hs_7 ?hi_7 rfl ?_
      case hs_7 => with_reducible first | exact FK.c0 hM | exact FK.c1 hM | exact FK.c2 hM | exact FK.c7 hM | exact FK.c129 hM | exact FK.c3 hM | exact FK.c4 hM | exact FK.c5 hM | exact FK.c6 hM | exact FK.c39 hM | exact FK.c40 hM | exact FK.c41 hM | exact FK.c42 hM | exact FK.c43 hM | exact FK.c128 hM | exact FK.c136 hM | exact FK.c137 hM | exact FK.c173 hM | exact FK.c174 hM | exact FK.c175 hM | exact FK.c176 hM | exact FK.c177 hM | exact FK.c178 hM
      case hi_7 => rw [vp_in_iff]; have := c5.1; have := c5.2; omega
      refine S_icmp_ge (q := 28) 37 hX dX11_told_25 rfl rfl (fun c25 => ?_) (fun c25 => ?_)
      · have k25 := c25
        rw [hln, le_i, nI_toInt (by omega)] at k25
        refine S_aload_n (q := 38) hX dX11_told_37 rfl rfl ?_
        refine S_bipush (q := 40) (v := (-2)) hX dX11_told_38 bp_m2 rfl ?_
        refine S_bipush (q := 42) (v := (-2)) hX dX11_told_40 bp_m2 rfl ?_
        refine S_callV (ci := 11) (C := "FanTalk") (T := TX11) (N := 11) (q := 45) 0 0 hX (c_X11_refused q γ _ _ 0 (by decide)) rfl ?hs_8 rfl u_323 u_325 us_0 u_1 u_326 ⟨by decide, by decide, rfl⟩ ⟨Nat.le_of_ble_eq_true rfl, Nat.le_of_ble_eq_true rfl⟩ ⟨Nat.le_of_ble_eq_true rfl, Nat.le_of_ble_eq_true rfl⟩ (Nat.le_of_ble_eq_true rfl) dX11_told_42 ?hp_8 rfl rfl rfl ?_
        case hs_8 => first | with_reducible assumption | exact ⟨_, FK.c0 hM⟩ | exact ⟨_, FK.c2 hM⟩ | exact ⟨_, FK.c7 hM⟩ | exact ⟨_, FK.c129 hM⟩ | exact ⟨_, FK.c173 hM⟩ | exact ⟨_, FK.c1 hM⟩
        case hp_8 => exact ⟨hM, by decide⟩
        rintro v σ sz1 ⟨μ9, hM, hF1, rfl, e9, rfl⟩
        have hF := hF.trans hF1
        refine S_iret hX dX11_told_45 (Nat.zero_le _) (Nat.zero_le _) ?_
        refine hP _ _ _ ?_
        have hsp : sp_told S x y z = (-2, rfS S 0) := by unfold sp_told; rw [if_pos (Or.inr (Or.inl (fun w => by have := w.2; omega)))]
        rw [hsp]
        exact ⟨_, hM, hF, rfl, hR.rf ok e9, rfl⟩
      · have k25 := c25
        rw [hln, le_i, nI_toInt (by omega)] at k25
        refine S_iload_n (q := 29) hX dX11_told_28 rfl rfl ?_
        refine S_if_lt (q := 32) 37 hX dX11_told_29 rfl rfl (fun c29 => ?_) (fun c29 => ?_)
        · have k29 := c29
          rw [lt_i, show ((0 : Int32)).toInt = 0 by decide] at k29
          refine S_aload_n (q := 38) hX dX11_told_37 rfl rfl ?_
          refine S_bipush (q := 40) (v := (-2)) hX dX11_told_38 bp_m2 rfl ?_
          refine S_bipush (q := 42) (v := (-2)) hX dX11_told_40 bp_m2 rfl ?_
          refine S_callV (ci := 11) (C := "FanTalk") (T := TX11) (N := 11) (q := 45) 0 0 hX (c_X11_refused q γ _ _ 0 (by decide)) rfl ?hs_9 rfl u_323 u_325 us_0 u_1 u_326 ⟨by decide, by decide, rfl⟩ ⟨Nat.le_of_ble_eq_true rfl, Nat.le_of_ble_eq_true rfl⟩ ⟨Nat.le_of_ble_eq_true rfl, Nat.le_of_ble_eq_true rfl⟩ (Nat.le_of_ble_eq_true rfl) dX11_told_42 ?hp_9 rfl rfl rfl ?_
          case hs_9 => first | with_reducible assumption | exact ⟨_, FK.c0 hM⟩ | exact ⟨_, FK.c2 hM⟩ | exact ⟨_, FK.c7 hM⟩ | exact ⟨_, FK.c129 hM⟩ | exact ⟨_, FK.c173 hM⟩ | exact ⟨_, FK.c1 hM⟩
          case hp_9 => exact ⟨hM, by decide⟩
          rintro v σ sz1 ⟨μ9, hM, hF1, rfl, e9, rfl⟩
          have hF := hF.trans hF1
          refine S_iret hX dX11_told_45 (Nat.zero_le _) (Nat.zero_le _) ?_
          refine hP _ _ _ ?_
          have hsp : sp_told S x y z = (-2, rfS S 0) := by unfold sp_told; rw [if_pos (Or.inr (Or.inr (fun w => by have := w.1; omega)))]
          rw [hsp]
          exact ⟨_, hM, hF, rfl, hR.rf ok e9, rfl⟩
        · have k29 := c29
          rw [lt_i, show ((0 : Int32)).toInt = 0 by decide] at k29
          refine S_iload_n (q := 33) hX dX11_told_32 rfl rfl ?_
          refine S_iconst (q := 34) (v := 1) hX dX11_told_33 ic_1 rfl ?_
          refine S_icmp_le (q := 37) 46 hX dX11_told_34 rfl rfl (fun c34 => ?_) (fun c34 => ?_)
          · have k34 := c34
            rw [le_i, show ((1 : Int32)).toInt = 1 by decide] at k34
            have cy := inb_ok (x := y) (n := (S.1.1.2.1 (tN x)).1) (by omega) (by omega)
            have hix : x * 8 + y = nI (8 * tN x + tN y) := (congrArg (· * 8 + y) cx.1).trans ((congrArg (nI (tN x) * 8 + ·) cy.1).trans (by rw [i8, pk_mul, nI_add, Nat.mul_comm]))
            refine S_iload_n (q := 47) hX dX11_told_46 rfl rfl ?_
            refine S_bipush (q := 49) (v := 8) hX dX11_told_47 bp_8 rfl ?_
            refine S_imul (q := 50) hX dX11_told_49 rfl ?_
            refine S_iload_n (q := 51) hX dX11_told_50 rfl rfl ?_
            refine S_iadd (q := 52) hX dX11_told_51 rfl ?_
            refine S_istore (q := 54) [_, _, _, _, _] hX dX11_told_52 rfl (Nat.le_of_ble_eq_true rfl) rfl rfl ?_
            refine S_iload_n (q := 55) hX dX11_told_54 rfl rfl ?_
            refine S_if_ne (q := 58) 74 hX dX11_told_55 rfl rfl (fun c55 => ?_) (fun c55 => ?_)
            · refine S_aload_n (q := 75) hX dX11_told_74 rfl rfl ?_
              refine S_getf (fs := ?fs_10) (v := ?v_10) (q := 78) hX u_285 fo_X11_now dX11_told_75 ?hs_10 ?hv_10 rfl ?_
              case hs_10 => with_reducible first | exact FK.c0 hM | exact FK.c1 hM | exact FK.c2 hM | exact FK.c7 hM | exact FK.c129 hM | exact FK.c3 hM | exact FK.c4 hM | exact FK.c5 hM | exact FK.c6 hM | exact FK.c39 hM | exact FK.c40 hM | exact FK.c41 hM | exact FK.c42 hM | exact FK.c43 hM | exact FK.c128 hM | exact FK.c136 hM | exact FK.c137 hM | exact FK.c173 hM | exact FK.c174 hM | exact FK.c175 hM | exact FK.c176 hM | exact FK.c177 hM | exact FK.c178 hM
              case hv_10 => rfl
              refine S_getf (fs := ?fs_11) (v := ?v_11) (q := 81) hX u_85 fo_X9_codes dX11_told_78 ?hs_11 ?hv_11 rfl ?_
              case hs_11 => with_reducible first | exact FK.c0 hM | exact FK.c1 hM | exact FK.c2 hM | exact FK.c7 hM | exact FK.c129 hM | exact FK.c3 hM | exact FK.c4 hM | exact FK.c5 hM | exact FK.c6 hM | exact FK.c39 hM | exact FK.c40 hM | exact FK.c41 hM | exact FK.c42 hM | exact FK.c43 hM | exact FK.c128 hM | exact FK.c136 hM | exact FK.c137 hM | exact FK.c173 hM | exact FK.c174 hM | exact FK.c175 hM | exact FK.c176 hM | exact FK.c177 hM | exact FK.c178 hM
              case hv_11 => rfl
              refine S_getf (fs := ?fs_12) (v := ?v_12) (q := 84) hX u_52 fo_X2_words dX11_told_81 ?hs_12 ?hv_12 rfl ?_
              case hs_12 => with_reducible first | exact FK.c0 hM | exact FK.c1 hM | exact FK.c2 hM | exact FK.c7 hM | exact FK.c129 hM | exact FK.c3 hM | exact FK.c4 hM | exact FK.c5 hM | exact FK.c6 hM | exact FK.c39 hM | exact FK.c40 hM | exact FK.c41 hM | exact FK.c42 hM | exact FK.c43 hM | exact FK.c128 hM | exact FK.c136 hM | exact FK.c137 hM | exact FK.c173 hM | exact FK.c174 hM | exact FK.c175 hM | exact FK.c176 hM | exact FK.c177 hM | exact FK.c178 hM
              case hv_12 => rfl
              refine S_iload (q := 86) hX dX11_told_84 rfl rfl ?_
              refine S_iald (N := ?n_13) (f := ?f_13) (q := 87) hX dX11_told_86 ?hs_13 ?hi_13 rfl ?_
              case hs_13 => with_reducible first | exact FK.c0 hM | exact FK.c1 hM | exact FK.c2 hM | exact FK.c7 hM | exact FK.c129 hM | exact FK.c3 hM | exact FK.c4 hM | exact FK.c5 hM | exact FK.c6 hM | exact FK.c39 hM | exact FK.c40 hM | exact FK.c41 hM | exact FK.c42 hM | exact FK.c43 hM | exact FK.c128 hM | exact FK.c136 hM | exact FK.c137 hM | exact FK.c173 hM | exact FK.c174 hM | exact FK.c175 hM | exact FK.c176 hM | exact FK.c177 hM | exact FK.c178 hM
              case hi_13 => rw [hix]; exact vp_in_nI (by omega) (by decide)
              refine S_iret hX dX11_told_87 (Nat.zero_le _) (Nat.zero_le _) ?_
              refine hP _ _ _ ?_
              have hz : ¬ z.toInt = 0 := fun w => c55 (eq_i.mpr (w.trans toI0.symm))
              have hsp : sp_told S x y z = (nI ((S.1.1.2.1 (tN x)).2 (tN y)).2, S) := by unfold sp_told; rw [if_neg (by rintro (w | w | w); exact w c5; exact w ⟨by omega, by omega⟩; exact w ⟨by omega, by omega⟩), if_neg hz]
              rw [hsp]
              exact ⟨_, hM, hF, congrArg (fun z => some (Value.int z)) (by rw [hix, nI_clamp (by omega)]; exact (hcc.2 (tN y) cy.2.1).2), hR, rfl⟩
            · refine S_aload_n (q := 59) hX dX11_told_58 rfl rfl ?_
              refine S_getf (fs := ?fs_14) (v := ?v_14) (q := 62) hX u_285 fo_X11_now dX11_told_59 ?hs_14 ?hv_14 rfl ?_
              case hs_14 => with_reducible first | exact FK.c0 hM | exact FK.c1 hM | exact FK.c2 hM | exact FK.c7 hM | exact FK.c129 hM | exact FK.c3 hM | exact FK.c4 hM | exact FK.c5 hM | exact FK.c6 hM | exact FK.c39 hM | exact FK.c40 hM | exact FK.c41 hM | exact FK.c42 hM | exact FK.c43 hM | exact FK.c128 hM | exact FK.c136 hM | exact FK.c137 hM | exact FK.c173 hM | exact FK.c174 hM | exact FK.c175 hM | exact FK.c176 hM | exact FK.c177 hM | exact FK.c178 hM
              case hv_14 => rfl
              refine S_getf (fs := ?fs_15) (v := ?v_15) (q := 65) hX u_85 fo_X9_codes dX11_told_62 ?hs_15 ?hv_15 rfl ?_
              case hs_15 => with_reducible first | exact FK.c0 hM | exact FK.c1 hM | exact FK.c2 hM | exact FK.c7 hM | exact FK.c129 hM | exact FK.c3 hM | exact FK.c4 hM | exact FK.c5 hM | exact FK.c6 hM | exact FK.c39 hM | exact FK.c40 hM | exact FK.c41 hM | exact FK.c42 hM | exact FK.c43 hM | exact FK.c128 hM | exact FK.c136 hM | exact FK.c137 hM | exact FK.c173 hM | exact FK.c174 hM | exact FK.c175 hM | exact FK.c176 hM | exact FK.c177 hM | exact FK.c178 hM
              case hv_15 => rfl
              refine S_getf (fs := ?fs_16) (v := ?v_16) (q := 68) hX u_49 fo_X2_rows dX11_told_65 ?hs_16 ?hv_16 rfl ?_
              case hs_16 => with_reducible first | exact FK.c0 hM | exact FK.c1 hM | exact FK.c2 hM | exact FK.c7 hM | exact FK.c129 hM | exact FK.c3 hM | exact FK.c4 hM | exact FK.c5 hM | exact FK.c6 hM | exact FK.c39 hM | exact FK.c40 hM | exact FK.c41 hM | exact FK.c42 hM | exact FK.c43 hM | exact FK.c128 hM | exact FK.c136 hM | exact FK.c137 hM | exact FK.c173 hM | exact FK.c174 hM | exact FK.c175 hM | exact FK.c176 hM | exact FK.c177 hM | exact FK.c178 hM
              case hv_16 => rfl
              refine S_iload (q := 70) hX dX11_told_68 rfl rfl ?_
              refine S_iald (N := ?n_17) (f := ?f_17) (q := 71) hX dX11_told_70 ?hs_17 ?hi_17 rfl ?_
              case hs_17 => with_reducible first | exact FK.c0 hM | exact FK.c1 hM | exact FK.c2 hM | exact FK.c7 hM | exact FK.c129 hM | exact FK.c3 hM | exact FK.c4 hM | exact FK.c5 hM | exact FK.c6 hM | exact FK.c39 hM | exact FK.c40 hM | exact FK.c41 hM | exact FK.c42 hM | exact FK.c43 hM | exact FK.c128 hM | exact FK.c136 hM | exact FK.c137 hM | exact FK.c173 hM | exact FK.c174 hM | exact FK.c175 hM | exact FK.c176 hM | exact FK.c177 hM | exact FK.c178 hM
              case hi_17 => rw [hix]; exact vp_in_nI (by omega) (by decide)
              refine S_goto 87 hX dX11_told_71 rfl ?_
              refine S_iret hX dX11_told_87 (Nat.zero_le _) (Nat.zero_le _) ?_
              refine hP _ _ _ ?_
              have hz : z.toInt = 0 := (eq_i.mp c55).trans toI0
              have hsp : sp_told S x y z = (nI ((S.1.1.2.1 (tN x)).2 (tN y)).1, S) := by unfold sp_told; rw [if_neg (by rintro (w | w | w); exact w c5; exact w ⟨by omega, by omega⟩; exact w ⟨by omega, by omega⟩), if_pos hz]
              rw [hsp]
              exact ⟨_, hM, hF, congrArg (fun z => some (Value.int z)) (by rw [hix, nI_clamp (by omega)]; exact (hcc.2 (tN y) cy.2.1).1), hR, rfl⟩
          · have k34 := c34
            rw [le_i, show ((1 : Int32)).toInt = 1 by decide] at k34
            refine S_aload_n (q := 38) hX dX11_told_37 rfl rfl ?_
            refine S_bipush (q := 40) (v := (-2)) hX dX11_told_38 bp_m2 rfl ?_
            refine S_bipush (q := 42) (v := (-2)) hX dX11_told_40 bp_m2 rfl ?_
            refine S_callV (ci := 11) (C := "FanTalk") (T := TX11) (N := 11) (q := 45) 0 0 hX (c_X11_refused q γ _ _ 0 (by decide)) rfl ?hs_18 rfl u_323 u_325 us_0 u_1 u_326 ⟨by decide, by decide, rfl⟩ ⟨Nat.le_of_ble_eq_true rfl, Nat.le_of_ble_eq_true rfl⟩ ⟨Nat.le_of_ble_eq_true rfl, Nat.le_of_ble_eq_true rfl⟩ (Nat.le_of_ble_eq_true rfl) dX11_told_42 ?hp_18 rfl rfl rfl ?_
            case hs_18 => first | with_reducible assumption | exact ⟨_, FK.c0 hM⟩ | exact ⟨_, FK.c2 hM⟩ | exact ⟨_, FK.c7 hM⟩ | exact ⟨_, FK.c129 hM⟩ | exact ⟨_, FK.c173 hM⟩ | exact ⟨_, FK.c1 hM⟩
            case hp_18 => exact ⟨hM, by decide⟩
            rintro v σ sz1 ⟨μ9, hM, hF1, rfl, e9, rfl⟩
            have hF := hF.trans hF1
            refine S_iret hX dX11_told_45 (Nat.zero_le _) (Nat.zero_le _) ?_
            refine hP _ _ _ ?_
            have hsp : sp_told S x y z = (-2, rfS S 0) := by unfold sp_told; rw [if_pos (Or.inr (Or.inr (fun w => by have := w.2; omega)))]
            rw [hsp]
            exact ⟨_, hM, hF, rfl, hR.rf ok e9, rfl⟩
theorem c_X11_want (q : Nat) (γ : MF) (S : ST) (x : Int32) : CT_X11_want [.ref q, .int x] (fun Γ σ sz => FK σ q γ ∧ FR γ S ∧ StOk S) (fun Γ σ sz v σ' sz' => ∃ γ', FK σ' q γ' ∧ Fr q (q + 179) σ σ' ∧ v = some (.int (sp_want S x).1) ∧ FR γ' (sp_want S x).2 ∧ sz' = sz) := by
  refine CT.mkP rfl (Nat.le_of_ble_eq_true rfl) [_, _] rfl ?_
  intro X Γ σ sz P hX hpre hsz hP
  obtain ⟨hM, hR, ok⟩ := hpre
  obtain ⟨σ0, eσ0⟩ : ∃ z, z = σ := ⟨σ, rfl⟩
  rw [← eσ0] at hP
  have hF : Fr q (q + 179) σ0 σ := by rw [eσ0]; exact Fr.rf
  obtain ⟨r0, r1, r2, r3, r4, r5⟩ := id hR
  obtain ⟨t0, t1, t2, t3, t4, t5, t6, t7, t8⟩ := id r0
  obtain ⟨o1, o2, o3, o4, o5, o6, o7, o8, o9, o10⟩ := id ok.1
  have hw : γ 1 2 = nI S.1.2.2.2.2.1.1 := t5
  refine S_iload_n (q := 1) hX dX11_want_0 rfl rfl ?_
  refine S_callS (q := 4) 0 0 hX (c_X11_isWord _) rfl u_342 u_343 u_1 u_344 ⟨by decide, by decide, rfl⟩ ⟨Nat.le_of_ble_eq_true rfl, Nat.le_of_ble_eq_true rfl⟩ ⟨Nat.le_of_ble_eq_true rfl, Nat.le_of_ble_eq_true rfl⟩ (Nat.le_of_ble_eq_true rfl) dX11_want_1 ?hp_1 rfl rfl rfl ?_
  case hp_1 => trivial
  rintro v σ1 sz1 ⟨rfl, rfl, rfl⟩
  refine S_if_ne_b (q := 7) 16 hX dX11_want_4 rfl rfl (fun c4 => ?_) (fun c4 => ?_)
  · refine S_aload_n (q := 17) hX dX11_want_16 rfl rfl ?_
    refine S_getf (fs := ?fs_2) (v := ?v_2) (q := 20) hX u_285 fo_X11_now dX11_want_17 ?hs_2 ?hv_2 rfl ?_
    case hs_2 => with_reducible first | exact FK.c0 hM | exact FK.c1 hM | exact FK.c2 hM | exact FK.c7 hM | exact FK.c129 hM | exact FK.c3 hM | exact FK.c4 hM | exact FK.c5 hM | exact FK.c6 hM | exact FK.c39 hM | exact FK.c40 hM | exact FK.c41 hM | exact FK.c42 hM | exact FK.c43 hM | exact FK.c128 hM | exact FK.c136 hM | exact FK.c137 hM | exact FK.c173 hM | exact FK.c174 hM | exact FK.c175 hM | exact FK.c176 hM | exact FK.c177 hM | exact FK.c178 hM
    case hv_2 => rfl
    refine S_getf (fs := ?fs_3) (v := ?v_3) (q := 23) hX u_97 fo_X9_wants dX11_want_20 ?hs_3 ?hv_3 rfl ?_
    case hs_3 => with_reducible first | exact FK.c0 hM | exact FK.c1 hM | exact FK.c2 hM | exact FK.c7 hM | exact FK.c129 hM | exact FK.c3 hM | exact FK.c4 hM | exact FK.c5 hM | exact FK.c6 hM | exact FK.c39 hM | exact FK.c40 hM | exact FK.c41 hM | exact FK.c42 hM | exact FK.c43 hM | exact FK.c128 hM | exact FK.c136 hM | exact FK.c137 hM | exact FK.c173 hM | exact FK.c174 hM | exact FK.c175 hM | exact FK.c176 hM | exact FK.c177 hM | exact FK.c178 hM
    case hv_3 => rfl
    refine S_iconst (q := 24) (v := 4) hX dX11_want_23 ic_4 rfl ?_
    refine S_icmp_lt (q := 27) 36 hX dX11_want_24 rfl rfl (fun c24 => ?_) (fun c24 => ?_)
    · have k24 := c24
      rw [hw, show (4 : Int32) = nI 4 from rfl, nI_ltI (by omega) (by omega)] at k24
      refine S_aload_n (q := 37) hX dX11_want_36 rfl rfl ?_
      refine S_getf (fs := ?fs_4) (v := ?v_4) (q := 40) hX u_285 fo_X11_now dX11_want_37 ?hs_4 ?hv_4 rfl ?_
      case hs_4 => with_reducible first | exact FK.c0 hM | exact FK.c1 hM | exact FK.c2 hM | exact FK.c7 hM | exact FK.c129 hM | exact FK.c3 hM | exact FK.c4 hM | exact FK.c5 hM | exact FK.c6 hM | exact FK.c39 hM | exact FK.c40 hM | exact FK.c41 hM | exact FK.c42 hM | exact FK.c43 hM | exact FK.c128 hM | exact FK.c136 hM | exact FK.c137 hM | exact FK.c173 hM | exact FK.c174 hM | exact FK.c175 hM | exact FK.c176 hM | exact FK.c177 hM | exact FK.c178 hM
      case hv_4 => rfl
      refine S_getf (fs := ?fs_5) (v := ?v_5) (q := 43) hX u_95 fo_X9_want dX11_want_40 ?hs_5 ?hv_5 rfl ?_
      case hs_5 => with_reducible first | exact FK.c0 hM | exact FK.c1 hM | exact FK.c2 hM | exact FK.c7 hM | exact FK.c129 hM | exact FK.c3 hM | exact FK.c4 hM | exact FK.c5 hM | exact FK.c6 hM | exact FK.c39 hM | exact FK.c40 hM | exact FK.c41 hM | exact FK.c42 hM | exact FK.c43 hM | exact FK.c128 hM | exact FK.c136 hM | exact FK.c137 hM | exact FK.c173 hM | exact FK.c174 hM | exact FK.c175 hM | exact FK.c176 hM | exact FK.c177 hM | exact FK.c178 hM
      case hv_5 => rfl
      refine S_aload_n (q := 44) hX dX11_want_43 rfl rfl ?_
      refine S_getf (fs := ?fs_6) (v := ?v_6) (q := 47) hX u_285 fo_X11_now dX11_want_44 ?hs_6 ?hv_6 rfl ?_
      case hs_6 => with_reducible first | exact FK.c0 hM | exact FK.c1 hM | exact FK.c2 hM | exact FK.c7 hM | exact FK.c129 hM | exact FK.c3 hM | exact FK.c4 hM | exact FK.c5 hM | exact FK.c6 hM | exact FK.c39 hM | exact FK.c40 hM | exact FK.c41 hM | exact FK.c42 hM | exact FK.c43 hM | exact FK.c128 hM | exact FK.c136 hM | exact FK.c137 hM | exact FK.c173 hM | exact FK.c174 hM | exact FK.c175 hM | exact FK.c176 hM | exact FK.c177 hM | exact FK.c178 hM
      case hv_6 => rfl
      refine S_getf (fs := ?fs_7) (v := ?v_7) (q := 50) hX u_97 fo_X9_wants dX11_want_47 ?hs_7 ?hv_7 rfl ?_
      case hs_7 => with_reducible first | exact FK.c0 hM | exact FK.c1 hM | exact FK.c2 hM | exact FK.c7 hM | exact FK.c129 hM | exact FK.c3 hM | exact FK.c4 hM | exact FK.c5 hM | exact FK.c6 hM | exact FK.c39 hM | exact FK.c40 hM | exact FK.c41 hM | exact FK.c42 hM | exact FK.c43 hM | exact FK.c128 hM | exact FK.c136 hM | exact FK.c137 hM | exact FK.c173 hM | exact FK.c174 hM | exact FK.c175 hM | exact FK.c176 hM | exact FK.c177 hM | exact FK.c178 hM
      case hv_7 => rfl
      refine S_iload_n (q := 51) hX dX11_want_50 rfl rfl ?_
      refine S_nm (fun x51 hx51 => ?_)
      refine S_iast (N := ?n_8) (f := ?f_8) (q := 52) hX dX11_want_51 ?hs_8 ?hi_8 rfl ?_
      case hs_8 => with_reducible first | exact FK.c0 hM | exact FK.c1 hM | exact FK.c2 hM | exact FK.c7 hM | exact FK.c129 hM | exact FK.c3 hM | exact FK.c4 hM | exact FK.c5 hM | exact FK.c6 hM | exact FK.c39 hM | exact FK.c40 hM | exact FK.c41 hM | exact FK.c42 hM | exact FK.c43 hM | exact FK.c128 hM | exact FK.c136 hM | exact FK.c137 hM | exact FK.c173 hM | exact FK.c174 hM | exact FK.c175 hM | exact FK.c176 hM | exact FK.c177 hM | exact FK.c178 hM
      case hi_8 => rw [hw]; exact vp_in_nI (by omega) (by decide)
      refine S_stu (q0 := q) (j := 40) (i := _) hM hF (by decide) rfl (fun σ μ51 e51 hM hF => ?_)
      subst hx51
      refine S_aload_n (q := 53) hX dX11_want_52 rfl rfl ?_
      refine S_getf (fs := ?fs_9) (v := ?v_9) (q := 56) hX u_285 fo_X11_now dX11_want_53 ?hs_9 ?hv_9 rfl ?_
      case hs_9 => with_reducible first | exact FK.c0 hM | exact FK.c1 hM | exact FK.c2 hM | exact FK.c7 hM | exact FK.c129 hM | exact FK.c3 hM | exact FK.c4 hM | exact FK.c5 hM | exact FK.c6 hM | exact FK.c39 hM | exact FK.c40 hM | exact FK.c41 hM | exact FK.c42 hM | exact FK.c43 hM | exact FK.c128 hM | exact FK.c136 hM | exact FK.c137 hM | exact FK.c173 hM | exact FK.c174 hM | exact FK.c175 hM | exact FK.c176 hM | exact FK.c177 hM | exact FK.c178 hM
      case hv_9 => rfl
      refine S_dup (q := 57) hX dX11_want_56 rfl rfl ?_
      refine S_getf (fs := ?fs_10) (v := ?v_10) (q := 60) hX u_97 fo_X9_wants dX11_want_57 ?hs_10 ?hv_10 rfl ?_
      case hs_10 => with_reducible first | exact FK.c0 hM | exact FK.c1 hM | exact FK.c2 hM | exact FK.c7 hM | exact FK.c129 hM | exact FK.c3 hM | exact FK.c4 hM | exact FK.c5 hM | exact FK.c6 hM | exact FK.c39 hM | exact FK.c40 hM | exact FK.c41 hM | exact FK.c42 hM | exact FK.c43 hM | exact FK.c128 hM | exact FK.c136 hM | exact FK.c137 hM | exact FK.c173 hM | exact FK.c174 hM | exact FK.c175 hM | exact FK.c176 hM | exact FK.c177 hM | exact FK.c178 hM
      case hv_10 => rfl
      refine S_iconst (q := 61) (v := 1) hX dX11_want_60 ic_1 rfl ?_
      refine S_iadd (q := 62) hX dX11_want_61 rfl ?_
      refine S_nm (fun x62 hx62 => ?_)
      refine S_putf (fs := ?fs_11) (q := 65) hX u_97 fo_X9_wants rfl rfl ?hl_11 dX11_want_62 ?hs_11 rfl ?_
      case hs_11 => with_reducible first | exact FK.c0 hM | exact FK.c1 hM | exact FK.c2 hM | exact FK.c7 hM | exact FK.c129 hM | exact FK.c3 hM | exact FK.c4 hM | exact FK.c5 hM | exact FK.c6 hM | exact FK.c39 hM | exact FK.c40 hM | exact FK.c41 hM | exact FK.c42 hM | exact FK.c43 hM | exact FK.c128 hM | exact FK.c136 hM | exact FK.c137 hM | exact FK.c173 hM | exact FK.c174 hM | exact FK.c175 hM | exact FK.c176 hM | exact FK.c177 hM | exact FK.c178 hM
      case hl_11 => exact Nat.le_of_ble_eq_true rfl
      refine S_stu (q0 := q) (j := 1) (i := 2) hM hF (by decide) rfl (fun σ μ62 e62 hM hF => ?_)
      subst hx62
      refine S_aload_n (q := 66) hX dX11_want_65 rfl rfl ?_
      refine S_getf (fs := ?fs_12) (v := ?v_12) (q := 69) hX u_285 fo_X11_now dX11_want_66 ?hs_12 ?hv_12 rfl ?_
      case hs_12 => with_reducible first | exact FK.c0 hM | exact FK.c1 hM | exact FK.c2 hM | exact FK.c7 hM | exact FK.c129 hM | exact FK.c3 hM | exact FK.c4 hM | exact FK.c5 hM | exact FK.c6 hM | exact FK.c39 hM | exact FK.c40 hM | exact FK.c41 hM | exact FK.c42 hM | exact FK.c43 hM | exact FK.c128 hM | exact FK.c136 hM | exact FK.c137 hM | exact FK.c173 hM | exact FK.c174 hM | exact FK.c175 hM | exact FK.c176 hM | exact FK.c177 hM | exact FK.c178 hM
      case hv_12 => rfl
      refine S_getf (fs := ?fs_13) (v := ?v_13) (q := 72) hX u_97 fo_X9_wants dX11_want_69 ?hs_13 ?hv_13 rfl ?_
      case hs_13 => with_reducible first | exact FK.c0 hM | exact FK.c1 hM | exact FK.c2 hM | exact FK.c7 hM | exact FK.c129 hM | exact FK.c3 hM | exact FK.c4 hM | exact FK.c5 hM | exact FK.c6 hM | exact FK.c39 hM | exact FK.c40 hM | exact FK.c41 hM | exact FK.c42 hM | exact FK.c43 hM | exact FK.c128 hM | exact FK.c136 hM | exact FK.c137 hM | exact FK.c173 hM | exact FK.c174 hM | exact FK.c175 hM | exact FK.c176 hM | exact FK.c177 hM | exact FK.c178 hM
      case hv_13 => rfl
      refine S_iret hX dX11_want_72 (Nat.zero_le _) (Nat.zero_le _) ?_
      refine hP _ _ _ ?_
      have cx := tN_ex c4.1
      have hsp : sp_want S x51 = (nI (S.1.2.2.2.2.1.1 + 1), stC S (S.1.1, S.1.2.1, S.1.2.2.1, S.1.2.2.2.1, (S.1.2.2.2.2.1.1 + 1, fu S.1.2.2.2.2.1.2 S.1.2.2.2.2.1.1 (tN x51)), S.1.2.2.2.2.2)) := by unfold sp_want; rw [if_neg (fun z => z c4), if_neg (by omega)]
      rw [hsp]
      rw [hw, nI_clamp (by omega)] at e51
      have hw2 : μ51 1 2 = nI S.1.2.2.2.2.1.1 := by rw [e51, m2_o (by decide)]; exact hw
      rw [hw2, nI_1] at e62
      have g : ∀ j, j ≠ 1 → j ≠ 40 → μ62 j = γ j := fun j h1 h2 => by rw [e62, m2_o h1, e51, m2_o h2]
      have g0 : ∀ i, i ≠ 2 → μ62 1 i = γ 1 i := fun i hi => by rw [e62, m2_at, if_neg (fun z => hi z.2), e51, m2_o (by decide)]
      refine ⟨_, hM, hF, by rw [e62, m2_at, if_pos ⟨rfl, rfl⟩], hR.now ok (fun j a b => g j (by omega) (by omega)) ⟨t0.ext (fun j hj => g _ (by omega) (by omega)), t1.ext o3 (fun j h1 h2 => g _ (by omega) (by omega)), (g0 0 (by decide)).trans t2, (g0 1 (by decide)).trans t3, fun k hk => by show μ62 (1 + 38) k = _; rw [g _ (by decide) (by decide)]; exact t4 k hk, by show μ62 1 2 = _; rw [e62, m2_at, if_pos ⟨rfl, rfl⟩], fun k hk => ?_, (g0 3 (by decide)).trans t7, fun k hk => by show μ62 (1 + 40) k = _ ∧ μ62 (1 + 41) k = _; rw [g _ (by decide) (by decide), g _ (by decide) (by decide)]; exact t8 k hk⟩, rfl⟩
      have hk : k < S.1.2.2.2.2.1.1 + 1 := hk
      show μ62 40 k = nI (fu S.1.2.2.2.2.1.2 S.1.2.2.2.2.1.1 (tN x51) k)
      rw [e62, m2_o (by decide), e51, m2_at]
      by_cases hkn : k = S.1.2.2.2.2.1.1
      · rw [if_pos ⟨rfl, hkn⟩, hkn, fu_eq]; exact cx.1
      · rw [if_neg (fun z => hkn z.2), fu_ne hkn]; exact t6 k (by omega)
    · have k24 := c24
      rw [hw, show (4 : Int32) = nI 4 from rfl, nI_ltI (by omega) (by omega)] at k24
      refine S_aload_n (q := 28) hX dX11_want_27 rfl rfl ?_
      refine S_bipush (q := 30) (v := (-4)) hX dX11_want_28 bp_m4 rfl ?_
      refine S_bipush (q := 32) (v := (-4)) hX dX11_want_30 bp_m4 rfl ?_
      refine S_callV (ci := 11) (C := "FanTalk") (T := TX11) (N := 11) (q := 35) 0 0 hX (c_X11_refused q γ _ _ 2 (by decide)) rfl ?hs_14 rfl u_323 u_325 us_0 u_1 u_326 ⟨by decide, by decide, rfl⟩ ⟨Nat.le_of_ble_eq_true rfl, Nat.le_of_ble_eq_true rfl⟩ ⟨Nat.le_of_ble_eq_true rfl, Nat.le_of_ble_eq_true rfl⟩ (Nat.le_of_ble_eq_true rfl) dX11_want_32 ?hp_14 rfl rfl rfl ?_
      case hs_14 => first | with_reducible assumption | exact ⟨_, FK.c0 hM⟩ | exact ⟨_, FK.c2 hM⟩ | exact ⟨_, FK.c7 hM⟩ | exact ⟨_, FK.c129 hM⟩ | exact ⟨_, FK.c173 hM⟩ | exact ⟨_, FK.c1 hM⟩
      case hp_14 => exact ⟨hM, by decide⟩
      rintro v σ sz1 ⟨μ9, hM, hF1, rfl, e9, rfl⟩
      have hF := hF.trans hF1
      refine S_iret hX dX11_want_35 (Nat.zero_le _) (Nat.zero_le _) ?_
      refine hP _ _ _ ?_
      have hsp : sp_want S x = (-4, rfS S 2) := by unfold sp_want; rw [if_neg (fun z => z c4), if_pos (by omega)]
      rw [hsp]
      exact ⟨_, hM, hF, rfl, hR.rf ok e9, rfl⟩
  · refine S_aload_n (q := 8) hX dX11_want_7 rfl rfl ?_
    refine S_bipush (q := 10) (v := (-2)) hX dX11_want_8 bp_m2 rfl ?_
    refine S_bipush (q := 12) (v := (-2)) hX dX11_want_10 bp_m2 rfl ?_
    refine S_callV (ci := 11) (C := "FanTalk") (T := TX11) (N := 11) (q := 15) 0 0 hX (c_X11_refused q γ _ _ 0 (by decide)) rfl ?hs_15 rfl u_323 u_325 us_0 u_1 u_326 ⟨by decide, by decide, rfl⟩ ⟨Nat.le_of_ble_eq_true rfl, Nat.le_of_ble_eq_true rfl⟩ ⟨Nat.le_of_ble_eq_true rfl, Nat.le_of_ble_eq_true rfl⟩ (Nat.le_of_ble_eq_true rfl) dX11_want_12 ?hp_15 rfl rfl rfl ?_
    case hs_15 => first | with_reducible assumption | exact ⟨_, FK.c0 hM⟩ | exact ⟨_, FK.c2 hM⟩ | exact ⟨_, FK.c7 hM⟩ | exact ⟨_, FK.c129 hM⟩ | exact ⟨_, FK.c173 hM⟩ | exact ⟨_, FK.c1 hM⟩
    case hp_15 => exact ⟨hM, by decide⟩
    rintro v σ sz1 ⟨μ9, hM, hF1, rfl, e9, rfl⟩
    have hF := hF.trans hF1
    refine S_iret hX dX11_want_15 (Nat.zero_le _) (Nat.zero_le _) ?_
    refine hP _ _ _ ?_
    have hsp : sp_want S x = (-2, rfS S 0) := by unfold sp_want; rw [if_pos c4]
    rw [hsp]
    exact ⟨_, hM, hF, rfl, hR.rf ok e9, rfl⟩
theorem c_X11_forget (q : Nat) (γ : MF) (S : ST)  : CT_X11_forget [.ref q] (fun Γ σ sz => FK σ q γ ∧ FR γ S ∧ StOk S) (fun Γ σ sz v σ' sz' => ∃ γ', FK σ' q γ' ∧ Fr q (q + 179) σ σ' ∧ v = some (.int (sp_forget S).1) ∧ FR γ' (sp_forget S).2 ∧ sz' = sz) := by
  refine CT.mkP rfl (Nat.le_of_ble_eq_true rfl) [_, _] rfl ?_
  intro X Γ σ sz P hX hpre hsz hP
  obtain ⟨hM, hR, ok⟩ := hpre
  obtain ⟨σ0, eσ0⟩ : ∃ z, z = σ := ⟨σ, rfl⟩
  rw [← eσ0] at hP
  have hF : Fr q (q + 179) σ0 σ := by rw [eσ0]; exact Fr.rf
  obtain ⟨r0, r1, r2, r3, r4, r5⟩ := id hR
  obtain ⟨t0, t1, t2, t3, t4, t5, t6, t7, t8⟩ := id r0
  obtain ⟨o1, o2, o3, o4, o5, o6, o7, o8, o9, o10⟩ := id ok.1
  refine S_aload_n (q := 1) hX dX11_forget_0 rfl rfl ?_
  refine S_getf (fs := ?fs_1) (v := ?v_1) (q := 4) hX u_285 fo_X11_now dX11_forget_1 ?hs_1 ?hv_1 rfl ?_
  case hs_1 => with_reducible first | exact FK.c0 hM | exact FK.c1 hM | exact FK.c2 hM | exact FK.c7 hM | exact FK.c129 hM | exact FK.c3 hM | exact FK.c4 hM | exact FK.c5 hM | exact FK.c6 hM | exact FK.c39 hM | exact FK.c40 hM | exact FK.c41 hM | exact FK.c42 hM | exact FK.c43 hM | exact FK.c128 hM | exact FK.c136 hM | exact FK.c137 hM | exact FK.c173 hM | exact FK.c174 hM | exact FK.c175 hM | exact FK.c176 hM | exact FK.c177 hM | exact FK.c178 hM
  case hv_1 => rfl
  refine S_getf (fs := ?fs_2) (v := ?v_2) (q := 7) hX u_97 fo_X9_wants dX11_forget_4 ?hs_2 ?hv_2 rfl ?_
  case hs_2 => with_reducible first | exact FK.c0 hM | exact FK.c1 hM | exact FK.c2 hM | exact FK.c7 hM | exact FK.c129 hM | exact FK.c3 hM | exact FK.c4 hM | exact FK.c5 hM | exact FK.c6 hM | exact FK.c39 hM | exact FK.c40 hM | exact FK.c41 hM | exact FK.c42 hM | exact FK.c43 hM | exact FK.c128 hM | exact FK.c136 hM | exact FK.c137 hM | exact FK.c173 hM | exact FK.c174 hM | exact FK.c175 hM | exact FK.c176 hM | exact FK.c177 hM | exact FK.c178 hM
  case hv_2 => rfl
  refine S_istore_n (q := 8) [_, _] hX dX11_forget_7 rfl (Nat.le_of_ble_eq_true rfl) rfl rfl ?_
  refine S_aload_n (q := 9) hX dX11_forget_8 rfl rfl ?_
  refine S_getf (fs := ?fs_3) (v := ?v_3) (q := 12) hX u_285 fo_X11_now dX11_forget_9 ?hs_3 ?hv_3 rfl ?_
  case hs_3 => with_reducible first | exact FK.c0 hM | exact FK.c1 hM | exact FK.c2 hM | exact FK.c7 hM | exact FK.c129 hM | exact FK.c3 hM | exact FK.c4 hM | exact FK.c5 hM | exact FK.c6 hM | exact FK.c39 hM | exact FK.c40 hM | exact FK.c41 hM | exact FK.c42 hM | exact FK.c43 hM | exact FK.c128 hM | exact FK.c136 hM | exact FK.c137 hM | exact FK.c173 hM | exact FK.c174 hM | exact FK.c175 hM | exact FK.c176 hM | exact FK.c177 hM | exact FK.c178 hM
  case hv_3 => rfl
  refine S_iconst (q := 13) (v := 0) hX dX11_forget_12 ic_0 rfl ?_
  refine S_nm (fun x13 hx13 => ?_)
  refine S_putf (fs := ?fs_4) (q := 16) hX u_97 fo_X9_wants rfl rfl ?hl_4 dX11_forget_13 ?hs_4 rfl ?_
  case hs_4 => with_reducible first | exact FK.c0 hM | exact FK.c1 hM | exact FK.c2 hM | exact FK.c7 hM | exact FK.c129 hM | exact FK.c3 hM | exact FK.c4 hM | exact FK.c5 hM | exact FK.c6 hM | exact FK.c39 hM | exact FK.c40 hM | exact FK.c41 hM | exact FK.c42 hM | exact FK.c43 hM | exact FK.c128 hM | exact FK.c136 hM | exact FK.c137 hM | exact FK.c173 hM | exact FK.c174 hM | exact FK.c175 hM | exact FK.c176 hM | exact FK.c177 hM | exact FK.c178 hM
  case hl_4 => exact Nat.le_of_ble_eq_true rfl
  refine S_stu (q0 := q) (j := 1) (i := 2) hM hF (by decide) rfl (fun σ μ13 e13 hM hF => ?_)
  subst hx13
  refine S_iload_n (q := 17) hX dX11_forget_16 rfl rfl ?_
  refine S_iret hX dX11_forget_17 (Nat.zero_le _) (Nat.zero_le _) ?_
  refine hP _ _ _ ?_
  have g : ∀ j, j ≠ 1 → μ13 j = γ j := fun j h1 => by rw [e13, m2_o h1]
  have g0 : ∀ i, i ≠ 2 → μ13 1 i = γ 1 i := fun i hi => by rw [e13, m2_at, if_neg (fun z => hi z.2)]
  refine ⟨_, hM, hF, congrArg (fun z => some (Value.int z)) t5, hR.now ok (fun j a b => g j (by omega)) ⟨t0.ext (fun j hj => g _ (by omega)), t1.ext o3 (fun j h1 h2 => g _ (by omega)), (g0 0 (by decide)).trans t2, (g0 1 (by decide)).trans t3, fun k hk => by show μ13 (1 + 38) k = _; rw [g _ (by decide)]; exact t4 k hk, by show μ13 1 2 = _; rw [e13, m2_at, if_pos ⟨rfl, rfl⟩]; rfl, fun k hk => absurd hk (Nat.not_lt_zero _), (g0 3 (by decide)).trans t7, fun k hk => by show μ13 (1 + 40) k = _ ∧ μ13 (1 + 41) k = _; rw [g _ (by decide), g _ (by decide)]; exact t8 k hk⟩, rfl⟩
theorem c_X11_status (q : Nat) (γ : MF) (S : ST) (x : Int32) : CT_X11_status [.ref q, .int x] (fun Γ σ sz => FK σ q γ ∧ FR γ S ∧ StOk S) (fun Γ σ sz v σ' sz' => ∃ γ', FK σ' q γ' ∧ Fr q (q + 179) σ σ' ∧ v = some (.int (sp_status S x).1) ∧ FR γ' (sp_status S x).2 ∧ sz' = sz) := by
  refine CT.mkP rfl (Nat.le_of_ble_eq_true rfl) [_, _] rfl ?_
  intro X Γ σ sz P hX hpre hsz hP
  obtain ⟨hM, hR, ok⟩ := hpre
  obtain ⟨σ0, eσ0⟩ : ∃ z, z = σ := ⟨σ, rfl⟩
  rw [← eσ0] at hP
  have hF : Fr q (q + 179) σ0 σ := by rw [eσ0]; exact Fr.rf
  obtain ⟨r0, r1, r2, r3, r4, r5⟩ := id hR
  obtain ⟨t0, t1, t2, t3, t4, t5, t6, t7, t8⟩ := id r0
  obtain ⟨o1, o2, o3, o4, o5, o6, o7, o8, o9, o10⟩ := id ok.1
  refine S_iload_n (q := 1) hX dX11_status_0 rfl rfl ?_
  refine S_if_lt (q := 4) 13 hX dX11_status_1 rfl rfl (fun c1 => ?_) (fun c1 => ?_)
  · have k1 := c1
    rw [lt_i, show ((0 : Int32)).toInt = 0 by decide] at k1
    refine S_aload_n (q := 14) hX dX11_status_13 rfl rfl ?_
    refine S_bipush (q := 16) (v := (-2)) hX dX11_status_14 bp_m2 rfl ?_
    refine S_iconst (q := 17) (v := (-1)) hX dX11_status_16 ic_m1 rfl ?_
    refine S_callV (ci := 11) (C := "FanTalk") (T := TX11) (N := 11) (q := 20) 0 0 hX (c_X11_refused q γ _ _ 0 (by decide)) rfl ?hs_1 rfl u_323 u_325 us_0 u_1 u_326 ⟨by decide, by decide, rfl⟩ ⟨Nat.le_of_ble_eq_true rfl, Nat.le_of_ble_eq_true rfl⟩ ⟨Nat.le_of_ble_eq_true rfl, Nat.le_of_ble_eq_true rfl⟩ (Nat.le_of_ble_eq_true rfl) dX11_status_17 ?hp_1 rfl rfl rfl ?_
    case hs_1 => first | with_reducible assumption | exact ⟨_, FK.c0 hM⟩ | exact ⟨_, FK.c2 hM⟩ | exact ⟨_, FK.c7 hM⟩ | exact ⟨_, FK.c129 hM⟩ | exact ⟨_, FK.c173 hM⟩ | exact ⟨_, FK.c1 hM⟩
    case hp_1 => exact ⟨hM, by decide⟩
    rintro v σ sz1 ⟨μ9, hM, hF1, rfl, e9, rfl⟩
    have hF := hF.trans hF1
    refine S_iret hX dX11_status_20 (Nat.zero_le _) (Nat.zero_le _) ?_
    refine hP _ _ _ ?_
    have hsp : sp_status S x = (-1, rfS S 0) := by unfold sp_status; rw [if_pos (fun z => by have := z.1; have := z.2; omega)]
    rw [hsp]
    exact ⟨_, hM, hF, rfl, hR.rf ok e9, rfl⟩
  · have k1 := c1
    rw [lt_i, show ((0 : Int32)).toInt = 0 by decide] at k1
    refine S_iload_n (q := 5) hX dX11_status_4 rfl rfl ?_
    refine S_aload_n (q := 6) hX dX11_status_5 rfl rfl ?_
    refine S_getf (fs := ?fs_2) (v := ?v_2) (q := 9) hX u_289 fo_X11_refusals dX11_status_6 ?hs_2 ?hv_2 rfl ?_
    case hs_2 => with_reducible first | exact FK.c0 hM | exact FK.c1 hM | exact FK.c2 hM | exact FK.c7 hM | exact FK.c129 hM | exact FK.c3 hM | exact FK.c4 hM | exact FK.c5 hM | exact FK.c6 hM | exact FK.c39 hM | exact FK.c40 hM | exact FK.c41 hM | exact FK.c42 hM | exact FK.c43 hM | exact FK.c128 hM | exact FK.c136 hM | exact FK.c137 hM | exact FK.c173 hM | exact FK.c174 hM | exact FK.c175 hM | exact FK.c176 hM | exact FK.c177 hM | exact FK.c178 hM
    case hv_2 => rfl
    refine S_alen (t := ?t_3) (x := ?x_3) (q := 10) hX dX11_status_9 ?ht_3 ?hs_3 rfl ?_
    case hs_3 => with_reducible first | exact FK.c0 hM | exact FK.c1 hM | exact FK.c2 hM | exact FK.c7 hM | exact FK.c129 hM | exact FK.c3 hM | exact FK.c4 hM | exact FK.c5 hM | exact FK.c6 hM | exact FK.c39 hM | exact FK.c40 hM | exact FK.c41 hM | exact FK.c42 hM | exact FK.c43 hM | exact FK.c128 hM | exact FK.c136 hM | exact FK.c137 hM | exact FK.c173 hM | exact FK.c174 hM | exact FK.c175 hM | exact FK.c176 hM | exact FK.c177 hM | exact FK.c178 hM
    case ht_3 => decide
    refine S_icmp_lt (q := 13) 21 hX dX11_status_10 rfl rfl (fun c10 => ?_) (fun c10 => ?_)
    · have k10 : x.toInt < 3 := lt_i.mp c10
      refine S_aload_n (q := 22) hX dX11_status_21 rfl rfl ?_
      refine S_getf (fs := ?fs_4) (v := ?v_4) (q := 25) hX u_289 fo_X11_refusals dX11_status_22 ?hs_4 ?hv_4 rfl ?_
      case hs_4 => with_reducible first | exact FK.c0 hM | exact FK.c1 hM | exact FK.c2 hM | exact FK.c7 hM | exact FK.c129 hM | exact FK.c3 hM | exact FK.c4 hM | exact FK.c5 hM | exact FK.c6 hM | exact FK.c39 hM | exact FK.c40 hM | exact FK.c41 hM | exact FK.c42 hM | exact FK.c43 hM | exact FK.c128 hM | exact FK.c136 hM | exact FK.c137 hM | exact FK.c173 hM | exact FK.c174 hM | exact FK.c175 hM | exact FK.c176 hM | exact FK.c177 hM | exact FK.c178 hM
      case hv_4 => rfl
      refine S_iload_n (q := 26) hX dX11_status_25 rfl rfl ?_
      refine S_iald (N := ?n_5) (f := ?f_5) (q := 27) hX dX11_status_26 ?hs_5 ?hi_5 rfl ?_
      case hs_5 => with_reducible first | exact FK.c0 hM | exact FK.c1 hM | exact FK.c2 hM | exact FK.c7 hM | exact FK.c129 hM | exact FK.c3 hM | exact FK.c4 hM | exact FK.c5 hM | exact FK.c6 hM | exact FK.c39 hM | exact FK.c40 hM | exact FK.c41 hM | exact FK.c42 hM | exact FK.c43 hM | exact FK.c128 hM | exact FK.c136 hM | exact FK.c137 hM | exact FK.c173 hM | exact FK.c174 hM | exact FK.c175 hM | exact FK.c176 hM | exact FK.c177 hM | exact FK.c178 hM
      case hi_5 => rw [vp_in_iff]; omega
      refine S_iret hX dX11_status_27 (Nat.zero_le _) (Nat.zero_le _) ?_
      refine hP _ _ _ ?_
      have cx := inb_ok (x := x) (n := 3) (by omega) (by omega)
      have hsp : sp_status S x = (S.2.2.1 (tN x), S) := by unfold sp_status; rw [if_neg (fun z => z ⟨by omega, by omega⟩)]
      rw [hsp]
      exact ⟨_, hM, hF, congrArg (fun z => some (Value.int z)) (r2 (tN x) cx.2.1), hR, rfl⟩
    · have k10 : ¬ x.toInt < 3 := fun w => c10 (lt_i.mpr w)
      refine S_aload_n (q := 14) hX dX11_status_13 rfl rfl ?_
      refine S_bipush (q := 16) (v := (-2)) hX dX11_status_14 bp_m2 rfl ?_
      refine S_iconst (q := 17) (v := (-1)) hX dX11_status_16 ic_m1 rfl ?_
      refine S_callV (ci := 11) (C := "FanTalk") (T := TX11) (N := 11) (q := 20) 0 0 hX (c_X11_refused q γ _ _ 0 (by decide)) rfl ?hs_6 rfl u_323 u_325 us_0 u_1 u_326 ⟨by decide, by decide, rfl⟩ ⟨Nat.le_of_ble_eq_true rfl, Nat.le_of_ble_eq_true rfl⟩ ⟨Nat.le_of_ble_eq_true rfl, Nat.le_of_ble_eq_true rfl⟩ (Nat.le_of_ble_eq_true rfl) dX11_status_17 ?hp_6 rfl rfl rfl ?_
      case hs_6 => first | with_reducible assumption | exact ⟨_, FK.c0 hM⟩ | exact ⟨_, FK.c2 hM⟩ | exact ⟨_, FK.c7 hM⟩ | exact ⟨_, FK.c129 hM⟩ | exact ⟨_, FK.c173 hM⟩ | exact ⟨_, FK.c1 hM⟩
      case hp_6 => exact ⟨hM, by decide⟩
      rintro v σ sz1 ⟨μ9, hM, hF1, rfl, e9, rfl⟩
      have hF := hF.trans hF1
      refine S_iret hX dX11_status_20 (Nat.zero_le _) (Nat.zero_le _) ?_
      refine hP _ _ _ ?_
      have hsp : sp_status S x = (-1, rfS S 0) := by unfold sp_status; rw [if_pos (fun z => by have := z.1; have := z.2; omega)]
      rw [hsp]
      exact ⟨_, hM, hF, rfl, hR.rf ok e9, rfl⟩
