/-! BLOCKS OF CELLS: n cells from q on, of a shape, with what the memory f has of each -/
abbrev MF : Type := Nat → Nat → Int32
abbrev SH : Type := Nat → (Nat → Int32) → AE
def CL (σ : Sg) (q n : Nat) (sh : SH) (f : MF) : Prop := ∀ j, j < n → σ (q + j) = some (sh j (f j))
/-- nothing but [lo, hi) has changed -/
def Fr (lo hi : Nat) (σ σ' : Sg) : Prop := ∀ a, a < lo ∨ hi ≤ a → σ' a = σ a
theorem Fr.rf {lo hi : Nat} {σ : Sg} : Fr lo hi σ σ := fun _ _ => rfl
theorem Fr.trans {lo hi : Nat} {σ σ1 σ2 : Sg} (h : Fr lo hi σ σ1) (h2 : Fr lo hi σ1 σ2) : Fr lo hi σ σ2 := fun a z => (h2 a z).trans (h a z)
theorem Fr.mono {lo hi lo' hi' : Nat} {σ σ1 : Sg} (h : Fr lo' hi' σ σ1) (h1 : lo ≤ lo') (h2 : hi' ≤ hi) : Fr lo hi σ σ1 := fun a z => h a (by omega)
theorem Fr.su {lo hi a : Nat} {σ σ1 : Sg} {e : AE} (h : Fr lo hi σ σ1) (ha : lo ≤ a ∧ a < hi) : Fr lo hi σ (su σ1 a e) := fun b z => (su_ne (by omega)).trans (h b z)
def m1 (f : MF) (j : Nat) (g : Nat → Int32) : MF := fun a => if a = j then g else f a
def m2 (f : MF) (j k : Nat) (x : Int32) : MF := m1 f j (upd (f j) k x)
theorem m1_eq (f : MF) (j : Nat) (g : Nat → Int32) : m1 f j g j = g := if_pos rfl
theorem m1_ne {f : MF} {j i : Nat} {g : Nat → Int32} (h : i ≠ j) : m1 f j g i = f i := if_neg h
theorem CL.st {σ : Sg} {q n j : Nat} {sh : SH} {f : MF} {g : Nat → Int32} {e : AE} (h : CL σ q n sh f) (hj : j < n) (he : sh j g = e) : CL (su σ (q + j) e) q n sh (m1 f j g) := by
  subst he
  intro i hi
  by_cases hij : i = j
  · subst hij
    rw [su_eq, m1_eq]
  · rw [su_ne (by omega), m1_ne hij]
    exact h i hi
theorem CL.fr {σ σ' : Sg} {q n lo hi : Nat} {sh : SH} {f : MF} (h : CL σ q n sh f) (hF : Fr lo hi σ σ') (hd : q + n ≤ lo ∨ hi ≤ q) : CL σ' q n sh f := fun j hj => (hF _ (by omega)).trans (h j hj)
theorem CL.sub {σ : Sg} {q n d k : Nat} {sh sh' : SH} {f : MF} (h : CL σ q n sh f) (hk : d + k ≤ n) (hs : ∀ j, j < k → ∀ g, sh (d + j) g = sh' j g) : CL σ (q + d) k sh' (fun j => f (d + j)) := by
  intro j hj
  rw [Nat.add_assoc, h (d + j) (by omega), hs j hj]
def spl (f : MF) (d k : Nat) (g : MF) : MF := fun j => if d ≤ j ∧ j < d + k then g (j - d) else f j
theorem CL.join {σ σ' : Sg} {q n d k : Nat} {sh sh' : SH} {f g : MF} (h : CL σ q n sh f) (hk : d + k ≤ n) (hs : ∀ j, j < k → ∀ g, sh (d + j) g = sh' j g) (hF : Fr (q + d) (q + d + k) σ σ') (h' : CL σ' (q + d) k sh' g) : CL σ' q n sh (spl f d k g) := by
  intro j hj
  unfold spl
  by_cases hj2 : d ≤ j ∧ j < d + k
  · rw [if_pos hj2]
    have e := h' (j - d) (by omega)
    rw [← hs (j - d) (by omega), show q + d + (j - d) = q + j by omega, show d + (j - d) = j by omega] at e
    exact e
  · rw [if_neg hj2, hF (q + j) (by omega)]
    exact h j hj
theorem spl_in {f g : MF} {d k j : Nat} (h : d ≤ j ∧ j < d + k) : spl f d k g j = g (j - d) := if_pos h
theorem spl_out {f g : MF} {d k j : Nat} (h : ¬ (d ≤ j ∧ j < d + k)) : spl f d k g j = f j := if_neg h
theorem CL.ext {σ : Sg} {q n : Nat} {sh : SH} {f g : MF} (h : CL σ q n sh f) (e : ∀ j, j < n → f j = g j) : CL σ q n sh g := fun j hj => by rw [← e j hj]; exact h j hj
/-! numbers -/
theorem toI0 : (0 : Int32).toInt = 0 := rfl
theorem lt_i {x y : Int32} : x < y ↔ x.toInt < y.toInt := Int32.lt_iff_toInt_lt
theorem le_i {x y : Int32} : x ≤ y ↔ x.toInt ≤ y.toInt := Int32.le_iff_toInt_le
theorem eq_i {x y : Int32} : x = y ↔ x.toInt = y.toInt := ⟨fun h => by rw [h], Int32.toInt_inj.mp⟩
abbrev ia (n : Nat) (f : Nat → Int32) : AE := .inl (0, n, .inl f)
/-- how many states a row's number has; 0: none -/
def lnZ (z : Int) : Nat := if 12 ≤ z ∧ z ≤ 23 then 1 else if 144 ≤ z ∧ z ≤ 287 then 2 else if 1728 ≤ z ∧ z ≤ 3455 then 3 else if 20736 ≤ z ∧ z ≤ 41471 then 4 else if 248832 ≤ z ∧ z ≤ 497663 then 5 else if 2985984 ≤ z ∧ z ≤ 5971967 then 6 else 0
def ln (r : Nat) : Nat := lnZ (r : Int)
/-- the state at k of a row r of m states -/
def stN (r m k : Nat) : Nat := r / 12 ^ (m - 1 - k) % 12
theorem stN_lt (r m k : Nat) : stN r m k < 12 := Nat.mod_lt _ (by omega)
theorem rg (x : Int32) (lo hi : Int) (a b : Int32) (ha : a.toInt = lo) (hb : b.toInt = hi) : (a.toInt ≤ x.toInt ∧ x.toInt ≤ b.toInt) ↔ (lo ≤ x.toInt ∧ x.toInt ≤ hi) := by rw [ha, hb]
theorem lnZ_6 (z : Int) : lnZ z ≤ 6 := by
  unfold lnZ
  repeat (first | split | omega)
theorem nI_inj {a b : Nat} (ha : a < 2147483648) (hb : b < 2147483648) (h : nI a = nI b) : a = b := (nI_eq ha hb).mp h
theorem nI_ex (x : Int32) (h : 0 ≤ x.toInt) : ∃ k : Nat, k < 2147483648 ∧ x = nI k ∧ x.toInt = k := by
  obtain ⟨j, hj, e⟩ := nI_of (x := x) (fun z => by rw [lt_i, toI0] at z; omega)
  exact ⟨j, hj, e, by rw [e, nI_toInt hj]⟩
/-! THE REFERENCE'S OBJECT at m, its rows behind it -/
abbrev mOb (m : Nat) (o : Nat → Int32) : AE := .inr (12, [.ref (m + 1), .int (o 0), .ref (m + 2), .ref (m + 3), .ref (m + 4), .int (o 1), .int (o 2), .int (o 3), .int (o 4), .int (o 5), .int (o 6), .ref (m + 5), .int (o 7), .ref (m + 6), .ref (m + 7), .int (o 8), .ref (m + 8)])
def shM (m : Nat) : SH := fun j f => match j with
  | 0 => mOb m f
  | 1 => ia 1812 f
  | 2 => .inl (1, 2, .inl f)
  | 3 => ia 3 f
  | 4 => .inl (2, 250, .inl f)
  | 5 => ia 60 f
  | 6 => ia 60 f
  | 7 => ia 60 f
  | _ => ia 6 f
abbrev MM (σ : Sg) (m : Nat) (μ : MF) : Prop := CL σ m 9 (shM m) μ
theorem MM.isO {σ : Sg} {m : Nat} {μ : MF} (h : MM σ m μ) : isO σ m 12 := ⟨_, h 0 (by decide)⟩
section MST
variable {X : CX} {Γ : Gm} {P : PO} {k n pc q : Nat} {L : List (Option Value)} {st : List Value} {σ σ0 : Sg} {sz : Nat} {own nm : String} {cc : ByteArray} {nL : Nat} {ret : Option FieldType} {R0 : Room}
/-- behind a store: the new memory -/
theorem S_st {q0 N j : Nat} {sh : SH} {f : MF} {g : Nat → Int32} {e : AE} (h : CL σ q0 N sh f) (hF : Fr q0 (q0 + N) σ0 σ) (hj : j < N) (he : sh j g = e) (kk : ∀ σ', CL σ' q0 N sh (m1 f j g) → Fr q0 (q0 + N) σ0 σ' → G X Γ P k n pc L st σ' sz) : G X Γ P k n pc L st (su σ (q0 + j) e) sz :=
  kk _ (h.st hj he) (hF.su (by omega))
end MST
section MST2
variable {X : CX} {Γ : Gm} {P : PO} {k n pc q : Nat} {L : List (Option Value)} {st : List Value} {σ σ0 : Sg} {sz : Nat}
theorem S_stu {q0 N j i : Nat} {x : Int32} {sh : SH} {f : MF} {e : AE} (h : CL σ q0 N sh f) (hF : Fr q0 (q0 + N) σ0 σ) (hj : j < N) (he : sh j (upd (f j) i x) = e) (kk : ∀ σ' μ', μ' = m2 f j i x → CL σ' q0 N sh μ' → Fr q0 (q0 + N) σ0 σ' → G X Γ P k n pc L st σ' sz) : G X Γ P k n pc L st (su σ (q0 + j) e) sz :=
  kk _ _ rfl (h.st hj he) (hF.su (by omega))
end MST2
theorem upd_eq (f : Nat → Int32) (k : Nat) (x : Int32) : upd f k x k = x := if_pos rfl
theorem upd_ne {f : Nat → Int32} {k j : Nat} {x : Int32} (h : j ≠ k) : upd f k x j = f j := if_neg h
theorem m2_at (f : MF) (j k : Nat) (x : Int32) (a b : Nat) : m2 f j k x a b = if a = j ∧ b = k then x else f a b := by
  unfold m2 m1
  by_cases h : a = j
  · subst h
    rw [if_pos rfl]
    unfold upd
    by_cases h2 : b = k
    · rw [if_pos h2, if_pos ⟨rfl, h2⟩]
    · rw [if_neg h2, if_neg (fun z => h2 z.2)]
  · rw [if_neg h, if_neg (fun z => h z.1)]
theorem MM.c0 {σ : Sg} {m : Nat} {μ : MF} (h : MM σ m μ) : σ m = some (mOb m (μ 0)) := h 0 (by decide)
theorem MM.c1 {σ : Sg} {m : Nat} {μ : MF} (h : MM σ m μ) : σ (m + 1) = some (ia 1812 (μ 1)) := h 1 (by decide)
theorem MM.c2 {σ : Sg} {m : Nat} {μ : MF} (h : MM σ m μ) : σ (m + 2) = some (.inl (1, 2, .inl (μ 2))) := h 2 (by decide)
theorem MM.c3 {σ : Sg} {m : Nat} {μ : MF} (h : MM σ m μ) : σ (m + 3) = some (ia 3 (μ 3)) := h 3 (by decide)
theorem MM.c4 {σ : Sg} {m : Nat} {μ : MF} (h : MM σ m μ) : σ (m + 4) = some (.inl (2, 250, .inl (μ 4))) := h 4 (by decide)
theorem MM.c5 {σ : Sg} {m : Nat} {μ : MF} (h : MM σ m μ) : σ (m + 5) = some (ia 60 (μ 5)) := h 5 (by decide)
theorem MM.c6 {σ : Sg} {m : Nat} {μ : MF} (h : MM σ m μ) : σ (m + 6) = some (ia 60 (μ 6)) := h 6 (by decide)
theorem MM.c7 {σ : Sg} {m : Nat} {μ : MF} (h : MM σ m μ) : σ (m + 7) = some (ia 60 (μ 7)) := h 7 (by decide)
theorem MM.c8 {σ : Sg} {m : Nat} {μ : MF} (h : MM σ m μ) : σ (m + 8) = some (ia 6 (μ 8)) := h 8 (by decide)
/-! forgetting locals -/
def wk : List (Option Value) → List Bool → List (Option Value)
  | o :: r, true :: m => o :: wk r m
  | _ :: r, false :: m => none :: wk r m
  | r, [] => r
  | [], _ => []
theorem lg_wk : ∀ (L : List (Option Value)) (m : List Bool) (i : Nat) (v : Value), lg (wk L m) i = some v → lg L i = some v := by
  intro L
  induction L with
  | nil => intro m i v h; cases m <;> (simp [wk, lg] at h)
  | cons o r ih =>
    intro m i v h
    cases m with
    | nil => exact h
    | cons b m =>
      cases b with
      | true => cases i with
        | zero => exact h
        | succ i => exact ih m i v h
      | false => cases i with
        | zero => simp [wk, lg] at h
        | succ i => exact ih m i v h
theorem S_wk {X : CX} {Γ : Gm} {P : PO} {k n pc : Nat} {L : List (Option Value)} {st : List Value} {σ : Sg} {sz : Nat} (m : List Bool) (kk : G X Γ P k n pc (wk L m) st σ sz) : G X Γ P k n pc L st σ sz := by
  obtain ⟨p, l, e, R, s, mm, args, below, meth, c⟩ := X
  intro H locs ls hP hS hl
  refine kk H locs ls hP hS ⟨hl.1, hl.2.1, fun q hq => ?_⟩
  obtain ⟨j, h1, h2⟩ := (asc_mem _ _ _).mp hq
  have := lg_wk L m j q.2 h2
  exact hl.2.2 q ((asc_mem _ _ _).mpr ⟨j, h1, this⟩)
theorem m2_m2 (f : MF) (j k : Nat) (x y : Int32) : m2 (m2 f j k x) j k y = m2 f j k y := by
  funext a b
  rw [m2_at, m2_at, m2_at]
  by_cases h : a = j ∧ b = k
  · rw [if_pos h, if_pos h]
  · rw [if_neg h, if_neg h, if_neg h]
/-- a row of numbers holds a list -/
def WL (f : Nat → Int32) (L : List Nat) : Prop := ∀ i, i < L.length → f i = nI (L.getD i 0)
theorem WL.nil {f : Nat → Int32} : WL f [] := fun i h => absurd h (Nat.not_lt_zero _)
theorem WL.snoc {f : Nat → Int32} {L : List Nat} {w : Nat} (h : WL f L) : WL (upd f L.length (nI w)) (L ++ [w]) := by
  intro i hi
  rw [List.length_append, List.length_singleton] at hi
  by_cases hl : i = L.length
  · subst hl
    rw [upd_eq]
    simp [List.getD_eq_getElem?_getD]
  · rw [upd_ne hl, h i (by omega)]
    simp only [List.getD_eq_getElem?_getD]
    rw [List.getElem?_append_left (by omega)]
theorem mem_take_succ {L : List Nat} {w i : Nat} (h : i < L.length) : w ∈ L.take (i + 1) ↔ w ∈ L.take i ∨ L.getD i 0 = w := by
  rw [List.take_succ_eq_append_getElem h, List.mem_append, List.mem_singleton, List.getD_eq_getElem?_getD, List.getElem?_eq_getElem h, Option.getD_some]
  exact ⟨fun z => z.imp id Eq.symm, fun z => z.imp id Eq.symm⟩
theorem m1_id (f : MF) (j : Nat) {g : Nat → Int32} (h : f j = g) : m1 f j g = f := by
  funext a
  unfold m1
  by_cases ha : a = j
  · rw [if_pos ha, ha, h]
  · rw [if_neg ha]
theorem S_nm {X : CX} {Γ : Gm} {P : PO} {k n pc : Nat} {L : List (Option Value)} {st : List Value} {σ : Sg} {sz : Nat} {x : Int32} (kk : ∀ y : Int32, y = x → G X Γ P k n pc L (.int y :: st) σ sz) : G X Γ P k n pc L (.int x :: st) σ sz := kk x rfl
theorem m2_m1 (f : MF) (j k : Nat) (g : Nat → Int32) (x : Int32) : m2 (m1 f j g) j k x = m1 f j (upd g k x) := by
  funext a
  unfold m2
  rw [m1_eq]
  unfold m1
  by_cases ha : a = j
  · rw [if_pos ha, if_pos ha]
  · rw [if_neg ha, if_neg ha, if_neg ha]
theorem nI_bi {p q : Prop} [Decidable p] [Decidable q] (h : p ↔ q) : bi p = bi q := bi_congr h
