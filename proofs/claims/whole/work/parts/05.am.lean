/-! THE ABSTRACT MACHINE: the heap as a map of addresses to contents; a walk's goal G over it; a row an instruction -/
def kt : Nat → FieldType := fun k => match k with
  | 0 => .int
  | 1 => .boolean
  | 2 => .byte
  | 3 => .object "FanTalk$Friend"
  | 4 => .object "FanTalk$Codes"
  | _ => .object "FanTalk$Talk"
abbrev AE : Type := (Nat × vp_A) ⊕ (Nat × List Value)
abbrev Sg : Type := Nat → Option AE
/-- the classes' places, the arrays' classes, the three texts' cells, their bytes' cells, the first cell that is ours -/
abbrev Gm : Type := va_G × (Nat → ClassId) × (Nat → Nat) × (Nat → Nat) × Nat
abbrev clss : List vw_C := [(RX0, TX0, 9), (RX1, TX1, 9), (RX2, TX2, 5), (RX3, TX3, 9), (RX4, TX4, 9), (RX5, TX5, 9), (RX6, TX6, 2), (RX2, TX2, 5), (RX8, TX8, 9), (RX9, TX9, 10), (RX10, TX10, 2), (RX11, TX11, 11), (RX12, TX12, 17)]
def ow (Γ : Gm) : Nat → Prop := fun q => Γ.2.2.2.2 ≤ q
def cE (Γ : Gm) : AE → va_E
  | .inl (t, a) => .inl (Γ.2.1 t, a)
  | .inr o => .inr o
def tyL (Γ : Gm) : List (ClassId × FieldType) := [(Γ.2.1 0, kt 0), (Γ.2.1 1, kt 1), (Γ.2.1 2, kt 2), (Γ.2.1 3, kt 3), (Γ.2.1 4, kt 4), (Γ.2.1 5, kt 5)]
def sLen : List Nat := [4, 5, 7]
def sByt : List (List Int32) := [[99, 111, 100, 101], [101, 110, 116, 114, 121], [100, 114, 97, 117, 103, 104, 116]]
def nestL : List (String × Nat × MethodName × String) := [("FanTalk", 9, ⟨"FanTalk$Talk", "<init>", "()V"⟩, "FanTalk"), ("FanTalk$Talk", 11, ⟨"FanTalk$Codes", "<init>", "()V"⟩, "FanTalk"), ("FanTalk$Talk", 20, ⟨"FanTalk$Past", "<init>", "()V"⟩, "FanTalk"), ("FanTalk$Past", 11, ⟨"FanTalk$Codes", "<init>", "()V"⟩, "FanTalk"), ("FanTalk", 26, ⟨"FanTalk$Script", "<init>", "()V"⟩, "FanTalk"), ("FanTalk$Script", 17, ⟨"FanTalk$Codes", "<init>", "()V"⟩, "FanTalk"), ("FanTalk", 37, ⟨"FanTalk$Friend", "<init>", "()V"⟩, "FanTalk"), ("FanTalk", 40, ⟨"FanTalk$Hasty", "<init>", "()V"⟩, "FanTalk"), ("FanTalk$Hasty", 1, ⟨"FanTalk$Friend", "<init>", "()V"⟩, "FanTalk"), ("FanTalk", 43, ⟨"FanTalk$Chaperone", "<init>", "()V"⟩, "FanTalk"), ("FanTalk$Chaperone", 3, ⟨"FanTalk$Friend", "<init>", "()V"⟩, "FanTalk"), ("FanTalk", 46, ⟨"FanTalk$Mirror", "<init>", "()V"⟩, "FanTalk"), ("FanTalk$Mirror", 1, ⟨"FanTalk$Hasty", "<init>", "()V"⟩, "FanTalk"), ("FanTalk", 49, ⟨"FanTalk$Aunt", "<init>", "()V"⟩, "FanTalk"), ("FanTalk$Aunt", 3, ⟨"FanTalk$Chaperone", "<init>", "()V"⟩, "FanTalk"), ("FanTalk", 56, ⟨"FanTalk$Walk", "<init>", "()V"⟩, "FanTalk")]
def castL : List (String × String) := [("FanTalk$Hasty", "FanTalk$Friend"), ("FanTalk$Chaperone", "FanTalk$Friend"), ("FanTalk$Mirror", "FanTalk$Friend"), ("FanTalk$Aunt", "FanTalk$Friend")]
def aoL : List String := ["FanTalk$Codes", "FanTalk$Talk", "FanTalk$Friend"]
def KN (Γ : Gm) (U : State) : Prop := va_K Γ.1 clss (tyL Γ) U ∧ (vk_S 3 sLen sByt Γ.2.2.1 Γ.2.2.2.1 (ow Γ) U U.heap ∧ va_Z "java/lang/String" "COMPACT_STRINGS" "Z" (.int 1) (ow Γ) U U.heap ∧ ∃ v : Value, (v = .null ∨ ∃ a : Nat, v = .ref a) ∧ va_Z "jdk/internal/util/Preconditions" "SIOOBE_FORMATTER" "Ljava/util/function/BiFunction;" v (ow Γ) U U.heap) ∧ vk_R "FanTalk$Script" 51 "code" (Γ.2.2.1 0) U ∧ vk_R "FanTalk$Script" 60 "entry" (Γ.2.2.1 1) U ∧ vk_R "FanTalk$Script" 65 "draught" (Γ.2.2.1 2) U ∧ (∀ q ∈ nestL, va_Nw (.methodLinkNest q.1 q.2.1 q.2.2.1 q.2.2.2) U) ∧ (∀ q ∈ castL, va_Nw (.castable q.1 q.2) U) ∧ ∀ C ∈ aoL, va_AO C U
def RP (Γ : Gm) (σ : Sg) (sz : Nat) (H : Heap) : Prop := H.size = sz ∧ (∀ a e, σ a = some e → ow Γ a ∧ va_at Γ.1 clss (a, cE Γ e) H)
def su (σ : Sg) (a : Nat) (e : AE) : Sg := fun q => if q = a then some e else σ q
theorem su_eq (σ : Sg) (a : Nat) (e : AE) : su σ a e a = some e := if_pos rfl
theorem su_ne {σ : Sg} {a q : Nat} {e : AE} (h : q ≠ a) : su σ a e q = σ q := if_neg h
theorem RP.one {Γ : Gm} {σ : Sg} {sz : Nat} {H : Heap} {a : Nat} {e : AE} (h : RP Γ σ sz H) (ha : σ a = some e) : va_P Γ.1 clss [(a, cE Γ e)] H := by
  intro k q hk
  have hz : k < 1 := (List.getElem?_eq_some_iff.mp hk).1
  rw [show k = 0 by omega] at hk
  cases hk
  exact (h.2 a e ha).2
theorem RP.lt {Γ : Gm} {σ : Sg} {sz : Nat} {H : Heap} {a : Nat} {e : AE} (h : RP Γ σ sz H) (ha : σ a = some e) : a < sz := by
  have h1 := ((h.2 a e ha).2).lt
  rw [← h.1]
  exact h1
theorem RP.put {Γ : Gm} {σ : Sg} {sz : Nat} {H H1 : Heap} {a : Nat} {e0 e : AE} (h : RP Γ σ sz H) (ha : σ a = some e0) (he : va_at Γ.1 clss (a, cE Γ e) H1) (z : H1.size = H.size) (oq : ∀ q : Nat, q ≠ a → H1[q]? = H[q]?) : RP Γ (su σ a e) sz H1 := by
  refine ⟨z.trans h.1, fun q e1 hq => ?_⟩
  by_cases hqa : q = a
  · subst hqa
    rw [su_eq] at hq
    cases hq
    exact ⟨(h.2 _ _ ha).1, he⟩
  · rw [su_ne hqa] at hq
    exact ⟨(h.2 _ _ hq).1, ((h.2 _ _ hq).2).kept (oq q hqa)⟩
theorem RP.push {Γ : Gm} {σ : Sg} {sz : Nat} {H H1 : Heap} {e : AE} (h : RP Γ σ sz H) (hb : ow Γ sz) (he : va_at Γ.1 clss (sz, cE Γ e) H1) (z : H1.size = H.size + 1) (oq : ∀ q : Nat, q < H.size → H1[q]? = H[q]?) : RP Γ (su σ sz e) (sz + 1) H1 := by
  refine ⟨by rw [z, h.1], fun q e1 hq => ?_⟩
  by_cases hqa : q = sz
  · subst hqa
    rw [su_eq] at hq
    cases hq
    exact ⟨hb, he⟩
  · rw [su_ne hqa] at hq
    refine ⟨(h.2 _ _ hq).1, ((h.2 _ _ hq).2).kept (oq q ?_)⟩
    rw [h.1]
    exact h.lt hq
theorem KN.moved {Γ : Gm} {s U : State} (hW : s.WarmedH U.vm) (h0 : ∀ a : Nat, a < s.heap.size → ¬ ow Γ a → U.heap[a]? = s.heap[a]?) (h : KN Γ s) : KN Γ U := by
  obtain ⟨h1, ⟨h2, h2a, v, h2c, h2b⟩, h3, h4, h5, h6, h7, h8⟩ := h
  exact ⟨va_K.moved hW.alike h1, ⟨(vk_S.moved hW.alike h2).kept h0, (va_Z.moved hW.alike h2a).kept h0, v, h2c, (va_Z.moved hW.alike h2b).kept h0⟩, vk_R.warm hW h3, vk_R.warm hW h4, vk_R.warm hW h5, fun q hq => va_Nw.warmM hW (h6 q hq), fun q hq => va_Nw.warmC hW (h7 q hq), fun C hC => va_AO.moved hW.alike (h8 C hC)⟩
/-! locals by their places -/
def asc : Nat → List (Option Value) → List (Nat × Value)
  | _, [] => []
  | i, none :: r => asc (i + 1) r
  | i, some v :: r => (i, v) :: asc (i + 1) r
def lg : List (Option Value) → Nat → Option Value
  | [], _ => none
  | o :: _, 0 => o
  | _ :: r, n + 1 => lg r n
def ls1 : List (Option Value) → Nat → Option Value → List (Option Value)
  | [], _, _ => []
  | _ :: r, 0, x => x :: r
  | o :: r, n + 1, x => o :: ls1 r n x
def eL : List Value → List (Option Value)
  | [] => []
  | v :: vs => if v.category = 2 then some v :: none :: eL vs else some v :: eL vs
def nolong (L : List (Option Value)) (i : Nat) : Bool := match i with
  | 0 => true
  | j + 1 => match lg L j with
    | some v => v.category != 2
    | none => true
def LV (ls : Array Slot) (nL : Nat) (L : List (Option Value)) : Prop := lv_has ls nL (asc 0 L)
theorem asc_mem : ∀ (L : List (Option Value)) (k : Nat) (q : Nat × Value), q ∈ asc k L ↔ ∃ j, q.1 = k + j ∧ lg L j = some q.2 := by
  intro L
  induction L with
  | nil => intro k q; simp [asc, lg]
  | cons o r ih =>
    intro k q
    have e : (∃ j, q.1 = k + j ∧ lg (o :: r) j = some q.2) ↔ ((q.1 = k ∧ o = some q.2) ∨ ∃ j, q.1 = (k + 1) + j ∧ lg r j = some q.2) := by
      constructor
      · rintro ⟨j, h1, h2⟩
        cases j with
        | zero => exact Or.inl ⟨h1, h2⟩
        | succ j => exact Or.inr ⟨j, by omega, h2⟩
      · rintro (⟨h1, h2⟩ | ⟨j, h1, h2⟩)
        · exact ⟨0, h1, h2⟩
        · exact ⟨j + 1, by omega, h2⟩
    rw [e, ← ih]
    cases o with
    | none => simp [asc]
    | some v =>
      simp only [asc, List.mem_cons]
      constructor
      · rintro (rfl | h)
        · exact Or.inl ⟨rfl, rfl⟩
        · exact Or.inr h
      · rintro (⟨h1, h2⟩ | h)
        · cases h2
          exact Or.inl (by rw [← h1])
        · exact Or.inr h
theorem lg_set : ∀ (L : List (Option Value)) (i j : Nat) (x : Option Value), lg (ls1 L i x) j = if j = i ∧ i < L.length then x else lg L j := by
  intro L
  induction L with
  | nil => intro i j x; simp [ls1, lg]
  | cons o r ih =>
    intro i j x
    cases i with
    | zero => cases j <;> simp [ls1, lg]
    | succ i =>
      cases j with
      | zero => simp [ls1, lg]
      | succ j => simp only [ls1, lg]; rw [ih]; simp
theorem LV.at {ls : Array Slot} {nL : Nat} {L : List (Option Value)} (h : LV ls nL L) {i : Nat} {v : Value} (hi : lg L i = some v) : ls[i]? = some (.val v) :=
  h.2.2 (i, v) ((asc_mem L 0 (i, v)).mpr ⟨i, by simp, hi⟩)
theorem LV.set {ls : Array Slot} {nL : Nat} {L : List (Option Value)} {i : Nat} {v : Value} (h : lv_has ls nL ((i, v) :: (asc 0 L).filter (fun q => !(q.1 == i) && !(q.1 + 1 == i && q.2.category == 2)))) (hn : nolong L i = true) : LV ls nL (ls1 L i (some v)) := by
  refine ⟨h.1, h.2.1, fun q hq => ?_⟩
  obtain ⟨j, h1, h2⟩ := (asc_mem _ _ _).mp hq
  have hj : q.1 = j := by omega
  subst hj
  rw [lg_set] at h2
  by_cases hi : q.1 = i
  · by_cases hl : i < L.length
    · rw [if_pos ⟨hi, hl⟩] at h2
      have : q = (i, v) := by rw [← hi, Option.some.inj h2]
      exact h.2.2 q (by rw [this]; exact List.mem_cons_self)
    · rw [if_neg (fun z => hl z.2)] at h2
      exfalso
      have : ∀ (L : List (Option Value)) (j : Nat), ¬ j < L.length → lg L j = none := by
        intro L
        induction L with
        | nil => intro j _; rfl
        | cons o r ih => intro j hj; cases j with
          | zero => simp at hj
          | succ j => exact ih j (by simpa using hj)
      rw [this L q.1 (by omega)] at h2
      cases h2
  · rw [if_neg (fun z => hi z.1)] at h2
    refine h.2.2 q (List.mem_cons_of_mem _ (List.mem_filter.mpr ⟨(asc_mem _ _ _).mpr ⟨q.1, by simp, h2⟩, ?_⟩))
    simp only [Bool.and_eq_true, Bool.not_eq_true', beq_eq_false_iff_ne, ne_eq]
    refine ⟨hi, ?_⟩
    by_cases hk : q.1 + 1 = i
    · subst hk
      simp only [nolong, h2] at hn
      simpa using hn
    · simp [hk]
theorem LV.set2 {ls : Array Slot} {nL : Nat} {L : List (Option Value)} {i : Nat} {v : Value} (h : lv_has ls nL ((i, v) :: (asc 0 L).filter (fun q => !(q.1 == i) && (!(q.1 == i + 1) && !(q.1 + 1 == i && q.2.category == 2))))) (hn : nolong L i = true) : LV ls nL (ls1 (ls1 L i (some v)) (i + 1) none) := by
  refine ⟨h.1, h.2.1, fun q hq => ?_⟩
  obtain ⟨j, h1, h2⟩ := (asc_mem _ _ _).mp hq
  have hj : q.1 = j := by omega
  subst hj
  have hlen : ∀ (L : List (Option Value)) (j : Nat), ¬ j < L.length → lg L j = none := by
    intro L
    induction L with
    | nil => intro j _; rfl
    | cons o r ih => intro j hj; cases j with
      | zero => simp at hj
      | succ j => exact ih j (by simpa using hj)
  have hll : ∀ (L : List (Option Value)) (i : Nat) (x : Option Value), (ls1 L i x).length = L.length := by
    intro L
    induction L with
    | nil => intro i x; rfl
    | cons o r ih => intro i x; cases i with
      | zero => rfl
      | succ i => simp [ls1, ih]
  by_cases hi1 : q.1 = i + 1
  · rw [lg_set, hll] at h2
    by_cases hl : i + 1 < L.length
    · rw [if_pos ⟨hi1, hl⟩] at h2
      cases h2
    · rw [if_neg (fun z => hl z.2), hlen _ _ (by rw [hll]; omega)] at h2
      cases h2
  · rw [lg_set, if_neg (fun z => hi1 z.1), lg_set] at h2
    by_cases hi : q.1 = i
    · by_cases hl : i < L.length
      · rw [if_pos ⟨hi, hl⟩] at h2
        have : q = (i, v) := by rw [← hi, Option.some.inj h2]
        exact h.2.2 q (by rw [this]; exact List.mem_cons_self)
      · rw [if_neg (fun z => hl z.2), hlen _ _ (by omega)] at h2
        cases h2
    · rw [if_neg (fun z => hi z.1)] at h2
      refine h.2.2 q (List.mem_cons_of_mem _ (List.mem_filter.mpr ⟨(asc_mem _ _ _).mpr ⟨q.1, by simp, h2⟩, ?_⟩))
      simp only [Bool.and_eq_true, Bool.not_eq_true', beq_eq_false_iff_ne, ne_eq]
      refine ⟨hi, hi1, ?_⟩
      by_cases hk : q.1 + 1 = i
      · subst hk
        simp only [nolong, h2] at hn
        simpa using hn
      · simp [hk]
theorem lv_args_eL : ∀ (vs : List Value) (k : Nat), lv_args k vs = asc k (eL vs) := by
  intro vs
  induction vs with
  | nil => intro k; rfl
  | cons v vs ih =>
    intro k
    by_cases hc : v.category = 2
    · simp only [lv_args, eL, if_pos hc, asc, ih]
    · simp only [lv_args, eL, if_neg hc, asc, ih]
theorem asc_pad : ∀ (L : List (Option Value)) (n k : Nat), asc k (L ++ List.replicate n none) = asc k L := by
  intro L
  induction L with
  | nil =>
    intro n
    induction n with
    | zero => intro k; rfl
    | succ n ih => intro k; exact ih (k + 1)
  | cons o r ih =>
    intro n k
    cases o with
    | none => exact ih n (k + 1)
    | some v => exact congrArg ((k, v) :: ·) (ih n (k + 1))
/-! the walk's goal -/
abbrev CX := Program × Launch × Env × Room × State × MethodId × Array Value × List Frame × Method × Code
abbrev PO : Type := Option Value → Sg → Nat → Prop
def QcA (Γ : Gm) (P : PO) : Array Value → State → Outcome → State → Prop := fun _ st oc t => (∃ (v : Option Value) (σ' : Sg) (sz' : Nat), oc = .returned v ∧ P v σ' sz' ∧ RP Γ σ' sz' t.heap) ∧ va_F (ow Γ) st t
def G (X : CX) (Γ : Gm) (P : PO) (k n : Nat) (pc : Nat) (L : List (Option Value)) (st : List Value) (σ : Sg) (sz : Nat) : Prop := match X with
  | (p, l, e, R, s, m, args, below, meth, c) => ∀ (H : Heap) (locs : List Loc) (ls : Array Slot), RP Γ σ sz H → va_S (ow Γ) s.heap H locs → LV ls c.maxLocals L → W p l e R s m args below meth c H locs k n (MQ below (QcA Γ P) args s R.cells R.slots (ow Γ)) (F0 m pc ls st)
abbrev MT : Type := String × String × ByteArray × Nat × Option FieldType × Room
def Ok (X : CX) (Γ : Gm) (M : MT) : Prop := match X, M with
  | (p, l, e, R, s, m, args, below, meth, c), (own, nm, cc, nL, ret, R0) => p.tables.exec = Jvm.exec ∧ c.code = cc ∧ c.maxLocals = nL ∧ meth.sig.returnType = ret ∧ R = R0 ∧ s.vm.findClass own = some m.cls ∧ (∀ w ∈ UW, w.before args s = true) ∧ KN Γ s ∧ meth.locks = false ∧ meth.name = nm ∧ Γ.2.2.2.2 ≤ s.heap.size
def St (Γ : Gm) (σ : Sg) (sz : Nat) (U : State) : Prop := RP Γ σ sz U.heap ∧ KN Γ U ∧ Γ.2.2.2.2 ≤ U.heap.size
/-- A METHOD'S CONTRACT: from every heap that holds σ (Pr) the method returns, and the heap holds a σ' with Po -/
def CT (y : MethodName) (cc : ByteArray) (nL : Nat) (ret : Option FieldType) (rm : Room) (av : List Value) (Pr : Gm → Sg → Nat → Prop) (Po : Gm → Sg → Nat → PO) : Prop :=
  ∀ (l : Launch) (Γ : Gm) (σ : Sg) (sz : Nat), Pr Γ σ sz → Met l y (Cond.code y cc nL ret :: UW) rm (va_Pc av (St Γ σ sz)) (QcA Γ (Po Γ σ sz)) rm.cells rm.slots (ow Γ)
theorem CT.mk {y : MethodName} {cc : ByteArray} {nL : Nat} {ret : Option FieldType} {rm : Room} {av : List Value} {Pr : Gm → Sg → Nat → Prop} {Po : Gm → Sg → Nat → PO} (hp : plainName y.cls = true) (hn : (lg_sl av).length ≤ nL) (L0 : List (Option Value)) (hL : eL av ++ List.replicate (nL - (eL av).length) none = L0)
    (h : ∀ (X : CX) (Γ : Gm) (σ : Sg) (sz : Nat), Ok X Γ (y.cls, y.name, cc, nL, ret, rm) → Pr Γ σ sz → ow Γ sz → G X Γ (Po Γ σ sz) 0 0 0 L0 [] σ sz) : CT y cc nL ret rm av Pr Po := by
  intro l Γ σ sz hpre
  refine Met.ofW (cc := cc) (maxL := nL) (ret := ret) hp rfl ?_
  intro p e s m args below meth c s₁ B hml hv
  obtain ⟨rfl, hR, hK, hbs⟩ := hv
  have hts := atoms_spec (ws := Cond.code y cc nL ret :: UW) B.pre
  have hl := lv_entry av (n := nL) hn
  rw [lg_entry_eq]
  have hl2 : LV ((lg_sl av ++ List.replicate (nL - (lg_sl av).length) Slot.unset).toArray) nL L0 := by
    show lv_has _ _ (asc 0 L0)
    rw [← hL, asc_pad, ← lv_args_eL]
    exact hl
  have hsz : s.heap.size = sz := hR.1
  have := h (p, l, e, (headSpec (Cond.code y cc nL ret :: UW) rm).room, s, m, av.toArray, below, meth, c) Γ σ sz ⟨B.exec, B.bytes, hml, B.returns, rfl, findClass_of_methodNamed B.named, fun w hw => hts w (List.mem_cons_of_mem _ hw), hK, B.notSynchronized, (name_of_methodNamed B.named B.method).1, hbs⟩ hpre (by show Γ.2.2.2.2 ≤ sz; rw [← hsz]; exact hbs)
  exact this s.heap [] _ hR va_S.rf (by rw [hml]; exact hl2)

section AMR
variable {X : CX} {Γ : Gm} {P : PO} {k n pc q : Nat} {L : List (Option Value)} {st : List Value} {σ : Sg} {sz : Nat} {own nm : String} {cc : ByteArray} {nL : Nat} {ret : Option FieldType} {R0 : Room}

theorem S_iconst {z : Int} {v : Int32} (hX : Ok X Γ (own, nm, cc, nL, ret, R0)) (hd : decode cc pc = .ok (.iconst z, 1)) (hv : Int32.ofInt z = v) (hq : pc + 1 = q) (kk : G X Γ P k n q L (.int v :: st) σ sz) : G X Γ P k n pc L (st) σ sz := by
  obtain ⟨p, l, e, R, s, m, args, below, meth, c⟩ := X
  obtain ⟨hx, hb, hml, hr, hR, hown, hts, hKN, hlk, hnm, hbs⟩ := hX
  subst hR
  subst hq
  intro H locs ls hP hS hl
  exact lv_iconst hx hb hd hv (kk H locs ls hP hS hl)

theorem S_bipush {z : Int} {v : Int32} (hX : Ok X Γ (own, nm, cc, nL, ret, R0)) (hd : decode cc pc = .ok (.bipush z, 2)) (hv : (Int8.ofInt z).toInt32 = v) (hq : pc + 2 = q) (kk : G X Γ P k n q L (.int v :: st) σ sz) : G X Γ P k n pc L (st) σ sz := by
  obtain ⟨p, l, e, R, s, m, args, below, meth, c⟩ := X
  obtain ⟨hx, hb, hml, hr, hR, hown, hts, hKN, hlk, hnm, hbs⟩ := hX
  subst hR
  subst hq
  intro H locs ls hP hS hl
  exact lv_bipush hx hb hd hv (kk H locs ls hP hS hl)

theorem S_sipush {z : Int} {v : Int32} (hX : Ok X Γ (own, nm, cc, nL, ret, R0)) (hd : decode cc pc = .ok (.sipush z, 3)) (hv : (Int16.ofInt z).toInt32 = v) (hq : pc + 3 = q) (kk : G X Γ P k n q L (.int v :: st) σ sz) : G X Γ P k n pc L (st) σ sz := by
  obtain ⟨p, l, e, R, s, m, args, below, meth, c⟩ := X
  obtain ⟨hx, hb, hml, hr, hR, hown, hts, hKN, hlk, hnm, hbs⟩ := hX
  subst hR
  subst hq
  intro H locs ls hP hS hl
  exact lv_sipush hx hb hd hv (kk H locs ls hP hS hl)

theorem S_lconst {z : Fin 2} {v : Int64} (hX : Ok X Γ (own, nm, cc, nL, ret, R0)) (hd : decode cc pc = .ok (.lconst z, 1)) (hv : Int64.ofNat (z : Nat) = v) (hq : pc + 1 = q) (kk : G X Γ P k n q L (.long v :: st) σ sz) : G X Γ P k n pc L (st) σ sz := by
  obtain ⟨p, l, e, R, s, m, args, below, meth, c⟩ := X
  obtain ⟨hx, hb, hml, hr, hR, hown, hts, hKN, hlk, hnm, hbs⟩ := hX
  subst hR
  subst hq
  intro H locs ls hP hS hl
  exact lv_lconst hx hb hd hv (kk H locs ls hP hS hl)

theorem S_iload_n {j : Fin 4} {x : Int32} (hX : Ok X Γ (own, nm, cc, nL, ret, R0)) (hd : decode cc pc = .ok (.iload_n j, 1)) (hi : lg L (j : Nat) = some (.int x)) (hq : pc + 1 = q) (kk : G X Γ P k n q L (.int x :: st) σ sz) : G X Γ P k n pc L st σ sz := by
  obtain ⟨p, l, e, R, s, m, args, below, meth, c⟩ := X
  obtain ⟨hx, hb, hml, hr, hR, hown, hts, hKN, hlk, hnm, hbs⟩ := hX
  subst hR
  subst hq
  intro H locs ls hP hS hl
  exact lv_iload_n hx hb hd rfl (hl.at hi) (kk H locs ls hP hS hl)
theorem S_iload {j : Nat} {x : Int32} (hX : Ok X Γ (own, nm, cc, nL, ret, R0)) (hd : decode cc pc = .ok (.iload j, 2)) (hi : lg L j = some (.int x)) (hq : pc + 2 = q) (kk : G X Γ P k n q L (.int x :: st) σ sz) : G X Γ P k n pc L st σ sz := by
  obtain ⟨p, l, e, R, s, m, args, below, meth, c⟩ := X
  obtain ⟨hx, hb, hml, hr, hR, hown, hts, hKN, hlk, hnm, hbs⟩ := hX
  subst hR
  subst hq
  intro H locs ls hP hS hl
  exact lv_iload hx hb hd (hl.at hi) (kk H locs ls hP hS hl)

theorem S_lload_n {j : Fin 4} {x : Int64} (hX : Ok X Γ (own, nm, cc, nL, ret, R0)) (hd : decode cc pc = .ok (.lload_n j, 1)) (hi : lg L (j : Nat) = some (.long x)) (hq : pc + 1 = q) (kk : G X Γ P k n q L (.long x :: st) σ sz) : G X Γ P k n pc L st σ sz := by
  obtain ⟨p, l, e, R, s, m, args, below, meth, c⟩ := X
  obtain ⟨hx, hb, hml, hr, hR, hown, hts, hKN, hlk, hnm, hbs⟩ := hX
  subst hR
  subst hq
  intro H locs ls hP hS hl
  exact lv_lload_n hx hb hd rfl (hl.at hi) (kk H locs ls hP hS hl)
theorem S_lload {j : Nat} {x : Int64} (hX : Ok X Γ (own, nm, cc, nL, ret, R0)) (hd : decode cc pc = .ok (.lload j, 2)) (hi : lg L j = some (.long x)) (hq : pc + 2 = q) (kk : G X Γ P k n q L (.long x :: st) σ sz) : G X Γ P k n pc L st σ sz := by
  obtain ⟨p, l, e, R, s, m, args, below, meth, c⟩ := X
  obtain ⟨hx, hb, hml, hr, hR, hown, hts, hKN, hlk, hnm, hbs⟩ := hX
  subst hR
  subst hq
  intro H locs ls hP hS hl
  exact lv_lload hx hb hd (hl.at hi) (kk H locs ls hP hS hl)

theorem S_aload_n {j : Fin 4} {x : Nat} (hX : Ok X Γ (own, nm, cc, nL, ret, R0)) (hd : decode cc pc = .ok (.aload_n j, 1)) (hi : lg L (j : Nat) = some (.ref x)) (hq : pc + 1 = q) (kk : G X Γ P k n q L (.ref x :: st) σ sz) : G X Γ P k n pc L st σ sz := by
  obtain ⟨p, l, e, R, s, m, args, below, meth, c⟩ := X
  obtain ⟨hx, hb, hml, hr, hR, hown, hts, hKN, hlk, hnm, hbs⟩ := hX
  subst hR
  subst hq
  intro H locs ls hP hS hl
  exact lv_aload_n hx hb hd rfl (hl.at hi) (kk H locs ls hP hS hl)
theorem S_aload {j : Nat} {x : Nat} (hX : Ok X Γ (own, nm, cc, nL, ret, R0)) (hd : decode cc pc = .ok (.aload j, 2)) (hi : lg L j = some (.ref x)) (hq : pc + 2 = q) (kk : G X Γ P k n q L (.ref x :: st) σ sz) : G X Γ P k n pc L st σ sz := by
  obtain ⟨p, l, e, R, s, m, args, below, meth, c⟩ := X
  obtain ⟨hx, hb, hml, hr, hR, hown, hts, hKN, hlk, hnm, hbs⟩ := hX
  subst hR
  subst hq
  intro H locs ls hP hS hl
  exact lv_aload hx hb hd (hl.at hi) (kk H locs ls hP hS hl)

theorem S_istore_n {j : Fin 4} {x : Int32} (L' : List (Option Value)) (hX : Ok X Γ (own, nm, cc, nL, ret, R0)) (hd : decode cc pc = .ok (.istore_n j, 1)) (hn : nolong L (j : Nat) = true) (hj : (j : Nat) < nL) (hL : ls1 L (j : Nat) (some (.int x)) = L') (hq : pc + 1 = q) (kk : G X Γ P k n q L' st σ sz) : G X Γ P k n pc L (.int x :: st) σ sz := by
  obtain ⟨p, l, e, R, s, m, args, below, meth, c⟩ := X
  obtain ⟨hx, hb, hml, hr, hR, hown, hts, hKN, hlk, hnm, hbs⟩ := hX
  subst hR
  subst hq
  subst hL
  intro H locs ls hP hS hl
  exact lv_istore_n hx hb hd rfl hl (by rw [hml]; exact hj) rfl fun ls' hl' => kk H locs ls' hP hS (LV.set hl' hn)
theorem S_istore {j : Nat} {x : Int32} (L' : List (Option Value)) (hX : Ok X Γ (own, nm, cc, nL, ret, R0)) (hd : decode cc pc = .ok (.istore j, 2)) (hn : nolong L j = true) (hj : j < nL) (hL : ls1 L j (some (.int x)) = L') (hq : pc + 2 = q) (kk : G X Γ P k n q L' st σ sz) : G X Γ P k n pc L (.int x :: st) σ sz := by
  obtain ⟨p, l, e, R, s, m, args, below, meth, c⟩ := X
  obtain ⟨hx, hb, hml, hr, hR, hown, hts, hKN, hlk, hnm, hbs⟩ := hX
  subst hR
  subst hq
  subst hL
  intro H locs ls hP hS hl
  exact lv_istore hx hb hd hl (by rw [hml]; exact hj) rfl fun ls' hl' => kk H locs ls' hP hS (LV.set hl' hn)

theorem S_astore_n {j : Fin 4} {x : Nat} (L' : List (Option Value)) (hX : Ok X Γ (own, nm, cc, nL, ret, R0)) (hd : decode cc pc = .ok (.astore_n j, 1)) (hn : nolong L (j : Nat) = true) (hj : (j : Nat) < nL) (hL : ls1 L (j : Nat) (some (.ref x)) = L') (hq : pc + 1 = q) (kk : G X Γ P k n q L' st σ sz) : G X Γ P k n pc L (.ref x :: st) σ sz := by
  obtain ⟨p, l, e, R, s, m, args, below, meth, c⟩ := X
  obtain ⟨hx, hb, hml, hr, hR, hown, hts, hKN, hlk, hnm, hbs⟩ := hX
  subst hR
  subst hq
  subst hL
  intro H locs ls hP hS hl
  exact lv_astore_n hx hb hd rfl hl (by rw [hml]; exact hj) rfl fun ls' hl' => kk H locs ls' hP hS (LV.set hl' hn)
theorem S_astore {j : Nat} {x : Nat} (L' : List (Option Value)) (hX : Ok X Γ (own, nm, cc, nL, ret, R0)) (hd : decode cc pc = .ok (.astore j, 2)) (hn : nolong L j = true) (hj : j < nL) (hL : ls1 L j (some (.ref x)) = L') (hq : pc + 2 = q) (kk : G X Γ P k n q L' st σ sz) : G X Γ P k n pc L (.ref x :: st) σ sz := by
  obtain ⟨p, l, e, R, s, m, args, below, meth, c⟩ := X
  obtain ⟨hx, hb, hml, hr, hR, hown, hts, hKN, hlk, hnm, hbs⟩ := hX
  subst hR
  subst hq
  subst hL
  intro H locs ls hP hS hl
  exact lv_astore hx hb hd hl (by rw [hml]; exact hj) rfl fun ls' hl' => kk H locs ls' hP hS (LV.set hl' hn)

theorem S_lstore_n {j : Fin 4} {x : Int64} (L' : List (Option Value)) (hX : Ok X Γ (own, nm, cc, nL, ret, R0)) (hd : decode cc pc = .ok (.lstore_n j, 1)) (hn : nolong L (j : Nat) = true) (hj : (j : Nat) + 1 < nL) (hL : ls1 (ls1 L (j : Nat) (some (.long x))) ((j : Nat) + 1) none = L') (hq : pc + 1 = q) (kk : G X Γ P k n q L' st σ sz) : G X Γ P k n pc L (.long x :: st) σ sz := by
  obtain ⟨p, l, e, R, s, m, args, below, meth, c⟩ := X
  obtain ⟨hx, hb, hml, hr, hR, hown, hts, hKN, hlk, hnm, hbs⟩ := hX
  subst hR
  subst hq
  subst hL
  intro H locs ls hP hS hl
  exact lv_lstore_n hx hb hd rfl hl (by rw [hml]; exact hj) rfl fun ls' hl' => kk H locs ls' hP hS (LV.set2 hl' hn)
theorem S_lstore {j : Nat} {x : Int64} (L' : List (Option Value)) (hX : Ok X Γ (own, nm, cc, nL, ret, R0)) (hd : decode cc pc = .ok (.lstore j, 2)) (hn : nolong L j = true) (hj : j + 1 < nL) (hL : ls1 (ls1 L j (some (.long x))) (j + 1) none = L') (hq : pc + 2 = q) (kk : G X Γ P k n q L' st σ sz) : G X Γ P k n pc L (.long x :: st) σ sz := by
  obtain ⟨p, l, e, R, s, m, args, below, meth, c⟩ := X
  obtain ⟨hx, hb, hml, hr, hR, hown, hts, hKN, hlk, hnm, hbs⟩ := hX
  subst hR
  subst hq
  subst hL
  intro H locs ls hP hS hl
  exact lv_lstore hx hb hd hl (by rw [hml]; exact hj) rfl fun ls' hl' => kk H locs ls' hP hS (LV.set2 hl' hn)
theorem S_iinc {j : Nat} {z : Int} {x v : Int32} (L' : List (Option Value)) (hX : Ok X Γ (own, nm, cc, nL, ret, R0)) (hd : decode cc pc = .ok (.iinc j z, 3)) (hi : lg L j = some (.int x)) (hv : x + Int32.ofInt z = v) (hn : nolong L j = true) (hj : j < nL) (hL : ls1 L j (some (.int v)) = L') (hq : pc + 3 = q) (kk : G X Γ P k n q L' st σ sz) : G X Γ P k n pc L st σ sz := by
  obtain ⟨p, l, e, R, s, m, args, below, meth, c⟩ := X
  obtain ⟨hx, hb, hml, hr, hR, hown, hts, hKN, hlk, hnm, hbs⟩ := hX
  subst hR
  subst hq
  subst hL
  intro H locs ls hP hS hl
  have hm : (j, Value.int x) ∈ asc 0 L := (asc_mem L 0 (j, .int x)).mpr ⟨j, by simp, hi⟩
  obtain ⟨kq, hkq⟩ := List.getElem?_of_mem hm
  exact lv_iinc (k := kq) hx hb hd hl hkq hv (by rw [hml]; exact hj) rfl fun ls' hl' => kk H locs ls' hP hS (LV.set hl' hn)

theorem S_iadd {x y : Int32} (hX : Ok X Γ (own, nm, cc, nL, ret, R0)) (hd : decode cc pc = .ok (.iadd, 1))  (hq : pc + 1 = q) (kk : G X Γ P k n q L (.int (x + y) :: st) σ sz) : G X Γ P k n pc L (.int y :: .int x :: st) σ sz := by
  obtain ⟨p, l, e, R, s, m, args, below, meth, c⟩ := X
  obtain ⟨hx, hb, hml, hr, hR, hown, hts, hKN, hlk, hnm, hbs⟩ := hX
  subst hR
  subst hq
  intro H locs ls hP hS hl
  exact lv_iadd hx hb hd (kk H locs ls hP hS hl)

theorem S_isub {x y : Int32} (hX : Ok X Γ (own, nm, cc, nL, ret, R0)) (hd : decode cc pc = .ok (.isub, 1))  (hq : pc + 1 = q) (kk : G X Γ P k n q L (.int (x - y) :: st) σ sz) : G X Γ P k n pc L (.int y :: .int x :: st) σ sz := by
  obtain ⟨p, l, e, R, s, m, args, below, meth, c⟩ := X
  obtain ⟨hx, hb, hml, hr, hR, hown, hts, hKN, hlk, hnm, hbs⟩ := hX
  subst hR
  subst hq
  intro H locs ls hP hS hl
  exact lv_isub hx hb hd (kk H locs ls hP hS hl)

theorem S_imul {x y : Int32} (hX : Ok X Γ (own, nm, cc, nL, ret, R0)) (hd : decode cc pc = .ok (.imul, 1))  (hq : pc + 1 = q) (kk : G X Γ P k n q L (.int (x * y) :: st) σ sz) : G X Γ P k n pc L (.int y :: .int x :: st) σ sz := by
  obtain ⟨p, l, e, R, s, m, args, below, meth, c⟩ := X
  obtain ⟨hx, hb, hml, hr, hR, hown, hts, hKN, hlk, hnm, hbs⟩ := hX
  subst hR
  subst hq
  intro H locs ls hP hS hl
  exact lv_imul hx hb hd (kk H locs ls hP hS hl)

theorem S_iand {x y : Int32} (hX : Ok X Γ (own, nm, cc, nL, ret, R0)) (hd : decode cc pc = .ok (.iand, 1))  (hq : pc + 1 = q) (kk : G X Γ P k n q L (.int (x &&& y) :: st) σ sz) : G X Γ P k n pc L (.int y :: .int x :: st) σ sz := by
  obtain ⟨p, l, e, R, s, m, args, below, meth, c⟩ := X
  obtain ⟨hx, hb, hml, hr, hR, hown, hts, hKN, hlk, hnm, hbs⟩ := hX
  subst hR
  subst hq
  intro H locs ls hP hS hl
  exact lv_iand hx hb hd (kk H locs ls hP hS hl)

theorem S_ior {x y : Int32} (hX : Ok X Γ (own, nm, cc, nL, ret, R0)) (hd : decode cc pc = .ok (.ior, 1))  (hq : pc + 1 = q) (kk : G X Γ P k n q L (.int (x ||| y) :: st) σ sz) : G X Γ P k n pc L (.int y :: .int x :: st) σ sz := by
  obtain ⟨p, l, e, R, s, m, args, below, meth, c⟩ := X
  obtain ⟨hx, hb, hml, hr, hR, hown, hts, hKN, hlk, hnm, hbs⟩ := hX
  subst hR
  subst hq
  intro H locs ls hP hS hl
  exact lv_ior hx hb hd (kk H locs ls hP hS hl)

theorem S_ixor {x y : Int32} (hX : Ok X Γ (own, nm, cc, nL, ret, R0)) (hd : decode cc pc = .ok (.ixor, 1))  (hq : pc + 1 = q) (kk : G X Γ P k n q L (.int (x ^^^ y) :: st) σ sz) : G X Γ P k n pc L (.int y :: .int x :: st) σ sz := by
  obtain ⟨p, l, e, R, s, m, args, below, meth, c⟩ := X
  obtain ⟨hx, hb, hml, hr, hR, hown, hts, hKN, hlk, hnm, hbs⟩ := hX
  subst hR
  subst hq
  intro H locs ls hP hS hl
  exact lv_ixor hx hb hd (kk H locs ls hP hS hl)

theorem S_ishl {x y : Int32} (hX : Ok X Γ (own, nm, cc, nL, ret, R0)) (hd : decode cc pc = .ok (.ishl, 1))  (hq : pc + 1 = q) (kk : G X Γ P k n q L (.int (x <<< (y &&& 31)) :: st) σ sz) : G X Γ P k n pc L (.int y :: .int x :: st) σ sz := by
  obtain ⟨p, l, e, R, s, m, args, below, meth, c⟩ := X
  obtain ⟨hx, hb, hml, hr, hR, hown, hts, hKN, hlk, hnm, hbs⟩ := hX
  subst hR
  subst hq
  intro H locs ls hP hS hl
  exact lv_ishl hx hb hd (kk H locs ls hP hS hl)

theorem S_ishr {x y : Int32} (hX : Ok X Γ (own, nm, cc, nL, ret, R0)) (hd : decode cc pc = .ok (.ishr, 1))  (hq : pc + 1 = q) (kk : G X Γ P k n q L (.int (x >>> (y &&& 31)) :: st) σ sz) : G X Γ P k n pc L (.int y :: .int x :: st) σ sz := by
  obtain ⟨p, l, e, R, s, m, args, below, meth, c⟩ := X
  obtain ⟨hx, hb, hml, hr, hR, hown, hts, hKN, hlk, hnm, hbs⟩ := hX
  subst hR
  subst hq
  intro H locs ls hP hS hl
  exact lv_ishr hx hb hd (kk H locs ls hP hS hl)

theorem S_idiv {x y : Int32} (hX : Ok X Γ (own, nm, cc, nL, ret, R0)) (hd : decode cc pc = .ok (.idiv, 1)) (hne : ¬ y = 0) (hq : pc + 1 = q) (kk : G X Γ P k n q L (.int (x / y) :: st) σ sz) : G X Γ P k n pc L (.int y :: .int x :: st) σ sz := by
  obtain ⟨p, l, e, R, s, m, args, below, meth, c⟩ := X
  obtain ⟨hx, hb, hml, hr, hR, hown, hts, hKN, hlk, hnm, hbs⟩ := hX
  subst hR
  subst hq
  intro H locs ls hP hS hl
  exact lv_idiv hx hb hd hne (kk H locs ls hP hS hl)

theorem S_irem {x y : Int32} (hX : Ok X Γ (own, nm, cc, nL, ret, R0)) (hd : decode cc pc = .ok (.irem, 1)) (hne : ¬ y = 0) (hq : pc + 1 = q) (kk : G X Γ P k n q L (.int (x - x / y * y) :: st) σ sz) : G X Γ P k n pc L (.int y :: .int x :: st) σ sz := by
  obtain ⟨p, l, e, R, s, m, args, below, meth, c⟩ := X
  obtain ⟨hx, hb, hml, hr, hR, hown, hts, hKN, hlk, hnm, hbs⟩ := hX
  subst hR
  subst hq
  intro H locs ls hP hS hl
  exact lv_irem hx hb hd hne (kk H locs ls hP hS hl)

theorem S_ladd {x y : Int64} (hX : Ok X Γ (own, nm, cc, nL, ret, R0)) (hd : decode cc pc = .ok (.ladd, 1))  (hq : pc + 1 = q) (kk : G X Γ P k n q L (.long (x + y) :: st) σ sz) : G X Γ P k n pc L (.long y :: .long x :: st) σ sz := by
  obtain ⟨p, l, e, R, s, m, args, below, meth, c⟩ := X
  obtain ⟨hx, hb, hml, hr, hR, hown, hts, hKN, hlk, hnm, hbs⟩ := hX
  subst hR
  subst hq
  intro H locs ls hP hS hl
  exact lv_ladd hx hb hd (kk H locs ls hP hS hl)

theorem S_lsub {x y : Int64} (hX : Ok X Γ (own, nm, cc, nL, ret, R0)) (hd : decode cc pc = .ok (.lsub, 1))  (hq : pc + 1 = q) (kk : G X Γ P k n q L (.long (x - y) :: st) σ sz) : G X Γ P k n pc L (.long y :: .long x :: st) σ sz := by
  obtain ⟨p, l, e, R, s, m, args, below, meth, c⟩ := X
  obtain ⟨hx, hb, hml, hr, hR, hown, hts, hKN, hlk, hnm, hbs⟩ := hX
  subst hR
  subst hq
  intro H locs ls hP hS hl
  exact lv_lsub hx hb hd (kk H locs ls hP hS hl)

theorem S_lmul {x y : Int64} (hX : Ok X Γ (own, nm, cc, nL, ret, R0)) (hd : decode cc pc = .ok (.lmul, 1))  (hq : pc + 1 = q) (kk : G X Γ P k n q L (.long (x * y) :: st) σ sz) : G X Γ P k n pc L (.long y :: .long x :: st) σ sz := by
  obtain ⟨p, l, e, R, s, m, args, below, meth, c⟩ := X
  obtain ⟨hx, hb, hml, hr, hR, hown, hts, hKN, hlk, hnm, hbs⟩ := hX
  subst hR
  subst hq
  intro H locs ls hP hS hl
  exact lv_lmul hx hb hd (kk H locs ls hP hS hl)

theorem S_land {x y : Int64} (hX : Ok X Γ (own, nm, cc, nL, ret, R0)) (hd : decode cc pc = .ok (.land, 1))  (hq : pc + 1 = q) (kk : G X Γ P k n q L (.long (x &&& y) :: st) σ sz) : G X Γ P k n pc L (.long y :: .long x :: st) σ sz := by
  obtain ⟨p, l, e, R, s, m, args, below, meth, c⟩ := X
  obtain ⟨hx, hb, hml, hr, hR, hown, hts, hKN, hlk, hnm, hbs⟩ := hX
  subst hR
  subst hq
  intro H locs ls hP hS hl
  exact lv_land hx hb hd (kk H locs ls hP hS hl)

theorem S_lor {x y : Int64} (hX : Ok X Γ (own, nm, cc, nL, ret, R0)) (hd : decode cc pc = .ok (.lor, 1))  (hq : pc + 1 = q) (kk : G X Γ P k n q L (.long (x ||| y) :: st) σ sz) : G X Γ P k n pc L (.long y :: .long x :: st) σ sz := by
  obtain ⟨p, l, e, R, s, m, args, below, meth, c⟩ := X
  obtain ⟨hx, hb, hml, hr, hR, hown, hts, hKN, hlk, hnm, hbs⟩ := hX
  subst hR
  subst hq
  intro H locs ls hP hS hl
  exact lv_lor hx hb hd (kk H locs ls hP hS hl)

theorem S_ldiv {x y : Int64} (hX : Ok X Γ (own, nm, cc, nL, ret, R0)) (hd : decode cc pc = .ok (.ldiv, 1)) (hne : ¬ y = 0) (hq : pc + 1 = q) (kk : G X Γ P k n q L (.long (x / y) :: st) σ sz) : G X Γ P k n pc L (.long y :: .long x :: st) σ sz := by
  obtain ⟨p, l, e, R, s, m, args, below, meth, c⟩ := X
  obtain ⟨hx, hb, hml, hr, hR, hown, hts, hKN, hlk, hnm, hbs⟩ := hX
  subst hR
  subst hq
  intro H locs ls hP hS hl
  exact lv_ldiv hx hb hd hne (kk H locs ls hP hS hl)

theorem S_lrem {x y : Int64} (hX : Ok X Γ (own, nm, cc, nL, ret, R0)) (hd : decode cc pc = .ok (.lrem, 1)) (hne : ¬ y = 0) (hq : pc + 1 = q) (kk : G X Γ P k n q L (.long (x - x / y * y) :: st) σ sz) : G X Γ P k n pc L (.long y :: .long x :: st) σ sz := by
  obtain ⟨p, l, e, R, s, m, args, below, meth, c⟩ := X
  obtain ⟨hx, hb, hml, hr, hR, hown, hts, hKN, hlk, hnm, hbs⟩ := hX
  subst hR
  subst hq
  intro H locs ls hP hS hl
  exact lv_lrem hx hb hd hne (kk H locs ls hP hS hl)

theorem S_lshl {x : Int64} {y : Int32} (hX : Ok X Γ (own, nm, cc, nL, ret, R0)) (hd : decode cc pc = .ok (.lshl, 1))  (hq : pc + 1 = q) (kk : G X Γ P k n q L (.long (x <<< (y.toInt64 &&& 63)) :: st) σ sz) : G X Γ P k n pc L (.int y :: .long x :: st) σ sz := by
  obtain ⟨p, l, e, R, s, m, args, below, meth, c⟩ := X
  obtain ⟨hx, hb, hml, hr, hR, hown, hts, hKN, hlk, hnm, hbs⟩ := hX
  subst hR
  subst hq
  intro H locs ls hP hS hl
  exact lv_lshl hx hb hd rfl (kk H locs ls hP hS hl)

theorem S_lshr {x : Int64} {y : Int32} (hX : Ok X Γ (own, nm, cc, nL, ret, R0)) (hd : decode cc pc = .ok (.lshr, 1))  (hq : pc + 1 = q) (kk : G X Γ P k n q L (.long (x >>> (y.toInt64 &&& 63)) :: st) σ sz) : G X Γ P k n pc L (.int y :: .long x :: st) σ sz := by
  obtain ⟨p, l, e, R, s, m, args, below, meth, c⟩ := X
  obtain ⟨hx, hb, hml, hr, hR, hown, hts, hKN, hlk, hnm, hbs⟩ := hX
  subst hR
  subst hq
  intro H locs ls hP hS hl
  exact lv_lshr hx hb hd rfl (kk H locs ls hP hS hl)

theorem S_i2l {x : Int32} (hX : Ok X Γ (own, nm, cc, nL, ret, R0)) (hd : decode cc pc = .ok (.i2l, 1))  (hq : pc + 1 = q) (kk : G X Γ P k n q L (.long x.toInt64 :: st) σ sz) : G X Γ P k n pc L (.int x :: st) σ sz := by
  obtain ⟨p, l, e, R, s, m, args, below, meth, c⟩ := X
  obtain ⟨hx, hb, hml, hr, hR, hown, hts, hKN, hlk, hnm, hbs⟩ := hX
  subst hR
  subst hq
  intro H locs ls hP hS hl
  exact lv_i2l hx hb hd rfl (kk H locs ls hP hS hl)

theorem S_l2i {x : Int64} (hX : Ok X Γ (own, nm, cc, nL, ret, R0)) (hd : decode cc pc = .ok (.l2i, 1))  (hq : pc + 1 = q) (kk : G X Γ P k n q L (.int x.toInt32 :: st) σ sz) : G X Γ P k n pc L (.long x :: st) σ sz := by
  obtain ⟨p, l, e, R, s, m, args, below, meth, c⟩ := X
  obtain ⟨hx, hb, hml, hr, hR, hown, hts, hKN, hlk, hnm, hbs⟩ := hX
  subst hR
  subst hq
  intro H locs ls hP hS hl
  exact lv_l2i hx hb hd rfl (kk H locs ls hP hS hl)

theorem S_i2b {x : Int32} (hX : Ok X Γ (own, nm, cc, nL, ret, R0)) (hd : decode cc pc = .ok (.i2b, 1))  (hq : pc + 1 = q) (kk : G X Γ P k n q L (.int x.toInt8.toInt32 :: st) σ sz) : G X Γ P k n pc L (.int x :: st) σ sz := by
  obtain ⟨p, l, e, R, s, m, args, below, meth, c⟩ := X
  obtain ⟨hx, hb, hml, hr, hR, hown, hts, hKN, hlk, hnm, hbs⟩ := hX
  subst hR
  subst hq
  intro H locs ls hP hS hl
  exact lv_i2b hx hb hd rfl (kk H locs ls hP hS hl)

theorem S_i2c {x : Int32} (hX : Ok X Γ (own, nm, cc, nL, ret, R0)) (hd : decode cc pc = .ok (.i2c, 1))  (hq : pc + 1 = q) (kk : G X Γ P k n q L (.int (x.toUInt32 % 65536).toInt32 :: st) σ sz) : G X Γ P k n pc L (.int x :: st) σ sz := by
  obtain ⟨p, l, e, R, s, m, args, below, meth, c⟩ := X
  obtain ⟨hx, hb, hml, hr, hR, hown, hts, hKN, hlk, hnm, hbs⟩ := hX
  subst hR
  subst hq
  intro H locs ls hP hS hl
  exact lv_i2c hx hb hd rfl (kk H locs ls hP hS hl)

theorem S_lcmp {x y : Int64} (hX : Ok X Γ (own, nm, cc, nL, ret, R0)) (hd : decode cc pc = .ok (.lcmp, 1))  (hq : pc + 1 = q) (kk : G X Γ P k n q L (.int (lg_cmp x y) :: st) σ sz) : G X Γ P k n pc L (.long y :: .long x :: st) σ sz := by
  obtain ⟨p, l, e, R, s, m, args, below, meth, c⟩ := X
  obtain ⟨hx, hb, hml, hr, hR, hown, hts, hKN, hlk, hnm, hbs⟩ := hX
  subst hR
  subst hq
  intro H locs ls hP hS hl
  exact W.lcmp hx hb hd (kk H locs ls hP hS hl)

theorem S_dup {va : Value} (hX : Ok X Γ (own, nm, cc, nL, ret, R0)) (hd : decode cc pc = .ok (.dup, 1)) (hva : va.category = 1) (hq : pc + 1 = q) (kk : G X Γ P k n q L (va :: va :: st) σ sz) : G X Γ P k n pc L (va :: st) σ sz := by
  obtain ⟨p, l, e, R, s, m, args, below, meth, c⟩ := X
  obtain ⟨hx, hb, hml, hr, hR, hown, hts, hKN, hlk, hnm, hbs⟩ := hX
  subst hR
  subst hq
  intro H locs ls hP hS hl
  exact lv_dup hx hb hd hva (kk H locs ls hP hS hl)

theorem S_pop {va : Value} (hX : Ok X Γ (own, nm, cc, nL, ret, R0)) (hd : decode cc pc = .ok (.pop, 1)) (hva : va.category = 1) (hq : pc + 1 = q) (kk : G X Γ P k n q L (st) σ sz) : G X Γ P k n pc L (va :: st) σ sz := by
  obtain ⟨p, l, e, R, s, m, args, below, meth, c⟩ := X
  obtain ⟨hx, hb, hml, hr, hR, hown, hts, hKN, hlk, hnm, hbs⟩ := hX
  subst hR
  subst hq
  intro H locs ls hP hS hl
  exact lv_pop hx hb hd hva (kk H locs ls hP hS hl)

theorem S_dup2_11 {va vb : Value} (hX : Ok X Γ (own, nm, cc, nL, ret, R0)) (hd : decode cc pc = .ok (.dup2, 1)) (hva : va.category = 1) (hvb : vb.category = 1) (hq : pc + 1 = q) (kk : G X Γ P k n q L (va :: vb :: va :: vb :: st) σ sz) : G X Γ P k n pc L (va :: vb :: st) σ sz := by
  obtain ⟨p, l, e, R, s, m, args, below, meth, c⟩ := X
  obtain ⟨hx, hb, hml, hr, hR, hown, hts, hKN, hlk, hnm, hbs⟩ := hX
  subst hR
  subst hq
  intro H locs ls hP hS hl
  exact lv_dup2_11 hx hb hd hva hvb (kk H locs ls hP hS hl)

theorem S_if_eq {x : Int32} {off : Int} (tg : Nat) (hX : Ok X Γ (own, nm, cc, nL, ret, R0)) (hd : decode cc pc = .ok (.ifCond .eq off, 3)) (ht : (pc : Int) + off = (tg : Int)) (hq : pc + 3 = q) (k1 : x = 0 → G X Γ P k n tg L st σ sz) (k2 : ¬ (x = 0) → G X Γ P k n q L st σ sz) : G X Γ P k n pc L (.int x :: st) σ sz := by
  obtain ⟨p, l, e, R, s, m, args, below, meth, c⟩ := X
  obtain ⟨hx, hb, hml, hr, hR, hown, hts, hKN, hlk, hnm, hbs⟩ := hX
  subst hR
  subst hq
  intro H locs ls hP hS hl
  exact lv_if_eq hx hb hd ht (fun z => k1 z H locs ls hP hS hl) (fun z => k2 z H locs ls hP hS hl)
theorem S_icmp_eq {x y : Int32} {off : Int} (tg : Nat) (hX : Ok X Γ (own, nm, cc, nL, ret, R0)) (hd : decode cc pc = .ok (.if_icmp .eq off, 3)) (ht : (pc : Int) + off = (tg : Int)) (hq : pc + 3 = q) (k1 : x = y → G X Γ P k n tg L st σ sz) (k2 : ¬ (x = y) → G X Γ P k n q L st σ sz) : G X Γ P k n pc L (.int y :: .int x :: st) σ sz := by
  obtain ⟨p, l, e, R, s, m, args, below, meth, c⟩ := X
  obtain ⟨hx, hb, hml, hr, hR, hown, hts, hKN, hlk, hnm, hbs⟩ := hX
  subst hR
  subst hq
  intro H locs ls hP hS hl
  exact lv_icmp_eq hx hb hd ht (fun z => k1 z H locs ls hP hS hl) (fun z => k2 z H locs ls hP hS hl)

theorem S_if_ne {x : Int32} {off : Int} (tg : Nat) (hX : Ok X Γ (own, nm, cc, nL, ret, R0)) (hd : decode cc pc = .ok (.ifCond .ne off, 3)) (ht : (pc : Int) + off = (tg : Int)) (hq : pc + 3 = q) (k1 : ¬ x = 0 → G X Γ P k n tg L st σ sz) (k2 : x = 0 → G X Γ P k n q L st σ sz) : G X Γ P k n pc L (.int x :: st) σ sz := by
  obtain ⟨p, l, e, R, s, m, args, below, meth, c⟩ := X
  obtain ⟨hx, hb, hml, hr, hR, hown, hts, hKN, hlk, hnm, hbs⟩ := hX
  subst hR
  subst hq
  intro H locs ls hP hS hl
  exact lv_if_ne hx hb hd ht (fun z => k1 z H locs ls hP hS hl) (fun z => k2 z H locs ls hP hS hl)
theorem S_icmp_ne {x y : Int32} {off : Int} (tg : Nat) (hX : Ok X Γ (own, nm, cc, nL, ret, R0)) (hd : decode cc pc = .ok (.if_icmp .ne off, 3)) (ht : (pc : Int) + off = (tg : Int)) (hq : pc + 3 = q) (k1 : ¬ x = y → G X Γ P k n tg L st σ sz) (k2 : x = y → G X Γ P k n q L st σ sz) : G X Γ P k n pc L (.int y :: .int x :: st) σ sz := by
  obtain ⟨p, l, e, R, s, m, args, below, meth, c⟩ := X
  obtain ⟨hx, hb, hml, hr, hR, hown, hts, hKN, hlk, hnm, hbs⟩ := hX
  subst hR
  subst hq
  intro H locs ls hP hS hl
  exact lv_icmp_ne hx hb hd ht (fun z => k1 z H locs ls hP hS hl) (fun z => k2 z H locs ls hP hS hl)

theorem S_if_lt {x : Int32} {off : Int} (tg : Nat) (hX : Ok X Γ (own, nm, cc, nL, ret, R0)) (hd : decode cc pc = .ok (.ifCond .lt off, 3)) (ht : (pc : Int) + off = (tg : Int)) (hq : pc + 3 = q) (k1 : x < 0 → G X Γ P k n tg L st σ sz) (k2 : ¬ (x < 0) → G X Γ P k n q L st σ sz) : G X Γ P k n pc L (.int x :: st) σ sz := by
  obtain ⟨p, l, e, R, s, m, args, below, meth, c⟩ := X
  obtain ⟨hx, hb, hml, hr, hR, hown, hts, hKN, hlk, hnm, hbs⟩ := hX
  subst hR
  subst hq
  intro H locs ls hP hS hl
  exact lv_if_lt hx hb hd ht (fun z => k1 z H locs ls hP hS hl) (fun z => k2 z H locs ls hP hS hl)
theorem S_icmp_lt {x y : Int32} {off : Int} (tg : Nat) (hX : Ok X Γ (own, nm, cc, nL, ret, R0)) (hd : decode cc pc = .ok (.if_icmp .lt off, 3)) (ht : (pc : Int) + off = (tg : Int)) (hq : pc + 3 = q) (k1 : x < y → G X Γ P k n tg L st σ sz) (k2 : ¬ (x < y) → G X Γ P k n q L st σ sz) : G X Γ P k n pc L (.int y :: .int x :: st) σ sz := by
  obtain ⟨p, l, e, R, s, m, args, below, meth, c⟩ := X
  obtain ⟨hx, hb, hml, hr, hR, hown, hts, hKN, hlk, hnm, hbs⟩ := hX
  subst hR
  subst hq
  intro H locs ls hP hS hl
  exact lv_icmp_lt hx hb hd ht (fun z => k1 z H locs ls hP hS hl) (fun z => k2 z H locs ls hP hS hl)

theorem S_if_ge {x : Int32} {off : Int} (tg : Nat) (hX : Ok X Γ (own, nm, cc, nL, ret, R0)) (hd : decode cc pc = .ok (.ifCond .ge off, 3)) (ht : (pc : Int) + off = (tg : Int)) (hq : pc + 3 = q) (k1 : 0 ≤ x → G X Γ P k n tg L st σ sz) (k2 : ¬ (0 ≤ x) → G X Γ P k n q L st σ sz) : G X Γ P k n pc L (.int x :: st) σ sz := by
  obtain ⟨p, l, e, R, s, m, args, below, meth, c⟩ := X
  obtain ⟨hx, hb, hml, hr, hR, hown, hts, hKN, hlk, hnm, hbs⟩ := hX
  subst hR
  subst hq
  intro H locs ls hP hS hl
  exact lv_if_ge hx hb hd ht (fun z => k1 z H locs ls hP hS hl) (fun z => k2 z H locs ls hP hS hl)
theorem S_icmp_ge {x y : Int32} {off : Int} (tg : Nat) (hX : Ok X Γ (own, nm, cc, nL, ret, R0)) (hd : decode cc pc = .ok (.if_icmp .ge off, 3)) (ht : (pc : Int) + off = (tg : Int)) (hq : pc + 3 = q) (k1 : y ≤ x → G X Γ P k n tg L st σ sz) (k2 : ¬ (y ≤ x) → G X Γ P k n q L st σ sz) : G X Γ P k n pc L (.int y :: .int x :: st) σ sz := by
  obtain ⟨p, l, e, R, s, m, args, below, meth, c⟩ := X
  obtain ⟨hx, hb, hml, hr, hR, hown, hts, hKN, hlk, hnm, hbs⟩ := hX
  subst hR
  subst hq
  intro H locs ls hP hS hl
  exact lv_icmp_ge hx hb hd ht (fun z => k1 z H locs ls hP hS hl) (fun z => k2 z H locs ls hP hS hl)

theorem S_if_gt {x : Int32} {off : Int} (tg : Nat) (hX : Ok X Γ (own, nm, cc, nL, ret, R0)) (hd : decode cc pc = .ok (.ifCond .gt off, 3)) (ht : (pc : Int) + off = (tg : Int)) (hq : pc + 3 = q) (k1 : 0 < x → G X Γ P k n tg L st σ sz) (k2 : ¬ (0 < x) → G X Γ P k n q L st σ sz) : G X Γ P k n pc L (.int x :: st) σ sz := by
  obtain ⟨p, l, e, R, s, m, args, below, meth, c⟩ := X
  obtain ⟨hx, hb, hml, hr, hR, hown, hts, hKN, hlk, hnm, hbs⟩ := hX
  subst hR
  subst hq
  intro H locs ls hP hS hl
  exact lv_if_gt hx hb hd ht (fun z => k1 z H locs ls hP hS hl) (fun z => k2 z H locs ls hP hS hl)
theorem S_icmp_gt {x y : Int32} {off : Int} (tg : Nat) (hX : Ok X Γ (own, nm, cc, nL, ret, R0)) (hd : decode cc pc = .ok (.if_icmp .gt off, 3)) (ht : (pc : Int) + off = (tg : Int)) (hq : pc + 3 = q) (k1 : y < x → G X Γ P k n tg L st σ sz) (k2 : ¬ (y < x) → G X Γ P k n q L st σ sz) : G X Γ P k n pc L (.int y :: .int x :: st) σ sz := by
  obtain ⟨p, l, e, R, s, m, args, below, meth, c⟩ := X
  obtain ⟨hx, hb, hml, hr, hR, hown, hts, hKN, hlk, hnm, hbs⟩ := hX
  subst hR
  subst hq
  intro H locs ls hP hS hl
  exact lv_icmp_gt hx hb hd ht (fun z => k1 z H locs ls hP hS hl) (fun z => k2 z H locs ls hP hS hl)

theorem S_if_le {x : Int32} {off : Int} (tg : Nat) (hX : Ok X Γ (own, nm, cc, nL, ret, R0)) (hd : decode cc pc = .ok (.ifCond .le off, 3)) (ht : (pc : Int) + off = (tg : Int)) (hq : pc + 3 = q) (k1 : x ≤ 0 → G X Γ P k n tg L st σ sz) (k2 : ¬ (x ≤ 0) → G X Γ P k n q L st σ sz) : G X Γ P k n pc L (.int x :: st) σ sz := by
  obtain ⟨p, l, e, R, s, m, args, below, meth, c⟩ := X
  obtain ⟨hx, hb, hml, hr, hR, hown, hts, hKN, hlk, hnm, hbs⟩ := hX
  subst hR
  subst hq
  intro H locs ls hP hS hl
  exact lv_if_le hx hb hd ht (fun z => k1 z H locs ls hP hS hl) (fun z => k2 z H locs ls hP hS hl)
theorem S_icmp_le {x y : Int32} {off : Int} (tg : Nat) (hX : Ok X Γ (own, nm, cc, nL, ret, R0)) (hd : decode cc pc = .ok (.if_icmp .le off, 3)) (ht : (pc : Int) + off = (tg : Int)) (hq : pc + 3 = q) (k1 : x ≤ y → G X Γ P k n tg L st σ sz) (k2 : ¬ (x ≤ y) → G X Γ P k n q L st σ sz) : G X Γ P k n pc L (.int y :: .int x :: st) σ sz := by
  obtain ⟨p, l, e, R, s, m, args, below, meth, c⟩ := X
  obtain ⟨hx, hb, hml, hr, hR, hown, hts, hKN, hlk, hnm, hbs⟩ := hX
  subst hR
  subst hq
  intro H locs ls hP hS hl
  exact lv_icmp_le hx hb hd ht (fun z => k1 z H locs ls hP hS hl) (fun z => k2 z H locs ls hP hS hl)

theorem S_goto {off : Int} (tg : Nat) (hX : Ok X Γ (own, nm, cc, nL, ret, R0)) (hd : decode cc pc = .ok (.goto off, 3)) (ht : (pc : Int) + off = (tg : Int)) (kk : G X Γ P k n tg L st σ sz) : G X Γ P k n pc L st σ sz := by
  obtain ⟨p, l, e, R, s, m, args, below, meth, c⟩ := X
  obtain ⟨hx, hb, hml, hr, hR, hown, hts, hKN, hlk, hnm, hbs⟩ := hX
  subst hR
  intro H locs ls hP hS hl
  exact lv_goto hx hb hd ht (kk H locs ls hP hS hl)
theorem S_tableOut {dflt lo hi : Int} {offs : Array Int} {len : Nat} {x : Int32} (tg : Nat) (hX : Ok X Γ (own, nm, cc, nL, ret, R0)) (hd : decode cc pc = .ok (.tableswitch dflt lo hi offs, len)) (h : x.toInt < lo ∨ hi < x.toInt) (ht : (pc : Int) + dflt = (tg : Int)) (kk : G X Γ P k n tg L st σ sz) : G X Γ P k n pc L (.int x :: st) σ sz := by
  obtain ⟨p, l, e, R, s, m, args, below, meth, c⟩ := X
  obtain ⟨hx, hb, hml, hr, hR, hown, hts, hKN, hlk, hnm, hbs⟩ := hX
  subst hR
  intro H locs ls hP hS hl
  exact lv_tableOut hx hb hd h ht (kk H locs ls hP hS hl)
theorem S_tableIn {dflt lo hi : Int} {offs : Array Int} {len : Nat} {x : Int32} {off : Int} (tg : Nat) (hX : Ok X Γ (own, nm, cc, nL, ret, R0)) (hd : decode cc pc = .ok (.tableswitch dflt lo hi offs, len)) (h1 : ¬ x.toInt < lo) (h2 : ¬ hi < x.toInt) (ho : offs[(x.toInt - lo).toNat]? = some off) (ht : (pc : Int) + off = (tg : Int)) (kk : G X Γ P k n tg L st σ sz) : G X Γ P k n pc L (.int x :: st) σ sz := by
  obtain ⟨p, l, e, R, s, m, args, below, meth, c⟩ := X
  obtain ⟨hx, hb, hml, hr, hR, hown, hts, hKN, hlk, hnm, hbs⟩ := hX
  subst hR
  intro H locs ls hP hS hl
  exact lv_tableIn hx hb hd h1 h2 ho ht (kk H locs ls hP hS hl)
theorem S_ldc {ix : Nat} {v : Int32} (hX : Ok X Γ (own, nm, cc, nL, ret, R0)) (hw : Cond.constant own ix v ∈ UW) (hd : decode cc pc = .ok (.ldc ix, 2)) (hq : pc + 2 = q) (kk : G X Γ P k n q L (.int v :: st) σ sz) : G X Γ P k n pc L st σ sz := by
  obtain ⟨p, l, e, R, s, m, args, below, meth, c⟩ := X
  obtain ⟨hx, hb, hml, hr, hR, hown, hts, hKN, hlk, hnm, hbs⟩ := hX
  subst hR
  subst hq
  intro H locs ls hP hS hl
  exact lv_ldc hx hb hown (hts _ hw) hd (kk H locs ls hP hS hl)
theorem S_ldcw {ix : Nat} {v : Int32} (hX : Ok X Γ (own, nm, cc, nL, ret, R0)) (hw : Cond.constant own ix v ∈ UW) (hd : decode cc pc = .ok (.ldc_w ix, 3)) (hq : pc + 3 = q) (kk : G X Γ P k n q L (.int v :: st) σ sz) : G X Γ P k n pc L st σ sz := by
  obtain ⟨p, l, e, R, s, m, args, below, meth, c⟩ := X
  obtain ⟨hx, hb, hml, hr, hR, hown, hts, hKN, hlk, hnm, hbs⟩ := hX
  subst hR
  subst hq
  intro H locs ls hP hS hl
  exact lv_ldcw hx hb hown (hts _ hw) hd (kk H locs ls hP hS hl)
theorem S_ldc2 {ix : Nat} {v : Int64} (hX : Ok X Γ (own, nm, cc, nL, ret, R0)) (hw : Cond.constantLong own ix v ∈ UW) (hd : decode cc pc = .ok (.ldc2_w ix, 3)) (hq : pc + 3 = q) (kk : G X Γ P k n q L (.long v :: st) σ sz) : G X Γ P k n pc L st σ sz := by
  obtain ⟨p, l, e, R, s, m, args, below, meth, c⟩ := X
  obtain ⟨hx, hb, hml, hr, hR, hown, hts, hKN, hlk, hnm, hbs⟩ := hX
  subst hR
  subst hq
  intro H locs ls hP hS hl
  exact lv_ldc2 hx hb hown (hts _ hw) hd (kk H locs ls hP hS hl)

theorem S_ret_aux {s t : State} {Γ : Gm} {P : PO} {σ : Sg} {sz : Nat} {H : Heap} {locs : List Loc} {v : Option Value} {a : Array Value} (hP : RP Γ σ sz H) (hS : va_S (ow Γ) s.heap H locs) (h : P v σ sz) (ht : t.heap = H) : QcA Γ P a s (.returned v) t :=
  ⟨⟨v, σ, sz, rfl, h, by rw [ht]; exact hP⟩, hS.F ht⟩
theorem S_iret {v : Int32} (hX : Ok X Γ (own, nm, cc, nL, some .int, R0)) (hd : decode cc pc = .ok (.ireturn, 1)) (hk : k ≤ R0.cells) (hn : n ≤ R0.slots) (h : P (some (.int v)) σ sz) : G X Γ P k n pc L [.int v] σ sz := by
  obtain ⟨p, l, e, R, s, m, args, below, meth, c⟩ := X
  obtain ⟨hx, hb, hml, hr, hR, hown, hts, hKN, hlk, hnm, hbs⟩ := hX
  subst hR
  intro H locs ls hP hS hl
  refine W.widen hk hn ?_
  exact W.iret hx hb hr (fun t ht _ => S_ret_aux hP hS h ht) hS.2.2 hd hlk
theorem S_zret {v : Int32} (hX : Ok X Γ (own, nm, cc, nL, some .boolean, R0)) (hd : decode cc pc = .ok (.ireturn, 1)) (hk : k ≤ R0.cells) (hn : n ≤ R0.slots) (hv : narrow .boolean (.int v) = .int v) (h : P (some (.int v)) σ sz) : G X Γ P k n pc L [.int v] σ sz := by
  obtain ⟨p, l, e, R, s, m, args, below, meth, c⟩ := X
  obtain ⟨hx, hb, hml, hr, hR, hown, hts, hKN, hlk, hnm, hbs⟩ := hX
  subst hR
  intro H locs ls hP hS hl
  refine W.widen hk hn ?_
  exact W.zret hx hb hr hv (fun t ht _ => S_ret_aux hP hS h ht) hS.2.2 hd hlk
theorem S_xret {v : Int32} {ty : FieldType} (hX : Ok X Γ (own, nm, cc, nL, some ty, R0)) (hd : decode cc pc = .ok (.ireturn, 1)) (hk : k ≤ R0.cells) (hn : n ≤ R0.slots) (hv : narrow ty (.int v) = .int v) (h : P (some (.int v)) σ sz) : G X Γ P k n pc L [.int v] σ sz := by
  obtain ⟨p, l, e, R, s, m, args, below, meth, c⟩ := X
  obtain ⟨hx, hb, hml, hr, hR, hown, hts, hKN, hlk, hnm, hbs⟩ := hX
  subst hR
  intro H locs ls hP hS hl
  refine W.widen hk hn ?_
  exact W.zret hx hb hr hv (fun t ht _ => S_ret_aux hP hS h ht) hS.2.2 hd hlk
theorem S_lret {v : Int64} (hX : Ok X Γ (own, nm, cc, nL, some .long, R0)) (hd : decode cc pc = .ok (.lreturn, 1)) (hk : k ≤ R0.cells) (hn : n ≤ R0.slots) (h : P (some (.long v)) σ sz) : G X Γ P k n pc L [.long v] σ sz := by
  obtain ⟨p, l, e, R, s, m, args, below, meth, c⟩ := X
  obtain ⟨hx, hb, hml, hr, hR, hown, hts, hKN, hlk, hnm, hbs⟩ := hX
  subst hR
  intro H locs ls hP hS hl
  refine W.widen hk hn ?_
  exact W.lret hx hb hr (fun t ht _ => S_ret_aux hP hS h ht) hS.2.2 hd hlk
theorem S_aret {a : Nat} {rt : FieldType} (hX : Ok X Γ (own, nm, cc, nL, some rt, R0)) (hrt : (∃ z, rt = .object z) ∨ ∃ z, rt = .array z) (hd : decode cc pc = .ok (.areturn, 1)) (hk : k ≤ R0.cells) (hn : n ≤ R0.slots) (h : P (some (.ref a)) σ sz) : G X Γ P k n pc L [.ref a] σ sz := by
  obtain ⟨p, l, e, R, s, m, args, below, meth, c⟩ := X
  obtain ⟨hx, hb, hml, hr, hR, hown, hts, hKN, hlk, hnm, hbs⟩ := hX
  subst hR
  intro H locs ls hP hS hl
  refine W.widen hk hn ?_
  exact W.aret hx hb hr hrt (Or.inr ⟨a, rfl⟩) (fun t ht _ => S_ret_aux hP hS h ht) hS.2.2 hd hlk
theorem S_vret (hX : Ok X Γ (own, nm, cc, nL, none, R0)) (hd : decode cc pc = .ok (.return_, 1)) (hk : k ≤ R0.cells) (hn : n ≤ R0.slots) (h : P none σ sz) : G X Γ P k n pc L [] σ sz := by
  obtain ⟨p, l, e, R, s, m, args, below, meth, c⟩ := X
  obtain ⟨hx, hb, hml, hr, hR, hown, hts, hKN, hlk, hnm, hbs⟩ := hX
  subst hR
  intro H locs ls hP hS hl
  refine W.widen hk hn ?_
  exact W.vret hx hb hr (fun t ht _ => S_ret_aux hP hS h ht) hS.2.2 hd hlk

/-! the heap's rows -/
/-- a field: the class of the object's place ci has it at k under that name -/
def fok (ci k : Nat) (ref name desc : String) (fin : Bool) (ty : FieldType) : Prop := ∃ (C : String) (T : u_T) (N : Nat) (ty0 : Nat → FieldType), clss[ci]? = some (C, T, N) ∧ k < N ∧ T k = (ref, name, desc, fin) ∧ (∀ w ∈ u_ws C T N, w ∈ UW) ∧ (∀ k, k < N → parseFieldDescriptor (T k).2.2.1 = some (ty0 k)) ∧ (∀ a, a < N → ∀ b, b < N → a ≠ b → (T a).2.1 ≠ (T b).2.1) ∧ ty0 k = ty
theorem S_getf {a ci kf ix : Nat} {ref name desc : String} {fin : Bool} {ty : FieldType} {fs : List Value} {v : Value} (hX : Ok X Γ (own, nm, cc, nL, ret, R0)) (hw : Cond.fieldLink own ix ref name desc ∈ UW) (hf : fok ci kf ref name desc fin ty) (hd : decode cc pc = .ok (.getfield ix, 3)) (hσ : σ a = some (.inr (ci, fs))) (hv : fs[kf]? = some v) (hq : pc + 3 = q) (kk : G X Γ P k n q L (v :: st) σ sz) : G X Γ P k n pc L (.ref a :: st) σ sz := by
  obtain ⟨p, l, e, R, s, m, args, below, meth, c⟩ := X
  obtain ⟨hx, hb, hml, hr, hR, hown, hts, hKN, hlk, hnm, hbs⟩ := hX
  subst hR
  subst hq
  obtain ⟨C, T, N, ty0, g1, g2, g3, g4, g5, g6, g7⟩ := hf
  intro H locs ls hP hS hl
  have e1 : ref = (T kf).1 := by rw [g3]
  have e2 : name = (T kf).2.1 := by rw [g3]
  have e3 : desc = (T kf).2.2.1 := by rw [g3]
  subst e1; subst e2; subst e3
  exact va_get (D := Γ.1) (cl := clss) (tys := tyL Γ) (ci := ci) (v := v) (fs := fs) hx hb hts g4 hown hKN.1 (hP.one hσ) 0 rfl g1 kf g2 (hts _ hw) (fun _ z => z) hv hd (kk H locs ls hP hS hl)
theorem S_putf_aux {p : Program} {l : Launch} {e : Env} {R : Room} {s : State} {m : MethodId} {args : Array Value} {below : List Frame} {meth : Method} {c : Code} {Q : State → Prop} {H : Heap} {locs : List Loc} {ls : Array Slot} {a ci kf ix : Nat} {C : String} {T : u_T} {N : Nat} {ty0 : Nat → FieldType} {fs : List Value} {v : Value} (hx : p.tables.exec = Jvm.exec) (hb : c.code = cc) (hts : ∀ w ∈ UW, w.before args s = true) (hown : s.vm.findClass own = some m.cls) (hK : va_K Γ.1 clss (tyL Γ) s)
    (g1 : clss[ci]? = some (C, T, N)) (g2 : kf < N) (g4 : ∀ w ∈ u_ws C T N, w ∈ UW) (g5 : ∀ k, k < N → parseFieldDescriptor (T k).2.2.1 = some (ty0 k)) (g6 : ∀ a, a < N → ∀ b, b < N → a ≠ b → (T a).2.1 ≠ (T b).2.1) (hlink : (Cond.fieldLink own ix (T kf).1 (T kf).2.1 (T kf).2.2.1).before args s = true) (hn : narrow (ty0 kf) v = v) (hfit : fits (ty0 kf) v = true) (hl : kf < fs.length) (hfin : (T kf).2.2.2 = false ∨ ((T kf).2.2.2 = true ∧ meth.name = "<init>" ∧ (T kf).1 = own))
    (hσ : σ a = some (.inr (ci, fs))) (hd : decode cc pc = .ok (.putfield ix, 3)) (hP : RP Γ σ sz H) (hS : va_S (ow Γ) s.heap H locs)
    (kk : ∀ (H1 : Heap) (locs1 : List Loc), RP Γ (su σ a (.inr (ci, fs.set kf v))) sz H1 → va_S (ow Γ) s.heap H1 locs1 → W p l e R s m args below meth c H1 locs1 k n Q (F0 m (pc + 3) ls st)) : W p l e R s m args below meth c H locs k n Q (F0 m pc ls (v :: .ref a :: st)) := by
  have hap := va_apart (own := own) hts g4 ty0 g5 g6 hK g1
  obtain ⟨r, h1, cell, q1, q2, q3, q4⟩ := (hP.2 a _ hσ).2
  have hr : r = (C, T, N) := Option.some.inj (h1.symm.trans g1)
  subst hr
  obtain ⟨hSl, hfc, kC, hkC, hkind⟩ := hK.1 ci _ g1
  obtain ⟨cf, kf', fi, f, hi, hsl⟩ := hSl kf g2
  have hlay := hts _ (g4 _ (u_in_lay g2))
  unfold u_lay at hlay
  have hst := (u_facts hfc hkC (u_lays hts g4 g2) hi).1
  rcases hfin with hfin | ⟨hfin, hin2, hdecl⟩
  · rw [if_neg (by rw [hfin]; decide)] at hlay
    have h6 := u_store hfc hkC hkind hlay hi (g5 kf g2) hn hfit
    refine W.putK hx hb (f := f) ⟨hown, hlink, ⟨_, _, _, hi⟩, hst⟩ (by rw [q2]; exact h6) q1 q3 (by rw [hsl]; exact k2_hasslot (q4 kf g2)) rfl rfl hd fun H' e1 e2 e3 => ?_
    rw [hsl] at e1 ⊢
    exact kk H' _ (hP.put hσ ⟨_, g1, t_OB.to (V := updV (vp_V fs) kf v) ⟨_, e1, q2, q3, t_set q4 hap g2 v⟩ (fun j _ => vp_updV_set hl v j)⟩ e2 e3) (hS.put e2 e3 (hP.2 a _ hσ).1)
  · rw [if_pos hfin] at hlay
    have hcf : m.cls = cf := by
      obtain ⟨_, _, c', _, _, _, -, -, hf', -, -, -, hown2, -⟩ := Cond.laysFinal_spec hlay
      have e1 : c' = cf := by have := hi.symm.trans hf'; simp at this; exact this.1.symm
      rw [hdecl] at hown2
      rw [← e1]; exact Option.some.inj (hown.symm.trans hown2)
    have h6 := u_fits hfc hkC hkind (Or.inr hlay) hi (g5 kf g2) hn hfit
    refine W.putFinK hx hb hown hlink hi hst hcf hin2 (by rw [q2]; exact h6) q1 q3 (by rw [hsl]; exact k2_hasslot (q4 kf g2)) rfl rfl hd fun H' e1 e2 e3 => ?_
    rw [hsl] at e1 ⊢
    exact kk H' _ (hP.put hσ ⟨_, g1, t_OB.to (V := updV (vp_V fs) kf v) ⟨_, e1, q2, q3, t_set q4 hap g2 v⟩ (fun j _ => vp_updV_set hl v j)⟩ e2 e3) (hS.put e2 e3 (hP.2 a _ hσ).1)
theorem S_putf {a ci kf ix : Nat} {ref name desc : String} {fs : List Value} {v : Value} {ty : FieldType} (hX : Ok X Γ (own, nm, cc, nL, ret, R0)) (hw : Cond.fieldLink own ix ref name desc ∈ UW) (hf : fok ci kf ref name desc false ty) (hn : narrow ty v = v) (hfit : fits ty v = true) (hl : kf < fs.length) (hd : decode cc pc = .ok (.putfield ix, 3)) (hσ : σ a = some (.inr (ci, fs))) (hq : pc + 3 = q) (kk : G X Γ P k n q L st (su σ a (.inr (ci, fs.set kf v))) sz) : G X Γ P k n pc L (v :: .ref a :: st) σ sz := by
  obtain ⟨p, l, e, R, s, m, args, below, meth, c⟩ := X
  obtain ⟨hx, hb, hml, hr, hR, hown, hts, hKN, hlk, hnm, hbs⟩ := hX
  subst hR
  subst hq
  obtain ⟨C, T, N, ty0, g1, g2, g3, g4, g5, g6, g7⟩ := hf
  subst g7
  intro H locs ls hP hS hl2
  have e1 : ref = (T kf).1 := by rw [g3]
  have e2 : name = (T kf).2.1 := by rw [g3]
  have e3 : desc = (T kf).2.2.1 := by rw [g3]
  subst e1; subst e2; subst e3
  exact S_putf_aux hx hb hts hown hKN.1 g1 g2 g4 g5 g6 (hts _ hw) hn hfit hl (Or.inl (by rw [g3])) hσ hd hP hS (fun H1 locs1 hP1 hS1 => kk H1 locs1 ls hP1 hS1 hl2)
theorem S_putF {a ci kf ix : Nat} {ref name desc : String} {fs : List Value} {v : Value} {ty : FieldType} (hX : Ok X Γ (own, nm, cc, nL, ret, R0)) (hini : nm = "<init>") (hdecl : ref = own) (hw : Cond.fieldLink own ix ref name desc ∈ UW) (hf : fok ci kf ref name desc true ty) (hn : narrow ty v = v) (hfit : fits ty v = true) (hl : kf < fs.length) (hd : decode cc pc = .ok (.putfield ix, 3)) (hσ : σ a = some (.inr (ci, fs))) (hq : pc + 3 = q) (kk : G X Γ P k n q L st (su σ a (.inr (ci, fs.set kf v))) sz) : G X Γ P k n pc L (v :: .ref a :: st) σ sz := by
  obtain ⟨p, l, e, R, s, m, args, below, meth, c⟩ := X
  obtain ⟨hx, hb, hml, hr, hR, hown, hts, hKN, hlk, hnm, hbs⟩ := hX
  subst hR
  subst hq
  obtain ⟨C, T, N, ty0, g1, g2, g3, g4, g5, g6, g7⟩ := hf
  subst g7
  intro H locs ls hP hS hl2
  have e1 : ref = (T kf).1 := by rw [g3]
  have e2 : name = (T kf).2.1 := by rw [g3]
  have e3 : desc = (T kf).2.2.1 := by rw [g3]
  subst e1; subst e2; subst e3
  exact S_putf_aux hx hb hts hown hKN.1 g1 g2 g4 g5 g6 (hts _ hw) hn hfit hl (Or.inr ⟨by rw [g3], hnm.trans hini, hdecl⟩) hσ hd hP hS (fun H1 locs1 hP1 hS1 => kk H1 locs1 ls hP1 hS1 hl2)
/-! arrays -/
theorem tyL_at (Γ : Gm) {t : Nat} (h : t < 6) : (tyL Γ)[t]? = some (Γ.2.1 t, kt t) := by
  match t, h with
  | 0, _ => rfl
  | 1, _ => rfl
  | 2, _ => rfl
  | 3, _ => rfl
  | 4, _ => rfl
  | 5, _ => rfl
theorem S_iald {a : Nat} {N : Nat} {f : Nat → Int32} {i : Int32} (hX : Ok X Γ (own, nm, cc, nL, ret, R0)) (hd : decode cc pc = .ok (.iaload, 1)) (hσ : σ a = some (.inl (0, N, .inl f))) (hin : vp_in i N) (hq : pc + 1 = q) (kk : G X Γ P k n q L (.int (f i.toNatClampNeg) :: st) σ sz) : G X Γ P k n pc L (.int i :: .ref a :: st) σ sz := by
  obtain ⟨p, l, e, R, s, m, args, below, meth, c⟩ := X
  obtain ⟨hx, hb, hml, hr, hR, hown, hts, hKN, hlk, hnm, hbs⟩ := hX
  subst hR
  subst hq
  intro H locs ls hP hS hl
  exact va_iald hx hb hKN.1 (hP.one hσ) 0 0 rfl (tyL_at Γ (t := 0) (by decide)) hin hd (kk H locs ls hP hS hl)
theorem S_zald {a : Nat} {N : Nat} {f : Nat → Int32} {i : Int32} (hX : Ok X Γ (own, nm, cc, nL, ret, R0)) (hd : decode cc pc = .ok (.baload, 1)) (hσ : σ a = some (.inl (1, N, .inl f))) (hin : vp_in i N) (hq : pc + 1 = q) (kk : G X Γ P k n q L (.int (f i.toNatClampNeg) :: st) σ sz) : G X Γ P k n pc L (.int i :: .ref a :: st) σ sz := by
  obtain ⟨p, l, e, R, s, m, args, below, meth, c⟩ := X
  obtain ⟨hx, hb, hml, hr, hR, hown, hts, hKN, hlk, hnm, hbs⟩ := hX
  subst hR
  subst hq
  intro H locs ls hP hS hl
  exact va_zald hx hb hKN.1 (hP.one hσ) 0 1 rfl (tyL_at Γ (t := 1) (by decide)) hin hd (kk H locs ls hP hS hl)
theorem S_bald {a : Nat} {N : Nat} {f : Nat → Int32} {i : Int32} (hX : Ok X Γ (own, nm, cc, nL, ret, R0)) (hd : decode cc pc = .ok (.baload, 1)) (hσ : σ a = some (.inl (2, N, .inl f))) (hin : vp_in i N) (hq : pc + 1 = q) (kk : G X Γ P k n q L (.int (f i.toNatClampNeg) :: st) σ sz) : G X Γ P k n pc L (.int i :: .ref a :: st) σ sz := by
  obtain ⟨p, l, e, R, s, m, args, below, meth, c⟩ := X
  obtain ⟨hx, hb, hml, hr, hR, hown, hts, hKN, hlk, hnm, hbs⟩ := hX
  subst hR
  subst hq
  intro H locs ls hP hS hl
  exact va_bald hx hb hKN.1 (hP.one hσ) 0 2 rfl (tyL_at Γ (t := 2) (by decide)) hin hd (kk H locs ls hP hS hl)
theorem S_aald {a t : Nat} {C : String} {N y : Nat} {f : Nat → Option Nat} {i : Int32} (hX : Ok X Γ (own, nm, cc, nL, ret, R0)) (hd : decode cc pc = .ok (.aaload, 1)) (ht6 : t < 6) (ht : kt t = .object C) (hσ : σ a = some (.inl (t, N, .inr (.inr (.inr (.inr f)))))) (hin : vp_in i N) (hy : f i.toNatClampNeg = some y) (hq : pc + 1 = q) (kk : G X Γ P k n q L (.ref y :: st) σ sz) : G X Γ P k n pc L (.int i :: .ref a :: st) σ sz := by
  obtain ⟨p, l, e, R, s, m, args, below, meth, c⟩ := X
  obtain ⟨hx, hb, hml, hr, hR, hown, hts, hKN, hlk, hnm, hbs⟩ := hX
  subst hR
  subst hq
  intro H locs ls hP hS hl
  refine va_aldq (C := C) hx hb hKN.1 (hP.one hσ) 0 t rfl ((tyL_at Γ ht6).trans (by rw [ht])) hin hd ?_
  rw [hy]
  exact kk H locs ls hP hS hl
theorem S_alen {a t : Nat} {x : vp_A} (hX : Ok X Γ (own, nm, cc, nL, ret, R0)) (hd : decode cc pc = .ok (.arraylength, 1)) (ht6 : t < 6) (hσ : σ a = some (.inl (t, x))) (hq : pc + 1 = q) (kk : G X Γ P k n q L (.int (nI x.1) :: st) σ sz) : G X Γ P k n pc L (.ref a :: st) σ sz := by
  obtain ⟨p, l, e, R, s, m, args, below, meth, c⟩ := X
  obtain ⟨hx, hb, hml, hr, hR, hown, hts, hKN, hlk, hnm, hbs⟩ := hX
  subst hR
  subst hq
  intro H locs ls hP hS hl
  exact va_alen hx hb hKN.1 (hP.one hσ) 0 t rfl (tyL_at Γ ht6) rfl hd (kk H locs ls hP hS hl)
theorem S_iast {a : Nat} {N : Nat} {f : Nat → Int32} {i x : Int32} (hX : Ok X Γ (own, nm, cc, nL, ret, R0)) (hd : decode cc pc = .ok (.iastore, 1)) (hσ : σ a = some (.inl (0, N, .inl f))) (hin : vp_in i N) (hq : pc + 1 = q) (kk : G X Γ P k n q L st (su σ a (.inl (0, N, .inl (upd f i.toNatClampNeg x)))) sz) : G X Γ P k n pc L (.int x :: .int i :: .ref a :: st) σ sz := by
  obtain ⟨p, l, e, R, s, m, args, below, meth, c⟩ := X
  obtain ⟨hx, hb, hml, hr, hR, hown, hts, hKN, hlk, hnm, hbs⟩ := hX
  subst hR
  subst hq
  intro H locs ls hP hS hl
  refine W.iast hx hb ((hP.2 a _ hσ).2) ((hKN.1.2 0 _ (tyL_at Γ (t := 0) (by decide))).1 N (fun j => .int (f j))) (fun z => by cases z) (by show ¬ (i < 0 ∨ (arrV _ _ _).slots.size ≤ _); rw [arrV_size]; exact hin) rfl rfl hd fun H1 e z oq => ?_
  refine kk H1 _ ls (hP.put hσ ?_ z oq) (hS.put z oq (hP.2 a _ hσ).1) hl
  show H1[a]? = some (vp_cell _ _)
  rw [e]
  rw [vp_cell_i, vp_cell_i, arrV_store]
  congr 2
  funext j
  by_cases hj : j = i.toNatClampNeg
  · subst hj
    simp [updV, upd]
  · simp [updV, upd, hj]
theorem S_zast {a : Nat} {N : Nat} {f : Nat → Int32} {i x : Int32} (hX : Ok X Γ (own, nm, cc, nL, ret, R0)) (hd : decode cc pc = .ok (.bastore, 1)) (hσ : σ a = some (.inl (1, N, .inl f))) (hin : vp_in i N) (hq : pc + 1 = q) (kk : G X Γ P k n q L st (su σ a (.inl (1, N, .inl (upd f i.toNatClampNeg (vp_nar .boolean x))))) sz) : G X Γ P k n pc L (.int x :: .int i :: .ref a :: st) σ sz := by
  obtain ⟨p, l, e, R, s, m, args, below, meth, c⟩ := X
  obtain ⟨hx, hb, hml, hr, hR, hown, hts, hKN, hlk, hnm, hbs⟩ := hX
  subst hR
  subst hq
  intro H locs ls hP hS hl
  refine W.zast hx hb ((hP.2 a _ hσ).2) ((hKN.1.2 1 _ (tyL_at Γ (t := 1) (by decide))).1 N (fun j => .int (f j))) (fun z => by cases z) (by show ¬ (i < 0 ∨ (arrV _ _ _).slots.size ≤ _); rw [arrV_size]; exact hin) rfl rfl hd fun H1 e z oq => ?_
  refine kk H1 _ ls (hP.put hσ ?_ z oq) (hS.put z oq (hP.2 a _ hσ).1) hl
  show H1[a]? = some (vp_cell _ _)
  rw [e]
  rw [vp_cell_i, vp_cell_i, arrV_store]
  congr 2
  funext j
  by_cases hj : j = i.toNatClampNeg
  · subst hj
    simp [updV, upd, vp_nar]
    try rfl
  · simp [updV, upd, hj]
theorem S_bast {a : Nat} {N : Nat} {f : Nat → Int32} {i x : Int32} (hX : Ok X Γ (own, nm, cc, nL, ret, R0)) (hd : decode cc pc = .ok (.bastore, 1)) (hσ : σ a = some (.inl (2, N, .inl f))) (hin : vp_in i N) (hq : pc + 1 = q) (kk : G X Γ P k n q L st (su σ a (.inl (2, N, .inl (upd f i.toNatClampNeg (vp_nar .byte x))))) sz) : G X Γ P k n pc L (.int x :: .int i :: .ref a :: st) σ sz := by
  obtain ⟨p, l, e, R, s, m, args, below, meth, c⟩ := X
  obtain ⟨hx, hb, hml, hr, hR, hown, hts, hKN, hlk, hnm, hbs⟩ := hX
  subst hR
  subst hq
  intro H locs ls hP hS hl
  refine W.bast hx hb ((hP.2 a _ hσ).2) ((hKN.1.2 2 _ (tyL_at Γ (t := 2) (by decide))).1 N (fun j => .int (f j))) (fun z => by cases z) (by show ¬ (i < 0 ∨ (arrV _ _ _).slots.size ≤ _); rw [arrV_size]; exact hin) rfl rfl hd fun H1 e z oq => ?_
  refine kk H1 _ ls (hP.put hσ ?_ z oq) (hS.put z oq (hP.2 a _ hσ).1) hl
  show H1[a]? = some (vp_cell _ _)
  rw [e]
  rw [vp_cell_i, vp_cell_i, arrV_store]
  congr 2
  funext j
  by_cases hj : j = i.toNatClampNeg
  · subst hj
    simp [updV, upd, vp_nar]
    try rfl
  · simp [updV, upd, hj]
/-- a reference into an array of references: the stored object's class may stand there -/
theorem S_aast {a t y ci : Nat} {r : vw_C} {C : String} {N : Nat} {f : Nat → Option Nat} {vs : List Value} {i : Int32} (hX : Ok X Γ (own, nm, cc, nL, ret, R0)) (hd : decode cc pc = .ok (.aastore, 1)) (ht6 : t < 6) (ht : kt t = .object C) (hσ : σ a = some (.inl (t, N, .inr (.inr (.inr (.inr f)))))) (hv : σ y = some (.inr (ci, vs))) (hc : clss[ci]? = some r) (hcast : r.1 = C ∨ (r.1, C) ∈ castL) (hin : vp_in i N) (hq : pc + 1 = q) (kk : G X Γ P k n q L st (su σ a (.inl (t, N, .inr (.inr (.inr (.inr (va_up f i.toNatClampNeg (some y)))))))) sz) : G X Γ P k n pc L (.ref y :: .int i :: .ref a :: st) σ sz := by
  obtain ⟨p, l, e, R, s, m, args, below, meth, c⟩ := X
  obtain ⟨hx, hb, hml, hr, hR, hown, hts, hKN, hlk, hnm, hbs⟩ := hX
  subst hR
  subst hq
  intro H locs ls hP hS hl
  have hlt : i.toNatClampNeg < N := Nat.not_le.mp fun z => hin (Or.inr z)
  have h0 : ¬ i < 0 := fun z => hin (Or.inl z)
  obtain ⟨r', hr', cellV, g1, g2, g3, -⟩ := (hP.2 y _ hv).2
  have hcls := (hKN.1.1 ci r hc).2
  have hty := tyL_at Γ ht6
  rw [ht] at hty
  obtain ⟨kA, comp, k1, k2, k3, -⟩ := (hKN.1.2 t _ hty).2
  obtain ⟨kC, hkC, -⟩ := hcls.2
  obtain ⟨kE, hkE, -⟩ := Vm.findClass_spec k3
  have hasg : s.vm.assignable (Γ.1.1 ci) comp = true := by
    rcases hcast with e | e
    · rw [e] at hcls
      have hcomp : comp = Γ.1.1 ci := Option.some.inj (k3.symm.trans hcls.1)
      rw [hcomp]
      exact va_assign hcls
    · obtain ⟨c0, t1, f1, f2, f3⟩ := Cond.castable_spec (va_Nw.use (A := args) rfl (hKN.2.2.2.2.2.2.1 _ e))
      cases hcls.1.symm.trans f1
      cases k3.symm.trans f2
      exact f3
  refine W.aast hx hb ((hP.2 a _ hσ).2) (fun q h => by cases h) (fun h => by cases h) k1 k2 rfl hkE ⟨h0, by show _ < (arrV _ _ _).slots.size; rw [arrV_size]; exact hlt⟩ g1 (fun q h => by rw [g3] at h; cases h) (by rw [g2]; exact hkC) (by rw [g2]; exact hasg) rfl rfl hd fun H1 e z oq => ?_
  refine kk H1 _ ls (hP.put hσ ?_ z oq) (hS.put z oq (hP.2 a _ hσ).1) hl
  show H1[a]? = some (vp_cell _ _)
  rw [e]
  rw [vp_cell_q, vp_cell_q, arrV_store]
  congr 2
  funext j
  by_cases hj : j = i.toNatClampNeg
  · subst hj
    simp [updV, va_up, va_rf]
  · simp [updV, va_up, hj]
/-! making cells -/
theorem S_new {ci ix N : Nat} {C : String} {T : u_T} {ty : Nat → FieldType} (fs : List Value) (hX : Ok X Γ (own, nm, cc, nL, ret, R0)) (hc : clss[ci]? = some (C, T, N)) (h4 : ∀ w ∈ u_ws C T N, w ∈ UW) (h5 : ∀ k, k < N → parseFieldDescriptor (T k).2.2.1 = some (ty k)) (w1 : Cond.classLink own ix C ∈ UW) (w2 : Cond.instantiable C N ∈ UW) (w3 : Cond.initialized C ∈ UW) (hfs : ∀ j, j < N → defaultValue (ty j) = vp_V fs j) (hk : k + 1 ≤ R0.cells) (hn : n + N ≤ R0.slots) (hd : decode cc pc = .ok (.new ix, 3)) (hb0 : ow Γ sz) (hq : pc + 3 = q) (k' n' : Nat) (hk' : k + 1 = k') (hn' : n + N = n') (kk : G X Γ P k' n' q L (.ref sz :: st) (su σ sz (.inr (ci, fs))) (sz + 1)) : G X Γ P k n pc L st σ sz := by
  obtain ⟨p, l, e, R, s, m, args, below, meth, c⟩ := X
  obtain ⟨hx, hb, hml, hr, hR, hown, hts, hKN, hlk, hnm, hbs⟩ := hX
  subst hR
  subst hq
  subst hk'
  subst hn'
  intro H locs ls hP hS hl
  have hKn := hKN.1.1 ci _ hc
  refine W.newcK hx hb hown (hts _ w1) (hts _ w2) (hts _ w3) rfl hd hk hn hKn.2.1 hP.1 fun H1 kC hkC e1 z1 o1 => ?_
  refine kk H1 locs ls (hP.push hb0 ⟨_, hc, (u_born ty hts h4 hKn hkC e1 h5).to hfs⟩ (by rw [z1, hP.1]) (fun q hq => o1 q (by rw [← hP.1]; exact hq))) ⟨Nat.le_trans hS.1 (by rw [z1, hP.1]; omega), fun x h1 h2 => (o1 x (by rw [← hP.1]; exact Nat.lt_of_lt_of_le h1 hS.1)).trans (hS.2.1 x h1 h2), hS.2.2⟩ hl
theorem S_newa {at0 : ArrayType} {t N : Nat} {v : Int32} (hX : Ok X Γ (own, nm, cc, nL, ret, R0)) (hty : newarray.typeOf at0 = kt t) (ht : t < 3) (w1 : Cond.arrayClass (newarray.typeOf at0) ∈ UW) (hN0 : ¬ v < 0) (hN : v.toNatClampNeg = N) (hby : N * componentBytes (newarray.typeOf at0) ≤ 536870912) (hk : k + 1 ≤ R0.cells) (hn : n + N ≤ R0.slots) (hd : decode cc pc = .ok (.newarray at0, 2)) (hb0 : ow Γ sz) (hq : pc + 2 = q) (k' n' : Nat) (hk' : k + 1 = k') (hn' : n + N = n') (kk : G X Γ P k' n' q L (.ref sz :: st) (su σ sz (.inl (t, N, .inl (fun _ => 0)))) (sz + 1)) : G X Γ P k n pc L (.int v :: st) σ sz := by
  obtain ⟨p, l, e, R, s, m, args, below, meth, c⟩ := X
  obtain ⟨hx, hb, hml, hr, hR, hown, hts, hKN, hlk, hnm, hbs⟩ := hX
  subst hR
  subst hq
  subst hk'
  subst hn'
  intro H locs ls hP hS hl
  refine va_newaK hx hb (hts _ w1) rfl hd rfl hN0 hN hby hk hn hP.1 fun H1 cA e1 z1 o1 hAr hNm => ?_
  have ht6 : t < 6 := by omega
  have hcA : cA = Γ.2.1 t := by
    have h1 := (hKN.1.2 t _ (tyL_at Γ ht6)).2
    rw [hty] at hNm
    have h2 : s.vm.findClass ("[" ++ (kt t).toString) = some (Γ.2.1 t) := by
      match t, ht with
      | 0, _ => exact h1
      | 1, _ => exact h1
      | 2, _ => exact h1
    exact Option.some.inj (hNm.symm.trans h2)
  subst hcA
  refine kk H1 locs ls (hP.push hb0 ?_ (by rw [z1, hP.1]) (fun q hq => o1 q (by rw [← hP.1]; exact hq))) ⟨Nat.le_trans hS.1 (by rw [z1, hP.1]; omega), fun x h1 h2 => (o1 x (by rw [← hP.1]; exact Nat.lt_of_lt_of_le h1 hS.1)).trans (hS.2.1 x h1 h2), hS.2.2⟩ hl
  show H1[sz]? = some (vp_cell _ _)
  rw [vp_cell_i, e1, hty]
  match t, ht with
  | 0, _ => rfl
  | 1, _ => rfl
  | 2, _ => rfl
theorem S_anew {ix t N : Nat} {C : String} {v : Int32} (hX : Ok X Γ (own, nm, cc, nL, ret, R0)) (ht : kt t = .object C) (ht6 : t < 6) (w1 : Cond.classLink own ix C ∈ UW) (hao : C ∈ aoL) (hN0 : ¬ v < 0) (hN : v.toNatClampNeg = N) (hby : N * 4 ≤ 536870912) (hk : k + 1 ≤ R0.cells) (hn : n + N ≤ R0.slots) (hd : decode cc pc = .ok (.anewarray ix, 3)) (hb0 : ow Γ sz) (hq : pc + 3 = q) (k' n' : Nat) (hk' : k + 1 = k') (hn' : n + N = n') (kk : G X Γ P k' n' q L (.ref sz :: st) (su σ sz (.inl (t, N, .inr (.inr (.inr (.inr (fun _ => none))))))) (sz + 1)) : G X Γ P k n pc L (.int v :: st) σ sz := by
  obtain ⟨p, l, e, R, s, m, args, below, meth, c⟩ := X
  obtain ⟨hx, hb, hml, hr, hR, hown, hts, hKN, hlk, hnm, hbs⟩ := hX
  subst hR
  subst hq
  subst hk'
  subst hn'
  subst hN
  intro H locs ls hP hS hl
  refine W.anew hx hb hown (hts _ w1) (va_AO.use (hKN.2.2.2.2.2.2.2 C hao)) rfl hd rfl hN0 hby hk hn fun cA kA comp f1 f2 f3 f4 => ?_
  generalize hH1 : H.push ({ cls := cA, slots := Array.replicate v.toNatClampNeg .null, vm := .none } : Cell) = H1
  have z1 : H1.size = H.size + 1 := by rw [← hH1, Array.size_push]
  have e1 : H1[H.size]? = some (arrV cA v.toNatClampNeg (fun _ => .null)) := by rw [← hH1, Array.getElem?_push_size, ← arrV_new]
  have o1 : ∀ q : Nat, q < H.size → H1[q]? = H[q]? := fun q hq => by rw [← hH1, Array.getElem?_push, if_neg (Nat.ne_of_lt hq)]
  have hcA : cA = Γ.2.1 t := by
    have h0 := tyL_at Γ ht6
    rw [ht] at h0
    obtain ⟨kA', comp', k1, k2, k3, k4⟩ := (hKN.1.2 t _ h0).2
    exact Option.some.inj (f1.symm.trans k4)
  subst hcA
  have hsz := hP.1
  rw [hsz] at e1 ⊢
  refine kk H1 locs ls (hP.push hb0 ?_ z1 o1) ⟨Nat.le_trans hS.1 (by rw [z1]; omega), fun x h1 h2 => (o1 x (Nat.lt_of_lt_of_le h1 hS.1)).trans (hS.2.1 x h1 h2), hS.2.2⟩ hl
  show H1[sz]? = some (vp_cell _ _)
  rw [vp_cell_q, e1]
  rfl
/-! calls -/
def vst : Option Value → List Value → List Value
  | none, st => st
  | some v, st => v :: st
theorem S_call_aux {p : Program} {l : Launch} {e : Env} {R : Room} {s : State} {m : MethodId} {args a : Array Value} {below : List Frame} {meth : Method} {c : Code} {Q : State → Prop} {H : Heap} {locs : List Loc} {ls : Array Slot} {mc ms : Nat} {st0 : List Value} {Po : PO}
    (hr : va_Run p l e R s m args below meth c H locs k n mc ms (F0 m pc ls st0) st (QcA Γ Po a) (ow Γ)) (hS : va_S (ow Γ) s.heap H locs)
    (kk : ∀ (v : Option Value) (σ' : Sg) (sz' : Nat) (H1 : Heap) (locs1 : List Loc), Po v σ' sz' → RP Γ σ' sz' H1 → va_S (ow Γ) s.heap H1 locs1 → W p l e R s m args below meth c H1 locs1 (k + mc) (n + ms) Q (F0 m (pc + 3) ls (vst v st))) : W p l e R s m args below meth c H locs k n Q (F0 m pc ls st0) := by
  intro T hT X
  obtain ⟨v, st₀, t, T', LL, h0, X', hLL, e1, e2, ⟨⟨v', σ', sz', hv, hp, hRP⟩, hz, hk⟩, hgo⟩ := hr T hT X
  cases hv
  rw [h0] at hz hk
  obtain ⟨t2, a1, b1⟩ := kk v σ' sz' T'.heap (locs ++ LL) hp (by rw [e1]; exact hRP) ⟨Nat.le_trans hS.1 (by rw [e1]; exact hz), fun q h1 h2 => by rw [e1, hk q (Nat.lt_of_lt_of_le h1 hS.1) h2]; exact hS.2.1 q h1 h2, fun q hq => by
      rcases List.mem_append.mp hq with h | h
      · exact hS.2.2 q h
      · exact hLL q h⟩ T' rfl X'
  refine ⟨t2, hgo t2 ?_, b1⟩
  cases v with
  | none => exact a1
  | some v => exact a1
theorem S_pre {s : State} {H : Heap} {locs : List Loc} {args2 : List Value} (hP : RP Γ σ sz H) (hS : va_S (ow Γ) s.heap H locs) (hKN : KN Γ s) (hbs : Γ.2.2.2.2 ≤ s.heap.size) : PreS s H (va_Pc args2 (St Γ σ sz)) args2 :=
  ⟨fun a U g mk h => ⟨h.1, h.2.1, KN.moved (s := U) (U := U.calling g mk a) (State.WarmedH.refl U) (fun _ _ _ => rfl) h.2.2.1, h.2.2.2⟩, fun U hU hW => ⟨rfl, by rw [hU]; exact hP, KN.moved hW (fun a h1 h2 => by rw [hU]; exact hS.2.1 a h1 h2) hKN, by rw [hU]; exact Nat.le_trans hbs hS.1⟩⟩
theorem UW_code {y : MethodName} {cc' : ByteArray} {nL' : Nat} {ret' : Option FieldType} (hc : Cond.code y cc' nL' ret' ∈ UW) : GoodIn UW (Cond.code y cc' nL' ret' :: UW) := UW_good fun w hw => by
  rcases List.mem_cons.mp hw with e | e
  · rw [e]; exact hc
  · exact e
/-- an object of the class of place ci -/
def isO (σ : Sg) (b ci : Nat) : Prop := ∃ fs : List Value, σ b = some (.inr (ci, fs))
theorem isO.su {σ : Sg} {b ci a : Nat} {e : AE} (h : isO σ b ci) (ha : b ≠ a) : isO (su σ a e) b ci := ⟨h.choose, (su_ne ha).trans h.choose_spec⟩
theorem S_callS {y : MethodName} {cc' : ByteArray} {nL' ix : Nat} {ret' : Option FieldType} {rm : Room} {av : List Value} {Pr : Gm → Sg → Nat → Prop} {Po : Gm → Sg → Nat → PO} {st0 : List Value} (k' n' : Nat) (hX : Ok X Γ (own, nm, cc, nL, ret, R0)) (hC : CT y cc' nL' ret' rm av Pr Po) (hst : st0 = av.reverse ++ st) (w1 : Cond.methodLink own ix y ∈ UW) (w2 : Cond.static y ∈ UW) (w3 : Cond.initialized y.cls ∈ UW) (w4 : Cond.code y cc' nL' ret' ∈ UW) (hy : y.cls ≠ "java/lang/invoke/MethodHandle" ∧ y.cls ≠ "java/lang/invoke/VarHandle" ∧ (parseMethodDescriptor y.desc).map (fun d => d.parameters.length) = some av.length) (hRm : rm.frames + 1 ≤ R0.frames ∧ 8 + (nL' + 11) + rm.locals ≤ R0.locals) (hcs : k + rm.cells ≤ R0.cells ∧ n + rm.slots ≤ R0.slots) (hcat : (st.map fun v => v.category).sum ≤ 8) (hd : decode cc pc = .ok (.invokestatic ix, 3)) (hpre : Pr Γ σ sz) (hq : pc + 3 = q) (hk' : k + rm.cells = k') (hn' : n + rm.slots = n') (kk : ∀ (v : Option Value) (σ' : Sg) (sz' : Nat), Po Γ σ sz v σ' sz' → G X Γ P k' n' q L (vst v st) σ' sz') : G X Γ P k n pc L st0 σ sz := by
  obtain ⟨p, l, e, R, s, m, args, below, meth, c⟩ := X
  obtain ⟨hx, hb, hml, hr, hR, hown, hts, hKN, hlk, hnm, hbs⟩ := hX
  subst hR
  subst hq
  subst hk'
  subst hn'
  intro H locs ls hP hS hl
  have hcb := callB_of (R := R) (own := own) (index := ix) (y := y) av.length hts (UW_code w4) rfl rfl rfl (hts _ w3) (hts _ w1) hy hRm
  exact S_call_aux (va_runS (As := av) (rest := st) ⟨hx, hb, hml, hown, hts⟩ (hC l Γ σ sz hpre) ⟨hcb, hts _ w2⟩ (S_pre hP hS hKN hbs) rfl rfl (by show ls.size = nL; rw [← hml]; exact hl.1) hst (lv_room hcat) hd hcs) hS (fun v σ' sz' H1 locs1 h1 h2 h3 => kk v σ' sz' h1 H1 locs1 ls h2 h3 hl)
theorem S_rcv {s : State} {H : Heap} {b ci N : Nat} {C : String} {T : u_T} (hKN : KN Γ s) (hP : RP Γ σ sz H) (hσ : isO σ b ci) (hc : clss[ci]? = some (C, T, N)) : ∃ cellB : Cell, H[b]? = some cellB ∧ cellB.vm.isStatics = false ∧ s.vm.findClass C = some cellB.cls := by
  obtain ⟨fs, hσ⟩ := hσ
  exact va_recv (D := Γ.1) (cl := clss) (tys := tyL Γ) (ci := ci) (q := (C, T, N)) (fs := fs) hKN.1 (hP.one hσ) hc (q0 := 0) rfl
theorem S_callV {y : MethodName} {cc' : ByteArray} {nL' ix b ci N : Nat} {C : String} {T : u_T} {ret' : Option FieldType} {rm : Room} {As : List Value} {Pr : Gm → Sg → Nat → Prop} {Po : Gm → Sg → Nat → PO} {st0 : List Value} (k' n' : Nat) (hX : Ok X Γ (own, nm, cc, nL, ret, R0)) (hC : CT y cc' nL' ret' rm (.ref b :: As) Pr Po) (hst : st0 = As.reverse ++ .ref b :: st) (hσ : isO σ b ci) (hc : clss[ci]? = some (C, T, N)) (w1 : Cond.methodLink own ix y ∈ UW) (w2 : Cond.instanceMethod y ∈ UW) (w5 : Cond.selects C y y ∈ UW) (w3 : Cond.initialized y.cls ∈ UW) (w4 : Cond.code y cc' nL' ret' ∈ UW) (hy : y.cls ≠ "java/lang/invoke/MethodHandle" ∧ y.cls ≠ "java/lang/invoke/VarHandle" ∧ (parseMethodDescriptor y.desc).map (fun d => d.parameters.length) = some As.length) (hRm : rm.frames + 1 ≤ R0.frames ∧ 8 + (nL' + 11) + rm.locals ≤ R0.locals) (hcs : k + rm.cells ≤ R0.cells ∧ n + rm.slots ≤ R0.slots) (hcat : (st.map fun v => v.category).sum ≤ 8) (hd : decode cc pc = .ok (.invokevirtual ix, 3)) (hpre : Pr Γ σ sz) (hq : pc + 3 = q) (hk' : k + rm.cells = k') (hn' : n + rm.slots = n') (kk : ∀ (v : Option Value) (σ' : Sg) (sz' : Nat), Po Γ σ sz v σ' sz' → G X Γ P k' n' q L (vst v st) σ' sz') : G X Γ P k n pc L st0 σ sz := by
  obtain ⟨p, l, e, R, s, m, args, below, meth, c⟩ := X
  obtain ⟨hx, hb, hml, hr, hR, hown, hts, hKN, hlk, hnm, hbs⟩ := hX
  subst hR
  subst hq
  subst hk'
  subst hn'
  intro H locs ls hP hS hl
  have hcb := callB_of (R := R) (own := own) (index := ix) (y := y) As.length hts (UW_code w4) rfl rfl rfl (hts _ w3) (hts _ w1) hy hRm
  have hpr := S_pre (args2 := .ref b :: As) hP hS hKN hbs
  exact S_call_aux (va_runV (As := As) (rest := st) (C := C) ⟨hx, hb, hml, hown, hts⟩ (hC l Γ σ sz hpre) ⟨hcb, hts _ w2, hts _ w5⟩ ⟨hpr.1, S_rcv hKN hP hσ hc, hpr.2⟩ rfl rfl (by show ls.size = nL; rw [← hml]; exact hl.1) hst (lv_room hcat) hd hcs) hS (fun v σ' sz' H1 locs1 h1 h2 h3 => kk v σ' sz' h1 H1 locs1 ls h2 h3 hl)
theorem S_callU {x y : MethodName} {cc' : ByteArray} {nL' ix b ci N : Nat} {C : String} {T : u_T} {ret' : Option FieldType} {rm : Room} {As : List Value} {Pr : Gm → Sg → Nat → Prop} {Po : Gm → Sg → Nat → PO} {st0 : List Value} {b0 : ByteArray} {m0 : Nat} {r0 : Option FieldType} (k' n' : Nat) (hX : Ok X Γ (own, nm, cc, nL, ret, R0)) (hC : CT y cc' nL' ret' rm (.ref b :: As) Pr Po) (hst : st0 = As.reverse ++ .ref b :: st) (hσ : isO σ b ci) (hc : clss[ci]? = some (C, T, N)) (w1 : Cond.methodLink own ix x ∈ UW) (w6 : Cond.sameMethod x.cls x.cls x.name x.desc ∈ UW) (w7 : Cond.instanceMethod ⟨x.cls, x.name, x.desc⟩ ∈ UW) (w8 : Cond.code ⟨x.cls, x.name, x.desc⟩ b0 m0 r0 ∈ UW) (w5 : Cond.selects C x y ∈ UW) (w2 : Cond.instanceMethod y ∈ UW) (w3 : Cond.initialized y.cls ∈ UW) (w4 : Cond.code y cc' nL' ret' ∈ UW) (hy : x.cls ≠ "java/lang/invoke/MethodHandle" ∧ x.cls ≠ "java/lang/invoke/VarHandle" ∧ (parseMethodDescriptor x.desc).map (fun d => d.parameters.length) = some As.length) (hRm : rm.frames + 1 ≤ R0.frames ∧ 8 + (nL' + 11) + rm.locals ≤ R0.locals) (hcs : k + rm.cells ≤ R0.cells ∧ n + rm.slots ≤ R0.slots) (hcat : (st.map fun v => v.category).sum ≤ 8) (hd : decode cc pc = .ok (.invokevirtual ix, 3)) (hpre : Pr Γ σ sz) (hq : pc + 3 = q) (hk' : k + rm.cells = k') (hn' : n + rm.slots = n') (kk : ∀ (v : Option Value) (σ' : Sg) (sz' : Nat), Po Γ σ sz v σ' sz' → G X Γ P k' n' q L (vst v st) σ' sz') : G X Γ P k n pc L st0 σ sz := by
  obtain ⟨p, l, e, R, s, m, args, below, meth, c⟩ := X
  obtain ⟨hx, hb, hml, hr, hR, hown, hts, hKN, hlk, hnm, hbs⟩ := hX
  subst hR
  subst hq
  subst hk'
  subst hn'
  intro H locs ls hP hS hl
  have hcw : va_CU R s args own C x.cls ix x y cc' nL' ret' (Cond.code y cc' nL' ret' :: UW) rm rm.cells rm.slots As.length :=
    va_cwO (owner := x.cls) As.length hts (UW_good (fun w hw => by
      unfold va_wsO at hw
      rcases List.mem_append.mp hw with h | h
      · simp only [List.mem_cons, List.not_mem_nil, or_false] at h
        rcases h with rfl | rfl | rfl | rfl | rfl | rfl
        · exact w1
        · exact w6
        · exact w7
        · exact w5
        · exact w2
        · exact w3
      · rcases List.mem_cons.mp h with e | e
        · rw [e]; exact w4
        · exact e)) rfl rfl rfl w8 hy hRm
  have hpr := S_pre (args2 := .ref b :: As) hP hS hKN hbs
  exact S_call_aux (va_runU (As := As) (rest := st) (C := C) ⟨hx, hb, hml, hown, hts⟩ (hC l Γ σ sz hpre) hcw ⟨hpr.1, S_rcv hKN hP hσ hc, hpr.2⟩ rfl rfl (by show ls.size = nL; rw [← hml]; exact hl.1) hst (lv_room hcat) hd hcs) hS (fun v σ' sz' H1 locs1 h1 h2 h3 => kk v σ' sz' h1 H1 locs1 ls h2 h3 hl)
/-- super's method -/
theorem S_callSU {y : MethodName} {cc' : ByteArray} {nL' ix b ci N : Nat} {C : String} {T : u_T} {ret' : Option FieldType} {rm : Room} {As : List Value} {Pr : Gm → Sg → Nat → Prop} {Po : Gm → Sg → Nat → PO} {st0 : List Value} (k' n' : Nat) (hX : Ok X Γ (own, nm, cc, nL, ret, R0)) (hC : CT y cc' nL' ret' rm (.ref b :: As) Pr Po) (hst : st0 = As.reverse ++ .ref b :: st) (hσ : isO σ b ci) (hc : clss[ci]? = some (C, T, N)) (w1 : Cond.methodLink own ix y ∈ UW) (w6 : Cond.sameMethod y.cls y.cls y.name y.desc ∈ UW) (w7 : Cond.superclass own y.cls ∈ UW) (w2 : Cond.instanceMethod y ∈ UW) (w3 : Cond.initialized y.cls ∈ UW) (w4 : Cond.code y cc' nL' ret' ∈ UW) (hy : y.name ≠ "<init>" ∧ (parseMethodDescriptor y.desc).map (fun d => d.parameters.length) = some As.length) (hRm : rm.frames + 1 ≤ R0.frames ∧ 8 + (nL' + 11) + rm.locals ≤ R0.locals) (hcs : k + rm.cells ≤ R0.cells ∧ n + rm.slots ≤ R0.slots) (hcat : (st.map fun v => v.category).sum ≤ 8) (hd : decode cc pc = .ok (.invokespecial ix, 3)) (hpre : Pr Γ σ sz) (hq : pc + 3 = q) (hk' : k + rm.cells = k') (hn' : n + rm.slots = n') (kk : ∀ (v : Option Value) (σ' : Sg) (sz' : Nat), Po Γ σ sz v σ' sz' → G X Γ P k' n' q L (vst v st) σ' sz') : G X Γ P k n pc L st0 σ sz := by
  obtain ⟨p, l, e, R, s, m, args, below, meth, c⟩ := X
  obtain ⟨hx, hb, hml, hr, hR, hown, hts, hKN, hlk, hnm, hbs⟩ := hX
  subst hR
  subst hq
  subst hk'
  subst hn'
  intro H locs ls hP hS hl
  have hcw : va_CS R s args own ix y cc' nL' ret' (Cond.code y cc' nL' ret' :: UW) rm rm.cells rm.slots As.length :=
    va_cwSU As.length hts (UW_good (fun w hw => by
      unfold va_wsSU at hw
      rcases List.mem_append.mp hw with h | h
      · simp only [List.mem_cons, List.not_mem_nil, or_false] at h
        rcases h with rfl | rfl | rfl | rfl | rfl
        · exact w1
        · exact w6
        · exact w7
        · exact w2
        · exact w3
      · rcases List.mem_cons.mp h with e | e
        · rw [e]; exact w4
        · exact e)) rfl rfl rfl hy hRm
  have hpr := S_pre (args2 := .ref b :: As) hP hS hKN hbs
  exact S_call_aux (va_runSU (As := As) (rest := st) (C := C) (hKN.1.1 ci _ hc).2 ⟨hx, hb, hml, hown, hts⟩ (hC l Γ σ sz hpre) hcw ⟨hpr.1, S_rcv hKN hP hσ hc, hpr.2⟩ rfl rfl (by show ls.size = nL; rw [← hml]; exact hl.1) hst (lv_room hcat) hd hcs) hS (fun v σ' sz' H1 locs1 h1 h2 h3 => kk v σ' sz' h1 H1 locs1 ls h2 h3 hl)
/-- a constructor, by a plain link and by a nest mate's -/
theorem S_callI {y : MethodName} {cc' : ByteArray} {nL' ix b : Nat} {rm : Room} {As : List Value} {Pr : Gm → Sg → Nat → Prop} {Po : Gm → Sg → Nat → PO} {st0 : List Value} (k' n' : Nat) (hX : Ok X Γ (own, nm, cc, nL, ret, R0)) (hC : CT y cc' nL' none rm (.ref b :: As) Pr Po) (hst : st0 = As.reverse ++ .ref b :: st) (w1 : Cond.methodLink own ix y ∈ UW) (w2 : Cond.instanceMethod y ∈ UW) (w3 : Cond.initialized y.cls ∈ UW) (w4 : Cond.code y cc' nL' none ∈ UW) (hy1 : y.name = "<init>") (hy : y.cls ≠ "java/lang/invoke/MethodHandle" ∧ y.cls ≠ "java/lang/invoke/VarHandle" ∧ (parseMethodDescriptor y.desc).map (fun d => d.parameters.length) = some As.length) (hRm : rm.frames + 1 ≤ R0.frames ∧ 8 + (nL' + 11) + rm.locals ≤ R0.locals) (hcs : k + rm.cells ≤ R0.cells ∧ n + rm.slots ≤ R0.slots) (hcat : (st.map fun v => v.category).sum ≤ 8) (hd : decode cc pc = .ok (.invokespecial ix, 3)) (hpre : Pr Γ σ sz) (hq : pc + 3 = q) (hk' : k + rm.cells = k') (hn' : n + rm.slots = n') (kk : ∀ (v : Option Value) (σ' : Sg) (sz' : Nat), Po Γ σ sz v σ' sz' → G X Γ P k' n' q L (vst v st) σ' sz') : G X Γ P k n pc L st0 σ sz := by
  obtain ⟨p, l, e, R, s, m, args, below, meth, c⟩ := X
  obtain ⟨hx, hb, hml, hr, hR, hown, hts, hKN, hlk, hnm, hbs⟩ := hX
  subst hR
  subst hq
  subst hk'
  subst hn'
  intro H locs ls hP hS hl
  have hcb := callB_of (R := R) (own := own) (index := ix) (y := y) As.length hts (UW_code w4) rfl rfl rfl (hts _ w3) (hts _ w1) hy hRm
  exact S_call_aux (va_runI (As := As) (rest := st) ⟨hx, hb, hml, hown, hts⟩ (hC l Γ σ sz hpre) ⟨hcb, hy1, hts _ w2⟩ (S_pre (args2 := .ref b :: As) hP hS hKN hbs) rfl rfl (by show ls.size = nL; rw [← hml]; exact hl.1) hst (lv_room hcat) hd hcs) hS (fun v σ' sz' H1 locs1 h1 h2 h3 => kk v σ' sz' h1 H1 locs1 ls h2 h3 hl)
theorem S_callIN {y : MethodName} {host : String} {cc' : ByteArray} {nL' ix b : Nat} {rm : Room} {As : List Value} {Pr : Gm → Sg → Nat → Prop} {Po : Gm → Sg → Nat → PO} {st0 : List Value} (k' n' : Nat) (hX : Ok X Γ (own, nm, cc, nL, ret, R0)) (hC : CT y cc' nL' none rm (.ref b :: As) Pr Po) (hst : st0 = As.reverse ++ .ref b :: st) (w1 : (own, ix, y, host) ∈ nestL) (w2 : Cond.instanceMethod y ∈ UW) (w3 : Cond.initialized y.cls ∈ UW) (w4 : Cond.code y cc' nL' none ∈ UW) (hy1 : y.name = "<init>") (hy : y.cls ≠ "java/lang/invoke/MethodHandle" ∧ y.cls ≠ "java/lang/invoke/VarHandle" ∧ (parseMethodDescriptor y.desc).map (fun d => d.parameters.length) = some As.length) (hRm : rm.frames + 1 ≤ R0.frames ∧ 8 + (nL' + 11) + rm.locals ≤ R0.locals) (hcs : k + rm.cells ≤ R0.cells ∧ n + rm.slots ≤ R0.slots) (hcat : (st.map fun v => v.category).sum ≤ 8) (hd : decode cc pc = .ok (.invokespecial ix, 3)) (hpre : Pr Γ σ sz) (hq : pc + 3 = q) (hk' : k + rm.cells = k') (hn' : n + rm.slots = n') (kk : ∀ (v : Option Value) (σ' : Sg) (sz' : Nat), Po Γ σ sz v σ' sz' → G X Γ P k' n' q L (vst v st) σ' sz') : G X Γ P k n pc L st0 σ sz := by
  obtain ⟨p, l, e, R, s, m, args, below, meth, c⟩ := X
  obtain ⟨hx, hb, hml, hr, hR, hown, hts, hKN, hlk, hnm, hbs⟩ := hX
  subst hR
  subst hq
  subst hk'
  subst hn'
  intro H locs ls hP hS hl
  have hcb := va_cnB (R := R) (own := own) (index := ix) (host := host) (y := y) As.length hts (UW_code w4) rfl rfl rfl (hKN.2.2.2.2.2.1 _ w1) (hts _ w3) hy hRm
  exact S_call_aux (va_runIN (As := As) (rest := st) ⟨hx, hb, hml, hown, hts⟩ (hC l Γ σ sz hpre) ⟨hcb, hy1, hts _ w2⟩ (S_pre (args2 := .ref b :: As) hP hS hKN hbs) rfl rfl (by show ls.size = nL; rw [← hml]; exact hl.1) hst (lv_room hcat) hd hcs) hS (fun v σ' sz' H1 locs1 h1 h2 h3 => kk v σ' sz' h1 H1 locs1 ls h2 h3 hl)
theorem S_objInit {ix b : Nat} (hX : Ok X Γ (own, nm, cc, nL, ret, R0)) (w1 : Cond.methodLink own ix Lib.objectInit ∈ UW) (w2 : Cond.instanceMethod Lib.objectInit ∈ UW) (w4 : Cond.code Lib.objectInit ⟨#[0xb1]⟩ 1 none ∈ UW) (hf : 1 ≤ R0.frames) (hlo : (st.map fun v => v.category).sum + 12 ≤ R0.locals) (hd : decode cc pc = .ok (.invokespecial ix, 3)) (hq : pc + 3 = q) (kk : G X Γ P k n q L st σ sz) : G X Γ P k n pc L (.ref b :: st) σ sz := by
  obtain ⟨p, l, e, R, s, m, args, below, meth, c⟩ := X
  obtain ⟨hx, hb, hml, hr, hR, hown, hts, hKN, hlk, hnm, hbs⟩ := hX
  subst hR
  subst hq
  intro H locs ls hP hS hl
  exact W.objInit hx hb hown (hts _ w1) (hts _ w2) (hts _ w4) rfl hl.1 rfl hd hf (by show 2 * 0 + _ + 12 ≤ _; omega) (kk H locs ls hP hS hl)
theorem S_max {x y : Int32} {ix : Nat} (hX : Ok X Γ (own, nm, cc, nL, ret, R0)) (w1 : Cond.methodLink own ix Lib.Math.max.name ∈ UW) (w2 : Cond.static Lib.Math.max.name ∈ UW) (w3 : Cond.initialized "java/lang/Math" ∈ UW) (w4 : Cond.code Lib.Math.max.name Lib.Math.max.code 2 (some .int) ∈ UW) (hf : 1 ≤ R0.frames) (hlo : (st.map fun v => v.category).sum + 13 ≤ R0.locals) (hcs : k ≤ R0.cells ∧ n ≤ R0.slots) (hd : decode cc pc = .ok (.invokestatic ix, 3)) (hq : pc + 3 = q) (kk : G X Γ P k n q L (.int (if x < y then y else x) :: st) σ sz) : G X Γ P k n pc L (.int y :: .int x :: st) σ sz := by
  obtain ⟨p, l, e, R, s, m, args, below, meth, c⟩ := X
  obtain ⟨hx, hb, hml, hr, hR, hown, hts, hKN, hlk, hnm, hbs⟩ := hX
  subst hR
  subst hq
  intro H locs ls hP hS hl
  exact va_mmax hx hb hl.1.symm hown (hts _ w1) (hts _ w2) (hts _ w3) (hts _ w4) hf hlo hcs.1 hcs.2 hd (kk H locs ls hP hS hl)
theorem S_min {x y : Int32} {ix : Nat} (hX : Ok X Γ (own, nm, cc, nL, ret, R0)) (w1 : Cond.methodLink own ix Lib.Math.min.name ∈ UW) (w2 : Cond.static Lib.Math.min.name ∈ UW) (w3 : Cond.initialized "java/lang/Math" ∈ UW) (w4 : Cond.code Lib.Math.min.name Lib.Math.min.code 2 (some .int) ∈ UW) (hf : 1 ≤ R0.frames) (hlo : (st.map fun v => v.category).sum + 13 ≤ R0.locals) (hcs : k ≤ R0.cells ∧ n ≤ R0.slots) (hd : decode cc pc = .ok (.invokestatic ix, 3)) (hq : pc + 3 = q) (kk : G X Γ P k n q L (.int (if y < x then y else x) :: st) σ sz) : G X Γ P k n pc L (.int y :: .int x :: st) σ sz := by
  obtain ⟨p, l, e, R, s, m, args, below, meth, c⟩ := X
  obtain ⟨hx, hb, hml, hr, hR, hown, hts, hKN, hlk, hnm, hbs⟩ := hX
  subst hR
  subst hq
  intro H locs ls hP hS hl
  exact va_mmin hx hb hl.1.symm hown (hts _ w1) (hts _ w2) (hts _ w3) (hts _ w4) hf hlo hcs.1 hcs.2 hd (kk H locs ls hP hS hl)
theorem S_copy {ix a0 a n0 n1 : Nat} {f g : Nat → Int32} {sp dp nn : Int32} (hX : Ok X Γ (own, nm, cc, nL, ret, R0)) (w1 : Cond.methodLink own ix arraycopyName ∈ UW) (w2 : Cond.native arraycopyName ∈ UW) (w3 : Cond.static arraycopyName ∈ UW) (w4 : Cond.initialized "java/lang/System" ∈ UW) (h0 : σ a0 = some (.inl (0, n0, .inl f))) (h1 : σ a = some (.inl (0, n1, .inl g))) (hs : ¬ sp < 0) (hdp : ¬ dp < 0) (hnn : ¬ nn < 0) (hb0 : sp.toNatClampNeg + nn.toNatClampNeg ≤ n0) (hb1 : dp.toNatClampNeg + nn.toNatClampNeg ≤ n1) (hf : 1 ≤ R0.frames) (hlo : (st.map fun v => v.category).sum + (nativeFrameWords "java/lang/System" "arraycopy" 5 + 11) ≤ R0.locals) (hd : decode cc pc = .ok (.invokestatic ix, 3)) (hq : pc + 3 = q) (kk : G X Γ P k n q L st (su σ a (.inl (0, n1, .inl (va_cpy f g sp.toNatClampNeg dp.toNatClampNeg nn.toNatClampNeg)))) sz) : G X Γ P k n pc L (.int nn :: .int dp :: .ref a :: .int sp :: .ref a0 :: st) σ sz := by
  obtain ⟨p, l, e, R, s, m, args, below, meth, c⟩ := X
  obtain ⟨hx, hb, hml, hr, hR, hown, hts, hKN, hlk, hnm, hbs⟩ := hX
  subst hR
  subst hq
  intro H locs ls hP hS hl
  have nI0 : ∀ z : Int32, ¬ z < 0 → z.toInt = (z.toNatClampNeg : Int) := by
    intro z hz
    have hz0 : (0 : Int) ≤ z.toInt := by
      have := Int32.not_lt.mp hz
      simpa using Int32.le_iff_toInt_le.mp this
    show z.toInt = ((z.toInt.toNat : Nat) : Int)
    omega
  intro T hT X
  have hc0 : H[a0]? = some (vp_cell (Γ.2.1 0) (n0, .inl f)) := (hP.2 a0 _ h0).2
  have hc1 : H[a]? = some (vp_cell (Γ.2.1 0) (n1, .inl g)) := (hP.2 a _ h1).2
  have hty := hKN.1.2 0 _ (tyL_at Γ (t := 0) (by decide))
  obtain ⟨-, k0, hk0, cm0, hkk0⟩ := hty.1 n0 (fun j => .int (f j))
  obtain ⟨-, k1, hk1, cm1, hkk1⟩ := hty.1 n1 (fun j => .int (g j))
  obtain ⟨vm', X', step⟩ := X.arraycopy hx hown (hts _ w1) (hts _ w2) (hts _ w3) (hts _ w4) (src := a0) (dst := a) (cs := vp_cell (Γ.2.1 0) (n0, .inl f)) (cd := vp_cell (Γ.2.1 0) (n1, .inl g)) (srcPos := sp) (destPos := dp) (n := nn) (by rw [hT]; exact hc0) (by rw [hT]; exact hc1)
    (fun _ h => by cases h) (fun _ h => by cases h) (fun h => by cases h) (fun h => by cases h) hk0 hk1 hkk0 hkk1 (by rfl) hs hdp hnn
    (by rw [nI0 sp hs, nI0 nn hnn]; show ¬ _ > ((arrV (Γ.2.1 0) n0 (fun j => .int (f j))).slots.size : Int); rw [arrV_size]; omega)
    (by rw [nI0 dp hdp, nI0 nn hnn]; show ¬ _ > ((arrV (Γ.2.1 0) n1 (fun j => .int (g j))).slots.size : Int); rw [arrV_size]; omega)
    (fun vm₁ _ i hi => by
      have e : (vp_cell (Γ.2.1 0) (n0, .inl f)).slots.getD (sp.toNatClampNeg + i) .null = .int (f (sp.toNatClampNeg + i)) := by
        show (arrV (Γ.2.1 0) n0 (fun j => .int (f j))).slots.getD _ _ = _
        rw [Array.getD_eq_getD_getElem?, arrV_read _ _ (by omega)]
        rfl
      refine ⟨?_, ?_⟩
      · rw [e]
        rfl
      · rw [e]
        exact trivial)
    (g := F0 m pc ls (.int nn :: .int dp :: .ref a :: .int sp :: .ref a0 :: st)) rfl hl.1 (rest := st) rfl (by rw [hb]; exact hd) hf (by show 2 * 0 + _ + _ ≤ _; omega)
  have e1 : copied (vp_cell (Γ.2.1 0) (n0, .inl f)) (vp_cell (Γ.2.1 0) (n1, .inl g)) sp dp nn = vp_cell (Γ.2.1 0) (n1, .inl (va_cpy f g sp.toNatClampNeg dp.toNatClampNeg nn.toNatClampNeg)) := va_copied (fun z => .int z) (Γ.2.1 0) (Γ.2.1 0) f g hb0
  rw [e1] at X' step
  have hlt : a < H.size := (Array.getElem?_eq_some_iff.mp hc1).1
  generalize hcl : vp_cell (Γ.2.1 0) (n1, .inl (va_cpy f g sp.toNatClampNeg dp.toNatClampNeg nn.toNatClampNeg)) = cl1 at X' step
  have hheap : ((T.setVm vm').setCell a cl1).heap = H.setIfInBounds a cl1 := by rw [← hT]; rfl
  have oq : ∀ q : Nat, q ≠ a → (H.setIfInBounds a cl1)[q]? = H[q]? := fun q hq => by simp [Array.getElem?_setIfInBounds, Ne.symm hq]
  have hA := (hP.2 a _ h1).1
  obtain ⟨t, a1, b1⟩ := kk (H.setIfInBounds a cl1) _ ls (hP.put h1 (show (H.setIfInBounds a cl1)[a]? = some _ by rw [← hcl]; simp [Array.getElem?_setIfInBounds, hlt]) (by simp) oq) ⟨by simp; exact hS.1, fun q g1 g2 => by
      rw [oq q (fun e => g2 (by rw [e]; exact hA))]
      exact hS.2.1 q g1 g2, fun q hq => by
      rcases List.mem_append.mp hq with h | h
      · exact hS.2.2 q h
      · obtain ⟨z, -, hz⟩ := List.mem_map.mp h
        rw [← hz]
        exact hA⟩ hl _ hheap X'
  exact ⟨t, step t a1, b1⟩

end AMR
