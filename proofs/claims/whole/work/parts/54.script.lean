/-! THE LAW: the script, which no call owns -/
def Scr (X : CX) (Γ : Gm) (b N : Nat) (xs : Nat → Int32) : Prop := match X with
  | (p, l, e, R, s, m, args, below, meth, c) => va_X b N xs s s.heap ∧ b < s.heap.size ∧ ¬ ow Γ b
section SCR
variable {X : CX} {Γ : Gm} {P : PO} {k n pc q : Nat} {L : List (Option Value)} {st : List Value} {σ : Sg} {sz : Nat} {own nm : String} {cc : ByteArray} {nL : Nat} {ret : Option FieldType} {R0 : Room}
theorem S_scld {b N : Nat} {xs : Nat → Int32} {i : Int32} (hX : Ok X Γ (own, nm, cc, nL, ret, R0)) (hs : Scr X Γ b N xs) (hd : decode cc pc = .ok (.iaload, 1)) (hin : vp_in i N) (hq : pc + 1 = q) (kk : G X Γ P k n q L (.int (xs i.toNatClampNeg) :: st) σ sz) : G X Γ P k n pc L (.int i :: .ref b :: st) σ sz := by
  obtain ⟨p, l, e, R, s, m, args, below, meth, c⟩ := X
  obtain ⟨hx, hb, hml, hr, hR, hown, hts, hKN, hlk, hnm, hbs⟩ := hX
  obtain ⟨h1, h2, h3⟩ := hs
  subst hR
  subst hq
  intro H locs ls hP hS hl
  exact va_sld hx hb h1 h2 h3 hS hin hd (kk H locs ls hP hS hl)
theorem S_sclen {b N : Nat} {xs : Nat → Int32} (hX : Ok X Γ (own, nm, cc, nL, ret, R0)) (hs : Scr X Γ b N xs) (hd : decode cc pc = .ok (.arraylength, 1)) (hq : pc + 1 = q) (kk : G X Γ P k n q L (.int (nI N) :: st) σ sz) : G X Γ P k n pc L (.ref b :: st) σ sz := by
  obtain ⟨p, l, e, R, s, m, args, below, meth, c⟩ := X
  obtain ⟨hx, hb, hml, hr, hR, hown, hts, hKN, hlk, hnm, hbs⟩ := hX
  obtain ⟨h1, h2, h3⟩ := hs
  subst hR
  subst hq
  intro H locs ls hP hS hl
  exact va_slen hx hb h1 h2 h3 hS hd (kk H locs ls hP hS hl)
end SCR
