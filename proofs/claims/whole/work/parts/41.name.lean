section LDS
variable {X : CX} {Γ : Gm} {P : PO} {k n pc q : Nat} {L : List (Option Value)} {st : List Value} {σ : Sg} {sz : Nat} {own nm : String} {cc : ByteArray} {nL : Nat} {ret : Option FieldType} {R0 : Room}
theorem S_ldcs {ix : Nat} {tx : String} (j : Nat) (hX : Ok X Γ (own, nm, cc, nL, ret, R0)) (hd : decode cc pc = .ok (.ldc ix, 2)) (hk : ∀ U, KN Γ U → vk_R own ix tx (Γ.2.2.1 j) U) (hq : pc + 2 = q) (kk : G X Γ P k n q L (.ref (Γ.2.2.1 j) :: st) σ sz) : G X Γ P k n pc L st σ sz := by
  obtain ⟨p, l, e, R, s, m, args, below, meth, c⟩ := X
  obtain ⟨hx, hb, hml, hr, hR, hown, hts, hKN, hlk, hnm, hbs⟩ := hX
  subst hR
  subst hq
  intro H locs ls hP hS hl
  exact va_ldcS hx hb hown (hk s hKN) hd (kk H locs ls hP hS hl)
end LDS

theorem c_X8_isName (q : Nat) (f : MF) (a j p : Nat) (T : TxT) : CT_X8_isName [.ref q, .ref a] (fun Γ σ sz => SK σ q f ∧ a = Γ.2.2.1 j ∧ j < 3 ∧ TxS f T ∧ TkS f T (tk T p) ∧ p ≤ T.1) (fun Γ σ sz v σ' sz' => v = some (.int (bi ((tk T p).2.1 = j))) ∧ σ' = σ ∧ sz' = sz) := by
  sorry

