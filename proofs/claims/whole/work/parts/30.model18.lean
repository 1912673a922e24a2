/-! the reference: what is due -/
def fI (f : Option Nat) : Int32 := match f with
  | none => -1
  | some p => nI p
theorem fI_n {f : Option Nat} (h : ∀ p, f = some p → p ≤ 300) : fI f = -1 ↔ f = none := by
  cases f with
  | none => exact ⟨fun _ => rfl, fun _ => rfl⟩
  | some p =>
    have := h p rfl
    refine ⟨fun q => ?_, fun q => nomatch q⟩
    have q2 := congrArg Int32.toInt (show nI p = -1 from q)
    rw [nI_toInt (by omega), show ((-1 : Int32)).toInt = -1 by decide] at q2
    omega

