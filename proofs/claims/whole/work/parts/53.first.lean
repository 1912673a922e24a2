/-! hide and save have one answer; what is at first -/
theorem HideR_one {S : ST} {a b k : Nat} {r r' : Int32} (h : HideR S a b k r) (h' : HideR S a b k r') : r = r' := by
  rcases h with ⟨n, v, h1, h5, hl, hh, hr, hn, hv⟩ | ⟨hr, hall⟩
  · rcases h' with ⟨n', v', h1', h5', hl', hh', hr', hn', hv'⟩ | ⟨hr', hall'⟩
    · rcases Nat.lt_trichotomy n n' with z | z | z
      · exact absurd hh (hn' n v h1 z hl)
      · subst z
        rcases Nat.lt_trichotomy v v' with w | w | w
        · exact absurd hh (hv' v w hl)
        · rw [hr, hr', w]
        · exact absurd hh' (hv v' w hl')
      · exact absurd hh' (hn n' v' h1' z hl')
    · exact absurd hh (hall' n v h1 h5 hl)
  · rcases h' with ⟨n', v', h1', h5', hl', hh', hr', hn', hv'⟩ | ⟨hr', hall'⟩
    · exact absurd hh' (hall n' v' h1' h5' hl')
    · rw [hr, hr']
theorem SaveR_one {S : ST} {c w n : Nat} {z : Int} {r r' : Int32} (h : SaveR S c w n z r) (h' : SaveR S c w n z r') : r = r' := by
  rcases h with ⟨v, hl, hs, hm, hr⟩ | ⟨hr, hall⟩
  · rcases h' with ⟨v', hl', hs', hm', hr'⟩ | ⟨hr', hall'⟩
    · have h1 := hm v' hl' hs'
      have h2 := hm' v hl hs
      have e : v = v' := by omega
      rw [hr, hr', e]
    · exact absurd hs (hall' v hl)
  · rcases h' with ⟨v', hl', hs', hm', hr'⟩ | ⟨hr', hall'⟩
    · exact absurd hs' (hall v' hl')
    · rw [hr, hr']
def B0 : BkT := (0, fun _ => (0, fun _ => (0, 0)), fun _ => 0)
/-- the state at first -/
def S0 : ST := ((B0, (0, fun _ => B0), 0, 0, (0, fun _ => 0), (0, fun _ => (0, 0))), fun _ => none, fun _ => 0, 0, fun _ => 0)
theorem S0_ok : StOk S0 := by
  refine ⟨⟨Nat.zero_le _, ⟨rfl, fun c hc => absurd hc (Nat.not_lt_zero _), fun w hw => Nat.zero_le _⟩, Nat.zero_le _, fun k hk => absurd hk (Nat.not_lt_zero _), by show (0 : Nat) < 64; decide, Or.inl rfl, Nat.zero_le _, fun k hk => absurd hk (Nat.not_lt_zero _), Nat.zero_le _, fun k hk => absurd hk (Nat.not_lt_zero _)⟩, fun i hi C hC => (nomatch hC), Nat.zero_le _, fun i hi => absurd hi (Nat.not_lt_zero _)⟩
theorem S0_MR : MR (fun _ _ => 0) S0 := by
  refine ⟨rfl, ⟨rfl, rfl, rfl, rfl, rfl, rfl, fun k hk => absurd hk (Nat.not_lt_zero _), fun k hk => absurd hk (Nat.not_lt_zero _), ⟨fun w hw => rfl, fun c hc => absurd hc (Nat.not_lt_zero _)⟩, fun k hk => absurd hk (Nat.not_lt_zero _)⟩, fun i hi => ⟨rfl, fun C hC => nomatch hC⟩, fun i hi => rfl, rfl, fun i hi => absurd hi (Nat.not_lt_zero _)⟩
theorem pmId : PmOk (fun k => k) := ⟨fun k hk => hk, fun a b _ _ h => h⟩
theorem S0_FR : FR zF S0 := by
  refine ⟨⟨⟨rfl, fun c hc => absurd hc (Nat.not_lt_zero _), fun w hw => rfl⟩, ⟨rfl, fun k => k, pmId, fun k hk => ?_, fun k hk => absurd hk (Nat.not_lt_zero _)⟩, rfl, ?_, fun k hk => absurd hk (by show ¬ k < ln 0; rw [show ln 0 = 0 from rfl]; exact Nat.not_lt_zero _), rfl, fun k hk => absurd hk (Nat.not_lt_zero _), rfl, fun k hk => absurd hk (Nat.not_lt_zero _)⟩, fun i hi => ⟨⟨fun k => k, pmId, fun k hk => ?_⟩, rfl, fun C hC => nomatch hC⟩, fun k hk => rfl, rfl, fun i hi => absurd hi (Nat.not_lt_zero _), fun w hw => ?_⟩
  · show zF (1 + 7) k = nI k
    exact if_pos (Or.inl rfl)
  · show zF 1 1 = nI (ln 0)
    rfl
  · show zF (44 + 42 * i + 7) k = nI k
    exact if_pos (by omega)
  · show zF (129 + 6) w = nI 0
    exact if_neg (by omega)
