/-! the reference reads -/
/-- what the reference has of a code: at base b, code c -/
def MCode (f : Nat → Int32) (b c : Nat) (C : CodT) : Prop := f (b + (36 + 17 * c)) = nI C.1 ∧ ∀ e, e < C.1 → f (b + (36 + 17 * c + 1 + 2 * e)) = nI (C.2 e).1 ∧ f (b + (36 + 17 * c + 2 + 2 * e)) = nI (C.2 e).2
theorem s_sm {n : Nat} (h : n < 32) : ((nI n).toBitVec.smod 32).toNat = n := by
  revert n
  decide +kernel
theorem pk_bit {d b : Nat} (hd : d < 64) (hb : b < 32) : (nI d >>> (nI b &&& 31)) &&& 1 = nI (d / 2 ^ b % 2) := by
  have h1 : nI b &&& 31 = nI b := by
    rw [i31, pk_andN (m := nI 31) (by omega) 5 (by decide)]
    congr 1
    exact Nat.mod_eq_of_lt hb
  rw [pk_shrN (by omega) _ b (by rw [h1]; exact s_sm hb), pk_andN (Nat.lt_of_le_of_lt (Nat.div_le_self _ _) (by omega)) 1 (by decide)]

theorem c_X12_blown (x : Int32) (s : Nat) (hx : x = nI s) : CT_X12_blown [.int x] (fun Γ σ sz => s < 12) (fun Γ σ sz v σ' sz' => v = some (.int (nI (blw s))) ∧ σ' = σ ∧ sz' = sz) := by
  refine CT.mkP rfl (Nat.le_of_ble_eq_true rfl) [_] rfl ?_
  intro X Γ σ sz P hX hs hsz hP
  subst hx
  refine S_iload_n (q := 1) hX dX12_blown_0 rfl rfl ?_
  refine S_bipush (q := 3) (v := 10) hX dX12_blown_1 bp_10 rfl ?_
  refine S_icmp_ge (q := 6) 12 hX dX12_blown_3 rfl rfl (fun c3 => ?_) (fun c3 => ?_)
  · refine S_iload_n (q := 13) hX dX12_blown_12 rfl rfl ?_
    refine S_iret hX dX12_blown_13 (Nat.zero_le _) (Nat.zero_le _) ?_
    refine hP _ _ _ ?_
    refine ⟨?_, rfl, rfl⟩
    rw [i10, nI_leI (by decide) (by omega)] at c3
    unfold blw
    rw [if_neg (by omega)]
  · refine S_iload_n (q := 7) hX dX12_blown_6 rfl rfl ?_
    refine S_iconst (q := 8) (v := 2) hX dX12_blown_7 ic_2 rfl ?_
    refine S_iadd (q := 9) hX dX12_blown_8 rfl ?_
    refine S_goto 13 hX dX12_blown_9 rfl ?_
    refine S_iret hX dX12_blown_13 (Nat.zero_le _) (Nat.zero_le _) ?_
    refine hP _ _ _ ?_
    refine ⟨?_, rfl, rfl⟩
    rw [i10, nI_leI (by decide) (by omega)] at c3
    unfold blw
    rw [if_pos (by omega), i2, nI_add]
theorem c_X12_seenBy (x y z : Int32) (kd s b : Nat) (hx : x = nI kd) (hy : y = nI s) (hz : z = nI b) : CT_X12_seenBy [.int x, .int y, .int z] (fun Γ σ sz => kd < 5 ∧ s < 12 ∧ b < 60) (fun Γ σ sz v σ' sz' => v = some (.int (vw kd s b)) ∧ σ' = σ ∧ sz' = sz) := by
  refine CT.mkP rfl (Nat.le_of_ble_eq_true rfl) [_, _, _] rfl ?_
  intro X Γ σ sz P hX hpre hsz hP
  obtain ⟨hk, hs, hb⟩ := hpre
  subst hx
  subst hy
  subst hz
  have k2 : nI kd = 2 ↔ kd = 2 := nI_eq (by omega) (by decide)
  have k3 : nI kd = 3 ↔ kd = 3 := nI_eq (by omega) (by decide)
  have k4 : nI kd = 4 ↔ kd = 4 := nI_eq (by omega) (by decide)
  have eb : nI b - nI b / 3 * 3 = nI (b % 3) := pk_rem (by omega) (by decide) (by decide)
  have es : nI s - nI s / 2 * 2 = nI (s % 2) := pk_rem (by omega) (by decide) (by decide)
  have eb2 : nI (b % 3) = 2 ↔ b % 3 = 2 := nI_eq (by omega) (by decide)
  have es2 : nI (s % 2) = 0 ↔ s % 2 = 0 := nI_eq (by omega) (by decide)
  have es3 : nI s < 10 ↔ s < 10 := nI_ltI (by omega) (by decide)
  refine S_iload_n (q := 1) hX dX12_seenBy_0 rfl rfl ?_
  refine S_iconst (q := 2) (v := 2) hX dX12_seenBy_1 ic_2 rfl ?_
  refine S_icmp_eq (q := 5) 10 hX dX12_seenBy_2 rfl rfl (fun c2 => ?_) (fun c2 => ?_)
  · refine S_iload_n (q := 11) hX dX12_seenBy_10 rfl rfl ?_
    refine S_iconst (q := 12) (v := 3) hX dX12_seenBy_11 ic_3 rfl ?_
    refine S_irem (q := 13) hX dX12_seenBy_12 (by decide) rfl ?_
    refine S_iconst (q := 14) (v := 2) hX dX12_seenBy_13 ic_2 rfl ?_
    refine S_icmp_ne (q := 17) 19 hX dX12_seenBy_14 rfl rfl (fun c14 => ?_) (fun c14 => ?_)
    · refine S_iload_n (q := 20) hX dX12_seenBy_19 rfl rfl ?_
      refine S_iconst (q := 21) (v := 3) hX dX12_seenBy_20 ic_3 rfl ?_
      refine S_icmp_ne (q := 24) 42 hX dX12_seenBy_21 rfl rfl (fun c21 => ?_) (fun c21 => ?_)
      · refine S_iload_n (q := 43) hX dX12_seenBy_42 rfl rfl ?_
        refine S_iconst (q := 44) (v := 4) hX dX12_seenBy_43 ic_4 rfl ?_
        refine S_icmp_ne (q := 47) 59 hX dX12_seenBy_44 rfl rfl (fun c44 => ?_) (fun c44 => ?_)
        · refine S_iload_n (q := 60) hX dX12_seenBy_59 rfl rfl ?_
          refine S_iret hX dX12_seenBy_60 (Nat.zero_le _) (Nat.zero_le _) ?_
          refine hP _ _ _ ?_
          refine ⟨?_, rfl, rfl⟩
          refine congrArg (fun z => some (Value.int z)) ?_
          simp only [k2, k3, k4, eb, eb2, es, es2, es3] at *
          unfold vw
          rw [if_neg (by omega)]
          first
            | (rw [if_pos (by omega), if_pos (by omega)]; exact nI_add s 1)
            | (rw [if_pos (by omega), if_neg (by omega)]; exact pk_sub (a := s) (b := 1) (by omega))
            | (rw [if_neg (by omega), if_pos (by omega)]; exact pk_sub (a := s) (b := 2) (by omega))
            | (rw [if_neg (by omega), if_neg (by omega)]; done)
        · refine S_iload_n (q := 48) hX dX12_seenBy_47 rfl rfl ?_
          refine S_bipush (q := 50) (v := 10) hX dX12_seenBy_48 bp_10 rfl ?_
          refine S_icmp_lt (q := 53) 59 hX dX12_seenBy_50 rfl rfl (fun c50 => ?_) (fun c50 => ?_)
          · refine S_iload_n (q := 60) hX dX12_seenBy_59 rfl rfl ?_
            refine S_iret hX dX12_seenBy_60 (Nat.zero_le _) (Nat.zero_le _) ?_
            refine hP _ _ _ ?_
            refine ⟨?_, rfl, rfl⟩
            refine congrArg (fun z => some (Value.int z)) ?_
            simp only [k2, k3, k4, eb, eb2, es, es2, es3] at *
            unfold vw
            rw [if_neg (by omega)]
            first
              | (rw [if_pos (by omega), if_pos (by omega)]; exact nI_add s 1)
              | (rw [if_pos (by omega), if_neg (by omega)]; exact pk_sub (a := s) (b := 1) (by omega))
              | (rw [if_neg (by omega), if_pos (by omega)]; exact pk_sub (a := s) (b := 2) (by omega))
              | (rw [if_neg (by omega), if_neg (by omega)]; done)
          · refine S_iload_n (q := 54) hX dX12_seenBy_53 rfl rfl ?_
            refine S_iconst (q := 55) (v := 2) hX dX12_seenBy_54 ic_2 rfl ?_
            refine S_isub (q := 56) hX dX12_seenBy_55 rfl ?_
            refine S_goto 60 hX dX12_seenBy_56 rfl ?_
            refine S_iret hX dX12_seenBy_60 (Nat.zero_le _) (Nat.zero_le _) ?_
            refine hP _ _ _ ?_
            refine ⟨?_, rfl, rfl⟩
            refine congrArg (fun z => some (Value.int z)) ?_
            simp only [k2, k3, k4, eb, eb2, es, es2, es3] at *
            unfold vw
            rw [if_neg (by omega)]
            first
              | (rw [if_pos (by omega), if_pos (by omega)]; exact nI_add s 1)
              | (rw [if_pos (by omega), if_neg (by omega)]; exact pk_sub (a := s) (b := 1) (by omega))
              | (rw [if_neg (by omega), if_pos (by omega)]; exact pk_sub (a := s) (b := 2) (by omega))
              | (rw [if_neg (by omega), if_neg (by omega)]; done)
      · refine S_iload_n (q := 25) hX dX12_seenBy_24 rfl rfl ?_
        refine S_iconst (q := 26) (v := 2) hX dX12_seenBy_25 ic_2 rfl ?_
        refine S_irem (q := 27) hX dX12_seenBy_26 (by decide) rfl ?_
        refine S_if_ne (q := 30) 36 hX dX12_seenBy_27 rfl rfl (fun c27 => ?_) (fun c27 => ?_)
        · refine S_iload_n (q := 37) hX dX12_seenBy_36 rfl rfl ?_
          refine S_iconst (q := 38) (v := 1) hX dX12_seenBy_37 ic_1 rfl ?_
          refine S_isub (q := 39) hX dX12_seenBy_38 rfl ?_
          refine S_goto 60 hX dX12_seenBy_39 rfl ?_
          refine S_iret hX dX12_seenBy_60 (Nat.zero_le _) (Nat.zero_le _) ?_
          refine hP _ _ _ ?_
          refine ⟨?_, rfl, rfl⟩
          refine congrArg (fun z => some (Value.int z)) ?_
          simp only [k2, k3, k4, eb, eb2, es, es2, es3] at *
          unfold vw
          rw [if_neg (by omega)]
          first
            | (rw [if_pos (by omega), if_pos (by omega)]; exact nI_add s 1)
            | (rw [if_pos (by omega), if_neg (by omega)]; exact pk_sub (a := s) (b := 1) (by omega))
            | (rw [if_neg (by omega), if_pos (by omega)]; exact pk_sub (a := s) (b := 2) (by omega))
            | (rw [if_neg (by omega), if_neg (by omega)]; done)
        · refine S_iload_n (q := 31) hX dX12_seenBy_30 rfl rfl ?_
          refine S_iconst (q := 32) (v := 1) hX dX12_seenBy_31 ic_1 rfl ?_
          refine S_iadd (q := 33) hX dX12_seenBy_32 rfl ?_
          refine S_goto 60 hX dX12_seenBy_33 rfl ?_
          refine S_iret hX dX12_seenBy_60 (Nat.zero_le _) (Nat.zero_le _) ?_
          refine hP _ _ _ ?_
          refine ⟨?_, rfl, rfl⟩
          refine congrArg (fun z => some (Value.int z)) ?_
          simp only [k2, k3, k4, eb, eb2, es, es2, es3] at *
          unfold vw
          rw [if_neg (by omega)]
          first
            | (rw [if_pos (by omega), if_pos (by omega)]; exact nI_add s 1)
            | (rw [if_pos (by omega), if_neg (by omega)]; exact pk_sub (a := s) (b := 1) (by omega))
            | (rw [if_neg (by omega), if_pos (by omega)]; exact pk_sub (a := s) (b := 2) (by omega))
            | (rw [if_neg (by omega), if_neg (by omega)]; done)
    · refine S_iconst (q := 18) (v := (-1)) hX dX12_seenBy_17 ic_m1 rfl ?_
      refine S_iret hX dX12_seenBy_18 (Nat.zero_le _) (Nat.zero_le _) ?_
      refine hP _ _ _ ?_
      refine ⟨?_, rfl, rfl⟩
      refine congrArg (fun z => some (Value.int z)) ?_
      simp only [k2, k4, eb, eb2] at *
      unfold vw
      rw [if_pos (by omega)]
  · refine S_iload_n (q := 6) hX dX12_seenBy_5 rfl rfl ?_
    refine S_iconst (q := 7) (v := 4) hX dX12_seenBy_6 ic_4 rfl ?_
    refine S_icmp_ne (q := 10) 19 hX dX12_seenBy_7 rfl rfl (fun c7 => ?_) (fun c7 => ?_)
    · refine S_iload_n (q := 20) hX dX12_seenBy_19 rfl rfl ?_
      refine S_iconst (q := 21) (v := 3) hX dX12_seenBy_20 ic_3 rfl ?_
      refine S_icmp_ne (q := 24) 42 hX dX12_seenBy_21 rfl rfl (fun c21 => ?_) (fun c21 => ?_)
      · refine S_iload_n (q := 43) hX dX12_seenBy_42 rfl rfl ?_
        refine S_iconst (q := 44) (v := 4) hX dX12_seenBy_43 ic_4 rfl ?_
        refine S_icmp_ne (q := 47) 59 hX dX12_seenBy_44 rfl rfl (fun c44 => ?_) (fun c44 => ?_)
        · refine S_iload_n (q := 60) hX dX12_seenBy_59 rfl rfl ?_
          refine S_iret hX dX12_seenBy_60 (Nat.zero_le _) (Nat.zero_le _) ?_
          refine hP _ _ _ ?_
          refine ⟨?_, rfl, rfl⟩
          refine congrArg (fun z => some (Value.int z)) ?_
          simp only [k2, k3, k4, eb, eb2, es, es2, es3] at *
          unfold vw
          rw [if_neg (by omega)]
          first
            | (rw [if_pos (by omega), if_pos (by omega)]; exact nI_add s 1)
            | (rw [if_pos (by omega), if_neg (by omega)]; exact pk_sub (a := s) (b := 1) (by omega))
            | (rw [if_neg (by omega), if_pos (by omega)]; exact pk_sub (a := s) (b := 2) (by omega))
            | (rw [if_neg (by omega), if_neg (by omega)]; done)
        · refine S_iload_n (q := 48) hX dX12_seenBy_47 rfl rfl ?_
          refine S_bipush (q := 50) (v := 10) hX dX12_seenBy_48 bp_10 rfl ?_
          refine S_icmp_lt (q := 53) 59 hX dX12_seenBy_50 rfl rfl (fun c50 => ?_) (fun c50 => ?_)
          · refine S_iload_n (q := 60) hX dX12_seenBy_59 rfl rfl ?_
            refine S_iret hX dX12_seenBy_60 (Nat.zero_le _) (Nat.zero_le _) ?_
            refine hP _ _ _ ?_
            refine ⟨?_, rfl, rfl⟩
            refine congrArg (fun z => some (Value.int z)) ?_
            simp only [k2, k3, k4, eb, eb2, es, es2, es3] at *
            unfold vw
            rw [if_neg (by omega)]
            first
              | (rw [if_pos (by omega), if_pos (by omega)]; exact nI_add s 1)
              | (rw [if_pos (by omega), if_neg (by omega)]; exact pk_sub (a := s) (b := 1) (by omega))
              | (rw [if_neg (by omega), if_pos (by omega)]; exact pk_sub (a := s) (b := 2) (by omega))
              | (rw [if_neg (by omega), if_neg (by omega)]; done)
          · refine S_iload_n (q := 54) hX dX12_seenBy_53 rfl rfl ?_
            refine S_iconst (q := 55) (v := 2) hX dX12_seenBy_54 ic_2 rfl ?_
            refine S_isub (q := 56) hX dX12_seenBy_55 rfl ?_
            refine S_goto 60 hX dX12_seenBy_56 rfl ?_
            refine S_iret hX dX12_seenBy_60 (Nat.zero_le _) (Nat.zero_le _) ?_
            refine hP _ _ _ ?_
            refine ⟨?_, rfl, rfl⟩
            refine congrArg (fun z => some (Value.int z)) ?_
            simp only [k2, k3, k4, eb, eb2, es, es2, es3] at *
            unfold vw
            rw [if_neg (by omega)]
            first
              | (rw [if_pos (by omega), if_pos (by omega)]; exact nI_add s 1)
              | (rw [if_pos (by omega), if_neg (by omega)]; exact pk_sub (a := s) (b := 1) (by omega))
              | (rw [if_neg (by omega), if_pos (by omega)]; exact pk_sub (a := s) (b := 2) (by omega))
              | (rw [if_neg (by omega), if_neg (by omega)]; done)
      · refine S_iload_n (q := 25) hX dX12_seenBy_24 rfl rfl ?_
        refine S_iconst (q := 26) (v := 2) hX dX12_seenBy_25 ic_2 rfl ?_
        refine S_irem (q := 27) hX dX12_seenBy_26 (by decide) rfl ?_
        refine S_if_ne (q := 30) 36 hX dX12_seenBy_27 rfl rfl (fun c27 => ?_) (fun c27 => ?_)
        · refine S_iload_n (q := 37) hX dX12_seenBy_36 rfl rfl ?_
          refine S_iconst (q := 38) (v := 1) hX dX12_seenBy_37 ic_1 rfl ?_
          refine S_isub (q := 39) hX dX12_seenBy_38 rfl ?_
          refine S_goto 60 hX dX12_seenBy_39 rfl ?_
          refine S_iret hX dX12_seenBy_60 (Nat.zero_le _) (Nat.zero_le _) ?_
          refine hP _ _ _ ?_
          refine ⟨?_, rfl, rfl⟩
          refine congrArg (fun z => some (Value.int z)) ?_
          simp only [k2, k3, k4, eb, eb2, es, es2, es3] at *
          unfold vw
          rw [if_neg (by omega)]
          first
            | (rw [if_pos (by omega), if_pos (by omega)]; exact nI_add s 1)
            | (rw [if_pos (by omega), if_neg (by omega)]; exact pk_sub (a := s) (b := 1) (by omega))
            | (rw [if_neg (by omega), if_pos (by omega)]; exact pk_sub (a := s) (b := 2) (by omega))
            | (rw [if_neg (by omega), if_neg (by omega)]; done)
        · refine S_iload_n (q := 31) hX dX12_seenBy_30 rfl rfl ?_
          refine S_iconst (q := 32) (v := 1) hX dX12_seenBy_31 ic_1 rfl ?_
          refine S_iadd (q := 33) hX dX12_seenBy_32 rfl ?_
          refine S_goto 60 hX dX12_seenBy_33 rfl ?_
          refine S_iret hX dX12_seenBy_60 (Nat.zero_le _) (Nat.zero_le _) ?_
          refine hP _ _ _ ?_
          refine ⟨?_, rfl, rfl⟩
          refine congrArg (fun z => some (Value.int z)) ?_
          simp only [k2, k3, k4, eb, eb2, es, es2, es3] at *
          unfold vw
          rw [if_neg (by omega)]
          first
            | (rw [if_pos (by omega), if_pos (by omega)]; exact nI_add s 1)
            | (rw [if_pos (by omega), if_neg (by omega)]; exact pk_sub (a := s) (b := 1) (by omega))
            | (rw [if_neg (by omega), if_pos (by omega)]; exact pk_sub (a := s) (b := 2) (by omega))
            | (rw [if_neg (by omega), if_neg (by omega)]; done)
    · refine S_iload_n (q := 11) hX dX12_seenBy_10 rfl rfl ?_
      refine S_iconst (q := 12) (v := 3) hX dX12_seenBy_11 ic_3 rfl ?_
      refine S_irem (q := 13) hX dX12_seenBy_12 (by decide) rfl ?_
      refine S_iconst (q := 14) (v := 2) hX dX12_seenBy_13 ic_2 rfl ?_
      refine S_icmp_ne (q := 17) 19 hX dX12_seenBy_14 rfl rfl (fun c14 => ?_) (fun c14 => ?_)
      · refine S_iload_n (q := 20) hX dX12_seenBy_19 rfl rfl ?_
        refine S_iconst (q := 21) (v := 3) hX dX12_seenBy_20 ic_3 rfl ?_
        refine S_icmp_ne (q := 24) 42 hX dX12_seenBy_21 rfl rfl (fun c21 => ?_) (fun c21 => ?_)
        · refine S_iload_n (q := 43) hX dX12_seenBy_42 rfl rfl ?_
          refine S_iconst (q := 44) (v := 4) hX dX12_seenBy_43 ic_4 rfl ?_
          refine S_icmp_ne (q := 47) 59 hX dX12_seenBy_44 rfl rfl (fun c44 => ?_) (fun c44 => ?_)
          · refine S_iload_n (q := 60) hX dX12_seenBy_59 rfl rfl ?_
            refine S_iret hX dX12_seenBy_60 (Nat.zero_le _) (Nat.zero_le _) ?_
            refine hP _ _ _ ?_
            refine ⟨?_, rfl, rfl⟩
            refine congrArg (fun z => some (Value.int z)) ?_
            simp only [k2, k3, k4, eb, eb2, es, es2, es3] at *
            unfold vw
            rw [if_neg (by omega)]
            first
              | (rw [if_pos (by omega), if_pos (by omega)]; exact nI_add s 1)
              | (rw [if_pos (by omega), if_neg (by omega)]; exact pk_sub (a := s) (b := 1) (by omega))
              | (rw [if_neg (by omega), if_pos (by omega)]; exact pk_sub (a := s) (b := 2) (by omega))
              | (rw [if_neg (by omega), if_neg (by omega)]; done)
          · refine S_iload_n (q := 48) hX dX12_seenBy_47 rfl rfl ?_
            refine S_bipush (q := 50) (v := 10) hX dX12_seenBy_48 bp_10 rfl ?_
            refine S_icmp_lt (q := 53) 59 hX dX12_seenBy_50 rfl rfl (fun c50 => ?_) (fun c50 => ?_)
            · refine S_iload_n (q := 60) hX dX12_seenBy_59 rfl rfl ?_
              refine S_iret hX dX12_seenBy_60 (Nat.zero_le _) (Nat.zero_le _) ?_
              refine hP _ _ _ ?_
              refine ⟨?_, rfl, rfl⟩
              refine congrArg (fun z => some (Value.int z)) ?_
              simp only [k2, k3, k4, eb, eb2, es, es2, es3] at *
              unfold vw
              rw [if_neg (by omega)]
              first
                | (rw [if_pos (by omega), if_pos (by omega)]; exact nI_add s 1)
                | (rw [if_pos (by omega), if_neg (by omega)]; exact pk_sub (a := s) (b := 1) (by omega))
                | (rw [if_neg (by omega), if_pos (by omega)]; exact pk_sub (a := s) (b := 2) (by omega))
                | (rw [if_neg (by omega), if_neg (by omega)]; done)
            · refine S_iload_n (q := 54) hX dX12_seenBy_53 rfl rfl ?_
              refine S_iconst (q := 55) (v := 2) hX dX12_seenBy_54 ic_2 rfl ?_
              refine S_isub (q := 56) hX dX12_seenBy_55 rfl ?_
              refine S_goto 60 hX dX12_seenBy_56 rfl ?_
              refine S_iret hX dX12_seenBy_60 (Nat.zero_le _) (Nat.zero_le _) ?_
              refine hP _ _ _ ?_
              refine ⟨?_, rfl, rfl⟩
              refine congrArg (fun z => some (Value.int z)) ?_
              simp only [k2, k3, k4, eb, eb2, es, es2, es3] at *
              unfold vw
              rw [if_neg (by omega)]
              first
                | (rw [if_pos (by omega), if_pos (by omega)]; exact nI_add s 1)
                | (rw [if_pos (by omega), if_neg (by omega)]; exact pk_sub (a := s) (b := 1) (by omega))
                | (rw [if_neg (by omega), if_pos (by omega)]; exact pk_sub (a := s) (b := 2) (by omega))
                | (rw [if_neg (by omega), if_neg (by omega)]; done)
        · refine S_iload_n (q := 25) hX dX12_seenBy_24 rfl rfl ?_
          refine S_iconst (q := 26) (v := 2) hX dX12_seenBy_25 ic_2 rfl ?_
          refine S_irem (q := 27) hX dX12_seenBy_26 (by decide) rfl ?_
          refine S_if_ne (q := 30) 36 hX dX12_seenBy_27 rfl rfl (fun c27 => ?_) (fun c27 => ?_)
          · refine S_iload_n (q := 37) hX dX12_seenBy_36 rfl rfl ?_
            refine S_iconst (q := 38) (v := 1) hX dX12_seenBy_37 ic_1 rfl ?_
            refine S_isub (q := 39) hX dX12_seenBy_38 rfl ?_
            refine S_goto 60 hX dX12_seenBy_39 rfl ?_
            refine S_iret hX dX12_seenBy_60 (Nat.zero_le _) (Nat.zero_le _) ?_
            refine hP _ _ _ ?_
            refine ⟨?_, rfl, rfl⟩
            refine congrArg (fun z => some (Value.int z)) ?_
            simp only [k2, k3, k4, eb, eb2, es, es2, es3] at *
            unfold vw
            rw [if_neg (by omega)]
            first
              | (rw [if_pos (by omega), if_pos (by omega)]; exact nI_add s 1)
              | (rw [if_pos (by omega), if_neg (by omega)]; exact pk_sub (a := s) (b := 1) (by omega))
              | (rw [if_neg (by omega), if_pos (by omega)]; exact pk_sub (a := s) (b := 2) (by omega))
              | (rw [if_neg (by omega), if_neg (by omega)]; done)
          · refine S_iload_n (q := 31) hX dX12_seenBy_30 rfl rfl ?_
            refine S_iconst (q := 32) (v := 1) hX dX12_seenBy_31 ic_1 rfl ?_
            refine S_iadd (q := 33) hX dX12_seenBy_32 rfl ?_
            refine S_goto 60 hX dX12_seenBy_33 rfl ?_
            refine S_iret hX dX12_seenBy_60 (Nat.zero_le _) (Nat.zero_le _) ?_
            refine hP _ _ _ ?_
            refine ⟨?_, rfl, rfl⟩
            refine congrArg (fun z => some (Value.int z)) ?_
            simp only [k2, k3, k4, eb, eb2, es, es2, es3] at *
            unfold vw
            rw [if_neg (by omega)]
            first
              | (rw [if_pos (by omega), if_pos (by omega)]; exact nI_add s 1)
              | (rw [if_pos (by omega), if_neg (by omega)]; exact pk_sub (a := s) (b := 1) (by omega))
              | (rw [if_neg (by omega), if_pos (by omega)]; exact pk_sub (a := s) (b := 2) (by omega))
              | (rw [if_neg (by omega), if_neg (by omega)]; done)
      · refine S_iconst (q := 18) (v := (-1)) hX dX12_seenBy_17 ic_m1 rfl ?_
        refine S_iret hX dX12_seenBy_18 (Nat.zero_le _) (Nat.zero_le _) ?_
        refine hP _ _ _ ?_
        refine ⟨?_, rfl, rfl⟩
        refine congrArg (fun z => some (Value.int z)) ?_
        simp only [k2, k4, eb, eb2] at *
        unfold vw
        rw [if_pos (by omega)]
theorem c_X12_fits (m : Nat) (μ : MF) (x y z : Int32) (r mm b0 n : Nat) (hx : x = nI r) (hy : y = nI mm) (hz : z = nI b0) : CT_X12_fits [.ref m, .int x, .int y, .int z] (fun Γ σ sz => MM σ m μ ∧ μ 0 7 = nI n ∧ n ≤ 60 ∧ mm ≤ 6 ∧ r < 2 ^ 31 ∧ b0 ≤ 60) (fun Γ σ sz v σ' sz' => v = some (.int (bi (b0 + mm ≤ n ∧ ∀ i, i < mm → μ 6 (b0 + i) = nI (stN r mm i)))) ∧ σ' = σ ∧ sz' = sz) := by
  refine CT.mkP rfl (Nat.le_of_ble_eq_true rfl) [_, _, _, _, _, _] rfl ?_
  intro X Γ σ sz P hX hpre hsz hP
  obtain ⟨hM, h7, hn, hm, hr, hb0⟩ := hpre
  have hF : Fr m (m + 9) σ σ := Fr.rf
  subst hx
  subst hy
  subst hz
  have loop : ∀ (fu : Nat) (kk : Nat) (xi xk : Int32), xi = bi (b0 + mm ≤ n ∧ ∀ i, i < kk → μ 6 (b0 + i) = nI (stN r mm i)) → xk = nI kk → kk ≤ mm → mm - kk < fu → G X Γ P 0 0 20 [some (.ref m), some (.int (nI r)), some (.int (nI mm)), some (.int (nI b0)), some (.int xi), some (.int xk)] [] σ sz := by
    intro fu
    induction fu with
    | zero =>
      rintro kk _ _ rfl rfl hk hfu
      exact absurd hfu (Nat.not_lt_zero _)
    | succ fu ih =>
      rintro kk _ _ rfl rfl hk hfu
      refine S_iload (q := 22) hX dX12_fits_20 rfl rfl ?_
      refine S_iload_n (q := 23) hX dX12_fits_22 rfl rfl ?_
      refine S_icmp_ge (q := 26) 63 hX dX12_fits_23 rfl rfl (fun c23 => ?_) (fun c23 => ?_)
      · refine S_iload (q := 65) hX dX12_fits_63 rfl rfl ?_
        refine S_xret hX dX12_fits_65 (Nat.zero_le _) (Nat.zero_le _) nb_bi ?_
        refine hP _ _ _ ?_
        refine ⟨?_, rfl, rfl⟩
        have : kk = mm := by rw [nI_leI (by omega) (by omega)] at c23; omega
        rw [this]
      · refine S_iload (q := 28) hX dX12_fits_26 rfl rfl ?_
        refine S_if_eq_b (q := 31) 63 hX dX12_fits_28 rfl rfl (fun c28 => ?_) (fun c28 => ?_)
        · refine S_iload (q := 65) hX dX12_fits_63 rfl rfl ?_
          refine S_xret hX dX12_fits_65 (Nat.zero_le _) (Nat.zero_le _) nb_bi ?_
          refine hP _ _ _ ?_
          refine ⟨?_, rfl, rfl⟩
          rw [bi_f c28, bi_f (fun z => c28 ⟨z.1, fun i hi => z.2 i (by omega)⟩)]
        · refine S_aload_n (q := 32) hX dX12_fits_31 rfl rfl ?_
          refine S_getf (fs := ?fs_1) (v := ?v_1) (q := 35) hX u_795 fo_X12_view dX12_fits_32 ?hs_1 ?hv_1 rfl ?_
          case hs_1 => with_reducible first | exact MM.c0 hM | exact MM.c1 hM | exact MM.c5 hM | exact MM.c6 hM | exact MM.c7 hM | exact MM.c3 hM | exact MM.c4 hM | exact MM.c8 hM | exact MM.c2 hM
          case hv_1 => rfl
          refine S_iload_n (q := 36) hX dX12_fits_35 rfl rfl ?_
          refine S_iload (q := 38) hX dX12_fits_36 rfl rfl ?_
          refine S_iadd (q := 39) hX dX12_fits_38 rfl ?_
          refine S_iald (N := ?n_2) (f := ?f_2) (q := 40) hX dX12_fits_39 ?hs_2 ?hi_2 rfl ?_
          case hs_2 => with_reducible first | exact MM.c0 hM | exact MM.c1 hM | exact MM.c5 hM | exact MM.c6 hM | exact MM.c7 hM | exact MM.c3 hM | exact MM.c4 hM | exact MM.c8 hM | exact MM.c2 hM
          case hi_2 => exact (nI_add b0 kk ▸ vp_in_nI (by rw [nI_leI (by omega) (by omega)] at c23; omega) (by decide))
          refine S_iload_n (q := 41) hX dX12_fits_40 rfl rfl ?_
          refine S_iload_n (q := 42) hX dX12_fits_41 rfl rfl ?_
          refine S_iload (q := 44) hX dX12_fits_42 rfl rfl ?_
          refine S_callS (q := 47) 0 0 hX (c_X12_stateOf _ _ _ r mm kk rfl rfl rfl) rfl u_948 u_949 u_12 u_950 ⟨by decide, by decide, rfl⟩ ⟨Nat.le_of_ble_eq_true rfl, Nat.le_of_ble_eq_true rfl⟩ ⟨Nat.le_of_ble_eq_true rfl, Nat.le_of_ble_eq_true rfl⟩ (Nat.le_of_ble_eq_true rfl) dX12_fits_44 ?hp_3 rfl rfl rfl ?_
          case hp_3 => exact ⟨by rw [nI_leI (by omega) (by omega)] at c23; omega, by omega, hr⟩
          rintro v σ1 sz1 ⟨rfl, rfl, rfl⟩
          refine S_icmp_ne (q := 50) 54 hX dX12_fits_47 rfl rfl (fun c47 => ?_) (fun c47 => ?_)
          · refine S_iconst (q := 55) (v := 0) hX dX12_fits_54 ic_0 rfl ?_
            refine S_istore (q := 57) [_, _, _, _, _, _] hX dX12_fits_55 rfl (Nat.le_of_ble_eq_true rfl) rfl rfl ?_
            refine S_iinc (q := 60) [_, _, _, _, _, _] hX dX12_fits_57 rfl (ii_1 _) rfl (Nat.le_of_ble_eq_true rfl) rfl rfl ?_
            refine S_goto 20 hX dX12_fits_60 rfl ?_
            refine ih (kk + 1) _ _ (bi_f fun z => c47 ?_).symm (nI_1 _) (by rw [nI_leI (by omega) (by omega)] at c23; omega) (by rw [nI_leI (by omega) (by omega)] at c23; omega)
            rw [nI_add, nI_clamp (by omega)]
            exact z.2 kk (Nat.lt_succ_self _)
          · refine S_iconst (q := 51) (v := 1) hX dX12_fits_50 ic_1 rfl ?_
            refine S_goto 55 hX dX12_fits_51 rfl ?_
            refine S_istore (q := 57) [_, _, _, _, _, _] hX dX12_fits_55 rfl (Nat.le_of_ble_eq_true rfl) rfl rfl ?_
            refine S_iinc (q := 60) [_, _, _, _, _, _] hX dX12_fits_57 rfl (ii_1 _) rfl (Nat.le_of_ble_eq_true rfl) rfl rfl ?_
            refine S_goto 20 hX dX12_fits_60 rfl ?_
            refine ih (kk + 1) _ _ (bi_t ⟨c28.1, fun i hi => ?_⟩).symm (nI_1 _) (by rw [nI_leI (by omega) (by omega)] at c23; omega) (by rw [nI_leI (by omega) (by omega)] at c23; omega)
            rcases Nat.lt_succ_iff_lt_or_eq.mp hi with q | q
            · exact c28.2 i q
            · subst q
              rw [nI_add, nI_clamp (by omega)] at c47
              exact c47
  refine S_iload_n (q := 1) hX dX12_fits_0 rfl rfl ?_
  refine S_iload_n (q := 2) hX dX12_fits_1 rfl rfl ?_
  refine S_iadd (q := 3) hX dX12_fits_2 rfl ?_
  refine S_aload_n (q := 4) hX dX12_fits_3 rfl rfl ?_
  refine S_getf (fs := ?fs_4) (v := ?v_4) (q := 7) hX u_794 fo_X12_beats dX12_fits_4 ?hs_4 ?hv_4 rfl ?_
  case hs_4 => with_reducible first | exact MM.c0 hM | exact MM.c1 hM | exact MM.c5 hM | exact MM.c6 hM | exact MM.c7 hM | exact MM.c3 hM | exact MM.c4 hM | exact MM.c8 hM | exact MM.c2 hM
  case hv_4 => rfl
  refine S_icmp_gt (q := 10) 14 hX dX12_fits_7 rfl rfl (fun c7 => ?_) (fun c7 => ?_)
  · refine S_iconst (q := 15) (v := 0) hX dX12_fits_14 ic_0 rfl ?_
    refine S_istore (q := 17) [_, _, _, _, _, _] hX dX12_fits_15 rfl (Nat.le_of_ble_eq_true rfl) rfl rfl ?_
    refine S_iconst (q := 18) (v := 0) hX dX12_fits_17 ic_0 rfl ?_
    refine S_istore (q := 20) [_, _, _, _, _, _] hX dX12_fits_18 rfl (Nat.le_of_ble_eq_true rfl) rfl rfl ?_
    refine loop (mm + 1) 0 _ _ (bi_f fun z => ?_).symm rfl (Nat.zero_le _) (by omega)
    rw [h7, nI_add, nI_ltI (by omega) (by omega)] at c7
    omega
  · refine S_iconst (q := 11) (v := 1) hX dX12_fits_10 ic_1 rfl ?_
    refine S_goto 15 hX dX12_fits_11 rfl ?_
    refine S_istore (q := 17) [_, _, _, _, _, _] hX dX12_fits_15 rfl (Nat.le_of_ble_eq_true rfl) rfl rfl ?_
    refine S_iconst (q := 18) (v := 0) hX dX12_fits_17 ic_0 rfl ?_
    refine S_istore (q := 20) [_, _, _, _, _, _] hX dX12_fits_18 rfl (Nat.le_of_ble_eq_true rfl) rfl rfl ?_
    refine loop (mm + 1) 0 _ _ (bi_t ⟨?_, fun i hi => absurd hi (Nat.not_lt_zero _)⟩).symm rfl (Nat.zero_le _) (by omega)
    rw [h7, nI_add, nI_ltI (by omega) (by omega)] at c7
    omega
theorem c_X12_hasRead (m : Nat) (μ : MF) (x : Int32) (wd : Nat) (L : List Nat) (hx : x = nI wd) : CT_X12_hasRead [.ref m, .int x] (fun Γ σ sz => MM σ m μ ∧ μ 0 8 = nI L.length ∧ L.length ≤ 60 ∧ WL (μ 7) L ∧ wd < 2147483648 ∧ ∀ i, i < L.length → L.getD i 0 < 2147483648) (fun Γ σ sz v σ' sz' => v = some (.int (bi (wd ∈ L))) ∧ σ' = σ ∧ sz' = sz) := by
  refine CT.mkP rfl (Nat.le_of_ble_eq_true rfl) [_, _, _, _] rfl ?_
  intro X Γ σ sz P hX hpre hsz hP
  obtain ⟨hM, h8, hL, hw, hwd, hl10⟩ := hpre
  have hF : Fr m (m + 9) σ σ := Fr.rf
  subst hx
  have loop : ∀ (fu : Nat) (kk : Nat) (xi xk : Int32), xi = bi (wd ∈ L.take kk) → xk = nI kk → kk ≤ L.length → L.length - kk < fu → G X Γ P 0 0 4 [some (.ref m), some (.int (nI wd)), some (.int xi), some (.int xk)] [] σ sz := by
    intro fu
    induction fu with
    | zero =>
      rintro kk _ _ rfl rfl hk hfu
      exact absurd hfu (Nat.not_lt_zero _)
    | succ fu ih =>
      rintro kk _ _ rfl rfl hk hfu
      have hlt : ¬ μ 0 8 ≤ nI kk → kk < L.length := fun z => by rw [h8, nI_leI (by omega) (by omega)] at z; omega
      refine S_iload_n (q := 5) hX dX12_hasRead_4 rfl rfl ?_
      refine S_aload_n (q := 6) hX dX12_hasRead_5 rfl rfl ?_
      refine S_getf (fs := ?fs_1) (v := ?v_1) (q := 9) hX u_797 fo_X12_wordMany dX12_hasRead_6 ?hs_1 ?hv_1 rfl ?_
      case hs_1 => with_reducible first | exact MM.c0 hM | exact MM.c1 hM | exact MM.c5 hM | exact MM.c6 hM | exact MM.c7 hM | exact MM.c3 hM | exact MM.c4 hM | exact MM.c8 hM | exact MM.c2 hM
      case hv_1 => rfl
      refine S_icmp_ge (q := 12) 38 hX dX12_hasRead_9 rfl rfl (fun c9 => ?_) (fun c9 => ?_)
      · refine S_iload_n (q := 39) hX dX12_hasRead_38 rfl rfl ?_
        refine S_xret hX dX12_hasRead_39 (Nat.zero_le _) (Nat.zero_le _) nb_bi ?_
        refine hP _ _ _ ?_
        refine ⟨?_, rfl, rfl⟩
        have : kk = L.length := by rw [h8, nI_leI (by omega) (by omega)] at c9; omega
        rw [this, List.take_length]
      · refine S_iload_n (q := 13) hX dX12_hasRead_12 rfl rfl ?_
        refine S_if_ne_b (q := 16) 26 hX dX12_hasRead_13 rfl rfl (fun c13 => ?_) (fun c13 => ?_)
        · refine S_iconst (q := 27) (v := 1) hX dX12_hasRead_26 ic_1 rfl ?_
          refine S_goto 31 hX dX12_hasRead_27 rfl ?_
          refine S_istore_n (q := 32) [_, _, _, _] hX dX12_hasRead_31 rfl (Nat.le_of_ble_eq_true rfl) rfl rfl ?_
          refine S_iinc (q := 35) [_, _, _, _] hX dX12_hasRead_32 rfl (ii_1 _) rfl (Nat.le_of_ble_eq_true rfl) rfl rfl ?_
          refine S_goto 4 hX dX12_hasRead_35 rfl ?_
          exact ih (kk + 1) _ _ ((bi_t ((mem_take_succ (hlt c9)).mpr (Or.inl c13))).symm) (nI_1 _) (hlt c9) (by have := hlt c9; omega)
        · refine S_aload_n (q := 17) hX dX12_hasRead_16 rfl rfl ?_
          refine S_getf (fs := ?fs_2) (v := ?v_2) (q := 20) hX u_796 fo_X12_words dX12_hasRead_17 ?hs_2 ?hv_2 rfl ?_
          case hs_2 => with_reducible first | exact MM.c0 hM | exact MM.c1 hM | exact MM.c5 hM | exact MM.c6 hM | exact MM.c7 hM | exact MM.c3 hM | exact MM.c4 hM | exact MM.c8 hM | exact MM.c2 hM
          case hv_2 => rfl
          refine S_iload_n (q := 21) hX dX12_hasRead_20 rfl rfl ?_
          refine S_iald (N := ?n_3) (f := ?f_3) (q := 22) hX dX12_hasRead_21 ?hs_3 ?hi_3 rfl ?_
          case hs_3 => with_reducible first | exact MM.c0 hM | exact MM.c1 hM | exact MM.c5 hM | exact MM.c6 hM | exact MM.c7 hM | exact MM.c3 hM | exact MM.c4 hM | exact MM.c8 hM | exact MM.c2 hM
          case hi_3 => exact vp_in_nI (by have := hlt c9; omega) (by decide)
          refine S_iload_n (q := 23) hX dX12_hasRead_22 rfl rfl ?_
          refine S_icmp_ne (q := 26) 30 hX dX12_hasRead_23 rfl rfl (fun c23 => ?_) (fun c23 => ?_)
          · refine S_iconst (q := 31) (v := 0) hX dX12_hasRead_30 ic_0 rfl ?_
            refine S_istore_n (q := 32) [_, _, _, _] hX dX12_hasRead_31 rfl (Nat.le_of_ble_eq_true rfl) rfl rfl ?_
            refine S_iinc (q := 35) [_, _, _, _] hX dX12_hasRead_32 rfl (ii_1 _) rfl (Nat.le_of_ble_eq_true rfl) rfl rfl ?_
            refine S_goto 4 hX dX12_hasRead_35 rfl ?_
            refine ih (kk + 1) _ _ ((bi_f fun z => ?_).symm) (nI_1 _) (hlt c9) (by have := hlt c9; omega)
            rcases (mem_take_succ (hlt c9)).mp z with q | q
            · exact c13 q
            · exact c23 (by rw [nI_clamp (by omega), hw kk (hlt c9), q])
          · refine S_iconst (q := 27) (v := 1) hX dX12_hasRead_26 ic_1 rfl ?_
            refine S_goto 31 hX dX12_hasRead_27 rfl ?_
            refine S_istore_n (q := 32) [_, _, _, _] hX dX12_hasRead_31 rfl (Nat.le_of_ble_eq_true rfl) rfl rfl ?_
            refine S_iinc (q := 35) [_, _, _, _] hX dX12_hasRead_32 rfl (ii_1 _) rfl (Nat.le_of_ble_eq_true rfl) rfl rfl ?_
            refine S_goto 4 hX dX12_hasRead_35 rfl ?_
            refine ih (kk + 1) _ _ ((bi_t ((mem_take_succ (hlt c9)).mpr (Or.inr ?_))).symm) (nI_1 _) (hlt c9) (by have := hlt c9; omega)
            rw [nI_clamp (by omega), hw kk (hlt c9)] at c23
            exact nI_inj (hl10 kk (hlt c9)) hwd c23
  refine S_iconst (q := 1) (v := 0) hX dX12_hasRead_0 ic_0 rfl ?_
  refine S_istore_n (q := 2) [_, _, _, _] hX dX12_hasRead_1 rfl (Nat.le_of_ble_eq_true rfl) rfl rfl ?_
  refine S_iconst (q := 3) (v := 0) hX dX12_hasRead_2 ic_0 rfl ?_
  refine S_istore_n (q := 4) [_, _, _, _] hX dX12_hasRead_3 rfl (Nat.le_of_ble_eq_true rfl) rfl rfl ?_
  exact loop (L.length + 1) 0 _ _ (bi_f (by simp)).symm rfl (Nat.zero_le _) (by omega)
theorem c_X12_make (m : Nat) (μ : MF) (x : Int32) (r : Nat) (hx : x = nI r) : CT_X12_make [.ref m, .int x] (fun Γ σ sz => MM σ m μ ∧ r < 2147483648) (fun Γ σ sz v σ' sz' => ∃ μ', MM σ' m μ' ∧ Fr m (m + 9) σ σ' ∧ v = none ∧ (∃ g, μ' = m1 (m2 μ 0 7 (nI (ln r))) 5 g ∧ ∀ i, i < ln r → g i = nI (stN r (ln r) i)) ∧ sz' = sz) := by
  refine CT.mkP rfl (Nat.le_of_ble_eq_true rfl) [_, _, _] rfl ?_
  intro X Γ σ sz P hX hpre hsz hP
  obtain ⟨hM, hr⟩ := hpre
  have hF : Fr m (m + 9) σ σ := Fr.rf
  subst hx
  obtain ⟨σ0, eσ0⟩ : ∃ z, z = σ := ⟨σ, rfl⟩
  rw [← eσ0] at hP
  have hF : Fr m (m + 9) σ0 σ := by rw [eσ0]; exact Fr.rf
  have hl6 := ln_6 r
  have loop : ∀ (fu : Nat) (kk : Nat) (σ : Sg) (μ1 : MF) (g : Nat → Int32) (xk : Int32), xk = nI kk → kk ≤ ln r → ln r - kk < fu → μ1 = m1 (m2 μ 0 7 (nI (ln r))) 5 g → (∀ i, i < kk → g i = nI (stN r (ln r) i)) → MM σ m μ1 → Fr m (m + 9) σ0 σ → G X Γ P 0 0 29 [some (.ref m), some (.int (nI r)), some (.int xk)] [] σ sz := by
    intro fu
    induction fu with
    | zero =>
      rintro kk σ μ1 g _ rfl hk hfu eμ hg hM hF
      exact absurd hfu (Nat.not_lt_zero _)
    | succ fu ih =>
      rintro kk σ μ1 g _ rfl hk hfu eμ hg hM hF
      have h7 : μ1 0 7 = nI (ln r) := by rw [eμ, m1_ne (by decide), m2_at, if_pos ⟨rfl, rfl⟩]
      refine S_iload_n (q := 30) hX dX12_make_29 rfl rfl ?_
      refine S_aload_n (q := 31) hX dX12_make_30 rfl rfl ?_
      refine S_getf (fs := ?fs_1) (v := ?v_1) (q := 34) hX u_794 fo_X12_beats dX12_make_31 ?hs_1 ?hv_1 rfl ?_
      case hs_1 => with_reducible first | exact MM.c0 hM | exact MM.c1 hM | exact MM.c5 hM | exact MM.c6 hM | exact MM.c7 hM | exact MM.c3 hM | exact MM.c4 hM | exact MM.c8 hM | exact MM.c2 hM
      case hv_1 => rfl
      refine S_icmp_ge (q := 37) 58 hX dX12_make_34 rfl rfl (fun c34 => ?_) (fun c34 => ?_)
      · refine S_vret hX dX12_make_58 (Nat.zero_le _) (Nat.zero_le _) ?_
        refine hP _ _ _ ?_
        have : kk = ln r := by rw [h7, nI_leI (by omega) (by omega)] at c34; omega
        subst this
        exact ⟨_, hM, hF, rfl, ⟨g, eμ, hg⟩, rfl⟩
      · have hlt : kk < ln r := by rw [h7, nI_leI (by omega) (by omega)] at c34; omega
        refine S_aload_n (q := 38) hX dX12_make_37 rfl rfl ?_
        refine S_getf (fs := ?fs_2) (v := ?v_2) (q := 41) hX u_793 fo_X12_made dX12_make_38 ?hs_2 ?hv_2 rfl ?_
        case hs_2 => with_reducible first | exact MM.c0 hM | exact MM.c1 hM | exact MM.c5 hM | exact MM.c6 hM | exact MM.c7 hM | exact MM.c3 hM | exact MM.c4 hM | exact MM.c8 hM | exact MM.c2 hM
        case hv_2 => rfl
        refine S_iload_n (q := 42) hX dX12_make_41 rfl rfl ?_
        refine S_iload_n (q := 43) hX dX12_make_42 rfl rfl ?_
        refine S_aload_n (q := 44) hX dX12_make_43 rfl rfl ?_
        refine S_getf (fs := ?fs_3) (v := ?v_3) (q := 47) hX u_794 fo_X12_beats dX12_make_44 ?hs_3 ?hv_3 rfl ?_
        case hs_3 => with_reducible first | exact MM.c0 hM | exact MM.c1 hM | exact MM.c5 hM | exact MM.c6 hM | exact MM.c7 hM | exact MM.c3 hM | exact MM.c4 hM | exact MM.c8 hM | exact MM.c2 hM
        case hv_3 => rfl
        refine S_iload_n (q := 48) hX dX12_make_47 rfl rfl ?_
        refine S_callS (q := 51) 0 0 hX (c_X12_stateOf _ _ _ r (ln r) kk rfl h7 rfl) rfl u_948 u_949 u_12 u_950 ⟨by decide, by decide, rfl⟩ ⟨Nat.le_of_ble_eq_true rfl, Nat.le_of_ble_eq_true rfl⟩ ⟨Nat.le_of_ble_eq_true rfl, Nat.le_of_ble_eq_true rfl⟩ (Nat.le_of_ble_eq_true rfl) dX12_make_48 ?hp_4 rfl rfl rfl ?_
        case hp_4 => exact ⟨hlt, by omega, hr⟩
        rintro v σ1 sz1 ⟨rfl, rfl, rfl⟩
        refine S_nm (fun x51 hx51 => ?_)
        refine S_iast (N := ?n_5) (f := ?f_5) (q := 52) hX dX12_make_51 ?hs_5 ?hi_5 rfl ?_
        case hs_5 => with_reducible first | exact MM.c0 hM | exact MM.c1 hM | exact MM.c5 hM | exact MM.c6 hM | exact MM.c7 hM | exact MM.c3 hM | exact MM.c4 hM | exact MM.c8 hM | exact MM.c2 hM
        case hi_5 => exact vp_in_nI (by omega) (by decide)
        refine S_stu (q0 := m) (j := 5) (i := _) hM hF (by decide) rfl (fun σ μ51 e51 hM hF => ?_)
        subst hx51
        refine S_iinc (q := 55) [_, _, _] hX dX12_make_52 rfl (ii_1 _) rfl (Nat.le_of_ble_eq_true rfl) rfl rfl ?_
        refine S_goto 29 hX dX12_make_55 rfl ?_
        have e5 : μ1 5 = g := by rw [eμ, m1_eq]
        rw [nI_clamp (by omega)] at e51
        have e52 : μ51 = m1 (m2 μ 0 7 (nI (ln r))) 5 (upd g kk (nI (stN r (ln r) kk))) := by
          rw [e51]
          funext a b
          rw [m2_at, eμ]
          unfold m1
          by_cases ha : a = 5
          · subst ha
            simp only [if_true, true_and]
            unfold upd
            rfl
          · simp only [ha, if_false, false_and]
        refine ih (kk + 1) σ μ51 _ _ (nI_1 _) hlt (by omega) e52 (fun i hi => ?_) hM hF
        rcases Nat.lt_succ_iff_lt_or_eq.mp hi with q | q
        · rw [upd_ne (by omega)]; exact hg i q
        · subst q; rw [upd_eq]
  refine S_aload_n (q := 1) hX dX12_make_0 rfl rfl ?_
  refine S_iload_n (q := 2) hX dX12_make_1 rfl rfl ?_
  refine S_callS (q := 5) 0 0 hX (c_X12_lengthOf _) rfl u_861 u_862 u_12 u_863 ⟨by decide, by decide, rfl⟩ ⟨Nat.le_of_ble_eq_true rfl, Nat.le_of_ble_eq_true rfl⟩ ⟨Nat.le_of_ble_eq_true rfl, Nat.le_of_ble_eq_true rfl⟩ (Nat.le_of_ble_eq_true rfl) dX12_make_2 ?hp_6 rfl rfl rfl ?_
  case hp_6 => trivial
  rintro v σ1 sz1 ⟨rfl, rfl, rfl⟩
  rw [lnZ_nI hr]
  refine S_nm (fun x5 hx5 => ?_)
  refine S_putf (fs := ?fs_7) (q := 8) hX u_794 fo_X12_beats rfl rfl ?hl_7 dX12_make_5 ?hs_7 rfl ?_
  case hs_7 => with_reducible first | exact MM.c0 hM | exact MM.c1 hM | exact MM.c5 hM | exact MM.c6 hM | exact MM.c7 hM | exact MM.c3 hM | exact MM.c4 hM | exact MM.c8 hM | exact MM.c2 hM
  case hl_7 => exact Nat.le_of_ble_eq_true rfl
  refine S_stu (q0 := m) (j := 0) (i := 7) hM hF (by decide) rfl (fun σ μ5 e5 hM hF => ?_)
  subst hx5
  refine S_aload_n (q := 9) hX dX12_make_8 rfl rfl ?_
  refine S_aload_n (q := 10) hX dX12_make_9 rfl rfl ?_
  refine S_getf (fs := ?fs_8) (v := ?v_8) (q := 13) hX u_794 fo_X12_beats dX12_make_10 ?hs_8 ?hv_8 rfl ?_
  case hs_8 => with_reducible first | exact MM.c0 hM | exact MM.c1 hM | exact MM.c5 hM | exact MM.c6 hM | exact MM.c7 hM | exact MM.c3 hM | exact MM.c4 hM | exact MM.c8 hM | exact MM.c2 hM
  case hv_8 => rfl
  refine S_if_ge (q := 16) 20 hX dX12_make_13 rfl rfl (fun c13 => ?_) (fun c13 => ?_)
  · have hz : ¬ ln r = 0 := fun z => by
      rw [e5, m2_at, if_pos ⟨rfl, rfl⟩, if_pos z] at c13
      exact absurd c13 (by decide)
    have e5 : μ5 = m2 μ 0 7 (nI (ln r)) := by rw [e5, if_neg hz]
    refine S_aload_n (q := 21) hX dX12_make_20 rfl rfl ?_
    refine S_getf (fs := ?fs_9) (v := ?v_9) (q := 24) hX u_794 fo_X12_beats dX12_make_21 ?hs_9 ?hv_9 rfl ?_
    case hs_9 => with_reducible first | exact MM.c0 hM | exact MM.c1 hM | exact MM.c5 hM | exact MM.c6 hM | exact MM.c7 hM | exact MM.c3 hM | exact MM.c4 hM | exact MM.c8 hM | exact MM.c2 hM
    case hv_9 => rfl
    refine S_nm (fun x24 hx24 => ?_)
    refine S_putf (fs := ?fs_10) (q := 27) hX u_794 fo_X12_beats rfl rfl ?hl_10 dX12_make_24 ?hs_10 rfl ?_
    case hs_10 => with_reducible first | exact MM.c0 hM | exact MM.c1 hM | exact MM.c5 hM | exact MM.c6 hM | exact MM.c7 hM | exact MM.c3 hM | exact MM.c4 hM | exact MM.c8 hM | exact MM.c2 hM
    case hl_10 => exact Nat.le_of_ble_eq_true rfl
    refine S_stu (q0 := m) (j := 0) (i := 7) hM hF (by decide) rfl (fun σ μ24 e24 hM hF => ?_)
    subst hx24
    refine S_iconst (q := 28) (v := 0) hX dX12_make_27 ic_0 rfl ?_
    refine S_istore_n (q := 29) [_, _, _] hX dX12_make_28 rfl (Nat.le_of_ble_eq_true rfl) rfl rfl ?_
    have e2 : μ24 = m1 (m2 μ 0 7 (nI (ln r))) 5 (μ 5) := by
      rw [e24, e5, m2_m2]
      first
        | (rw [show (0 : Int32) = nI (ln r) by rw [hz]; rfl]; exact (m1_id _ 5 (m1_ne (by decide))).symm)
        | (rw [m2_at, if_pos ⟨rfl, rfl⟩]; exact (m1_id _ 5 (m1_ne (by decide))).symm)
    exact loop (ln r + 1) 0 σ μ24 _ _ rfl (Nat.zero_le _) (by omega) e2 (fun i hi => absurd hi (Nat.not_lt_zero _)) hM hF
  · have hz : ln r = 0 := by
      rcases Nat.eq_zero_or_pos (ln r) with q | q
      · exact q
      · exfalso
        rw [e5, m2_at, if_pos ⟨rfl, rfl⟩, if_neg (by omega)] at c13
        exact c13 (by rw [le_i, toI0, nI_toInt (by omega)]; omega)
    refine S_iconst (q := 17) (v := 0) hX dX12_make_16 ic_0 rfl ?_
    refine S_goto 24 hX dX12_make_17 rfl ?_
    refine S_nm (fun x24 hx24 => ?_)
    refine S_putf (fs := ?fs_11) (q := 27) hX u_794 fo_X12_beats rfl rfl ?hl_11 dX12_make_24 ?hs_11 rfl ?_
    case hs_11 => with_reducible first | exact MM.c0 hM | exact MM.c1 hM | exact MM.c5 hM | exact MM.c6 hM | exact MM.c7 hM | exact MM.c3 hM | exact MM.c4 hM | exact MM.c8 hM | exact MM.c2 hM
    case hl_11 => exact Nat.le_of_ble_eq_true rfl
    refine S_stu (q0 := m) (j := 0) (i := 7) hM hF (by decide) rfl (fun σ μ24 e24 hM hF => ?_)
    subst hx24
    refine S_iconst (q := 28) (v := 0) hX dX12_make_27 ic_0 rfl ?_
    refine S_istore_n (q := 29) [_, _, _] hX dX12_make_28 rfl (Nat.le_of_ble_eq_true rfl) rfl rfl ?_
    have e2 : μ24 = m1 (m2 μ 0 7 (nI (ln r))) 5 (μ 5) := by
      rw [e24, e5, m2_m2]
      first
        | (rw [show (0 : Int32) = nI (ln r) by rw [hz]; rfl]; exact (m1_id _ 5 (m1_ne (by decide))).symm)
        | (rw [m2_at, if_pos ⟨rfl, rfl⟩]; exact (m1_id _ 5 (m1_ne (by decide))).symm)
    exact loop (ln r + 1) 0 σ μ24 _ _ rfl (Nat.zero_le _) (by omega) e2 (fun i hi => absurd hi (Nat.not_lt_zero _)) hM hF
theorem c_X12_readBy (m : Nat) (μ : MF) (x y z : Int32) (kd c d n b0 : Nat) (mk : Nat → Nat) (C : CodT) (hx : x = nI kd) (hy : y = nI c) (hz : z = nI d) : CT_X12_readBy [.ref m, .int x, .int y, .int z] (fun Γ σ sz => MM σ m μ ∧ kd < 5 ∧ d < 64 ∧ n ≤ 60 ∧ μ 0 0 = nI b0 ∧ b0 + (36 + 17 * c + 17) < 1812 ∧ μ 0 7 = nI n ∧ (∀ i, i < n → μ 5 i = nI (mk i) ∧ mk i < 12) ∧ MCode (μ 1) b0 c C ∧ CodOk C) (fun Γ σ sz v σ' sz' => ∃ μ', MM σ' m μ' ∧ Fr m (m + 9) σ σ' ∧ v = none ∧ (∃ vf wf, μ' = m2 (m1 (m1 μ 6 vf) 7 wf) 0 8 (nI (rdK kd (fun b => drw d (mk b) b) n C).length) ∧ WL wf (rdK kd (fun b => drw d (mk b) b) n C)) ∧ sz' = sz) := by
  refine CT.mkP rfl (Nat.le_of_ble_eq_true rfl) [_, _, _, _, _, _, _, _, _, _] rfl ?_
  intro X Γ σ sz P hX hpre hsz hP
  obtain ⟨hM, hkd, hd, hn, h0, hb0, h7, hmk, hC, hok⟩ := hpre
  have hF : Fr m (m + 9) σ σ := Fr.rf
  subst hx
  subst hy
  subst hz
  obtain ⟨σ0, eσ0⟩ : ∃ z, z = σ := ⟨σ, rfl⟩
  rw [← eσ0] at hP
  have hF : Fr m (m + 9) σ0 σ := by rw [eσ0]; exact Fr.rf
  obtain ⟨LL, eLL⟩ : ∃ z, z = rdK kd (fun b => drw d (mk b) b) n C := ⟨_, rfl⟩
  have kk1 : nI kd = 1 ↔ kd = 1 := nI_eq (by omega) (by decide)
  have kk3 : nI kd = 3 ↔ kd = 3 := nI_eq (by omega) (by decide)
  rw [← eLL] at hP
  have outer : ∀ (fu : Nat) (b : Nat) (dn : List Nat) (σ : Sg) (vf wf : Nat → Int32) (μc : MF) (xs xb : Int32), xs = bi (srt kd = true) → xb = nI b → μc = m2 (m1 (m1 μ 6 vf) 7 wf) 0 8 (nI dn.length) → b ≤ n → n - b < fu → dn.length ≤ b → dn ++ rdL (srt kd) vf n C fu b = LL → (∀ i, i < n → vf i = (fun b => vw kd (drw d (mk b) b) b) i) → WL wf dn → MM σ m μc → Fr m (m + 9) σ0 σ → G X Γ P 0 0 97 [some (.ref m), some (.int (nI kd)), some (.int (nI c)), some (.int (nI d)), some (.int xs), some (.int xb), none, none, none, none] [] σ sz := by
    intro fu
    induction fu with
    | zero =>
      rintro b dn σ vf wf μc _ _ rfl rfl eμ hbn0 hfu hdn hL hvf hwf hM hF
      exact absurd hfu (Nat.not_lt_zero _)
    | succ fu ih =>
      rintro b dn σ vf wf μc _ _ rfl rfl eμ hbn0 hfu hdn hL hvf hwf hM hF
      have hc0 : μc 0 0 = nI b0 := by rw [eμ, m2_at, if_neg (by decide)]; exact h0
      have hc7 : μc 0 7 = nI n := by rw [eμ, m2_at, if_neg (by decide)]; exact h7
      have hc8 : μc 0 8 = nI dn.length := by rw [eμ, m2_at, if_pos ⟨rfl, rfl⟩]
      have hc1 : μc 1 = μ 1 := by rw [eμ]; rfl
      have hc6 : μc 6 = vf := by rw [eμ]; rfl
      have hcw : μc 7 = wf := by rw [eμ]; rfl
      have hcc : MCode (μc 1) b0 c C := by rw [hc1]; exact hC
      have iho := ih
      have inner : ∀ (fu : Nat) (e : Nat) (xbest xword xe : Int32), b < n → xe = nI e → xbest = nI (chI (srt kd) vf n b C.2 e).1 → (0 < (chI (srt kd) vf n b C.2 e).1 → xword = nI (chI (srt kd) vf n b C.2 e).2) → e ≤ C.1 → C.1 - e < fu → G X Γ P 0 0 115 [some (.ref m), some (.int (nI kd)), some (.int (nI c)), some (.int (nI d)), some (.int (bi (srt kd = true))), some (.int (nI b)), some (.int xbest), some (.int xword), some (.int xe), none] [] σ sz := by
        intro fu
        induction fu with
        | zero =>
          rintro e _ xword _ hbn rfl rfl hw he hfu2
          exact absurd hfu2 (Nat.not_lt_zero _)
        | succ fu ih =>
          rintro e _ xword _ hbn rfl rfl hw he hfu2
          have hB := chI_le (sh := srt kd) (v := vf) (n := n) (b := b) hok e he
          have hB3 := hB.1
          refine S_iload (q := 117) hX dX12_readBy_115 rfl rfl ?_
          refine S_aload_n (q := 118) hX dX12_readBy_117 rfl rfl ?_
          refine S_iload_n (q := 119) hX dX12_readBy_118 rfl rfl ?_
          refine S_callV (ci := 12) (C := "FanTalkModel") (T := TX12) (N := 17) (q := 122) 0 0 hX (c_X12_entriesOf _ μc _ b0 c rfl) rfl ?hs_1 rfl u_872 u_874 us_32 u_12 u_875 ⟨by decide, by decide, rfl⟩ ⟨Nat.le_of_ble_eq_true rfl, Nat.le_of_ble_eq_true rfl⟩ ⟨Nat.le_of_ble_eq_true rfl, Nat.le_of_ble_eq_true rfl⟩ (Nat.le_of_ble_eq_true rfl) dX12_readBy_119 ?hp_1 rfl rfl rfl ?_
          case hs_1 => first | with_reducible assumption | exact ⟨_, by with_reducible assumption⟩ | exact MM.isO hM
          case hp_1 => exact ⟨hM, hc0, by omega⟩
          rintro v σ1 sz1 ⟨rfl, rfl, rfl⟩
          rw [hcc.1]
          refine S_icmp_ge (q := 125) 201 hX dX12_readBy_122 rfl rfl (fun c122 => ?_) (fun c122 => ?_)
          · have he2 : e = C.1 := by rw [nI_leI (by have := hok.1; omega) (by have := hok.1; omega)] at c122; omega
            subst he2
            refine S_iload (q := 203) hX dX12_readBy_201 rfl rfl ?_
            refine S_if_le (q := 206) 227 hX dX12_readBy_203 rfl rfl (fun c203 => ?_) (fun c203 => ?_)
            · refine S_iload (q := 229) hX dX12_readBy_227 rfl rfl ?_
              refine S_iload (q := 231) hX dX12_readBy_229 rfl rfl ?_
              refine S_if_le (q := 234) 239 hX dX12_readBy_231 rfl rfl (fun c231 => ?_) (fun c231 => ?_)
              · refine S_iconst (q := 240) (v := 1) hX dX12_readBy_239 ic_1 rfl ?_
                refine S_iadd (q := 241) hX dX12_readBy_240 rfl ?_
                refine S_istore (q := 243) [_, _, _, _, _, _, _, _, _, _] hX dX12_readBy_241 rfl (Nat.le_of_ble_eq_true rfl) rfl rfl ?_
                refine S_goto 97 hX dX12_readBy_243 rfl ?_
                refine S_wk [true, true, true, true, true, true, false, false, false, false] ?_
                have hz : ¬ 0 < (chI (srt kd) vf n b C.2 C.1).1 := fun z => by rw [le_i, toI0, nI_toInt (by omega)] at c203; omega
                rw [rdL, if_pos hbn, if_neg hz] at hL
                exact iho (b + 1) dn σ1 vf wf _ _ _ rfl (nI_1 _) eμ (by omega) (by omega) (by omega) hL hvf hwf hM hF
              · refine S_iload (q := 236) hX dX12_readBy_234 rfl rfl ?_
                refine S_goto 240 hX dX12_readBy_236 rfl ?_
                refine S_iadd (q := 241) hX dX12_readBy_240 rfl ?_
                refine S_istore (q := 243) [_, _, _, _, _, _, _, _, _, _] hX dX12_readBy_241 rfl (Nat.le_of_ble_eq_true rfl) rfl rfl ?_
                refine S_goto 97 hX dX12_readBy_243 rfl ?_
                exact absurd c203 c231
            · refine S_aload_n (q := 207) hX dX12_readBy_206 rfl rfl ?_
              refine S_getf (fs := ?fs_2) (v := ?v_2) (q := 210) hX u_796 fo_X12_words dX12_readBy_207 ?hs_2 ?hv_2 rfl ?_
              case hs_2 => with_reducible first | exact MM.c0 hM | exact MM.c1 hM | exact MM.c5 hM | exact MM.c6 hM | exact MM.c7 hM | exact MM.c3 hM | exact MM.c4 hM | exact MM.c8 hM | exact MM.c2 hM
              case hv_2 => rfl
              refine S_aload_n (q := 211) hX dX12_readBy_210 rfl rfl ?_
              refine S_getf (fs := ?fs_3) (v := ?v_3) (q := 214) hX u_797 fo_X12_wordMany dX12_readBy_211 ?hs_3 ?hv_3 rfl ?_
              case hs_3 => with_reducible first | exact MM.c0 hM | exact MM.c1 hM | exact MM.c5 hM | exact MM.c6 hM | exact MM.c7 hM | exact MM.c3 hM | exact MM.c4 hM | exact MM.c8 hM | exact MM.c2 hM
              case hv_3 => rfl
              refine S_iload (q := 216) hX dX12_readBy_214 rfl rfl ?_
              refine S_nm (fun x216 hx216 => ?_)
              refine S_iast (N := ?n_4) (f := ?f_4) (q := 217) hX dX12_readBy_216 ?hs_4 ?hi_4 rfl ?_
              case hs_4 => with_reducible first | exact MM.c0 hM | exact MM.c1 hM | exact MM.c5 hM | exact MM.c6 hM | exact MM.c7 hM | exact MM.c3 hM | exact MM.c4 hM | exact MM.c8 hM | exact MM.c2 hM
              case hi_4 => rw [hc8]; exact vp_in_nI (by omega) (by decide)
              refine S_stu (q0 := m) (j := 7) (i := _) hM hF (by decide) rfl (fun σ μ216 e216 hM hF => ?_)
              subst hx216
              refine S_aload_n (q := 218) hX dX12_readBy_217 rfl rfl ?_
              refine S_dup (q := 219) hX dX12_readBy_218 rfl rfl ?_
              refine S_getf (fs := ?fs_5) (v := ?v_5) (q := 222) hX u_797 fo_X12_wordMany dX12_readBy_219 ?hs_5 ?hv_5 rfl ?_
              case hs_5 => with_reducible first | exact MM.c0 hM | exact MM.c1 hM | exact MM.c5 hM | exact MM.c6 hM | exact MM.c7 hM | exact MM.c3 hM | exact MM.c4 hM | exact MM.c8 hM | exact MM.c2 hM
              case hv_5 => rfl
              refine S_iconst (q := 223) (v := 1) hX dX12_readBy_222 ic_1 rfl ?_
              refine S_iadd (q := 224) hX dX12_readBy_223 rfl ?_
              refine S_nm (fun x224 hx224 => ?_)
              refine S_putf (fs := ?fs_6) (q := 227) hX u_797 fo_X12_wordMany rfl rfl ?hl_6 dX12_readBy_224 ?hs_6 rfl ?_
              case hs_6 => with_reducible first | exact MM.c0 hM | exact MM.c1 hM | exact MM.c5 hM | exact MM.c6 hM | exact MM.c7 hM | exact MM.c3 hM | exact MM.c4 hM | exact MM.c8 hM | exact MM.c2 hM
              case hl_6 => exact Nat.le_of_ble_eq_true rfl
              refine S_stu (q0 := m) (j := 0) (i := 8) hM hF (by decide) rfl (fun σ μ224 e224 hM hF => ?_)
              subst hx224
              refine S_iload (q := 229) hX dX12_readBy_227 rfl rfl ?_
              refine S_iload (q := 231) hX dX12_readBy_229 rfl rfl ?_
              refine S_if_le (q := 234) 239 hX dX12_readBy_231 rfl rfl (fun c231 => ?_) (fun c231 => ?_)
              · refine S_iconst (q := 240) (v := 1) hX dX12_readBy_239 ic_1 rfl ?_
                refine S_iadd (q := 241) hX dX12_readBy_240 rfl ?_
                refine S_istore (q := 243) [_, _, _, _, _, _, _, _, _, _] hX dX12_readBy_241 rfl (Nat.le_of_ble_eq_true rfl) rfl rfl ?_
                refine S_goto 97 hX dX12_readBy_243 rfl ?_
                exact absurd c231 c203
              · refine S_iload (q := 236) hX dX12_readBy_234 rfl rfl ?_
                refine S_goto 240 hX dX12_readBy_236 rfl ?_
                refine S_iadd (q := 241) hX dX12_readBy_240 rfl ?_
                refine S_istore (q := 243) [_, _, _, _, _, _, _, _, _, _] hX dX12_readBy_241 rfl (Nat.le_of_ble_eq_true rfl) rfl rfl ?_
                refine S_goto 97 hX dX12_readBy_243 rfl ?_
                refine S_wk [true, true, true, true, true, true, false, false, false, false] ?_
                have hz : 0 < (chI (srt kd) vf n b C.2 C.1).1 := Nat.pos_of_ne_zero fun z => by rw [z] at c203; exact c203 (by decide)
                rw [rdL, if_pos hbn, if_pos hz] at hL
                have hbb := (chI_le (sh := srt kd) (v := vf) (n := n) (b := b) hok C.1 (Nat.le_refl _)).2.1
                have hw2 := hw hz
                subst hw2
                rw [hc8, nI_clamp (by omega)] at e216
                have e3 : μ224 = m2 (m1 (m1 μ 6 vf) 7 (upd wf dn.length (nI (chI (srt kd) vf n b C.2 C.1).2))) 0 8 (nI (dn ++ [(chI (srt kd) vf n b C.2 C.1).2]).length) := by
                  have e5 : μ216 0 8 = nI dn.length := by rw [e216, m2_at, if_neg (fun z => absurd z.1 (by decide))]; exact hc8
                  rw [e224, e5, i1, nI_add, List.length_append, List.length_singleton, e216, eμ]
                  funext p q
                  simp only [m2_at, m1]
                  by_cases hp : p = 7
                  · subst hp
                    simp [upd]
                  · simp [hp]
                    by_cases hp0 : p = 0 ∧ q = 8
                    · simp [hp0]
                    · simp [hp0]
                rw [nI_add]
                exact iho (b + (chI (srt kd) vf n b C.2 C.1).1) _ σ vf _ _ _ _ rfl rfl e3 (by omega) (by omega) (by rw [List.length_append, List.length_singleton]; omega) (by rw [List.append_assoc]; exact hL) hvf hwf.snoc hM hF
          · have hlt : e < C.1 := by rw [nI_leI (by have := hok.1; omega) (by have := hok.1; omega)] at c122; omega
            have hoe := hok.2 e hlt
            refine S_aload_n (q := 126) hX dX12_readBy_125 rfl rfl ?_
            refine S_iload_n (q := 127) hX dX12_readBy_126 rfl rfl ?_
            refine S_iload (q := 129) hX dX12_readBy_127 rfl rfl ?_
            refine S_callV (ci := 12) (C := "FanTalkModel") (T := TX12) (N := 17) (q := 132) 0 0 hX (c_X12_rowOf _ μc _ _ b0 c e rfl rfl) rfl ?hs_7 rfl u_876 u_878 us_33 u_12 u_879 ⟨by decide, by decide, rfl⟩ ⟨Nat.le_of_ble_eq_true rfl, Nat.le_of_ble_eq_true rfl⟩ ⟨Nat.le_of_ble_eq_true rfl, Nat.le_of_ble_eq_true rfl⟩ (Nat.le_of_ble_eq_true rfl) dX12_readBy_129 ?hp_7 rfl rfl rfl ?_
            case hs_7 => first | with_reducible assumption | exact ⟨_, by with_reducible assumption⟩ | exact MM.isO hM
            case hp_7 => exact ⟨hM, hc0, by have := hok.1; omega⟩
            rintro v σ1 sz1 ⟨rfl, rfl, rfl⟩
            rw [(hcc.2 e hlt).1]
            refine S_callS (q := 135) 0 0 hX (c_X12_lengthOf _) rfl u_861 u_862 u_12 u_863 ⟨by decide, by decide, rfl⟩ ⟨Nat.le_of_ble_eq_true rfl, Nat.le_of_ble_eq_true rfl⟩ ⟨Nat.le_of_ble_eq_true rfl, Nat.le_of_ble_eq_true rfl⟩ (Nat.le_of_ble_eq_true rfl) dX12_readBy_132 ?hp_8 rfl rfl rfl ?_
            case hp_8 => trivial
            rintro v σ1 sz1 ⟨rfl, rfl, rfl⟩
            rw [lnZ_nI hoe.2.2.1, if_neg (by omega)]
            refine S_istore (q := 137) [_, _, _, _, _, _, _, _, _, _] hX dX12_readBy_135 rfl (Nat.le_of_ble_eq_true rfl) rfl rfl ?_
            refine S_aload_n (q := 138) hX dX12_readBy_137 rfl rfl ?_
            refine S_aload_n (q := 139) hX dX12_readBy_138 rfl rfl ?_
            refine S_iload_n (q := 140) hX dX12_readBy_139 rfl rfl ?_
            refine S_iload (q := 142) hX dX12_readBy_140 rfl rfl ?_
            refine S_callV (ci := 12) (C := "FanTalkModel") (T := TX12) (N := 17) (q := 145) 0 0 hX (c_X12_rowOf _ μc _ _ b0 c e rfl rfl) rfl ?hs_9 rfl u_876 u_878 us_33 u_12 u_879 ⟨by decide, by decide, rfl⟩ ⟨Nat.le_of_ble_eq_true rfl, Nat.le_of_ble_eq_true rfl⟩ ⟨Nat.le_of_ble_eq_true rfl, Nat.le_of_ble_eq_true rfl⟩ (Nat.le_of_ble_eq_true rfl) dX12_readBy_142 ?hp_9 rfl rfl rfl ?_
            case hs_9 => first | with_reducible assumption | exact ⟨_, by with_reducible assumption⟩ | exact MM.isO hM
            case hp_9 => exact ⟨hM, hc0, by have := hok.1; omega⟩
            rintro v σ1 sz1 ⟨rfl, rfl, rfl⟩
            rw [(hcc.2 e hlt).1]
            refine S_iload (q := 147) hX dX12_readBy_145 rfl rfl ?_
            refine S_iload (q := 149) hX dX12_readBy_147 rfl rfl ?_
            refine S_callV (ci := 12) (C := "FanTalkModel") (T := TX12) (N := 17) (q := 152) 0 0 hX (c_X12_fits _ μc _ _ _ (C.2 e).1 (ln (C.2 e).1) b n rfl rfl rfl) rfl ?hs_10 rfl u_983 u_985 us_47 u_12 u_986 ⟨by decide, by decide, rfl⟩ ⟨Nat.le_of_ble_eq_true rfl, Nat.le_of_ble_eq_true rfl⟩ ⟨Nat.le_of_ble_eq_true rfl, Nat.le_of_ble_eq_true rfl⟩ (Nat.le_of_ble_eq_true rfl) dX12_readBy_149 ?hp_10 rfl rfl rfl ?_
            case hs_10 => first | with_reducible assumption | exact ⟨_, by with_reducible assumption⟩ | exact MM.isO hM
            case hp_10 => exact ⟨hM, hc7, hn, ln_6 _, hoe.2.2.1, by omega⟩
            rintro v σ1 sz1 ⟨rfl, rfl, rfl⟩
            rw [hc6]
            refine S_if_eq_b (q := 155) 195 hX dX12_readBy_152 rfl rfl (fun c152 => ?_) (fun c152 => ?_)
            · refine S_iinc (q := 198) [_, _, _, _, _, _, _, _, _, _] hX dX12_readBy_195 rfl (ii_1 _) rfl (Nat.le_of_ble_eq_true rfl) rfl rfl ?_
              refine S_goto 115 hX dX12_readBy_198 rfl ?_
              have hch : chI (srt kd) vf n b C.2 (e + 1) = chI (srt kd) vf n b C.2 e := by rw [chI, if_neg (fun z => c152 z.1)]
              refine S_wk [true, true, true, true, true, true, true, true, true, false] ?_
              exact ih (e + 1) _ xword _ hbn (nI_1 _) (by rw [hch]) (fun z => by rw [hch] at z ⊢; exact hw z) hlt (by omega)
            · refine S_iload (q := 157) hX dX12_readBy_155 rfl rfl ?_
              refine S_if_eq (q := 160) 182 hX dX12_readBy_157 rfl rfl (fun c157 => ?_) (fun c157 => ?_)
              · have k157 : (chI (srt kd) vf n b C.2 e).1 = 0 := nI_inj (by omega) (by decide) c157
                refine S_iload (q := 184) hX dX12_readBy_182 rfl rfl ?_
                refine S_istore (q := 186) [_, _, _, _, _, _, _, _, _, _] hX dX12_readBy_184 rfl (Nat.le_of_ble_eq_true rfl) rfl rfl ?_
                refine S_aload_n (q := 187) hX dX12_readBy_186 rfl rfl ?_
                refine S_iload_n (q := 188) hX dX12_readBy_187 rfl rfl ?_
                refine S_iload (q := 190) hX dX12_readBy_188 rfl rfl ?_
                refine S_callV (ci := 12) (C := "FanTalkModel") (T := TX12) (N := 17) (q := 193) 0 0 hX (c_X12_wordOf _ μc _ _ b0 c e rfl rfl) rfl ?hs_11 rfl u_892 u_894 us_36 u_12 u_895 ⟨by decide, by decide, rfl⟩ ⟨Nat.le_of_ble_eq_true rfl, Nat.le_of_ble_eq_true rfl⟩ ⟨Nat.le_of_ble_eq_true rfl, Nat.le_of_ble_eq_true rfl⟩ (Nat.le_of_ble_eq_true rfl) dX12_readBy_190 ?hp_11 rfl rfl rfl ?_
                case hs_11 => first | with_reducible assumption | exact ⟨_, by with_reducible assumption⟩ | exact MM.isO hM
                case hp_11 => exact ⟨hM, hc0, by have := hok.1; omega⟩
                rintro v σ1 sz1 ⟨rfl, rfl, rfl⟩
                rw [(hcc.2 e hlt).2]
                refine S_istore (q := 195) [_, _, _, _, _, _, _, _, _, _] hX dX12_readBy_193 rfl (Nat.le_of_ble_eq_true rfl) rfl rfl ?_
                refine S_iinc (q := 198) [_, _, _, _, _, _, _, _, _, _] hX dX12_readBy_195 rfl (ii_1 _) rfl (Nat.le_of_ble_eq_true rfl) rfl rfl ?_
                refine S_goto 115 hX dX12_readBy_198 rfl ?_
                have hch : chI (srt kd) vf n b C.2 (e + 1) = (ln (C.2 e).1, (C.2 e).2) := by rw [chI, if_pos ⟨c152, Or.inl k157⟩]
                refine S_wk [true, true, true, true, true, true, true, true, true, false] ?_
                exact ih (e + 1) _ (nI (C.2 e).2) _ hbn (nI_1 _) (by rw [hch]) (fun z => by rw [hch]) hlt (by omega)
              · have k157 : ¬ (chI (srt kd) vf n b C.2 e).1 = 0 := fun z => c157 (by rw [z]; rfl)
                refine S_iload (q := 162) hX dX12_readBy_160 rfl rfl ?_
                refine S_if_eq_b (q := 165) 175 hX dX12_readBy_162 rfl rfl (fun c162 => ?_) (fun c162 => ?_)
                · have k162 : ¬ srt kd = true := c162
                  have k162b : srt kd = false := by simpa using c162
                  refine S_iload (q := 177) hX dX12_readBy_175 rfl rfl ?_
                  refine S_iload (q := 179) hX dX12_readBy_177 rfl rfl ?_
                  refine S_icmp_le (q := 182) 195 hX dX12_readBy_179 rfl rfl (fun c179 => ?_) (fun c179 => ?_)
                  · have k179 : ¬ (chI (srt kd) vf n b C.2 e).1 < ln (C.2 e).1 := by rw [nI_leI (by omega) (by omega)] at c179; omega
                    refine S_iinc (q := 198) [_, _, _, _, _, _, _, _, _, _] hX dX12_readBy_195 rfl (ii_1 _) rfl (Nat.le_of_ble_eq_true rfl) rfl rfl ?_
                    refine S_goto 115 hX dX12_readBy_198 rfl ?_
                    have hch : chI (srt kd) vf n b C.2 (e + 1) = chI (srt kd) vf n b C.2 e := by rw [chI, if_neg (fun z => z.2.elim k157 (fun q => q.elim (fun r => k162 r.1) (fun r => k179 r.2)))]
                    refine S_wk [true, true, true, true, true, true, true, true, true, false] ?_
                    exact ih (e + 1) _ xword _ hbn (nI_1 _) (by rw [hch]) (fun z => by rw [hch] at z ⊢; exact hw z) hlt (by omega)
                  · have k179 : (chI (srt kd) vf n b C.2 e).1 < ln (C.2 e).1 := by rw [nI_leI (by omega) (by omega)] at c179; omega
                    refine S_iload (q := 184) hX dX12_readBy_182 rfl rfl ?_
                    refine S_istore (q := 186) [_, _, _, _, _, _, _, _, _, _] hX dX12_readBy_184 rfl (Nat.le_of_ble_eq_true rfl) rfl rfl ?_
                    refine S_aload_n (q := 187) hX dX12_readBy_186 rfl rfl ?_
                    refine S_iload_n (q := 188) hX dX12_readBy_187 rfl rfl ?_
                    refine S_iload (q := 190) hX dX12_readBy_188 rfl rfl ?_
                    refine S_callV (ci := 12) (C := "FanTalkModel") (T := TX12) (N := 17) (q := 193) 0 0 hX (c_X12_wordOf _ μc _ _ b0 c e rfl rfl) rfl ?hs_12 rfl u_892 u_894 us_36 u_12 u_895 ⟨by decide, by decide, rfl⟩ ⟨Nat.le_of_ble_eq_true rfl, Nat.le_of_ble_eq_true rfl⟩ ⟨Nat.le_of_ble_eq_true rfl, Nat.le_of_ble_eq_true rfl⟩ (Nat.le_of_ble_eq_true rfl) dX12_readBy_190 ?hp_12 rfl rfl rfl ?_
                    case hs_12 => first | with_reducible assumption | exact ⟨_, by with_reducible assumption⟩ | exact MM.isO hM
                    case hp_12 => exact ⟨hM, hc0, by have := hok.1; omega⟩
                    rintro v σ1 sz1 ⟨rfl, rfl, rfl⟩
                    rw [(hcc.2 e hlt).2]
                    refine S_istore (q := 195) [_, _, _, _, _, _, _, _, _, _] hX dX12_readBy_193 rfl (Nat.le_of_ble_eq_true rfl) rfl rfl ?_
                    refine S_iinc (q := 198) [_, _, _, _, _, _, _, _, _, _] hX dX12_readBy_195 rfl (ii_1 _) rfl (Nat.le_of_ble_eq_true rfl) rfl rfl ?_
                    refine S_goto 115 hX dX12_readBy_198 rfl ?_
                    have hch : chI (srt kd) vf n b C.2 (e + 1) = (ln (C.2 e).1, (C.2 e).2) := by rw [chI, if_pos ⟨c152, Or.inr (Or.inr ⟨k162b, k179⟩)⟩]
                    refine S_wk [true, true, true, true, true, true, true, true, true, false] ?_
                    exact ih (e + 1) _ (nI (C.2 e).2) _ hbn (nI_1 _) (by rw [hch]) (fun z => by rw [hch]) hlt (by omega)
                · have k162 : srt kd = true := c162
                  refine S_iload (q := 167) hX dX12_readBy_165 rfl rfl ?_
                  refine S_iload (q := 169) hX dX12_readBy_167 rfl rfl ?_
                  refine S_icmp_ge (q := 172) 195 hX dX12_readBy_169 rfl rfl (fun c169 => ?_) (fun c169 => ?_)
                  · have k169 : ¬ ln (C.2 e).1 < (chI (srt kd) vf n b C.2 e).1 := by rw [nI_leI (by omega) (by omega)] at c169; omega
                    refine S_iinc (q := 198) [_, _, _, _, _, _, _, _, _, _] hX dX12_readBy_195 rfl (ii_1 _) rfl (Nat.le_of_ble_eq_true rfl) rfl rfl ?_
                    refine S_goto 115 hX dX12_readBy_198 rfl ?_
                    have hch : chI (srt kd) vf n b C.2 (e + 1) = chI (srt kd) vf n b C.2 e := by rw [chI, if_neg (fun z => z.2.elim k157 (fun q => q.elim (fun r => k169 r.2) (fun r => absurd (k162.symm.trans r.1) (by decide))))]
                    refine S_wk [true, true, true, true, true, true, true, true, true, false] ?_
                    exact ih (e + 1) _ xword _ hbn (nI_1 _) (by rw [hch]) (fun z => by rw [hch] at z ⊢; exact hw z) hlt (by omega)
                  · have k169 : ln (C.2 e).1 < (chI (srt kd) vf n b C.2 e).1 := by rw [nI_leI (by omega) (by omega)] at c169; omega
                    refine S_goto 182 hX dX12_readBy_172 rfl ?_
                    refine S_iload (q := 184) hX dX12_readBy_182 rfl rfl ?_
                    refine S_istore (q := 186) [_, _, _, _, _, _, _, _, _, _] hX dX12_readBy_184 rfl (Nat.le_of_ble_eq_true rfl) rfl rfl ?_
                    refine S_aload_n (q := 187) hX dX12_readBy_186 rfl rfl ?_
                    refine S_iload_n (q := 188) hX dX12_readBy_187 rfl rfl ?_
                    refine S_iload (q := 190) hX dX12_readBy_188 rfl rfl ?_
                    refine S_callV (ci := 12) (C := "FanTalkModel") (T := TX12) (N := 17) (q := 193) 0 0 hX (c_X12_wordOf _ μc _ _ b0 c e rfl rfl) rfl ?hs_13 rfl u_892 u_894 us_36 u_12 u_895 ⟨by decide, by decide, rfl⟩ ⟨Nat.le_of_ble_eq_true rfl, Nat.le_of_ble_eq_true rfl⟩ ⟨Nat.le_of_ble_eq_true rfl, Nat.le_of_ble_eq_true rfl⟩ (Nat.le_of_ble_eq_true rfl) dX12_readBy_190 ?hp_13 rfl rfl rfl ?_
                    case hs_13 => first | with_reducible assumption | exact ⟨_, by with_reducible assumption⟩ | exact MM.isO hM
                    case hp_13 => exact ⟨hM, hc0, by have := hok.1; omega⟩
                    rintro v σ1 sz1 ⟨rfl, rfl, rfl⟩
                    rw [(hcc.2 e hlt).2]
                    refine S_istore (q := 195) [_, _, _, _, _, _, _, _, _, _] hX dX12_readBy_193 rfl (Nat.le_of_ble_eq_true rfl) rfl rfl ?_
                    refine S_iinc (q := 198) [_, _, _, _, _, _, _, _, _, _] hX dX12_readBy_195 rfl (ii_1 _) rfl (Nat.le_of_ble_eq_true rfl) rfl rfl ?_
                    refine S_goto 115 hX dX12_readBy_198 rfl ?_
                    have hch : chI (srt kd) vf n b C.2 (e + 1) = (ln (C.2 e).1, (C.2 e).2) := by rw [chI, if_pos ⟨c152, Or.inr (Or.inl ⟨k162, k169⟩)⟩]
                    refine S_wk [true, true, true, true, true, true, true, true, true, false] ?_
                    exact ih (e + 1) _ (nI (C.2 e).2) _ hbn (nI_1 _) (by rw [hch]) (fun z => by rw [hch]) hlt (by omega)
      refine S_iload (q := 99) hX dX12_readBy_97 rfl rfl ?_
      refine S_aload_n (q := 100) hX dX12_readBy_99 rfl rfl ?_
      refine S_getf (fs := ?fs_14) (v := ?v_14) (q := 103) hX u_794 fo_X12_beats dX12_readBy_100 ?hs_14 ?hv_14 rfl ?_
      case hs_14 => with_reducible first | exact MM.c0 hM | exact MM.c1 hM | exact MM.c5 hM | exact MM.c6 hM | exact MM.c7 hM | exact MM.c3 hM | exact MM.c4 hM | exact MM.c8 hM | exact MM.c2 hM
      case hv_14 => rfl
      refine S_icmp_ge (q := 106) 246 hX dX12_readBy_103 rfl rfl (fun c103 => ?_) (fun c103 => ?_)
      · have hbn : b = n := by rw [hc7, nI_leI (by omega) (by omega)] at c103; omega
        refine S_vret hX dX12_readBy_246 (Nat.zero_le _) (Nat.zero_le _) ?_
        refine hP _ _ _ ?_
        rw [rdL, if_neg (by omega), List.append_nil] at hL
        subst hL
        exact ⟨_, hM, hF, rfl, ⟨vf, wf, eμ, hwf⟩, rfl⟩
      · have hbn : b < n := by rw [hc7, nI_leI (by omega) (by omega)] at c103; omega
        refine S_iconst (q := 107) (v := 0) hX dX12_readBy_106 ic_0 rfl ?_
        refine S_istore (q := 109) [_, _, _, _, _, _, _, _, _, _] hX dX12_readBy_107 rfl (Nat.le_of_ble_eq_true rfl) rfl rfl ?_
        refine S_iconst (q := 110) (v := (-1)) hX dX12_readBy_109 ic_m1 rfl ?_
        refine S_istore (q := 112) [_, _, _, _, _, _, _, _, _, _] hX dX12_readBy_110 rfl (Nat.le_of_ble_eq_true rfl) rfl rfl ?_
        refine S_iconst (q := 113) (v := 0) hX dX12_readBy_112 ic_0 rfl ?_
        refine S_istore (q := 115) [_, _, _, _, _, _, _, _, _, _] hX dX12_readBy_113 rfl (Nat.le_of_ble_eq_true rfl) rfl rfl ?_
        exact inner (C.1 + 1) 0 _ _ _ hbn rfl rfl (fun z => absurd z (Nat.lt_irrefl 0)) (Nat.zero_le _) (by omega)
  have loop1 : ∀ (fu : Nat) (k : Nat) (σ : Sg) (vf : Nat → Int32) (xk : Int32), xk = nI k → k ≤ n → n - k < fu → (∀ i, i < k → vf i = (fun b => vw kd (drw d (mk b) b) b) i) → MM σ m (m1 μ 6 vf) → Fr m (m + 9) σ0 σ → G X Γ P 0 0 3 [some (.ref m), some (.int (nI kd)), some (.int (nI c)), some (.int (nI d)), some (.int xk), none, none, none, none, none] [] σ sz := by
    intro fu
    induction fu with
    | zero =>
      rintro k σ vf _ rfl hk hfu hv hM hF
      exact absurd hfu (Nat.not_lt_zero _)
    | succ fu ih =>
      rintro k σ vf _ rfl hk hfu hv hM hF
      have h7c : m1 μ 6 vf 0 7 = nI n := h7
      refine S_iload (q := 5) hX dX12_readBy_3 rfl rfl ?_
      refine S_aload_n (q := 6) hX dX12_readBy_5 rfl rfl ?_
      refine S_getf (fs := ?fs_15) (v := ?v_15) (q := 9) hX u_794 fo_X12_beats dX12_readBy_6 ?hs_15 ?hv_15 rfl ?_
      case hs_15 => with_reducible first | exact MM.c0 hM | exact MM.c1 hM | exact MM.c5 hM | exact MM.c6 hM | exact MM.c7 hM | exact MM.c3 hM | exact MM.c4 hM | exact MM.c8 hM | exact MM.c2 hM
      case hv_15 => rfl
      refine S_icmp_ge (q := 12) 72 hX dX12_readBy_9 rfl rfl (fun c9 => ?_) (fun c9 => ?_)
      · have hkn : k = n := by rw [h7c, nI_leI (by omega) (by omega)] at c9; omega
        have hv2 : ∀ i, i < n → vf i = (fun b => vw kd (drw d (mk b) b) b) i := fun i hi => hv i (by omega)
        refine S_iload_n (q := 73) hX dX12_readBy_72 rfl rfl ?_
        refine S_iconst (q := 74) (v := 1) hX dX12_readBy_73 ic_1 rfl ?_
        refine S_icmp_eq (q := 77) 82 hX dX12_readBy_74 rfl rfl (fun c74 => ?_) (fun c74 => ?_)
        · refine S_iconst (q := 83) (v := 1) hX dX12_readBy_82 ic_1 rfl ?_
          refine S_goto 87 hX dX12_readBy_83 rfl ?_
          refine S_istore (q := 89) [_, _, _, _, _, _, _, _, _, _] hX dX12_readBy_87 rfl (Nat.le_of_ble_eq_true rfl) rfl rfl ?_
          refine S_aload_n (q := 90) hX dX12_readBy_89 rfl rfl ?_
          refine S_iconst (q := 91) (v := 0) hX dX12_readBy_90 ic_0 rfl ?_
          refine S_nm (fun x91 hx91 => ?_)
          refine S_putf (fs := ?fs_16) (q := 94) hX u_797 fo_X12_wordMany rfl rfl ?hl_16 dX12_readBy_91 ?hs_16 rfl ?_
          case hs_16 => with_reducible first | exact MM.c0 hM | exact MM.c1 hM | exact MM.c5 hM | exact MM.c6 hM | exact MM.c7 hM | exact MM.c3 hM | exact MM.c4 hM | exact MM.c8 hM | exact MM.c2 hM
          case hl_16 => exact Nat.le_of_ble_eq_true rfl
          refine S_stu (q0 := m) (j := 0) (i := 8) hM hF (by decide) rfl (fun σ μ91 e91 hM hF => ?_)
          subst hx91
          refine S_iconst (q := 95) (v := 0) hX dX12_readBy_94 ic_0 rfl ?_
          refine S_istore (q := 97) [_, _, _, _, _, _, _, _, _, _] hX dX12_readBy_95 rfl (Nat.le_of_ble_eq_true rfl) rfl rfl ?_
          refine S_wk [true, true, true, true, true, true, false, false, false, false] ?_
          refine outer (n + 1) 0 [] σ vf (μ 7) μ91 _ _ (bi_t (srt_iff.mpr (Or.inl (kk1.mp c74)))).symm rfl ?_ (Nat.zero_le _) (by omega) (Nat.zero_le _) ?_ hv2 WL.nil hM hF
          · rw [e91, m1_id (m1 μ 6 vf) 7 (g := μ 7) (m1_ne (by decide))]; rfl
          · rw [eLL, List.nil_append]; exact rdL_congr (fun i hi => hv2 i hi) _ _
        · refine S_iload_n (q := 78) hX dX12_readBy_77 rfl rfl ?_
          refine S_iconst (q := 79) (v := 3) hX dX12_readBy_78 ic_3 rfl ?_
          refine S_icmp_ne (q := 82) 86 hX dX12_readBy_79 rfl rfl (fun c79 => ?_) (fun c79 => ?_)
          · refine S_iconst (q := 87) (v := 0) hX dX12_readBy_86 ic_0 rfl ?_
            refine S_istore (q := 89) [_, _, _, _, _, _, _, _, _, _] hX dX12_readBy_87 rfl (Nat.le_of_ble_eq_true rfl) rfl rfl ?_
            refine S_aload_n (q := 90) hX dX12_readBy_89 rfl rfl ?_
            refine S_iconst (q := 91) (v := 0) hX dX12_readBy_90 ic_0 rfl ?_
            refine S_nm (fun x91 hx91 => ?_)
            refine S_putf (fs := ?fs_17) (q := 94) hX u_797 fo_X12_wordMany rfl rfl ?hl_17 dX12_readBy_91 ?hs_17 rfl ?_
            case hs_17 => with_reducible first | exact MM.c0 hM | exact MM.c1 hM | exact MM.c5 hM | exact MM.c6 hM | exact MM.c7 hM | exact MM.c3 hM | exact MM.c4 hM | exact MM.c8 hM | exact MM.c2 hM
            case hl_17 => exact Nat.le_of_ble_eq_true rfl
            refine S_stu (q0 := m) (j := 0) (i := 8) hM hF (by decide) rfl (fun σ μ91 e91 hM hF => ?_)
            subst hx91
            refine S_iconst (q := 95) (v := 0) hX dX12_readBy_94 ic_0 rfl ?_
            refine S_istore (q := 97) [_, _, _, _, _, _, _, _, _, _] hX dX12_readBy_95 rfl (Nat.le_of_ble_eq_true rfl) rfl rfl ?_
            refine S_wk [true, true, true, true, true, true, false, false, false, false] ?_
            refine outer (n + 1) 0 [] σ vf (μ 7) μ91 _ _ (bi_f (fun z => (srt_iff.mp z).elim (fun r => c74 (kk1.mpr r)) (fun r => c79 (kk3.mpr r)))).symm rfl ?_ (Nat.zero_le _) (by omega) (Nat.zero_le _) ?_ hv2 WL.nil hM hF
            · rw [e91, m1_id (m1 μ 6 vf) 7 (g := μ 7) (m1_ne (by decide))]; rfl
            · rw [eLL, List.nil_append]; exact rdL_congr (fun i hi => hv2 i hi) _ _
          · refine S_iconst (q := 83) (v := 1) hX dX12_readBy_82 ic_1 rfl ?_
            refine S_goto 87 hX dX12_readBy_83 rfl ?_
            refine S_istore (q := 89) [_, _, _, _, _, _, _, _, _, _] hX dX12_readBy_87 rfl (Nat.le_of_ble_eq_true rfl) rfl rfl ?_
            refine S_aload_n (q := 90) hX dX12_readBy_89 rfl rfl ?_
            refine S_iconst (q := 91) (v := 0) hX dX12_readBy_90 ic_0 rfl ?_
            refine S_nm (fun x91 hx91 => ?_)
            refine S_putf (fs := ?fs_18) (q := 94) hX u_797 fo_X12_wordMany rfl rfl ?hl_18 dX12_readBy_91 ?hs_18 rfl ?_
            case hs_18 => with_reducible first | exact MM.c0 hM | exact MM.c1 hM | exact MM.c5 hM | exact MM.c6 hM | exact MM.c7 hM | exact MM.c3 hM | exact MM.c4 hM | exact MM.c8 hM | exact MM.c2 hM
            case hl_18 => exact Nat.le_of_ble_eq_true rfl
            refine S_stu (q0 := m) (j := 0) (i := 8) hM hF (by decide) rfl (fun σ μ91 e91 hM hF => ?_)
            subst hx91
            refine S_iconst (q := 95) (v := 0) hX dX12_readBy_94 ic_0 rfl ?_
            refine S_istore (q := 97) [_, _, _, _, _, _, _, _, _, _] hX dX12_readBy_95 rfl (Nat.le_of_ble_eq_true rfl) rfl rfl ?_
            refine S_wk [true, true, true, true, true, true, false, false, false, false] ?_
            refine outer (n + 1) 0 [] σ vf (μ 7) μ91 _ _ (bi_t (srt_iff.mpr (Or.inr (kk3.mp c79)))).symm rfl ?_ (Nat.zero_le _) (by omega) (Nat.zero_le _) ?_ hv2 WL.nil hM hF
            · rw [e91, m1_id (m1 μ 6 vf) 7 (g := μ 7) (m1_ne (by decide))]; rfl
            · rw [eLL, List.nil_append]; exact rdL_congr (fun i hi => hv2 i hi) _ _
      · have hkn : k < n := by rw [h7c, nI_leI (by omega) (by omega)] at c9; omega
        have hmk1 : m1 μ 6 vf 5 (nI k).toNatClampNeg = nI (mk k) := by rw [nI_clamp (by omega)]; exact (hmk k hkn).1
        have hm12 := (hmk k hkn).2
        refine S_iload (q := 14) hX dX12_readBy_12 rfl rfl ?_
        refine S_bipush (q := 16) (v := 6) hX dX12_readBy_14 bp_6 rfl ?_
        refine S_icmp_ge (q := 19) 42 hX dX12_readBy_16 rfl rfl (fun c16 => ?_) (fun c16 => ?_)
        · refine S_aload_n (q := 43) hX dX12_readBy_42 rfl rfl ?_
          refine S_getf (fs := ?fs_19) (v := ?v_19) (q := 46) hX u_793 fo_X12_made dX12_readBy_43 ?hs_19 ?hv_19 rfl ?_
          case hs_19 => with_reducible first | exact MM.c0 hM | exact MM.c1 hM | exact MM.c5 hM | exact MM.c6 hM | exact MM.c7 hM | exact MM.c3 hM | exact MM.c4 hM | exact MM.c8 hM | exact MM.c2 hM
          case hv_19 => rfl
          refine S_iload (q := 48) hX dX12_readBy_46 rfl rfl ?_
          refine S_iald (N := ?n_20) (f := ?f_20) (q := 49) hX dX12_readBy_48 ?hs_20 ?hi_20 rfl ?_
          case hs_20 => with_reducible first | exact MM.c0 hM | exact MM.c1 hM | exact MM.c5 hM | exact MM.c6 hM | exact MM.c7 hM | exact MM.c3 hM | exact MM.c4 hM | exact MM.c8 hM | exact MM.c2 hM
          case hi_20 => exact vp_in_nI (by omega) (by decide)
          refine S_istore (q := 51) [_, _, _, _, _, _, _, _, _, _] hX dX12_readBy_49 rfl (Nat.le_of_ble_eq_true rfl) rfl rfl ?_
          refine S_aload_n (q := 52) hX dX12_readBy_51 rfl rfl ?_
          refine S_getf (fs := ?fs_21) (v := ?v_21) (q := 55) hX u_795 fo_X12_view dX12_readBy_52 ?hs_21 ?hv_21 rfl ?_
          case hs_21 => with_reducible first | exact MM.c0 hM | exact MM.c1 hM | exact MM.c5 hM | exact MM.c6 hM | exact MM.c7 hM | exact MM.c3 hM | exact MM.c4 hM | exact MM.c8 hM | exact MM.c2 hM
          case hv_21 => rfl
          refine S_iload (q := 57) hX dX12_readBy_55 rfl rfl ?_
          refine S_iload_n (q := 58) hX dX12_readBy_57 rfl rfl ?_
          refine S_iload (q := 60) hX dX12_readBy_58 rfl rfl ?_
          refine S_iload (q := 62) hX dX12_readBy_60 rfl rfl ?_
          refine S_callS (q := 65) 0 0 hX (c_X12_seenBy _ _ _ kd (drw d (mk k) k) k rfl (hmk1.trans (by rw [drw_hi hd (by rw [i6, nI_leI (by decide) (by omega)] at c16; exact c16)])) rfl) rfl u_980 u_981 u_12 u_982 ⟨by decide, by decide, rfl⟩ ⟨Nat.le_of_ble_eq_true rfl, Nat.le_of_ble_eq_true rfl⟩ ⟨Nat.le_of_ble_eq_true rfl, Nat.le_of_ble_eq_true rfl⟩ (Nat.le_of_ble_eq_true rfl) dX12_readBy_62 ?hp_22 rfl rfl rfl ?_
          case hp_22 => exact ⟨hkd, drw_lt hm12, by omega⟩
          rintro v σ1 sz1 ⟨rfl, rfl, rfl⟩
          refine S_nm (fun x65 hx65 => ?_)
          refine S_iast (N := ?n_23) (f := ?f_23) (q := 66) hX dX12_readBy_65 ?hs_23 ?hi_23 rfl ?_
          case hs_23 => with_reducible first | exact MM.c0 hM | exact MM.c1 hM | exact MM.c5 hM | exact MM.c6 hM | exact MM.c7 hM | exact MM.c3 hM | exact MM.c4 hM | exact MM.c8 hM | exact MM.c2 hM
          case hi_23 => exact vp_in_nI (by omega) (by decide)
          refine S_stu (q0 := m) (j := 6) (i := _) hM hF (by decide) rfl (fun σ μ65 e65 hM hF => ?_)
          subst hx65
          refine S_iinc (q := 69) [_, _, _, _, _, _, _, _, _, _] hX dX12_readBy_66 rfl (ii_1 _) rfl (Nat.le_of_ble_eq_true rfl) rfl rfl ?_
          refine S_goto 3 hX dX12_readBy_69 rfl ?_
          rw [nI_clamp (by omega), m2_m1] at e65
          subst e65
          refine S_wk [true, true, true, true, true, false, false, false, false, false] ?_
          refine ih (k + 1) σ _ _ (nI_1 _) hkn (by omega) (fun i hi => ?_) hM hF
          rcases Nat.lt_succ_iff_lt_or_eq.mp hi with q | q
          · rw [upd_ne (by omega)]; exact hv i q
          · subst q; rw [upd_eq]
        · refine S_iload_n (q := 20) hX dX12_readBy_19 rfl rfl ?_
          refine S_iload (q := 22) hX dX12_readBy_20 rfl rfl ?_
          refine S_ishr (q := 23) hX dX12_readBy_22 rfl ?_
          refine S_iconst (q := 24) (v := 1) hX dX12_readBy_23 ic_1 rfl ?_
          refine S_iand (q := 25) hX dX12_readBy_24 rfl ?_
          refine S_iconst (q := 26) (v := 1) hX dX12_readBy_25 ic_1 rfl ?_
          refine S_icmp_ne (q := 29) 42 hX dX12_readBy_26 rfl rfl (fun c26 => ?_) (fun c26 => ?_)
          · refine S_aload_n (q := 43) hX dX12_readBy_42 rfl rfl ?_
            refine S_getf (fs := ?fs_24) (v := ?v_24) (q := 46) hX u_793 fo_X12_made dX12_readBy_43 ?hs_24 ?hv_24 rfl ?_
            case hs_24 => with_reducible first | exact MM.c0 hM | exact MM.c1 hM | exact MM.c5 hM | exact MM.c6 hM | exact MM.c7 hM | exact MM.c3 hM | exact MM.c4 hM | exact MM.c8 hM | exact MM.c2 hM
            case hv_24 => rfl
            refine S_iload (q := 48) hX dX12_readBy_46 rfl rfl ?_
            refine S_iald (N := ?n_25) (f := ?f_25) (q := 49) hX dX12_readBy_48 ?hs_25 ?hi_25 rfl ?_
            case hs_25 => with_reducible first | exact MM.c0 hM | exact MM.c1 hM | exact MM.c5 hM | exact MM.c6 hM | exact MM.c7 hM | exact MM.c3 hM | exact MM.c4 hM | exact MM.c8 hM | exact MM.c2 hM
            case hi_25 => exact vp_in_nI (by omega) (by decide)
            refine S_istore (q := 51) [_, _, _, _, _, _, _, _, _, _] hX dX12_readBy_49 rfl (Nat.le_of_ble_eq_true rfl) rfl rfl ?_
            refine S_aload_n (q := 52) hX dX12_readBy_51 rfl rfl ?_
            refine S_getf (fs := ?fs_26) (v := ?v_26) (q := 55) hX u_795 fo_X12_view dX12_readBy_52 ?hs_26 ?hv_26 rfl ?_
            case hs_26 => with_reducible first | exact MM.c0 hM | exact MM.c1 hM | exact MM.c5 hM | exact MM.c6 hM | exact MM.c7 hM | exact MM.c3 hM | exact MM.c4 hM | exact MM.c8 hM | exact MM.c2 hM
            case hv_26 => rfl
            refine S_iload (q := 57) hX dX12_readBy_55 rfl rfl ?_
            refine S_iload_n (q := 58) hX dX12_readBy_57 rfl rfl ?_
            refine S_iload (q := 60) hX dX12_readBy_58 rfl rfl ?_
            refine S_iload (q := 62) hX dX12_readBy_60 rfl rfl ?_
            refine S_callS (q := 65) 0 0 hX (c_X12_seenBy _ _ _ kd (drw d (mk k) k) k rfl (hmk1.trans (by unfold drw; rw [if_neg (fun z => c26 (by rw [pk_bit hd (by rw [i6, nI_leI (by decide) (by omega)] at c16; omega), z]; rfl))])) rfl) rfl u_980 u_981 u_12 u_982 ⟨by decide, by decide, rfl⟩ ⟨Nat.le_of_ble_eq_true rfl, Nat.le_of_ble_eq_true rfl⟩ ⟨Nat.le_of_ble_eq_true rfl, Nat.le_of_ble_eq_true rfl⟩ (Nat.le_of_ble_eq_true rfl) dX12_readBy_62 ?hp_27 rfl rfl rfl ?_
            case hp_27 => exact ⟨hkd, drw_lt hm12, by omega⟩
            rintro v σ1 sz1 ⟨rfl, rfl, rfl⟩
            refine S_nm (fun x65 hx65 => ?_)
            refine S_iast (N := ?n_28) (f := ?f_28) (q := 66) hX dX12_readBy_65 ?hs_28 ?hi_28 rfl ?_
            case hs_28 => with_reducible first | exact MM.c0 hM | exact MM.c1 hM | exact MM.c5 hM | exact MM.c6 hM | exact MM.c7 hM | exact MM.c3 hM | exact MM.c4 hM | exact MM.c8 hM | exact MM.c2 hM
            case hi_28 => exact vp_in_nI (by omega) (by decide)
            refine S_stu (q0 := m) (j := 6) (i := _) hM hF (by decide) rfl (fun σ μ65 e65 hM hF => ?_)
            subst hx65
            refine S_iinc (q := 69) [_, _, _, _, _, _, _, _, _, _] hX dX12_readBy_66 rfl (ii_1 _) rfl (Nat.le_of_ble_eq_true rfl) rfl rfl ?_
            refine S_goto 3 hX dX12_readBy_69 rfl ?_
            rw [nI_clamp (by omega), m2_m1] at e65
            subst e65
            refine S_wk [true, true, true, true, true, false, false, false, false, false] ?_
            refine ih (k + 1) σ _ _ (nI_1 _) hkn (by omega) (fun i hi => ?_) hM hF
            rcases Nat.lt_succ_iff_lt_or_eq.mp hi with q | q
            · rw [upd_ne (by omega)]; exact hv i q
            · subst q; rw [upd_eq]
          · refine S_aload_n (q := 30) hX dX12_readBy_29 rfl rfl ?_
            refine S_getf (fs := ?fs_29) (v := ?v_29) (q := 33) hX u_793 fo_X12_made dX12_readBy_30 ?hs_29 ?hv_29 rfl ?_
            case hs_29 => with_reducible first | exact MM.c0 hM | exact MM.c1 hM | exact MM.c5 hM | exact MM.c6 hM | exact MM.c7 hM | exact MM.c3 hM | exact MM.c4 hM | exact MM.c8 hM | exact MM.c2 hM
            case hv_29 => rfl
            refine S_iload (q := 35) hX dX12_readBy_33 rfl rfl ?_
            refine S_iald (N := ?n_30) (f := ?f_30) (q := 36) hX dX12_readBy_35 ?hs_30 ?hi_30 rfl ?_
            case hs_30 => with_reducible first | exact MM.c0 hM | exact MM.c1 hM | exact MM.c5 hM | exact MM.c6 hM | exact MM.c7 hM | exact MM.c3 hM | exact MM.c4 hM | exact MM.c8 hM | exact MM.c2 hM
            case hi_30 => exact vp_in_nI (by omega) (by decide)
            refine S_callS (q := 39) 0 0 hX (c_X12_blown _ (mk k) hmk1) rfl u_962 u_963 u_12 u_964 ⟨by decide, by decide, rfl⟩ ⟨Nat.le_of_ble_eq_true rfl, Nat.le_of_ble_eq_true rfl⟩ ⟨Nat.le_of_ble_eq_true rfl, Nat.le_of_ble_eq_true rfl⟩ (Nat.le_of_ble_eq_true rfl) dX12_readBy_36 ?hp_31 rfl rfl rfl ?_
            case hp_31 => exact hm12
            rintro v σ1 sz1 ⟨rfl, rfl, rfl⟩
            refine S_goto 49 hX dX12_readBy_39 rfl ?_
            refine S_istore (q := 51) [_, _, _, _, _, _, _, _, _, _] hX dX12_readBy_49 rfl (Nat.le_of_ble_eq_true rfl) rfl rfl ?_
            refine S_aload_n (q := 52) hX dX12_readBy_51 rfl rfl ?_
            refine S_getf (fs := ?fs_32) (v := ?v_32) (q := 55) hX u_795 fo_X12_view dX12_readBy_52 ?hs_32 ?hv_32 rfl ?_
            case hs_32 => with_reducible first | exact MM.c0 hM | exact MM.c1 hM | exact MM.c5 hM | exact MM.c6 hM | exact MM.c7 hM | exact MM.c3 hM | exact MM.c4 hM | exact MM.c8 hM | exact MM.c2 hM
            case hv_32 => rfl
            refine S_iload (q := 57) hX dX12_readBy_55 rfl rfl ?_
            refine S_iload_n (q := 58) hX dX12_readBy_57 rfl rfl ?_
            refine S_iload (q := 60) hX dX12_readBy_58 rfl rfl ?_
            refine S_iload (q := 62) hX dX12_readBy_60 rfl rfl ?_
            refine S_callS (q := 65) 0 0 hX (c_X12_seenBy _ _ _ kd (drw d (mk k) k) k rfl (by unfold drw; rw [if_pos (by rw [pk_bit hd (by rw [i6, nI_leI (by decide) (by omega)] at c16; omega)] at c26; exact nI_inj (by omega) (by decide) c26)]) rfl) rfl u_980 u_981 u_12 u_982 ⟨by decide, by decide, rfl⟩ ⟨Nat.le_of_ble_eq_true rfl, Nat.le_of_ble_eq_true rfl⟩ ⟨Nat.le_of_ble_eq_true rfl, Nat.le_of_ble_eq_true rfl⟩ (Nat.le_of_ble_eq_true rfl) dX12_readBy_62 ?hp_33 rfl rfl rfl ?_
            case hp_33 => exact ⟨hkd, drw_lt hm12, by omega⟩
            rintro v σ1 sz1 ⟨rfl, rfl, rfl⟩
            refine S_nm (fun x65 hx65 => ?_)
            refine S_iast (N := ?n_34) (f := ?f_34) (q := 66) hX dX12_readBy_65 ?hs_34 ?hi_34 rfl ?_
            case hs_34 => with_reducible first | exact MM.c0 hM | exact MM.c1 hM | exact MM.c5 hM | exact MM.c6 hM | exact MM.c7 hM | exact MM.c3 hM | exact MM.c4 hM | exact MM.c8 hM | exact MM.c2 hM
            case hi_34 => exact vp_in_nI (by omega) (by decide)
            refine S_stu (q0 := m) (j := 6) (i := _) hM hF (by decide) rfl (fun σ μ65 e65 hM hF => ?_)
            subst hx65
            refine S_iinc (q := 69) [_, _, _, _, _, _, _, _, _, _] hX dX12_readBy_66 rfl (ii_1 _) rfl (Nat.le_of_ble_eq_true rfl) rfl rfl ?_
            refine S_goto 3 hX dX12_readBy_69 rfl ?_
            rw [nI_clamp (by omega), m2_m1] at e65
            subst e65
            refine S_wk [true, true, true, true, true, false, false, false, false, false] ?_
            refine ih (k + 1) σ _ _ (nI_1 _) hkn (by omega) (fun i hi => ?_) hM hF
            rcases Nat.lt_succ_iff_lt_or_eq.mp hi with q | q
            · rw [upd_ne (by omega)]; exact hv i q
            · subst q; rw [upd_eq]
  refine S_iconst (q := 1) (v := 0) hX dX12_readBy_0 ic_0 rfl ?_
  refine S_istore (q := 3) [_, _, _, _, _, _, _, _, _, _] hX dX12_readBy_1 rfl (Nat.le_of_ble_eq_true rfl) rfl rfl ?_
  refine loop1 (n + 1) 0 σ (μ 6) _ rfl (Nat.zero_le _) (by omega) (fun i hi => absurd hi (Nat.not_lt_zero _)) ?_ hF
  rw [m1_id μ 6 rfl]
  exact hM
