/-! facts for the calls that write -/
theorem lnI_rg (z : Int) (lo hi : Nat) (h1 : 1 ≤ lo) (h2 : hi < 100) (a b : Int32) (ha : a.toInt = lo) (hb : b.toInt = hi) : (a.toInt ≤ (if lnZ z = 0 then (-1 : Int32) else nI (lnZ z)).toInt ∧ (if lnZ z = 0 then (-1 : Int32) else nI (lnZ z)).toInt ≤ b.toInt) ↔ (lo ≤ lnZ z ∧ lnZ z ≤ hi) := by
  have h6 := lnZ_6 z
  rw [ha, hb]
  by_cases h : lnZ z = 0
  · rw [if_pos h, show ((-1 : Int32)).toInt = -1 by decide]
    omega
  · rw [if_neg h, nI_toInt (by omega)]
    omega
theorem lnZ_pos {z : Int} (h : 1 ≤ lnZ z) : 12 ≤ z ∧ z ≤ 5971967 := by
  unfold lnZ at h
  repeat (first | (split at h) | omega)
theorem lnZ_row {x : Int32} (h : 1 ≤ lnZ x.toInt) : x = nI (tN x) ∧ tN x < 2147483648 ∧ ln (tN x) = lnZ x.toInt := by
  have h1 := lnZ_pos h
  have h2 := tN_ex (x := x) (by omega)
  refine ⟨h2.1, h2.2.1, ?_⟩
  unfold ln
  rw [← h2.2.2]
theorem byte_bv (v : BitVec 64) (n : Nat) (hn : n ≤ 56) : (v.sshiftRight n &&& 255#64).toNat = v.toNat / 2 ^ n % 256 := by
  have h : v.sshiftRight n &&& 255#64 = (v >>> n) &&& 255#64 := by
    apply BitVec.eq_of_getLsbD_eq
    intro i hi
    rw [BitVec.getLsbD_and, BitVec.getLsbD_and, BitVec.getLsbD_sshiftRight, BitVec.getLsbD_ushiftRight]
    by_cases h8 : i < 8
    · have h1 : ¬ 64 ≤ i := by omega
      have h2 : n + i < 64 := by omega
      simp [h1, h2]
    · have : (255#64).getLsbD i = false := by
        have h255 : (255#64) = BitVec.ofNat 64 (2 ^ 8 - 1) := rfl
        rw [h255, BitVec.getLsbD_ofNat, Nat.testBit_two_pow_sub_one]
        simp [h8]
      rw [this, Bool.and_false, Bool.and_false]
  rw [h, BitVec.toNat_and, BitVec.toNat_ushiftRight, Nat.shiftRight_eq_div_pow]
  exact Nat.and_two_pow_sub_one_eq_mod (n := 8) _
theorem sm64 {k : Nat} (hk : k < 8) : (((nI (8 * k)).toInt64 &&& 63).toBitVec.smod 64).toNat = 8 * k := by
  revert k
  decide +kernel
theorem byte_l (v : Int64) {k : Nat} (hk : k < 8) : ((v >>> ((nI (8 * k)).toInt64 &&& 63)) &&& 255).toInt32 = nI (byN v k) := by
  have h := byte_bv v.toBitVec (8 * k) (by omega)
  have e : ((v >>> ((nI (8 * k)).toInt64 &&& 63)) &&& 255) = lN (byN v k) := by
    apply Int64.toBitVec_inj.mp
    apply BitVec.eq_of_toNat_eq
    show ((v.toBitVec.sshiftRight ((((nI (8 * k)).toInt64 &&& 63).toBitVec.smod 64).toNat)) &&& 255#64).toNat = _
    rw [sm64 hk, h]
    show _ = (BitVec.ofNat 64 (byN v k)).toNat
    rw [BitVec.toNat_ofNat]
    unfold byN
    omega
  rw [e]
  exact lN_i _
theorem byte_i (v : Int64) {k : Nat} (hk : k < 8) : (v >>> ((nI (8 * k)).toInt64 &&& 63)).toInt32 &&& 255 = nI (byN v k) := by
  have h := byte_l v hk
  rw [← h]
  apply Int32.toBitVec_inj.mp
  apply BitVec.eq_of_getLsbD_eq
  intro i hi
  have h255 : (255 : Int64).toBitVec.getLsbD i = (255 : Int32).toBitVec.getLsbD i := by
    revert i
    decide
  simp only [Int32.toBitVec_and, Int64.toBitVec_toInt32, Int64.toBitVec_and, BitVec.getLsbD_and, BitVec.getLsbD_signExtend, h255]
  have h64 : i < 64 := by omega
  simp [hi, h64]
theorem byN_lt (v : Int64) (k : Nat) : byN v k < 256 := Nat.mod_lt _ (by decide)
theorem tyT_len (v : Int64) : ∀ (k : Nat) (t : Nat × (Nat → Nat)), (tyT v k t).1 = t.1 + k := by
  intro k
  induction k with
  | zero => intro t; rfl
  | succ k ih => intro t; rw [tyT, ih]; omega
