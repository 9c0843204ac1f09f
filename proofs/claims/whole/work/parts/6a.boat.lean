/-! ===== boat: the reference's walks ===== -/
def wb (z : Int64) (j : Nat) : Bool := z.toBitVec.getLsbD j
theorem shb : ∀ k : Nat, k < 60 → ((iI k).toInt64 &&& 63).toBitVec.smod 64 = BitVec.ofNat 64 k := by decide +kernel
theorem wb_one {k j : Nat} (hk : k < 60) (hj : j < 60) : wb ((1 : Int64) <<< ((iI k).toInt64 &&& 63)) j = decide (j = k) := by
  unfold wb
  rw [Int64.toBitVec_shiftLeft, shb k hk]
  have h9 : (BitVec.ofNat 64 k).toNat = k := by rw [BitVec.toNat_ofNat]; omega
  have one : (Int64.toBitVec 1) = 1#64 := rfl
  rw [one, BitVec.shiftLeft_eq', BitVec.getLsbD_shiftLeft, h9]
  by_cases c : j < k
  · simp [c]; omega
  · by_cases e : j = k
    · subst e; simp; omega
    · have : j - k ≠ 0 := by omega
      simp [c, e]
      intro _
      omega
theorem wb_or {z : Int64} {k j : Nat} (hk : k < 60) (hj : j < 60) : wb (z ||| ((1 : Int64) <<< ((iI k).toInt64 &&& 63))) j = (wb z j || decide (j = k)) := by
  have h := wb_one hk hj
  unfold wb at *
  rw [Int64.toBitVec_or, BitVec.getLsbD_or, h]
theorem wb_at {z : Int64} {j : Nat} (hj : j < 60) : lg_cmp ((z >>> ((iI j).toInt64 &&& 63)) &&& 1) 1 = 0 ↔ wb z j = true := by
  have h9 : (BitVec.ofNat 64 j).toNat = j := by rw [BitVec.toNat_ofNat]; omega
  have e : ((z >>> ((iI j).toInt64 &&& 63)) &&& (1 : Int64)) = if wb z j then 1 else 0 := by
    apply Int64.toBitVec_inj.mp
    rw [Int64.toBitVec_and, Int64.toBitVec_shiftRight, shb j hj, BitVec.sshiftRight_eq', h9]
    have one : (Int64.toBitVec 1) = 1#64 := rfl
    have e2 : (if wb z j then (1 : Int64) else 0).toBitVec = if wb z j then 1#64 else 0#64 := by
      split <;> rfl
    rw [one, e2]
    apply BitVec.eq_of_getLsbD_eq
    intro i hi
    rw [BitVec.getLsbD_and, BitVec.getLsbD_sshiftRight]
    by_cases i0 : i = 0
    · subst i0
      have : j + 0 < 64 := by omega
      unfold wb
      cases h : z.toBitVec.getLsbD j <;> simp [h, this]
      · intro _; omega
      · omega
    · have : (1#64).getLsbD i = false := by
        simp [i0]
      rw [this, Bool.and_false]
      split
      · simp [i0]
      · simp
  rw [e]
  cases wb z j
  · simp; decide
  · simp; decide
