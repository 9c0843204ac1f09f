/-! ===== numbers: an Int32 out of an integer ===== -/
def iI (z : Int) : Int32 := Int32.ofInt z
/-- small: no wrap-around -/
def sm (z : Int) : Prop := -2147483648 ≤ z ∧ z ≤ 2147483647
theorem iI_nat (n : Nat) : nI n = iI (n : Int) := Int32.ofInt_eq_ofNat.symm
theorem iI_add (a b : Int) : iI a + iI b = iI (a + b) := (Int32.ofInt_add a b).symm
theorem iI_sub (a b : Int) : iI a - iI b = iI (a - b) := (Int32.ofInt_sub a b).symm
theorem iI_mul (a b : Int) : iI a * iI b = iI (a * b) := (Int32.ofInt_mul a b).symm
theorem iI_le {a b : Int} (ha : sm a) (hb : sm b) : iI a ≤ iI b ↔ a ≤ b := Int32.ofInt_le_iff_le ha.1 ha.2 hb.1 hb.2
theorem iI_lt {a b : Int} (ha : sm a) (hb : sm b) : iI a < iI b ↔ a < b := Int32.ofInt_lt_iff_lt ha.1 ha.2 hb.1 hb.2
theorem iI_T {a : Int} (ha : sm a) : (iI a).toInt = a := Int32.toInt_ofInt_of_le ha.1 (by have := ha.2; omega)
theorem iI_eq {a b : Int} (ha : sm a) (hb : sm b) : iI a = iI b ↔ a = b := by
  constructor
  · intro h
    have h1 := congrArg Int32.toInt h
    rwa [iI_T ha, iI_T hb] at h1
  · intro h; rw [h]
theorem iI_tdiv {a b : Int} (ha : sm a) (hb : sm b) : iI a / iI b = iI (a.tdiv b) := (Int32.ofInt_tdiv ha.1 ha.2 hb.1 hb.2).symm
theorem iI_div {a b : Int} (ha : sm a) (hb : sm b) (h0 : 0 ≤ a) : iI a / iI b = iI (a / b) := by rw [iI_tdiv ha hb, Int.tdiv_eq_ediv_of_nonneg h0]
theorem iI_of (x : Int32) : x = iI x.toInt := (Int32.ofInt_toInt x).symm
theorem iI_sm (x : Int32) : sm x.toInt := by
  have h1 := Int32.minValue_le_toInt x
  have h2 := Int32.toInt_le x
  exact ⟨h1, h2⟩
theorem iI_cl {a : Int} (ha : sm a) (h0 : 0 ≤ a) : (iI a).toNatClampNeg = a.toNat := Int32.toNatClampNeg_ofInt_of_le ha.1 (by have := ha.2; omega)
theorem iI_in {a : Int} {n : Nat} (ha : sm a) : vp_in (iI a) n ↔ 0 ≤ a ∧ a < n := by rw [vp_in_iff, iI_T ha]
theorem iI_0 : (0 : Int32) = iI 0 := rfl
theorem iI_L (x : Int32) : x.toInt64.toInt = x.toInt := Int32.toInt_toInt64 x
