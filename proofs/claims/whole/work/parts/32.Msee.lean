/-! ===== the reference's sight, in the view's words ===== -/
theorem L0 : (0 : Int32) = iI 0 := rfl
theorem L1 : (1 : Int32) = iI 1 := rfl
theorem L2 : (2 : Int32) = iI 2 := rfl
theorem L3 : (3 : Int32) = iI 3 := rfl
theorem L6 : (6 : Int32) = iI 6 := rfl
theorem L100 : (100 : Int32) = iI 100 := rfl
theorem Lm1 : (-1 : Int32) = iI (-1) := rfl
theorem mul_bd {a b A B : Int} (h1 : -A ≤ a) (h2 : a ≤ A) (h3 : 0 ≤ b) (h4 : b ≤ B) : -(A * B) ≤ a * b ∧ a * b ≤ A * B := by
  have hA : 0 ≤ A := by omega
  have e1 : A * b ≤ A * B := Int.mul_le_mul_of_nonneg_left h4 hA
  have e2 : a * b ≤ A * b := Int.mul_le_mul_of_nonneg_right h2 h3
  have e3 : (-A) * b ≤ a * b := Int.mul_le_mul_of_nonneg_right h1 h3
  rw [Int.neg_mul] at e3
  omega
theorem mul_nn {a b A B : Int} (h1 : 0 ≤ a) (h2 : a ≤ A) (h3 : 0 ≤ b) (h4 : b ≤ B) : 0 ≤ a * b ∧ a * b ≤ A * B := ⟨Int.mul_nonneg h1 h3, (mul_bd (by omega) h2 h3 h4).2⟩
theorem p_in {a lo hi : Int64} {S : vS} {Q : Int32 → vS → Prop} (h1 : lo.toInt ≤ a.toInt → a.toInt ≤ hi.toInt → Q 1 S) (h0 : (a.toInt < lo.toInt ∨ hi.toInt < a.toInt) → Q 0 S) : e_X7_in a lo hi S Q := by
  unfold e_X7_in
  refine ⟨fun h => h0 (Or.inl ?_), fun h => ⟨fun h' => h0 (Or.inr ?_), fun h' => h1 ?_ ?_⟩⟩
  · rw [lg_cmp_lt] at h
    exact Int64.lt_iff_toInt_lt.mp h
  · rw [lg_cmp_gt] at h'
    exact Int64.lt_iff_toInt_lt.mp h'
  · rw [lg_cmp_lt, Int64.lt_iff_toInt_lt] at h
    omega
  · rw [lg_cmp_gt, Int64.lt_iff_toInt_lt] at h'
    omega
theorem T_pred {x : Int32} {z : Int} (h : x = iI z) (h0 : 0 ≤ z) (h1 : z ≤ 1000) : (x - 1).toInt64.toInt = z - 1 := by
  rw [iI_L, h, L1, iI_sub, iI_T ⟨by omega, by omega⟩]
theorem nat_of {x : Int32} (h : 0 ≤ x.toInt) : x = iI (x.toInt.toNat : Int) := by
  rw [Int.toNat_of_nonneg h]
  exact iI_of x
theorem pM_isCell {M : vS} {v : vV} (h : shM M v) (hv : okV v) {x y : Int32} {Q : Int32 → vS → Prop} (h1 : ∀ a b : Nat, x = iI a → y = iI b → (a : Int) < v.1 0 → (b : Int) < v.1 1 → Q 1 M) (h0 : (x.toInt < 0 ∨ v.1 0 ≤ x.toInt ∨ y.toInt < 0 ∨ v.1 1 ≤ y.toInt) → Q 0 M) : e_X7_isCell x y M Q := by
  have e0 := T_pred h.1 hv.1.1 (by have := hv.1.2; omega)
  have e1 := T_pred h.2.1 hv.2.1.1 (by have := hv.2.1.2; omega)
  have z0 : (0 : Int64).toInt = 0 := rfl
  unfold e_X7_isCell
  refine p_in (fun a1 a2 => ?_) (fun a1 => ?_)
  · refine ⟨fun h => absurd h (by decide), fun _ => ?_⟩
    refine p_in (fun b1 b2 => ?_) (fun b1 => ?_)
    · refine ⟨fun h => absurd h (by decide), fun _ => ?_⟩
      rw [iI_L] at a1 a2 b1 b2
      rw [e0] at a2
      rw [e1] at b2
      rw [z0] at a1 b1
      exact h1 x.toInt.toNat y.toInt.toNat (nat_of a1) (nat_of b1) (by omega) (by omega)
    · refine ⟨fun _ => ?_, fun h => absurd rfl h⟩
      rw [iI_L, e1, z0] at b1
      exact h0 (by omega)
  · refine ⟨fun _ => ?_, fun h => absurd rfl h⟩
    rw [iI_L, e0, z0] at a1
    exact h0 (by omega)
theorem pM_isMan {M : vS} {v : vV} (h : shM M v) (hv : okV v) {x : Int32} {Q : Int32 → vS → Prop} (h1 : ∀ f : Nat, x = iI f → (f : Int) < v.1 2 → Q 1 M) (h0 : (x.toInt < 0 ∨ v.1 2 ≤ x.toInt) → Q 0 M) : e_X7_isMan x M Q := by
  have e0 := T_pred h.2.2.1 hv.2.2.2.1.1 (by have := hv.2.2.2.1.2; omega)
  have z0 : (0 : Int64).toInt = 0 := rfl
  unfold e_X7_isMan
  refine p_in (fun a1 a2 => ⟨rfl, ?_⟩) (fun a1 => ⟨rfl, ?_⟩)
  · rw [iI_L] at a1 a2
    rw [e0] at a2
    rw [z0] at a1
    exact h1 x.toInt.toNat (nat_of a1) (by omega)
  · rw [iI_L, e0, z0] at a1
    exact h0 (by omega)
theorem sm_of {z : Int} (h1 : -1000000000 ≤ z) (h2 : z ≤ 1000000000) : sm z := ⟨by omega, by omega⟩
theorem in6 {f : Nat} (h : f < 6) : vp_in (iI (f : Int)) 6 := (iI_in (sm_of (by omega) (by omega))).mpr ⟨by omega, by omega⟩
theorem cl_nat {f : Nat} (h : f < 100000) : (iI (f : Int)).toNatClampNeg = f := by
  rw [iI_cl (sm_of (by omega) (by omega)) (by omega)]
  omega
theorem sEye_bd {v : vV} (hv : okV v) {f : Nat} (hf : (f : Int) < v.1 2) : 1 ≤ sEye v f ∧ sEye v f ≤ 280 := by
  obtain ⟨h1, h2, h3, h4, h5, h6, h7, h8, h9⟩ := hv
  have := mul_nn (h7 f hf).2.2.1 (h7 f hf).2.2.2 (a := v.2 2 f) (b := v.1 3) (by omega) h5.2
  have := (h7 f hf).2.1
  unfold sEye
  omega
theorem pM_eye {M : vS} {v : vV} (h : shM M v) (hv : okV v) {f : Nat} (hf : (f : Int) < v.1 2) {Q : Int32 → vS → Prop} (hq : Q (iI (sEye v f)) M) : e_X7_eyeOf (iI f) M Q := by
  have hn := hv.2.2.2.1
  unfold e_X7_eyeOf
  refine ⟨in6 (by omega), ?_⟩
  obtain ⟨-, e1, e2⟩ := h.2.2.2.2.2.1 f hf
  rw [cl_nat (by omega), e1, e2, h.2.2.2.1, L1, iI_mul, iI_add, iI_add]
  exact hq
theorem pM_size {z : Int} (hz : sm z) (hz2 : z ≠ -2147483648) {S : vS} {Q : Int32 → vS → Prop} (hq : Q (iI (if 0 ≤ z then z else -z)) S) : e_X7_size (iI z) S Q := by
  unfold e_X7_size
  refine ⟨fun h => ?_, fun h => ?_⟩
  · rw [L0, iI_le ⟨by decide, by decide⟩ hz] at h
    rw [if_pos h] at hq
    exact hq
  · rw [L0, iI_le ⟨by decide, by decide⟩ hz] at h
    rw [if_neg h] at hq
    rw [L0, iI_sub]
    have e : (0 : Int) - z = -z := by omega
    rw [e]
    exact hq
def bI (b : Bool) : Int32 := if b then 1 else 0
theorem pM_clear {M : vS} {v : vV} (h : shM M v) (hv : okV v) {f x y : Nat} (hf : (f : Int) < v.1 2) (hx : x < 100) (hy : y < 100) {far : Int} (h1 : -1 ≤ far) (h2 : far ≤ 1000) {Q : Int32 → vS → Prop} (hq : Q (bI (sClr v f x y far)) M) : e_X7_isClear (iI f) (iI x) (iI y) (iI far) M Q := by
  have hn := hv.2.2.2.1
  have hw := hv.1
  obtain ⟨hp, -⟩ := hv.2.2.2.2.2.2.1 f hf
  obtain ⟨e0, -⟩ := h.2.2.2.2.2.1 f hf
  unfold e_X7_isClear
  refine ⟨in6 (by omega), ?_⟩
  rw [cl_nat (by omega), e0, iI_sub]
  refine pM_size (sm_of (by omega) (by omega)) (by omega) ?_
  have s1 : sm far := sm_of (by omega) (by omega)
  have s2 : sm (if 0 ≤ (x : Int) - v.2 0 f then (x : Int) - v.2 0 f else -((x : Int) - v.2 0 f)) := by
    split <;> exact sm_of (by omega) (by omega)
  have e2 : (if 0 ≤ (x : Int) - v.2 0 f then (x : Int) - v.2 0 f else -((x : Int) - v.2 0 f)) = (if 0 ≤ (x : Int) - v.2 0 f then (x : Int) - v.2 0 f else v.2 0 f - x) := by
    split <;> omega
  rw [L1, iI_add, L0]
  rw [iI_lt s1 (sm_of (by decide) (by decide)), iI_lt s1 s2, iI_lt s1 (sm_of (by omega) (by omega)), e2]
  unfold sClr at hq
  refine ⟨fun c1 => ?_, fun c1 => ⟨fun c2 => ?_, fun c2 => ⟨fun c3 => ?_, fun c3 => ?_⟩⟩⟩
  · rw [decide_eq_true c1] at hq
    exact hq
  · rw [decide_eq_false c1, decide_eq_false (by omega : ¬ (if 0 ≤ (x : Int) - v.2 0 f then (x : Int) - v.2 0 f else v.2 0 f - x) ≤ far)] at hq
    exact hq
  · rw [decide_eq_false c1, decide_eq_false (by omega : ¬ (y : Int) + 1 ≤ far), Bool.and_false] at hq
    exact hq
  · rw [decide_eq_true (by omega : (if 0 ≤ (x : Int) - v.2 0 f then (x : Int) - v.2 0 f else v.2 0 f - x) ≤ far), decide_eq_true (by omega : (y : Int) + 1 ≤ far), Bool.and_true, Bool.or_true] at hq
    exact hq
/-- the loop over the rows before a cell -/
theorem pM_blk_loop {M : vS} {v : vV} (h : shM M v) (hv : okV v) {x y : Nat} {a eye : Int} (hx : (x : Int) < v.1 0) (hy : (y : Int) < v.1 1) (ha : 0 ≤ a) (haw : a < v.1 0) (he : 0 ≤ eye) (he2 : eye ≤ 100000) {Q : Int32 → vS → Prop} :
    ∀ (k z : Nat), z + k = y → Q (iI (sFst (sHigh v eye a x y) (fun z => 100 * sOver a x y z + z) k z)) M → e_X7_blockerOf_11 Q (k + 1) (iI eye) (iI x) (iI y) (iI a) (iI z) M := by
  have hw := hv.1
  have hd := hv.2.1
  have hc := hv.2.2.1
  intro k
  induction k with
  | zero =>
    intro z hz hq
    rw [e_X7_blockerOf_11.eq_2]
    refine ⟨fun _ => hq, fun c => absurd ?_ c⟩
    rw [iI_le (sm_of (by omega) (by omega)) (sm_of (by omega) (by omega))]
    omega
  | succ k ih =>
    intro z hz hq
    rw [e_X7_blockerOf_11.eq_2]
    refine ⟨fun c => ?_, fun _ => ?_⟩
    · rw [iI_le (sm_of (by omega) (by omega)) (sm_of (by omega) (by omega))] at c
      omega
    intro v4 e4 v5 e5
    have f4 : v4 = iI (2 * ((x : Int) - a) * ((z : Int) + 1) + y + 1) := by rw [e4, L1, L2, iI_sub, iI_mul, iI_add, iI_mul, iI_add, iI_add]
    have f5 : v5 = iI (2 * ((y : Int) + 1)) := by rw [e5, L1, L2, iI_add, iI_mul]
    refine ⟨?_, ?_⟩
    · rw [f5, L0, iI_eq (sm_of (by omega) (by omega)) (sm_of (by omega) (by omega))]
      omega
    intro v7 e7
    have b1 := mul_bd (a := (x : Int) - a) (b := (z : Int) + 1) (A := 12) (B := 12) (by omega) (by omega) (by omega) (by omega)
    have e8 : 2 * ((x : Int) - a) * ((z : Int) + 1) = 2 * (((x : Int) - a) * ((z : Int) + 1)) := Int.mul_assoc _ _ _
    obtain ⟨o1, o2⟩ := sOver_in (a := a) (x := x) (y := y) (z := z) (w := v.1 0) ha haw (by omega) hx (by omega) (by omega)
    have f7 : v7 = iI (sOver a x y z) := by
      rw [e7, f4, f5, L100, iI_mul, iI_add, iI_div (sm_of (by omega) (by omega)) (sm_of (by omega) (by omega)) (by omega), iI_add, iI_sub, sOver_ref (by omega)]
    have b2 := mul_nn (a := v.1 0) (b := (z : Int)) (A := v.1 0) (B := v.1 1 - 1) (by omega) (by omega) (by omega) (by omega)
    have e9 : v.1 0 * (v.1 1 - 1) = v.1 0 * v.1 1 - v.1 0 := by rw [Int.mul_sub]; omega
    have f8 : M.1 0 * iI z + v7 = iI (v.1 0 * z + sOver a x y z) := by rw [f7, h.1, iI_mul, iI_add]
    rw [f8]
    refine ⟨(iI_in (sm_of (by omega) (by omega))).mpr ⟨by omega, by omega⟩, ?_⟩
    rw [iI_cl (sm_of (by omega) (by omega)) (by omega), (h.2.2.2.2.2.2 (v.1 0 * z + sOver a x y z).toNat (by omega)).1]
    have b3 := hv.2.2.2.2.2.2.2.1 (v.1 0 * z + sOver a x y z).toNat (by omega)
    generalize hst : v.2 3 (v.1 0 * z + sOver a x y z).toNat = stz at b3
    have b4 := mul_nn (a := stz) (b := (y : Int) + 1) (A := 99) (B := 100) (by omega) (by omega) (by omega) (by omega)
    have b5 := mul_nn (a := eye) (b := (y : Int) - z) (A := 100000) (B := 100) (by omega) (by omega) (by omega) (by omega)
    rw [L1, iI_add, iI_mul, iI_sub, iI_mul, iI_le (sm_of (by omega) (by omega)) (sm_of (by omega) (by omega))]
    rw [sFst] at hq
    have eh : sHigh v eye a x y z = decide (eye * ((y : Int) - z) < stz * ((y : Int) + 1)) := by unfold sHigh; rw [hst]
    rw [eh] at hq
    refine ⟨fun c => ?_, fun c => ?_⟩
    · rw [decide_eq_false (by omega)] at hq
      intro v10 e10
      have f10 : v10 = iI ((z + 1 : Nat) : Int) := by rw [e10, iI_add]; congr 1
      rw [f10]
      exact ih (z + 1) (by omega) hq
    · rw [decide_eq_true (by omega)] at hq
      rw [f7, L100, iI_mul, iI_add]
      exact hq
theorem pM_blk {M : vS} {v : vV} (h : shM M v) (hv : okV v) {f x y : Nat} (hf : (f : Int) < v.1 2) (hx : (x : Int) < v.1 0) (hy : (y : Int) < v.1 1) {eye : Int} (he : 0 ≤ eye) (he2 : eye ≤ 100000) {Q : Int32 → vS → Prop} (hq : Q (iI (sBlk v eye f x y)) M) : e_X7_blockerOf (iI f) (iI eye) (iI x) (iI y) M Q := by
  have hn := hv.2.2.2.1
  obtain ⟨hp, -⟩ := hv.2.2.2.2.2.2.1 f hf
  obtain ⟨e0, -⟩ := h.2.2.2.2.2.1 f hf
  unfold e_X7_blockerOf
  refine ⟨in6 (by omega), ?_⟩
  intro v2 e2
  rw [cl_nat (by omega), e0] at e2
  rw [e2]
  exact ⟨y + 1, pM_blk_loop h hv hx hy hp.1 hp.2 he he2 y 0 (by omega) hq⟩
theorem sFst_bd {P : Nat → Bool} {val : Nat → Int} (hval : ∀ z, -1 ≤ val z ∧ val z ≤ 100000) : ∀ k z, -1 ≤ sFst P val k z ∧ sFst P val k z ≤ 100000
  | 0, z => by simp [sFst]
  | k + 1, z => by
    rw [sFst]
    split
    · exact hval z
    · exact sFst_bd hval k (z + 1)
theorem sFst_bd2 {P : Nat → Bool} {val : Nat → Int} {y : Nat} (hval : ∀ z, z < y → 0 ≤ val z ∧ val z ≤ 100000) : ∀ k z, z + k ≤ y → -1 ≤ sFst P val k z ∧ sFst P val k z ≤ 100000
  | 0, z, _ => by simp [sFst]
  | k + 1, z, hz => by
    rw [sFst]
    have h1 := hval z (by omega)
    split
    · omega
    · exact sFst_bd2 hval k (z + 1) (by omega)
theorem sBlk_bd {v : vV} (hv : okV v) {f x y : Nat} {eye : Int} (hf : (f : Int) < v.1 2) (hx : (x : Int) < v.1 0) (hy : (y : Int) < v.1 1) : -1 ≤ sBlk v eye f x y ∧ sBlk v eye f x y ≤ 100000 := by
  have hw := hv.1
  have hd := hv.2.1
  obtain ⟨hp, -⟩ := hv.2.2.2.2.2.2.1 f hf
  refine sFst_bd2 (y := y) (fun z hz => ?_) y 0 (by omega)
  obtain ⟨o1, o2⟩ := sOver_in (a := v.2 0 f) (x := x) (y := y) (z := z) (w := v.1 0) hp.1 hp.2 (by omega) hx (by omega) (by omega)
  omega
theorem pM_see {M : vS} {v : vV} (h : shM M v) (hv : okV v) {f x y : Nat} (hf : (f : Int) < v.1 2) (hx : (x : Int) < v.1 0) (hy : (y : Int) < v.1 1) {far : Int} (h1 : -1 ≤ far) (h2 : far ≤ 1000) {Q : Int32 → vS → Prop} (hq : Q (bI (sSee v far f x y)) M) : e_X7_canSee (iI f) (iI x) (iI y) (iI far) M Q := by
  have hw := hv.1
  have hd := hv.2.1
  unfold e_X7_canSee
  refine pM_clear h hv hf (by omega) (by omega) h1 h2 ?_
  unfold sSee at hq
  cases hc : sClr v f x y far with
  | false =>
    rw [hc] at hq
    exact ⟨fun _ => hq, fun c => absurd rfl c⟩
  | true =>
    rw [hc] at hq
    refine ⟨fun c => absurd c (by decide), fun _ => ?_⟩
    have be := sEye_bd hv hf
    refine pM_eye h hv hf ?_
    refine pM_blk h hv hf hx hy (by omega) (by omega) ?_
    have bb := sBlk_bd hv (eye := sEye v f) hf hx hy
    rw [L0, iI_le (sm_of (by decide) (by decide)) (sm_of (by omega) (by omega))]
    refine ⟨fun c => ?_, fun c => ?_⟩
    · rw [decide_eq_false (by omega)] at hq
      exact hq
    · rw [decide_eq_true (by omega)] at hq
      exact hq
