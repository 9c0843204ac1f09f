/-! ===== the view: what sight depends on, in integers ===== -/
/-- numbers: 0 wide, 1 deep, 2 men, 3 a storey's height, 4 the law; rows: 0 place, 1 ground, 2 storeys, 3 what stands, 4 fish -/
abbrev vV : Type := (Nat → Int) × (Nat → Nat → Int)
def vu (v : vV) (a k : Nat) (x : Int) : vV := (v.1, fun b j => if b = a then (if j = k then x else v.2 b j) else v.2 b j)
/-- a state shows the view, by the places of its numbers and rows -/
def sh (S : vS) (iw id0 im ih il rp rg rs rd rf : Nat) (v : vV) : Prop :=
  S.1 iw = iI (v.1 0) ∧ S.1 id0 = iI (v.1 1) ∧ S.1 im = iI (v.1 2) ∧ S.1 ih = iI (v.1 3) ∧ S.1 il = iI (v.1 4) ∧
  (∀ f : Nat, (f : Int) < v.1 2 → S.2.1 rp f = iI (v.2 0 f) ∧ S.2.1 rg f = iI (v.2 1 f) ∧ S.2.1 rs f = iI (v.2 2 f)) ∧
  (∀ k : Nat, k < 60 → S.2.1 rd k = iI (v.2 3 k) ∧ (0 < v.1 0 → S.2.1 rf k = iI (v.2 4 k)))
abbrev shM (S : vS) (v : vV) : Prop := sh S 0 1 2 4 6 0 1 6 8 4 v
abbrev shC (S : vS) (v : vV) : Prop := sh S 0 1 2 4 17 1 2 21 23 5 v
/-- the bounds of a view -/
def okV (v : vV) : Prop :=
  (0 ≤ v.1 0 ∧ v.1 0 ≤ 12) ∧ (0 ≤ v.1 1 ∧ v.1 1 ≤ 12) ∧ v.1 0 * v.1 1 ≤ 60 ∧ (0 ≤ v.1 2 ∧ v.1 2 ≤ 6) ∧ (1 ≤ v.1 3 ∧ v.1 3 ≤ 20) ∧ (0 ≤ v.1 4 ∧ v.1 4 ≤ 2) ∧
  (∀ f : Nat, (f : Int) < v.1 2 → (0 ≤ v.2 0 f ∧ v.2 0 f < v.1 0) ∧ (0 ≤ v.2 1 f ∧ v.2 1 f ≤ 99) ∧ (0 ≤ v.2 2 f ∧ v.2 2 f ≤ 9)) ∧
  (∀ k : Nat, k < 60 → (0 ≤ v.2 3 k ∧ v.2 3 k ≤ 99) ∧ (0 ≤ v.2 4 k ∧ v.2 4 k ≤ 99)) ∧ (0 < v.1 2 → 0 < v.1 1) ∧ (0 < v.1 0 ↔ 0 < v.1 1)
/-- the eye -/
def sEye (v : vV) (f : Nat) : Int := v.2 1 f + v.2 2 f * v.1 3 + 1
/-- the line's place over row z -/
def sOver (a x y z : Int) : Int := (2 * (a * (y + 1) + (x - a) * (z + 1)) + (y + 1)) / (2 * (y + 1))
/-- the first z < y (k of them are left, from z on) where P holds, and its word; else -1 -/
def sFst (P : Nat → Bool) (val : Nat → Int) : Nat → Nat → Int
  | 0, _ => -1
  | k + 1, z => if P z then val z else sFst P val k (z + 1)
/-- what stands over row z blocks the view from an eye -/
def sHigh (v : vV) (eye : Int) (a x y : Int) (z : Nat) : Bool := decide (eye * (y - z) < v.2 3 (v.1 0 * z + sOver a x y z).toNat * (y + 1))
def sBlk (v : vV) (eye : Int) (f : Nat) (x y : Nat) : Int := sFst (sHigh v eye (v.2 0 f) x y) (fun z => 100 * sOver (v.2 0 f) x y z + z) y 0
/-- mist: far = -1 is none -/
def sClr (v : vV) (f : Nat) (x y far : Int) : Bool := decide (far < 0) || (decide ((if 0 ≤ x - v.2 0 f then x - v.2 0 f else v.2 0 f - x) ≤ far) && decide (y + 1 ≤ far))
def sSee (v : vV) (far : Int) (f x y : Nat) : Bool := sClr v f x y far && decide (sBlk v (sEye v f) f x y < 0)
theorem sOver_in {a x y z w : Int} (ha : 0 ≤ a) (haw : a < w) (hx : 0 ≤ x) (hxw : x < w) (hz : 0 ≤ z) (hzy : z < y) : 0 ≤ sOver a x y z ∧ sOver a x y z < w := by
  unfold sOver
  have e : a * (y + 1) + (x - a) * (z + 1) = a * (y - z) + x * (z + 1) := by
    rw [Int.sub_mul, Int.mul_add, Int.mul_sub, Int.mul_add a z 1]
    omega
  have h1 : 0 ≤ a * (y - z) := Int.mul_nonneg ha (by omega)
  have h2 : 0 ≤ x * (z + 1) := Int.mul_nonneg hx (by omega)
  have h3 : a * (y - z) ≤ (w - 1) * (y - z) := Int.mul_le_mul_of_nonneg_right (by omega) (by omega)
  have h4 : x * (z + 1) ≤ (w - 1) * (z + 1) := Int.mul_le_mul_of_nonneg_right (by omega) (by omega)
  have h5 : (w - 1) * (y - z) + (w - 1) * (z + 1) = (w - 1) * (y + 1) := by rw [← Int.mul_add]; congr 1; omega
  rw [e]
  constructor
  · exact Int.ediv_nonneg (by omega) (by omega)
  · refine Int.ediv_lt_of_lt_mul (by omega) ?_
    have h6 : w * (2 * (y + 1)) = 2 * ((w - 1) * (y + 1)) + 2 * (y + 1) := by
      rw [Int.sub_mul, Int.mul_left_comm]
      omega
    omega
/-- the reference's way to the same place -/
theorem sOver_ref {a x y z : Int} (hy : 0 ≤ y) : a + (2 * (x - a) * (z + 1) + y + 1 + 100 * (2 * (y + 1))) / (2 * (y + 1)) - 100 = sOver a x y z := by
  unfold sOver
  have hp : (2 * (y + 1)) ≠ 0 := by omega
  rw [Int.add_mul_ediv_right _ _ hp]
  have e : 2 * (a * (y + 1) + (x - a) * (z + 1)) + (y + 1) = (2 * (x - a) * (z + 1) + y + 1) + a * (2 * (y + 1)) := by
    rw [Int.mul_assoc 2 (x - a), Int.mul_add 2, Int.mul_left_comm a 2]
    omega
  rw [e, Int.add_mul_ediv_right _ _ hp]
  omega
