/-! ===== the class's sight, in the view's words ===== -/
theorem if_le {a b : Int} (ha : sm a) (hb : sm b) (x y : Int32) : (if iI a ≤ iI b then x else y) = if a ≤ b then x else y := by
  by_cases h : a ≤ b
  · rw [if_pos h, if_pos ((iI_le ha hb).mpr h)]
  · rw [if_neg h, if_neg (fun z => h ((iI_le ha hb).mp z))]
theorem if_lt {a b : Int} (ha : sm a) (hb : sm b) (x y : Int32) : (if iI a < iI b then x else y) = if a < b then x else y := by
  by_cases h : a < b
  · rw [if_pos h, if_pos ((iI_lt ha hb).mpr h)]
  · rw [if_neg h, if_neg (fun z => h ((iI_lt ha hb).mp z))]
theorem L60 : (60 : Int32) = iI 60 := rfl
theorem L31 : (31 : Int32) = iI 31 := rfl
theorem pC_hasCell {C : vS} {v : vV} (h : shC C v) (hv : okV v) {x y : Int32} {Q : Int32 → vS → Prop} (h1 : ∀ a b : Nat, x = iI a → y = iI b → (a : Int) < v.1 0 → (b : Int) < v.1 1 → Q 1 C) (h0 : (x.toInt < 0 ∨ v.1 0 ≤ x.toInt ∨ y.toInt < 0 ∨ v.1 1 ≤ y.toInt) → Q 0 C) : e_X2_hasCell_plan x y C Q := by
  have hw := hv.1
  have hd := hv.2.1
  have ex : x < 0 ↔ x.toInt < 0 := by rw [Int32.lt_iff_toInt_lt]; rfl
  have ey : y < 0 ↔ y.toInt < 0 := by rw [Int32.lt_iff_toInt_lt]; rfl
  have ew : C.1 0 ≤ x ↔ v.1 0 ≤ x.toInt := by rw [Int32.le_iff_toInt_le, h.1, iI_T (sm_of (by omega) (by omega))]
  have ed : C.1 1 ≤ y ↔ v.1 1 ≤ y.toInt := by rw [Int32.le_iff_toInt_le, h.2.1, iI_T (sm_of (by omega) (by omega))]
  unfold e_X2_hasCell_plan
  rw [ex, ey, ew, ed]
  refine ⟨fun c => h0 (by omega), fun c1 => ⟨fun c => h0 (by omega), fun c2 => ⟨fun c => h0 (by omega), fun c3 => ⟨fun c => h0 (by omega), fun c4 => ?_⟩⟩⟩⟩
  exact h1 x.toInt.toNat y.toInt.toNat (nat_of (by omega)) (nat_of (by omega)) (by omega) (by omega)
theorem pC_hasMan {C : vS} {v : vV} (h : shC C v) (hv : okV v) {x : Int32} {Q : Int32 → vS → Prop} (h1 : ∀ f : Nat, x = iI f → (f : Int) < v.1 2 → Q 1 C) (h0 : (x.toInt < 0 ∨ v.1 2 ≤ x.toInt) → Q 0 C) : e_X2_hasMan_plan x C Q := by
  have hn := hv.2.2.2.1
  have ex : x < 0 ↔ x.toInt < 0 := by rw [Int32.lt_iff_toInt_lt]; rfl
  have ew : C.1 2 ≤ x ↔ v.1 2 ≤ x.toInt := by rw [Int32.le_iff_toInt_le, h.2.2.1, iI_T (sm_of (by omega) (by omega))]
  unfold e_X2_hasMan_plan
  rw [ex, ew]
  refine ⟨fun c => h0 (by omega), fun c1 => ⟨fun c => h0 (by omega), fun c2 => ?_⟩⟩
  exact h1 x.toInt.toNat (nat_of (by omega)) (by omega)
theorem pC_far_loop {C : vS} {v : vV} (h : shFC C v) (hv : okF v) {day : Int32} {Q : Int32 → vS → Prop} (hq : Q (iI (sFarN v day.toInt)) C) :
    ∀ (r k : Nat), ((k + r : Nat) : Int) = v.1 5 → e_X2_farOn_plan_4 Q (r + 1) day (iI (sFar v day.toInt k)) (iI (k : Int)) C := by
  have hb := hv.1
  intro r
  induction r with
  | zero =>
    intro k hk
    rw [e_X2_farOn_plan_4.eq_2, h.1, iI_le (sm_of (by omega) (by omega)) (sm_of (by omega) (by omega))]
    refine ⟨fun _ => ?_, fun c => absurd (by omega) c⟩
    have e : (v.1 5).toNat = k := by omega
    unfold sFarN at hq
    rw [e] at hq
    exact hq
  | succ r ih =>
    intro k hk
    have b0 := sFar_bd hv day.toInt k (by omega)
    obtain ⟨m1, m2, m3⟩ := h.2 k (by omega)
    obtain ⟨q1, q2, q3⟩ := hv.2 k (by omega)
    have nx : ∀ u : Int32, u = iI (k : Int) + 1 → u = iI ((k + 1 : Nat) : Int) := fun u hu => by rw [hu, L1, iI_add]; rfl
    have e1 : day < iI (v.2 5 k) ↔ day.toInt < v.2 5 k := by rw [Int32.lt_iff_toInt_lt, iI_T (sm_of (by omega) (by omega))]
    have e2 : iI (v.2 6 k) < day ↔ v.2 6 k < day.toInt := by rw [Int32.lt_iff_toInt_lt, iI_T (sm_of (by omega) (by omega))]
    have h3 := ih (k + 1) (by omega)
    rw [sFar] at h3
    have cut0 : ∀ K : Int32 → Int32 → Int32 → vS → Prop, K day (iI (sFar v day.toInt k)) (iI ((k + 1 : Nat) : Int)) C → e_X2_farOn_plan_37 K Q day (iI (sFar v day.toInt k)) (iI (k : Int)) 0 C := by
      intro K hK
      refine ⟨fun _ u hu => ?_, fun c => absurd rfl c⟩
      rw [nx u hu]
      exact hK
    rw [e_X2_farOn_plan_4.eq_2, h.1, iI_le (sm_of (by omega) (by omega)) (sm_of (by omega) (by omega)), cl_nat (by omega), m1, m2, e1, e2]
    refine ⟨fun c => absurd c (by omega), fun _ => ⟨in_nat (by omega) (by omega) (by omega), fun c => ?_, fun c => ⟨fun c2 => ?_, fun c2 => ?_⟩⟩⟩
    · rw [if_neg (by omega)] at h3
      exact cut0 _ h3
    · rw [if_neg (by omega)] at h3
      exact cut0 _ h3
    · refine ⟨fun c => absurd c (by decide), fun _ => ?_⟩
      rw [cl_nat (by omega), m3, Lm1, iI_eq (sm_of (by omega) (by omega)) (sm_of (by decide) (by decide)), iI_le (sm_of (by omega) (by omega)) (sm_of (by omega) (by omega))]
      refine ⟨fun c3 => ⟨in_nat (by omega) (by omega) (by omega), fun v9 e9 v10 e10 => ?_⟩, fun c3 => ⟨in_nat (by omega) (by omega) (by omega), fun c4 v13 e13 => ?_, fun c4 v14 e14 v15 e15 => ?_⟩⟩
      · rw [if_pos (by omega)] at h3
        rw [e9, nx v10 e10]
        exact h3
      · rw [if_neg (by omega)] at h3
        rw [nx v13 e13]
        exact h3
      · rw [if_pos (by omega)] at h3
        rw [e14, nx v15 e15]
        exact h3
theorem pC_far {C : vS} {v : vV} (h : shFC C v) (hv : okF v) {day : Int32} {Q : Int32 → vS → Prop} (hq : Q (iI (sFarN v day.toInt)) C) : e_X2_farOn_plan day C Q := ⟨(v.1 5).toNat + 1, pC_far_loop h hv hq (v.1 5).toNat 0 (by have := hv.1; omega)⟩
theorem pC_eye {C : vS} {v : vV} (h : shC C v) (hv : okV v) {f : Nat} (hf : (f : Int) < v.1 2) {Q : Int32 → vS → Prop} (hq : Q (iI (sEye v f)) C) : e_X4_eyeOf (iI f) C Q := by
  have hn := hv.2.2.2.1
  unfold e_X4_eyeOf
  refine ⟨in6 (by omega), ?_⟩
  obtain ⟨-, e1, e2⟩ := h.2.2.2.2.2.1 f hf
  rw [cl_nat (by omega), e1, e2, h.2.2.2.1, L1, iI_mul, iI_add, iI_add]
  exact hq
theorem pC_line {C : vS} {v : vV} (h : shC C v) (hv : okV v) {f x y z : Nat} (hf : (f : Int) < v.1 2) (hx : (x : Int) < v.1 0) (hy : (y : Int) < v.1 1) (hz : z < y) {Q : Int32 → vS → Prop} (hq : Q (iI (sOver (v.2 0 f) x y z)) C) : e_X4_lineX (iI f) (iI x) (iI y) (iI z) C Q := by
  have hn := hv.2.2.2.1
  have hw := hv.1
  have hd := hv.2.1
  obtain ⟨e0, -⟩ := h.2.2.2.2.2.1 f hf
  obtain ⟨hp, -⟩ := hv.2.2.2.2.2.2.1 f hf
  unfold e_X4_lineX
  refine ⟨in6 (by omega), ?_⟩
  rw [cl_nat (by omega), e0]
  intro v2 e2 v3 e3 v4 e4
  have b1 := mul_bd (a := (x : Int) - v.2 0 f) (b := (z : Int) + 1) (A := 12) (B := 12) (by omega) (by omega) (by omega) (by omega)
  have b2 := mul_nn (a := v.2 0 f) (b := (y : Int) + 1) (A := 12) (B := 13) (by omega) (by omega) (by omega) (by omega)
  have f3 : v3 = iI ((y : Int) + 1) := by rw [e3, L1, iI_add]
  have f4 : v4 = iI (v.2 0 f * ((y : Int) + 1) + ((x : Int) - v.2 0 f) * ((z : Int) + 1)) := by rw [e4, e2, f3, L1, iI_mul, iI_sub, iI_add, iI_mul, iI_add]
  have pos : 0 ≤ v.2 0 f * ((y : Int) + 1) + ((x : Int) - v.2 0 f) * ((z : Int) + 1) := by
    have e : v.2 0 f * ((y : Int) + 1) + ((x : Int) - v.2 0 f) * ((z : Int) + 1) = v.2 0 f * ((y : Int) - z) + x * ((z : Int) + 1) := by
      rw [Int.sub_mul, Int.mul_add, Int.mul_sub, Int.mul_add (v.2 0 f) z 1]
      omega
    have h1 : 0 ≤ v.2 0 f * ((y : Int) - z) := Int.mul_nonneg hp.1 (by omega)
    have h2 : 0 ≤ (x : Int) * ((z : Int) + 1) := Int.mul_nonneg (by omega) (by omega)
    omega
  rw [f3, f4, L2, iI_mul, iI_mul, iI_add]
  refine ⟨?_, ?_⟩
  · rw [L0, iI_eq (sm_of (by omega) (by omega)) (sm_of (by decide) (by decide))]
    omega
  · rw [iI_div (sm_of (by omega) (by omega)) (sm_of (by omega) (by omega)) (by omega)]
    exact hq
theorem pC_num {C : vS} {v : vV} (h : shC C v) (hv : okV v) {x y : Nat} {Q : Int32 → vS → Prop} (hq : Q (iI ((wN v * y + x : Nat) : Int)) C) : e_X2_numberOf_plan (iI x) (iI y) C Q := by
  unfold e_X2_numberOf_plan
  rw [h.1, iI_mul, iI_add]
  rw [Int.natCast_add, Int.natCast_mul, wN_eq hv, Int.mul_comm] at hq
  exact hq
theorem pC_blk_loop {C : vS} {v : vV} (h : shC C v) (hv : okV v) {f x y : Nat} {eye : Int} (hf : (f : Int) < v.1 2) (hx : (x : Int) < v.1 0) (hy : (y : Int) < v.1 1) (he : 0 ≤ eye) (he2 : eye ≤ 100000) {Q : Int32 → vS → Prop} :
    ∀ (k z : Nat), z + k = y → Q (iI (sFst (sHigh v eye (v.2 0 f) x y) (fun z => 100 * sOver (v.2 0 f) x y z + z) k z)) C → e_X4_firstBlock_10 Q (k + 1) (iI f) (iI x) (iI y) (iI eye) (iI z) C := by
  have hw := hv.1
  have hd := hv.2.1
  have ew := wN_eq hv
  obtain ⟨hp, -⟩ := hv.2.2.2.2.2.2.1 f hf
  intro k
  induction k with
  | zero =>
    intro z hz hq
    rw [e_X4_firstBlock_10.eq_2, iI_le (sm_of (by omega) (by omega)) (sm_of (by omega) (by omega))]
    exact ⟨fun _ => hq, fun c => absurd (by omega) c⟩
  | succ k ih =>
    intro z hz hq
    rw [e_X4_firstBlock_10.eq_2, iI_le (sm_of (by omega) (by omega)) (sm_of (by omega) (by omega))]
    refine ⟨fun c => absurd c (by omega), fun _ => ?_⟩
    refine pC_line h hv hf hx hy (by omega) ?_
    obtain ⟨o1, o2⟩ := sOver_in (a := v.2 0 f) (x := x) (y := y) (z := z) (w := v.1 0) hp.1 hp.2 (by omega) hx (by omega) (by omega)
    have eo : sOver (v.2 0 f) x y z = ((sOver (v.2 0 f) x y z).toNat : Int) := (Int.toNat_of_nonneg o1).symm
    rw [eo]
    refine pC_num h hv ?_
    obtain ⟨i1, -⟩ := idx_lt hv (x := (sOver (v.2 0 f) x y z).toNat) (y := z) (by omega) (by omega)
    have ei : wN v * z + (sOver (v.2 0 f) x y z).toNat = (v.1 0 * z + sOver (v.2 0 f) x y z).toNat := by
      have e1 : ((wN v * z + (sOver (v.2 0 f) x y z).toNat : Nat) : Int) = v.1 0 * z + sOver (v.2 0 f) x y z := by
        rw [Int.natCast_add, Int.natCast_mul, ew, Int.toNat_of_nonneg o1]
      omega
    refine ⟨in_nat (by omega) (by omega) (by omega), ?_⟩
    rw [cl_nat (by omega), (h.2.2.2.2.2.2 _ i1).1, ei]
    rw [ei] at i1
    have b3 := hv.2.2.2.2.2.2.2.1 (v.1 0 * z + sOver (v.2 0 f) x y z).toNat i1
    rw [sFst] at hq
    have eh : sHigh v eye (v.2 0 f) x y z = decide (eye * ((y : Int) - z) < v.2 3 (v.1 0 * z + sOver (v.2 0 f) x y z).toNat * ((y : Int) + 1)) := rfl
    rw [eh] at hq
    generalize v.2 3 (v.1 0 * z + sOver (v.2 0 f) x y z).toNat = stz at b3 hq ⊢
    have b4 := mul_nn (a := stz) (b := (y : Int) + 1) (A := 99) (B := 100) (by omega) (by omega) (by omega) (by omega)
    have b5 := mul_nn (a := eye) (b := (y : Int) - z) (A := 100000) (B := 100) (by omega) (by omega) (by omega) (by omega)
    rw [L1, iI_add, iI_mul, iI_sub, iI_mul, iI_le (sm_of (by omega) (by omega)) (sm_of (by omega) (by omega))]
    refine ⟨fun c => ?_, fun c => ?_⟩
    · rw [decide_eq_false (by omega)] at hq
      intro v10 e10
      have f10 : v10 = iI ((z + 1 : Nat) : Int) := by rw [e10, iI_add]; rfl
      rw [f10]
      exact ih (z + 1) (by omega) hq
    · rw [decide_eq_true (by omega)] at hq
      unfold e_X6_placeOf
      rw [L100, iI_mul, iI_add, ← eo]
      exact hq
theorem pC_blk {C : vS} {v : vV} (h : shC C v) (hv : okV v) {f x y : Nat} (hf : (f : Int) < v.1 2) (hx : (x : Int) < v.1 0) (hy : (y : Int) < v.1 1) {Q : Int32 → vS → Prop} (hq : Q (iI (sBlk v (sEye v f) f x y)) C) : e_X4_firstBlock (iI f) (iI x) (iI y) C Q := by
  have be := sEye_bd hv hf
  unfold e_X4_firstBlock
  exact pC_eye h hv hf ⟨y + 1, pC_blk_loop h hv hf hx hy (by omega) (by omega) y 0 (by omega) hq⟩
theorem pC_reach {C : vS} {v : vV} (h : shC C v) (hv : okV v) {f x y : Nat} (hf : (f : Int) < v.1 2) (hx : x < 100) (hy : y < 100) {far : Int} (h1 : -1 ≤ far) (h2 : far ≤ 1000) {Q : Int32 → vS → Prop} (hq : Q (bI (sClr v f x y far)) C) : e_X4_inReach (iI f) (iI x) (iI y) (iI far) C Q := by
  have hn := hv.2.2.2.1
  have hw := hv.1
  obtain ⟨hp, -⟩ := hv.2.2.2.2.2.2.1 f hf
  obtain ⟨e0, -⟩ := h.2.2.2.2.2.1 f hf
  unfold e_X4_inReach
  have e1 : (if 0 ≤ iI (x : Int) - iI (v.2 0 f) then iI (x : Int) - iI (v.2 0 f) else 0 - (iI (x : Int) - iI (v.2 0 f))) = iI (if 0 ≤ (x : Int) - v.2 0 f then (x : Int) - v.2 0 f else v.2 0 f - x) := by
    rw [iI_sub, L0, if_le (sm_of (by decide) (by decide)) (sm_of (by omega) (by omega)), iI_sub]
    split
    · rfl
    · congr 1
      omega
  generalize ha : (if 0 ≤ (x : Int) - v.2 0 f then (x : Int) - v.2 0 f else v.2 0 f - x) = a at e1
  have ba : 0 ≤ a ∧ a ≤ 200 := by
    rw [← ha]
    split <;> omega
  have e2 : (if iI a < iI (y : Int) + 1 then iI (y : Int) + 1 else iI a) = iI (if a < (y : Int) + 1 then (y : Int) + 1 else a) := by
    rw [L1, iI_add, if_lt (sm_of (by omega) (by omega)) (sm_of (by omega) (by omega))]
    split <;> rfl
  have b3 : 0 ≤ (if a < (y : Int) + 1 then (y : Int) + 1 else a) ∧ (if a < (y : Int) + 1 then (y : Int) + 1 else a) ≤ 200 := by split <;> omega
  rw [cl_nat (by omega), e0, e1, e2, Lm1, iI_eq (sm_of (by omega) (by omega)) (sm_of (by decide) (by decide)), iI_lt (sm_of (by omega) (by omega)) (sm_of (by omega) (by omega))]
  unfold sClr at hq
  rw [ha] at hq
  refine ⟨fun c => ?_, fun c => ⟨in6 (by omega), fun c2 => ?_, fun c2 => ?_⟩⟩
  · rw [decide_eq_true (by omega)] at hq
    exact hq
  · have c3 : ¬ (a ≤ far ∧ (y : Int) + 1 ≤ far) := by
      intro z
      split at c2 <;> omega
    rw [decide_eq_false (by omega), Bool.false_or, ← Bool.decide_and, decide_eq_false c3] at hq
    exact hq
  · have c3 : a ≤ far ∧ (y : Int) + 1 ≤ far := by
      split at c2 <;> omega
    rw [decide_eq_false (by omega), Bool.false_or, ← Bool.decide_and, decide_eq_true c3] at hq
    exact hq
theorem pC_see {C : vS} {v : vV} (h : shC C v) (hv : okV v) {f x y : Nat} (hf : (f : Int) < v.1 2) (hx : (x : Int) < v.1 0) (hy : (y : Int) < v.1 1) {far : Int} (h1 : -1 ≤ far) (h2 : far ≤ 1000) {Q : Int32 → vS → Prop} (hq : Q (bI (sSee v far f x y)) C) : e_X4_canSee (iI f) (iI x) (iI y) (iI far) C Q := by
  have hw := hv.1
  have hd := hv.2.1
  unfold e_X4_canSee
  refine pC_reach h hv hf (by omega) (by omega) h1 h2 ?_
  unfold sSee at hq
  cases hc : sClr v f x y far with
  | false =>
    rw [hc] at hq
    exact ⟨fun _ => hq, fun c => absurd rfl c⟩
  | true =>
    rw [hc] at hq
    refine ⟨fun c => absurd c (by decide), fun _ => ?_⟩
    refine pC_blk h hv hf hx hy ?_
    have bb := sBlk_bd hv (eye := sEye v f) hf hx hy
    rw [Lm1, iI_eq (sm_of (by omega) (by omega)) (sm_of (by decide) (by decide))]
    refine ⟨fun c => ?_, fun c => ?_⟩
    · rw [decide_eq_false (by omega)] at hq
      exact hq
    · rw [decide_eq_true (by omega)] at hq
      exact hq
