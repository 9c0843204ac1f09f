/-! ===== needed ===== -/
/-- the least eye that what stands over row z doesn't block -/
def sCeil (v : vV) (a x y : Int) (z : Nat) : Int := (v.2 3 (v.1 0 * z + sOver a x y z).toNat * (y + 1) + (y - z) - 1) / (y - z)
def sNF (v : vV) (a x y : Int) : Nat → Int
  | 0 => 0
  | k + 1 => if sNF v a x y k < sCeil v a x y k then sCeil v a x y k else sNF v a x y k
def sNeed (v : vV) (far : Int) (f : Nat) : Nat → Int
  | 0 => 0
  | k + 1 => if sClr v f ((k % wN v : Nat) : Int) ((k / wN v : Nat) : Int) far ∧ sNeed v far f k < sNF v (v.2 0 f) ((k % wN v : Nat) : Int) ((k / wN v : Nat) : Int) (k / wN v) then sNF v (v.2 0 f) ((k % wN v : Nat) : Int) ((k / wN v : Nat) : Int) (k / wN v) else sNeed v far f k
def sAll (v : vV) (far : Int) (f : Nat) (eye : Int) : Nat → Bool
  | 0 => true
  | k + 1 => sAll v far f eye k && (!sClr v f ((k % wN v : Nat) : Int) ((k / wN v : Nat) : Int) far || decide (sBlk v eye f (k % wN v) (k / wN v) < 0))
theorem ceil_le {p q e : Int} (hq : 0 < q) : (p + q - 1) / q ≤ e ↔ p ≤ e * q := by
  constructor
  · intro h
    have h1 : (p + q - 1) < (e + 1) * q := by
      have := Int.lt_mul_of_ediv_lt hq (show (p + q - 1) / q < e + 1 by omega)
      exact this
    rw [Int.add_mul] at h1
    omega
  · intro h
    have h1 : (p + q - 1) / q < e + 1 := by
      refine Int.ediv_lt_of_lt_mul hq ?_
      rw [Int.add_mul]
      omega
    omega
theorem sFst_neg {P : Nat → Bool} {val : Nat → Int} : ∀ (k z : Nat), (∀ j, z ≤ j → j < z + k → 0 ≤ val j) → (sFst P val k z < 0 ↔ ∀ j, z ≤ j → j < z + k → P j = false)
  | 0, z, _ => by
    constructor
    · intro _ j h1 h2
      omega
    · intro _
      show (-1 : Int) < 0
      decide
  | k + 1, z, h => by
    rw [sFst]
    have ih := sFst_neg (P := P) (val := val) k (z + 1) (fun j h1 h2 => h j (by omega) (by omega))
    cases hp : P z with
    | true =>
      rw [if_pos rfl]
      constructor
      · intro q
        have := h z (by omega) (by omega)
        omega
      · intro q
        have := q z (by omega) (by omega)
        rw [hp] at this
        exact absurd this (by decide)
    | false =>
      rw [if_neg (by decide), ih]
      constructor
      · intro q j h1 h2
        by_cases e : j = z
        · rw [e]
          exact hp
        · exact q j (by omega) (by omega)
      · intro q j h1 h2
        exact q j (by omega) (by omega)
theorem sNF_le {v : vV} {a x y e : Int} (he : 0 ≤ e) : ∀ k : Nat, sNF v a x y k ≤ e ↔ ∀ j, j < k → sCeil v a x y j ≤ e
  | 0 => by
    constructor
    · intro _ j hj
      omega
    · intro _
      exact he
  | k + 1 => by
    have ih := sNF_le (v := v) (a := a) (x := x) (y := y) he k
    rw [sNF]
    constructor
    · intro q j hj
      by_cases ej : j = k
      · rw [ej]
        split at q
        · exact q
        · omega
      · have q2 : sNF v a x y k ≤ e := by
          split at q
          · omega
          · exact q
        exact ih.mp q2 j (by omega)
    · intro q
      have q1 := q k (by omega)
      have q2 := ih.mpr (fun j hj => q j (by omega))
      split
      · exact q1
      · exact q2
theorem sBlk_NF {v : vV} (hv : okV v) {f x y : Nat} (hf : (f : Int) < v.1 2) (hx : (x : Int) < v.1 0) (hy : (y : Int) < v.1 1) {eye : Int} (he : 0 ≤ eye) : sBlk v eye f x y < 0 ↔ sNF v (v.2 0 f) x y y ≤ eye := by
  obtain ⟨hp, -⟩ := hv.2.2.2.2.2.2.1 f hf
  rw [sNF_le he]
  unfold sBlk
  rw [sFst_neg y 0 (fun j _ hj => by
    obtain ⟨o1, o2⟩ := sOver_in (a := v.2 0 f) (x := x) (y := y) (z := j) (w := v.1 0) hp.1 hp.2 (by omega) hx (by omega) (by omega)
    omega)]
  constructor
  · intro q j hj
    have h1 := q j (by omega) (by omega)
    unfold sCeil
    rw [ceil_le (by omega)]
    unfold sHigh at h1
    have h2 := of_decide_eq_false h1
    omega
  · intro q j _ hj
    have h1 := q j (by omega)
    unfold sCeil at h1
    rw [ceil_le (by omega)] at h1
    unfold sHigh
    refine decide_eq_false ?_
    omega
theorem sNeed_all {v : vV} (hv : okV v) {far : Int} {f : Nat} (hf : (f : Int) < v.1 2) {eye : Int} (he : 0 ≤ eye) : ∀ k : Nat, k ≤ cN v → (sNeed v far f k ≤ eye ↔ sAll v far f eye k = true)
  | 0, _ => by
    constructor
    · intro _
      rfl
    · intro _
      exact he
  | k + 1, hk => by
    have ih := sNeed_all hv (far := far) hf he k (by omega)
    obtain ⟨h1, h2, -⟩ := kxy hv (show k < cN v by omega)
    have hb := sBlk_NF hv hf h1 h2 he
    rw [sNeed, sAll, Bool.and_eq_true, ← ih]
    cases hc : sClr v f ((k % wN v : Nat) : Int) ((k / wN v : Nat) : Int) far with
    | false =>
      rw [if_neg (fun z => absurd z.1 (by decide))]
      constructor
      · intro q
        exact ⟨q, rfl⟩
      · intro q
        exact q.1
    | true =>
      have e1 : ((!true || decide (sBlk v eye f (k % wN v) (k / wN v) < 0)) = true) ↔ sBlk v eye f (k % wN v) (k / wN v) < 0 := by
        rw [Bool.not_true, Bool.false_or, decide_eq_true_iff]
      rw [e1, hb]
      by_cases c : sNeed v far f k < sNF v (v.2 0 f) ((k % wN v : Nat) : Int) ((k / wN v : Nat) : Int) (k / wN v)
      · rw [if_pos ⟨rfl, c⟩]
        omega
      · rw [if_neg (fun z => c z.2)]
        omega
theorem sCeil_bd {v : vV} (hv : okV v) {f x y j : Nat} (hf : (f : Int) < v.1 2) (hx : (x : Int) < v.1 0) (hy : (y : Int) < v.1 1) (hj : j < y) : 0 ≤ sCeil v (v.2 0 f) x y j ∧ sCeil v (v.2 0 f) x y j ≤ 10000 := by
  obtain ⟨hp, -⟩ := hv.2.2.2.2.2.2.1 f hf
  have hwd := hv.1
  have hd := hv.2.1
  obtain ⟨o1, o2⟩ := sOver_in (a := v.2 0 f) (x := x) (y := y) (z := j) (w := v.1 0) hp.1 hp.2 (by omega) hx (by omega) (by omega)
  have ew := wN_eq hv
  have e1 : ((wN v * j + (sOver (v.2 0 f) x y j).toNat : Nat) : Int) = v.1 0 * j + sOver (v.2 0 f) x y j := by
    rw [Int.natCast_add, Int.natCast_mul, ew, Int.toNat_of_nonneg o1]
  have i1 := (idx_lt hv (x := (sOver (v.2 0 f) x y j).toNat) (y := j) (by omega) (by omega)).1
  have b3 := (hv.2.2.2.2.2.2.2.1 (v.1 0 * j + sOver (v.2 0 f) x y j).toNat (by omega)).1
  unfold sCeil
  generalize v.2 3 (v.1 0 * j + sOver (v.2 0 f) x y j).toNat = st at b3
  have m1 := mul_nn (a := st) (b := (y : Int) + 1) (A := 99) (B := 13) (by omega) (by omega) (by omega) (by omega)
  refine ⟨Int.ediv_nonneg (by omega) (by omega), ?_⟩
  have := Int.ediv_le_self (a := st * ((y : Int) + 1) + ((y : Int) - j) - 1) ((y : Int) - j) (by omega)
  omega
theorem sNF_bd {v : vV} (hv : okV v) {f x y : Nat} (hf : (f : Int) < v.1 2) (hx : (x : Int) < v.1 0) (hy : (y : Int) < v.1 1) : ∀ k : Nat, k ≤ y → 0 ≤ sNF v (v.2 0 f) x y k ∧ sNF v (v.2 0 f) x y k ≤ 10000
  | 0, _ => by simp [sNF]
  | k + 1, hk => by
    have ih := sNF_bd hv hf hx hy k (by omega)
    have b := sCeil_bd hv hf hx hy (j := k) (by omega)
    rw [sNF]
    split <;> omega
theorem sNeed_bd {v : vV} (hv : okV v) {far : Int} {f : Nat} (hf : (f : Int) < v.1 2) : ∀ k : Nat, k ≤ cN v → 0 ≤ sNeed v far f k ∧ sNeed v far f k ≤ 10000
  | 0, _ => by simp [sNeed]
  | k + 1, hk => by
    have ih := sNeed_bd hv (far := far) hf k (by omega)
    obtain ⟨h1, h2, -⟩ := kxy hv (show k < cN v by omega)
    have b := sNF_bd hv hf h1 h2 (k / wN v) (Nat.le_refl _)
    rw [sNeed]
    split <;> omega
theorem pC_eyeFor {C : vS} {v : vV} (h : shC C v) (hv : okV v) {f x y : Nat} (hf : (f : Int) < v.1 2) (hx : (x : Int) < v.1 0) (hy : (y : Int) < v.1 1) {Q : Int32 → vS → Prop} (hq : Q (iI (sNF v (v.2 0 f) x y y)) C) : e_X4_eyeNeededFor (iI f) (iI x) (iI y) C Q := by
  have hwd := hv.1
  have hd := hv.2.1
  have ew := wN_eq hv
  obtain ⟨hp, -⟩ := hv.2.2.2.2.2.2.1 f hf
  have loop : ∀ (r z : Nat), z + r = y → e_X4_eyeNeededFor_6 Q (r + 1) (iI f) (iI x) (iI y) (iI (sNF v (v.2 0 f) x y z)) (iI (z : Int)) C := by
    intro r
    induction r with
    | zero =>
      intro z hz
      rw [e_X4_eyeNeededFor_6.eq_2, iI_le (sm_of (by omega) (by omega)) (sm_of (by omega) (by omega))]
      refine ⟨fun _ => ?_, fun c => absurd (by omega) c⟩
      have e : z = y := by omega
      rw [e]
      exact hq
    | succ r ih =>
      intro z hz
      have b0 := sNF_bd hv hf hx hy z (by omega)
      have b1 := sCeil_bd hv hf hx hy (j := z) (by omega)
      rw [e_X4_eyeNeededFor_6.eq_2, iI_le (sm_of (by omega) (by omega)) (sm_of (by omega) (by omega))]
      refine ⟨fun c => absurd c (by omega), fun _ => ?_⟩
      refine pC_line h hv hf hx hy (by omega) ?_
      obtain ⟨o1, o2⟩ := sOver_in (a := v.2 0 f) (x := x) (y := y) (z := z) (w := v.1 0) hp.1 hp.2 (by omega) hx (by omega) (by omega)
      have eo : sOver (v.2 0 f) x y z = ((sOver (v.2 0 f) x y z).toNat : Int) := (Int.toNat_of_nonneg o1).symm
      rw [eo]
      refine pC_num h hv ?_
      obtain ⟨i1, -⟩ := idx_lt hv (x := (sOver (v.2 0 f) x y z).toNat) (y := z) (by omega) (by omega)
      have ei : wN v * z + (sOver (v.2 0 f) x y z).toNat = (v.1 0 * z + sOver (v.2 0 f) x y z).toNat := by
        have e1 : ((wN v * z + (sOver (v.2 0 f) x y z).toNat : Nat) : Int) = v.1 0 * z + sOver (v.2 0 f) x y z := by
          rw [Int.natCast_add, Int.natCast_mul, ew, Int.toNat_of_nonneg o1]
        omega
      refine ⟨in_nat (by omega) (by omega) (by omega), ?_⟩
      rw [cl_nat (by omega), (h.2.2.2.2.2.2 _ i1).1, ei]
      rw [ei] at i1
      have b3 := hv.2.2.2.2.2.2.2.1 (v.1 0 * z + sOver (v.2 0 f) x y z).toNat i1
      intro v7 e7 v8 e8
      have f8 : v8 = iI ((y : Int) - z) := by rw [e8, iI_sub]
      have m1 := mul_nn (a := v.2 3 (v.1 0 * z + sOver (v.2 0 f) x y z).toNat) (b := (y : Int) + 1) (A := 99) (B := 13) (by omega) (by omega) (by omega) (by omega)
      have f9 : (((v7 * (iI (y : Int) + 1)) + v8) - 1) / v8 = iI (sCeil v (v.2 0 f) x y z) := by
        rw [e7, f8, L1, iI_add, iI_mul, iI_add, iI_sub, iI_div (sm_of (by omega) (by omega)) (sm_of (by omega) (by omega)) (by omega)]
        rfl
      refine ⟨?_, ?_⟩
      · rw [f8, L0, iI_eq (sm_of (by omega) (by omega)) (sm_of (by decide) (by decide))]
        omega
      intro v10 e10 u hu
      have fu : u = iI ((z + 1 : Nat) : Int) := by rw [hu, L1, iI_add]; rfl
      have f10 : v10 = iI (sNF v (v.2 0 f) x y (z + 1)) := by
        rw [e10, f9, if_lt (sm_of (by omega) (by omega)) (sm_of (by omega) (by omega)), sNF]
        split <;> rfl
      rw [fu, f10]
      exact ih (z + 1) (by omega)
  exact ⟨y + 1, loop y 0 (by omega)⟩
theorem pC_eyeNeeded {C : vS} {v : vV} (h : shC C v) (hf : shFC C v) (hv : okV v) (hw : okF v) {f : Nat} (hfn : (f : Int) < v.1 2) {Q : Int32 → vS → Prop} (hq : Q (iI (sNeed v (sFarN v (C.1 16).toInt) f (cN v))) C) : e_X4_eyeNeeded (iI f) C Q := by
  have hwd := hv.1
  have hd := hv.2.1
  have ew := wN_eq hv
  have ed := dN_eq hv
  have b := sFarN_bd hw (C.1 16).toInt
  have h60 := cN_le hv
  unfold e_X4_eyeNeeded
  refine pC_far hf hw ⟨dN v + 1, ?_⟩
  generalize sFarN v (C.1 16).toInt = far at b hq
  have inner : ∀ (y : Nat), (y : Int) < v.1 1 → ∀ K : Int32 → Int32 → Int32 → Int32 → vS → Prop, K (iI f) (iI far) (iI (sNeed v far f (wN v * (y + 1)))) (iI ((y + 1 : Nat) : Int)) C → ∀ (r x : Nat), x + r = wN v → e_X4_eyeNeeded_35 K Q (r + 1) (iI f) (iI far) (iI (sNeed v far f (wN v * y + x))) (iI y) (iI (x : Int)) C := by
    intro y hy K hK r
    induction r with
    | zero =>
      intro x hx
      rw [e_X4_eyeNeeded_35.eq_2, h.1, iI_le (sm_of (by omega) (by omega)) (sm_of (by omega) (by omega))]
      refine ⟨fun _ u hu => ?_, fun c => absurd (by omega) c⟩
      have e : x = wN v := by omega
      have fu : u = iI ((y + 1 : Nat) : Int) := by rw [hu, L1, iI_add]; rfl
      rw [fu, e, ← Nat.mul_succ]
      exact hK
    | succ r ih =>
      intro x hx
      have hxw : (x : Int) < v.1 0 := by omega
      obtain ⟨i1, i2⟩ := idx_lt hv hxw hy
      obtain ⟨mx1, mx2⟩ := mod_ix (w := wN v) (x := x) (y := y) (by omega)
      have fx : ∀ u : Int32, u = iI (x : Int) + 1 → u = iI ((x + 1 : Nat) : Int) := fun u hu => by rw [hu, L1, iI_add]; rfl
      have bn := sNeed_bd hv (far := far) hfn (wN v * y + x) (Nat.le_of_lt i2)
      have bf := sNF_bd hv hfn hxw hy y (Nat.le_refl _)
      have en : sNeed v far f (wN v * y + (x + 1)) = if sClr v f x y far ∧ sNeed v far f (wN v * y + x) < sNF v (v.2 0 f) x y y then sNF v (v.2 0 f) x y y else sNeed v far f (wN v * y + x) := by
        show sNeed v far f (wN v * y + x + 1) = _
        rw [sNeed, mx1, mx2]
      have h3 := ih (x + 1) (by omega)
      rw [en] at h3
      rw [e_X4_eyeNeeded_35.eq_2, h.1, iI_le (sm_of (by omega) (by omega)) (sm_of (by omega) (by omega))]
      refine ⟨fun c => absurd c (by omega), fun _ => ?_⟩
      refine pC_reach h hv hfn (by omega) (by omega) b.1 (by omega) ?_
      cases hc : sClr v f x y far with
      | false =>
        refine ⟨fun _ u hu => ?_, fun c => absurd rfl c⟩
        rw [hc, if_neg (fun z => absurd z.1 (by decide))] at h3
        rw [fx u hu]
        exact h3
      | true =>
        refine ⟨fun c => absurd c (by decide), fun _ => ?_⟩
        refine pC_eyeFor h hv hfn hxw hy ?_
        intro v12 e12 u hu
        rw [fx u hu, e12, if_lt (sm_of (by omega) (by omega)) (sm_of (by omega) (by omega))]
        rw [hc] at h3
        by_cases c : sNeed v far f (wN v * y + x) < sNF v (v.2 0 f) x y y
        · rw [if_pos ⟨rfl, c⟩] at h3
          rw [if_pos c]
          exact h3
        · rw [if_neg (fun z => c z.2)] at h3
          rw [if_neg c]
          exact h3
  have outer : ∀ (r y : Nat), y + r = dN v → e_X4_eyeNeeded_20 Q (r + 1) (iI f) (iI far) (iI (sNeed v far f (wN v * y))) (iI (y : Int)) C := by
    intro r
    induction r with
    | zero =>
      intro y hy
      rw [e_X4_eyeNeeded_20.eq_2, h.2.1, iI_le (sm_of (by omega) (by omega)) (sm_of (by omega) (by omega))]
      refine ⟨fun _ => ?_, fun c => absurd (by omega) c⟩
      have e : y = dN v := by omega
      rw [e]
      exact hq
    | succ r ih =>
      intro y hy
      rw [e_X4_eyeNeeded_20.eq_2, h.2.1, iI_le (sm_of (by omega) (by omega)) (sm_of (by omega) (by omega))]
      refine ⟨fun c => absurd c (by omega), fun _ => ⟨wN v + 1, ?_⟩⟩
      exact inner y (by omega) _ (ih (y + 1) (by omega)) (wN v) 0 (by omega)
  exact outer (dN v) 0 (by omega)
theorem pM_all {M : vS} {v : vV} (h : shM M v) (hv : okV v) {f : Nat} (hfn : (f : Int) < v.1 2) {far eye : Int} (h1 : -1 ≤ far) (h2 : far ≤ 1000) (he : 0 ≤ eye) (he2 : eye ≤ 100000) {Q : Int32 → vS → Prop} (hq : Q (bI (sAll v far f eye (cN v))) M) : e_X7_seesAll (iI f) (iI eye) (iI far) M Q := by
  have h60 := cN_le hv
  have hwd := hv.1
  have hd := hv.2.1
  have fals : ∀ k : Nat, sAll v far f eye k = false → ∀ r : Nat, sAll v far f eye (k + r) = false := by
    intro k hk r
    induction r with
    | zero => exact hk
    | succ r ih =>
      show sAll v far f eye (k + r + 1) = false
      rw [sAll, ih, Bool.false_and]
  have loop : ∀ (r k : Nat), k + r = cN v → e_X7_seesAll_6 Q (r + 1) (iI f) (iI eye) (iI far) (bI (sAll v far f eye k)) (nI k) M := by
    intro r
    induction r with
    | zero =>
      intro k hk
      rw [e_X7_seesAll_6.eq_2]
      refine pM_cells h hv ⟨fun _ => ⟨?_, ?_⟩, fun c => absurd (nI_le (by omega) (by omega)) c⟩
      · cases sAll v far f eye k <;> rfl
      · have e : k = cN v := by omega
        rw [e]
        exact hq
    | succ r ih =>
      intro k hk
      have hkc : k < cN v := by omega
      obtain ⟨k1, k2, k0, k6, k12⟩ := kxy hv hkc
      obtain ⟨m1, m2, m3⟩ := pM_kx h hv hkc
      have h3 := ih (k + 1) (by omega)
      rw [sAll] at h3
      rw [e_X7_seesAll_6.eq_2]
      refine pM_cells h hv ⟨fun c => absurd c (nI_ge hkc (by omega)), fun _ => ?_⟩
      cases hs : sAll v far f eye k with
      | false =>
        refine ⟨fun _ => ⟨rfl, ?_⟩, fun c => absurd rfl c⟩
        have e := fals k hs (r + 1)
        rw [hk] at e
        rw [e] at hq
        exact hq
      | true =>
        rw [hs, Bool.true_and] at h3
        refine ⟨fun c => absurd c (by decide), fun _ => ⟨m3, ?_⟩⟩
        rw [m1, m2]
        refine pM_clear h hv hfn (by omega) (by omega) h1 h2 ?_
        cases hc : sClr v f ((k % wN v : Nat) : Int) ((k / wN v : Nat) : Int) far with
        | false =>
          rw [hc] at h3
          refine ⟨fun _ u hu => ?_, fun c => absurd rfl c⟩
          rw [hu, nI_1]
          exact h3
        | true =>
          rw [hc, Bool.not_true, Bool.false_or] at h3
          refine ⟨fun c => absurd c (by decide), fun _ => ⟨m3, ?_⟩⟩
          rw [m1, m2]
          have bb := sBlk_bd hv (eye := eye) hfn k1 k2
          refine pM_blk h hv hfn k1 k2 he he2 ?_
          rw [L0, iI_le (sm_of (by decide) (by decide)) (sm_of (by omega) (by omega))]
          refine ⟨fun c u hu => ?_, fun c u hu => ?_⟩
          · rw [decide_eq_false (by omega)] at h3
            rw [hu, nI_1]
            exact h3
          · rw [decide_eq_true (by omega)] at h3
            rw [hu, nI_1]
            exact h3
  exact ⟨cN v + 1, loop (cN v) 0 (by omega)⟩
section TT
variable {C M : vS}
theorem t_needed (hR : Rel C M) (x : Int32) : e_X6_needed x C (fun r C1 => e_X7_needed x M (fun r2 M1 => r = r2 ∧ Rel C1 M1)) := by
  obtain ⟨v, ⟨hC, hM, hfC, hfM, hv, hw⟩, h2, h3, h4, h5, h6, h7⟩ := id hR
  have hn := hv.2.2.2.1
  have hh := hv.2.2.2.2.1
  have L99 : (99 : Int32) = iI 99 := rfl
  unfold e_X6_needed
  refine pC_hasMan hC hv (fun f ef hf => ⟨fun _ => ?_, fun c => absurd c (by decide)⟩) (fun h0 => ⟨fun c => absurd rfl c, fun _ => ?_⟩)
  · rw [ef]
    have b := sFarN_bd hw (C.1 16).toInt
    have be := sEye_bd hv hf
    have bn := sNeed_bd hv (far := sFarN v (C.1 16).toInt) hf (cN v) (Nat.le_refl _)
    refine pC_eyeNeeded hC hfC hv hw hf ?_
    refine pC_eye hC hv hf ?_
    intro v8 e8
    -- the reference's answer, for the least number N of storeys
    have mgo : ∀ (N : Nat) (r : Int32), (∀ n : Nat, n < N → sEye v f + n * v.1 3 < sNeed v (sFarN v (C.1 16).toInt) f (cN v)) → sNeed v (sFarN v (C.1 16).toInt) f (cN v) ≤ sEye v f + N * v.1 3 → (N ≤ 99 → r = iI (N : Int)) → (99 < N → r = -1) → e_X7_needed (iI f) M (fun r2 M1 => r = r2 ∧ Rel C M1) := by
      intro N r a1 a2 a3 a4
      unfold e_X7_needed
      refine pM_isMan hM hv (fun f2 ef2 hf2 => ⟨fun _ => ?_, fun c => absurd c (by decide)⟩) (fun h0 => (man_no hv rfl hf h0).elim)
      refine pM_far hfM hw ?_
      rw [← h2.2.1]
      generalize hfar : sFarN v (C.1 16).toInt = far at b a1 a2
      have loop : ∀ (r2 n : Nat), n + r2 = 100 → n ≤ N → e_X7_needed_19 (fun r3 M1 => r = r3 ∧ Rel C M1) (r2 + 1) (iI f) (iI far) (iI (n : Int)) M := by
        intro r2
        induction r2 with
        | zero =>
          intro n hn hN
          rw [e_X7_needed_19.eq_2, L99, iI_lt (sm_of (by decide) (by decide)) (sm_of (by omega) (by omega))]
          exact ⟨fun _ => ⟨a4 (by omega), hR⟩, fun c => absurd (by omega) c⟩
        | succ r2 ih =>
          intro n hn hN
          rw [e_X7_needed_19.eq_2, L99, iI_lt (sm_of (by decide) (by decide)) (sm_of (by omega) (by omega))]
          refine ⟨fun c => absurd c (by omega), fun _ => ?_⟩
          refine pM_eye hM hv hf ?_
          rw [hM.2.2.2.1, iI_mul, iI_add]
          have m1 := mul_nn (a := (n : Int)) (b := v.1 3) (A := 100) (B := 20) (by omega) (by omega) (by omega) (by omega)
          refine pM_all hM hv hf b.1 (by omega) (by omega) (by omega) ?_
          have key := sNeed_all hv (far := far) hf (eye := sEye v f + n * v.1 3) (by omega) (cN v) (Nat.le_refl _)
          cases ha : sAll v far f (sEye v f + n * v.1 3) (cN v) with
          | false =>
            refine ⟨fun _ u hu => ?_, fun c => absurd rfl c⟩
            have fu : u = iI ((n + 1 : Nat) : Int) := by rw [hu, L1, iI_add]; rfl
            rw [fu]
            refine ih (n + 1) (by omega) ?_
            rcases Nat.lt_or_ge n N with q | q
            · omega
            · exfalso
              have : n = N := by omega
              subst this
              have := key.mp a2
              rw [ha] at this
              exact absurd this (by decide)
          | true =>
            refine ⟨fun c => absurd c (by decide), fun _ => ⟨?_, hR⟩⟩
            have q := key.mpr ha
            rcases Nat.lt_or_ge n N with z | z
            · have := a1 n z
              omega
            · have : n = N := by omega
              rw [this]
              exact a3 (by omega)
      exact ⟨101, loop 100 0 (by omega) (by omega)⟩
    generalize hneed : sNeed v (sFarN v (C.1 16).toInt) f (cN v) = need at bn e8 mgo
    generalize heye : sEye v f = eye at be e8 mgo
    have f8 : v8 = iI (need - eye) := by rw [e8, iI_sub]
    rw [f8, L0, iI_lt (sm_of (by decide) (by decide)) (sm_of (by omega) (by omega))]
    refine ⟨fun c => ?_, fun c => ?_⟩
    · intro v10 e10
      have f10 : v10 = iI (v.1 3) := by
        rw [e10, hC.2.2.2.1, L1, if_lt (sm_of (by decide) (by decide)) (sm_of (by omega) (by omega))]
        split
        · rfl
        · have : v.1 3 = 1 := by omega
          rw [this]
      rw [f10]
      refine ⟨?_, fun v12 e12 => ?_⟩
      · rw [iI_eq (sm_of (by omega) (by omega)) (sm_of (by decide) (by decide))]
        omega
      · have hpos : 0 < v.1 3 := by omega
        have bq : 0 ≤ (need - eye + v.1 3 - 1) / v.1 3 ∧ (need - eye + v.1 3 - 1) / v.1 3 ≤ 100000 := by
          refine ⟨Int.ediv_nonneg (by omega) (by omega), ?_⟩
          have := Int.ediv_le_self (a := need - eye + v.1 3 - 1) (v.1 3) (by omega)
          omega
        have f12 : v12 = iI ((need - eye + v.1 3 - 1) / v.1 3) := by
          rw [e12, L1, iI_add, iI_sub, iI_div (sm_of (by omega) (by omega)) (sm_of (by omega) (by omega)) (by omega)]
        obtain ⟨N, hN⟩ : ∃ N : Nat, (N : Int) = (need - eye + v.1 3 - 1) / v.1 3 := ⟨((need - eye + v.1 3 - 1) / v.1 3).toNat, Int.toNat_of_nonneg bq.1⟩
        rw [f12, L99, iI_le (sm_of (by omega) (by omega)) (sm_of (by decide) (by decide)), ← hN]
        have u1 : need ≤ eye + N * v.1 3 := by
          have := (ceil_le (p := need - eye) (q := v.1 3) (e := (N : Int)) hpos).mp (by rw [hN]; exact Int.le_refl _)
          omega
        have u2 : ∀ n : Nat, n < N → eye + n * v.1 3 < need := by
          intro n hn2
          rcases Int.lt_or_le (eye + n * v.1 3) need with q | q
          · exact q
          · exfalso
            have := (ceil_le (p := need - eye) (q := v.1 3) (e := (n : Int)) hpos).mpr (by omega)
            rw [← hN] at this
            omega
        refine ⟨fun c2 => mgo N _ u2 u1 (fun _ => rfl) (fun z => by omega), fun c2 => mgo N _ u2 u1 (fun z => by omega) (fun _ => rfl)⟩
    · refine mgo 0 _ (fun n hn2 => by omega) (by
        have : ((0 : Nat) : Int) * v.1 3 = 0 := Int.zero_mul _
        omega) (fun _ => rfl) (fun z => by omega)
  · unfold e_X7_needed
    exact pM_isMan hM hv (fun f ef hf => (man_no hv ef hf h0).elim) (fun _ => ⟨fun c => absurd rfl c, fun _ => ⟨rfl, hR⟩⟩)
end TT
