/-! ===== mist, seers, owners, shares: their words; the reference's side ===== -/
def shFM (M : vS) (v : vV) : Prop := M.1 3 = iI (v.1 5) ∧ ∀ j : Nat, (j : Int) < v.1 5 → M.2.1 5 (3 * j) = iI (v.2 5 j) ∧ M.2.1 5 (3 * j + 1) = iI (v.2 6 j) ∧ M.2.1 5 (3 * j + 2) = iI (v.2 7 j)
def shFC (C : vS) (v : vV) : Prop := C.1 3 = iI (v.1 5) ∧ ∀ j : Nat, (j : Int) < v.1 5 → C.2.1 6 j = iI (v.2 5 j) ∧ C.2.1 7 j = iI (v.2 6 j) ∧ C.2.1 8 j = iI (v.2 7 j)
def okF (v : vV) : Prop := (0 ≤ v.1 5 ∧ v.1 5 ≤ 10) ∧ ∀ j : Nat, (j : Int) < v.1 5 → (0 ≤ v.2 5 j ∧ v.2 5 j ≤ 999) ∧ (0 ≤ v.2 6 j ∧ v.2 6 j ≤ 999) ∧ (0 ≤ v.2 7 j ∧ v.2 7 j ≤ 20)
def sFar (v : vV) (day : Int) : Nat → Int
  | 0 => -1
  | k + 1 => if v.2 5 k ≤ day ∧ day ≤ v.2 6 k ∧ (sFar v day k < 0 ∨ v.2 7 k < sFar v day k) then v.2 7 k else sFar v day k
def sFarN (v : vV) (day : Int) : Int := sFar v day (v.1 5).toNat
theorem sFar_bd {v : vV} (hv : okF v) (day : Int) : ∀ k : Nat, (k : Int) ≤ v.1 5 → -1 ≤ sFar v day k ∧ sFar v day k ≤ 20
  | 0, _ => by simp [sFar]
  | k + 1, hk => by
    have ih := sFar_bd hv day k (by omega)
    have h1 := (hv.2 k (by omega)).2.2
    rw [sFar]
    split <;> omega
theorem sFarN_bd {v : vV} (hv : okF v) (day : Int) : -1 ≤ sFarN v day ∧ sFarN v day ≤ 20 := sFar_bd hv day _ (by have := hv.1; omega)
theorem in_nat {z : Int} {n : Nat} (h0 : 0 ≤ z) (h1 : z < n) (hn : n ≤ 100000) : vp_in (iI z) n := (iI_in (sm_of (by omega) (by omega))).mpr ⟨h0, h1⟩
theorem cl_eq {z : Int} {k : Nat} (h : z = k) (hk : k < 100000) : (iI z).toNatClampNeg = k := by rw [h, cl_nat hk]
theorem pM_far_loop {M : vS} {v : vV} (h : shFM M v) (hv : okF v) {Q : Int32 → vS → Prop} :
    ∀ (r k : Nat), ((k + r : Nat) : Int) = v.1 5 → Q (iI (sFarN v (M.1 7).toInt)) M → e_X7_farNow_4 Q (r + 1) (iI (sFar v (M.1 7).toInt k)) (iI (k : Int)) M := by
  have hb := hv.1
  intro r
  induction r with
  | zero =>
    intro k hk hq
    rw [e_X7_farNow_4.eq_2, h.1, iI_le (sm_of (by omega) (by omega)) (sm_of (by omega) (by omega))]
    refine ⟨fun _ => ?_, fun c => absurd (by omega) c⟩
    have e : (v.1 5).toNat = k := by omega
    unfold sFarN at hq
    rw [e] at hq
    exact hq
  | succ r ih =>
    intro k hk hq
    have b0 := sFar_bd hv (M.1 7).toInt k (by omega)
    obtain ⟨m1, m2, m3⟩ := h.2 k (by omega)
    obtain ⟨q1, q2, q3⟩ := hv.2 k (by omega)
    have nx : ∀ u : Int32, u = iI (k : Int) + 1 → u = iI ((k + 1 : Nat) : Int) := fun u hu => by rw [hu, L1, iI_add]; rfl
    rw [e_X7_farNow_4.eq_2, h.1, iI_le (sm_of (by omega) (by omega)) (sm_of (by omega) (by omega))]
    refine ⟨fun c => absurd c (by omega), fun _ => ?_⟩
    have i1 : (3 : Int32) * iI (k : Int) = iI ((3 * k : Nat) : Int) := by rw [L3, iI_mul]; rfl
    have i2 : (3 : Int32) * iI (k : Int) + 1 = iI ((3 * k + 1 : Nat) : Int) := by rw [i1, L1, iI_add]; rfl
    have i3 : (3 : Int32) * iI (k : Int) + 2 = iI ((3 * k + 2 : Nat) : Int) := by rw [i1, L2, iI_add]; rfl
    rw [i2, i3, i1, cl_nat (by omega), cl_nat (by omega), m1, m2]
    refine ⟨in_nat (by omega) (by omega) (by omega), in_nat (by omega) (by omega) (by omega), ?_⟩
    have cut : ∀ (K : Int32 → Int32 → vS → Prop), (K (iI (v.2 7 k)) (iI ((k + 1 : Nat) : Int)) M) → e_X7_farNow_63 K Q (iI (k : Int)) M := by
      intro K hK
      unfold e_X7_farNow_63
      rw [i3, cl_nat (by omega), m3]
      refine ⟨in_nat (by omega) (by omega) (by omega), ?_⟩
      intro v13 e13 v14 e14
      rw [e13, nx v14 e14]
      exact hK
    have goN : (¬ (v.2 5 k ≤ (M.1 7).toInt ∧ (M.1 7).toInt ≤ v.2 6 k ∧ (sFar v (M.1 7).toInt k < 0 ∨ v.2 7 k < sFar v (M.1 7).toInt k))) → e_X7_farNow_4 Q (r + 1) (iI (sFar v (M.1 7).toInt k)) (iI ((k + 1 : Nat) : Int)) M := by
      intro hno
      have h1 := ih (k + 1) (by omega) hq
      rw [sFar, if_neg hno] at h1
      exact h1
    have goY : (v.2 5 k ≤ (M.1 7).toInt ∧ (M.1 7).toInt ≤ v.2 6 k ∧ (sFar v (M.1 7).toInt k < 0 ∨ v.2 7 k < sFar v (M.1 7).toInt k)) → e_X7_farNow_4 Q (r + 1) (iI (v.2 7 k)) (iI ((k + 1 : Nat) : Int)) M := by
      intro hyes
      have h1 := ih (k + 1) (by omega) hq
      rw [sFar, if_pos hyes] at h1
      exact h1
    refine p_in (fun a1 a2 => ?_) (fun a1 => ?_)
    · rw [iI_L, iI_L, iI_T (sm_of (by omega) (by omega))] at a1
      rw [iI_L, iI_L, iI_T (sm_of (by omega) (by omega))] at a2
      refine ⟨fun c => absurd c (by decide), fun _ => ?_⟩
      rw [cl_nat (by omega), m3, L0, iI_lt (sm_of (by omega) (by omega)) (sm_of (by decide) (by decide)), iI_le (sm_of (by omega) (by omega)) (sm_of (by omega) (by omega))]
      refine ⟨fun c => cut _ (goY ⟨a1, a2, Or.inl c⟩), fun c => ⟨in_nat (by omega) (by omega) (by omega), ?_⟩⟩
      refine ⟨fun c2 v11 e11 => ?_, fun c2 => cut _ (goY ⟨a1, a2, Or.inr (by omega)⟩)⟩
      rw [nx v11 e11]
      exact goN (by omega)
    · rw [iI_L, iI_L, iI_L, iI_T (sm_of (by omega) (by omega)), iI_T (sm_of (by omega) (by omega))] at a1
      refine ⟨fun _ v7 e7 => ?_, fun c => absurd rfl c⟩
      rw [nx v7 e7]
      exact goN (by omega)
theorem pM_far {M : vS} {v : vV} (h : shFM M v) (hv : okF v) {Q : Int32 → vS → Prop} (hq : Q (iI (sFarN v (M.1 7).toInt)) M) : e_X7_farNow M Q := ⟨(v.1 5).toNat + 1, pM_far_loop h hv (v.1 5).toNat 0 (by have := hv.1; omega) hq⟩
/-- who sees a cell: a set as a number -/
def sSet (v : vV) (far : Int) (x y : Nat) : Nat → Nat
  | 0 => 0
  | k + 1 => sSet v far x y k + (if sSee v far k x y then 2 ^ k else 0)
def sSetN (v : vV) (far : Int) (x y : Nat) : Nat := sSet v far x y (v.1 2).toNat
theorem sSet_lt (v : vV) (far : Int) (x y : Nat) : ∀ k, sSet v far x y k < 2 ^ k
  | 0 => by simp [sSet]
  | k + 1 => by
    have ih := sSet_lt v far x y k
    rw [sSet, Nat.pow_succ]
    split <;> omega
theorem bit_or : ∀ k, k < 6 → ∀ s, s < 2 ^ k → (nI s ||| ((1 : Int32) <<< (nI k &&& 31))) = nI (s + 2 ^ k) := by decide +kernel
theorem bit_has : ∀ s, s < 64 → ∀ k, k < 6 → ((nI s >>> (nI k &&& 31)) &&& 1) = (if s.testBit k then (1 : Int32) else 0) := by decide +kernel
theorem bit_one : ∀ k, k < 6 → ((1 : Int32) <<< (nI k &&& 31)) = nI (2 ^ k) := by decide +kernel
theorem or_0 (x : Int32) : x ||| 0 = x := Int32.or_zero
theorem pM_seers_loop {M : vS} {v : vV} (h : shM M v) (hv : okV v) {x y : Nat} (hx : (x : Int) < v.1 0) (hy : (y : Int) < v.1 1) {far : Int} (h1 : -1 ≤ far) (h2 : far ≤ 1000) {Q : Int32 → vS → Prop} :
    ∀ (r k : Nat), ((k + r : Nat) : Int) = v.1 2 → Q (nI (sSetN v far x y)) M → e_X7_seers_11 Q (r + 1) (iI x) (iI y) (nI (sSet v far x y k)) (iI far) (iI (k : Int)) M := by
  have hn := hv.2.2.2.1
  intro r
  induction r with
  | zero =>
    intro k hk hq
    rw [e_X7_seers_11.eq_2, h.2.2.1, iI_le (sm_of (by omega) (by omega)) (sm_of (by omega) (by omega))]
    refine ⟨fun _ => ?_, fun c => absurd (by omega) c⟩
    have e : (v.1 2).toNat = k := by omega
    unfold sSetN at hq
    rw [e] at hq
    exact hq
  | succ r ih =>
    intro k hk hq
    have nx : ∀ u : Int32, u = iI (k : Int) + 1 → u = iI ((k + 1 : Nat) : Int) := fun u hu => by rw [hu, L1, iI_add]; rfl
    rw [e_X7_seers_11.eq_2, h.2.2.1, iI_le (sm_of (by omega) (by omega)) (sm_of (by omega) (by omega))]
    refine ⟨fun c => absurd c (by omega), fun _ => ?_⟩
    refine pM_see h hv (by omega) hx hy h1 h2 ?_
    have h3 := ih (k + 1) (by omega) hq
    rw [sSet] at h3
    cases hs : sSee v far k x y with
    | false =>
      rw [hs] at h3
      refine ⟨fun _ v7 e7 v8 e8 => ?_, fun c => absurd rfl c⟩
      rw [e7, or_0, nx v8 e8]
      exact h3
    | true =>
      rw [hs] at h3
      refine ⟨fun c => absurd c (by decide), fun _ v9 e9 v10 e10 => ?_⟩
      rw [e9, ← iI_nat k, bit_or k (by omega) _ (sSet_lt v far x y k), nx v10 e10]
      exact h3
theorem sSetN_lt {v : vV} (hv : okV v) (far : Int) (x y : Nat) : sSetN v far x y < 64 := by
  have h := sSet_lt v far x y (v.1 2).toNat
  have hn := hv.2.2.2.1
  have h2 : 2 ^ (v.1 2).toNat ≤ 2 ^ 6 := Nat.pow_le_pow_right (by omega) (by omega)
  unfold sSetN
  omega
theorem pM_seers {M : vS} {v : vV} (h : shM M v) (hf : shFM M v) (hv : okV v) (hw : okF v) {x y : Nat} (hx : (x : Int) < v.1 0) (hy : (y : Int) < v.1 1) {Q : Int32 → vS → Prop} (hq : Q (nI (sSetN v (sFarN v (M.1 7).toInt) x y)) M) : e_X7_seers (iI x) (iI y) M Q := by
  have b := sFarN_bd hw (M.1 7).toInt
  unfold e_X7_seers
  refine pM_far hf hw ⟨(v.1 2).toNat + 1, ?_⟩
  exact pM_seers_loop h hv hx hy b.1 (by omega) (v.1 2).toNat 0 (by have := hv.2.2.2.1; omega) hq
theorem pM_has {s k : Nat} (hs : s < 64) (hk : k < 6) {S : vS} {Q : Int32 → vS → Prop} (hq : Q (bI (s.testBit k)) S) : e_X7_has (nI s) (iI (k : Int)) S Q := by
  unfold e_X7_has
  rw [← iI_nat, bit_has s hs k hk]
  cases hb : s.testBit k with
  | false =>
    rw [hb] at hq
    exact ⟨fun _ => hq, fun c => absurd c (by decide)⟩
  | true =>
    rw [hb] at hq
    exact ⟨fun c => absurd rfl c, fun _ => hq⟩
/-- nearness, and who is better placed -/
def sNear (v : vV) (f : Nat) (x y : Int) : Int := (x - v.2 0 f) * (x - v.2 0 f) + (y + 1) * (y + 1)
def sBetter (v : vV) (x y : Int) (f b : Nat) : Bool := if v.1 4 = 1 then decide (sNear v f x y < sNear v b x y) else decide (sEye v b < sEye v f)
def sBest (v : vV) (s : Nat) (x y : Int) : Nat → Int
  | 0 => -1
  | k + 1 => if s.testBit k && (decide (sBest v s x y k < 0) || sBetter v x y k (sBest v s x y k).toNat) then k else sBest v s x y k
def sOwn (v : vV) (s x y : Nat) : Nat := if v.1 4 = 0 ∨ s = 0 then s else 2 ^ (sBest v s x y (v.1 2).toNat).toNat
theorem sBest_bd (v : vV) (s : Nat) (x y : Int) : ∀ k : Nat, -1 ≤ sBest v s x y k ∧ sBest v s x y k < k ∧ (sBest v s x y k < 0 → ∀ j, j < k → s.testBit j = false)
  | 0 => by simp [sBest]
  | k + 1 => by
    obtain ⟨h1, h2, h3⟩ := sBest_bd v s x y k
    rw [sBest]
    split
    · exact ⟨by omega, by omega, fun h => by omega⟩
    · next hc =>
      refine ⟨by omega, by omega, fun h j hj => ?_⟩
      rcases Nat.lt_or_ge j k with q | q
      · exact h3 h j q
      · have e : j = k := by omega
        subst e
        rw [decide_eq_true h, Bool.true_or, Bool.and_true] at hc
        simpa using hc
theorem sBest_nn {v : vV} {s n : Nat} (x y : Int) (hs : s < 2 ^ n) (h0 : s ≠ 0) : 0 ≤ sBest v s x y n := by
  rcases Int.lt_or_le (sBest v s x y n) 0 with q | q
  · exfalso
    have h3 := (sBest_bd v s x y n).2.2 q
    apply h0
    apply Nat.eq_of_testBit_eq
    intro j
    rw [Nat.zero_testBit]
    rcases Nat.lt_or_ge j n with z | z
    · exact h3 j z
    · exact Nat.testBit_lt_two_pow (Nat.lt_of_lt_of_le hs (Nat.pow_le_pow_right (by omega) z))
  · exact q
theorem sNear_bd {v : vV} (hv : okV v) {f x y : Nat} (hf : (f : Int) < v.1 2) (hx : (x : Int) < v.1 0) (hy : (y : Int) < v.1 1) : 0 ≤ sNear v f x y ∧ sNear v f x y ≤ 100000 := by
  have hw := hv.1
  have hd := hv.2.1
  obtain ⟨hp, -⟩ := hv.2.2.2.2.2.2.1 f hf
  have e2 := mul_nn (a := (y : Int) + 1) (b := (y : Int) + 1) (A := 100) (B := 100) (by omega) (by omega) (by omega) (by omega)
  have e1 : 0 ≤ ((x : Int) - v.2 0 f) * ((x : Int) - v.2 0 f) ∧ ((x : Int) - v.2 0 f) * ((x : Int) - v.2 0 f) ≤ 144 := by
    rcases Int.le_total 0 ((x : Int) - v.2 0 f) with q | q
    · exact mul_nn (A := 12) (B := 12) q (by omega) q (by omega)
    · have := mul_nn (a := -((x : Int) - v.2 0 f)) (b := -((x : Int) - v.2 0 f)) (A := 12) (B := 12) (by omega) (by omega) (by omega) (by omega)
      rw [Int.neg_mul_neg] at this
      exact this
  unfold sNear
  omega
theorem pM_near {M : vS} {v : vV} (h : shM M v) (hv : okV v) {f x y : Nat} (hf : (f : Int) < v.1 2) {Q : Int32 → vS → Prop} (hq : Q (iI (sNear v f x y)) M) : e_X7_nearOf (iI f) (iI x) (iI y) M Q := by
  have hn := hv.2.2.2.1
  obtain ⟨e0, -⟩ := h.2.2.2.2.2.1 f hf
  unfold e_X7_nearOf
  refine ⟨in6 (by omega), ?_⟩
  rw [cl_nat (by omega), e0, L1, iI_sub, iI_mul, iI_add, iI_mul, iI_add]
  exact hq
