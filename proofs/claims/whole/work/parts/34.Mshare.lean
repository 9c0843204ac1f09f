/-! ===== owners, parts, shares: the reference's side ===== -/
abbrev wN (v : vV) : Nat := (v.1 0).toNat
abbrev dN (v : vV) : Nat := (v.1 1).toNat
theorem wN_eq {v : vV} (hv : okV v) : (wN v : Int) = v.1 0 := Int.toNat_of_nonneg hv.1.1
theorem dN_eq {v : vV} (hv : okV v) : (dN v : Int) = v.1 1 := Int.toNat_of_nonneg hv.2.1.1
theorem nI_of0 {z : Int} (h : 0 ≤ z) : iI z = nI z.toNat := by rw [iI_nat, Int.toNat_of_nonneg h]
theorem bit_or2 : ∀ k, k < 6 → ∀ s, s < 64 → s.testBit k = true → 0 < s := by decide +kernel
theorem sEyeNear {v : vV} {x y : Int} {f b : Nat} : sBetter v x y f b = if v.1 4 = 1 then decide (sNear v f x y < sNear v b x y) else decide (sEye v b < sEye v f) := rfl
theorem pM_own_loop {M : vS} {v : vV} (h : shM M v) (hv : okV v) {x y s : Nat} (hx : (x : Int) < v.1 0) (hy : (y : Int) < v.1 1) (hs : s < 2 ^ (v.1 2).toNat) (h0 : s ≠ 0) (hlaw : v.1 4 ≠ 0) {Q : Int32 → vS → Prop} :
    ∀ (r k : Nat), ((k + r : Nat) : Int) = v.1 2 → Q (nI (2 ^ (sBest v s x y (v.1 2).toNat).toNat)) M → e_X7_ownersOf_19 Q (r + 1) (nI s) (iI x) (iI y) (iI (sBest v s x y k)) (iI (k : Int)) M := by
  have hn := hv.2.2.2.1
  have hl := hv.2.2.2.2.2.1
  have hs6 : s < 64 := Nat.lt_of_lt_of_le hs (Nat.pow_le_pow_right (n := 2) (by omega) (show (v.1 2).toNat ≤ 6 by omega))
  intro r
  induction r with
  | zero =>
    intro k hk hq
    have e : (v.1 2).toNat = k := by omega
    rw [e_X7_ownersOf_19.eq_2, h.2.2.1, iI_le (sm_of (by omega) (by omega)) (sm_of (by omega) (by omega))]
    refine ⟨fun _ => ?_, fun c => absurd (by omega) c⟩
    rw [e] at hs hq
    have b := sBest_bd v s x y k
    have nn := sBest_nn (v := v) x y hs h0
    rw [nI_of0 nn, bit_one _ (by omega)]
    exact hq
  | succ r ih =>
    intro k hk hq
    have b := sBest_bd v s x y k
    have nx : ∀ u : Int32, u = iI (k : Int) + 1 → u = iI ((k + 1 : Nat) : Int) := fun u hu => by rw [hu, L1, iI_add]; rfl
    have h3 := ih (k + 1) (by omega) hq
    rw [sBest] at h3
    rw [e_X7_ownersOf_19.eq_2, h.2.2.1, iI_le (sm_of (by omega) (by omega)) (sm_of (by omega) (by omega))]
    refine ⟨fun c => absurd c (by omega), fun _ => ?_⟩
    have cut0 : ∀ K : Int32 → Int32 → Int32 → Int32 → Int32 → vS → Prop, K (nI s) (iI x) (iI y) (iI (sBest v s x y k)) (iI ((k + 1 : Nat) : Int)) M → e_X7_ownersOf_92 K Q (nI s) (iI x) (iI y) (iI (sBest v s x y k)) (iI (k : Int)) (0 : Int32) M := by
      intro K hK
      refine ⟨fun _ u hu => ?_, fun c => absurd rfl c⟩
      rw [nx u hu]
      exact hK
    have cut1 : ∀ K : Int32 → Int32 → Int32 → Int32 → Int32 → vS → Prop, K (nI s) (iI x) (iI y) (iI (k : Int)) (iI ((k + 1 : Nat) : Int)) M → e_X7_ownersOf_92 K Q (nI s) (iI x) (iI y) (iI (sBest v s x y k)) (iI (k : Int)) (1 : Int32) M := by
      intro K hK
      refine ⟨fun c => absurd c (by decide), fun _ u hu => ?_⟩
      rw [nx u hu]
      exact hK
    refine pM_has hs6 (by omega) ?_
    cases ht : s.testBit k with
    | false =>
      rw [ht, Bool.false_and] at h3
      refine ⟨fun _ u hu => ?_, fun c => absurd rfl c⟩
      rw [nx u hu]
      exact h3
    | true =>
      rw [ht, Bool.true_and] at h3
      refine ⟨fun c => absurd c (by decide), fun _ => ?_⟩
      rw [L0, iI_lt (sm_of (by omega) (by omega)) (sm_of (by decide) (by decide))]
      refine ⟨fun c => ?_, fun c => ?_⟩
      · rw [decide_eq_true c, Bool.true_or] at h3
        exact cut1 _ h3
      · rw [decide_eq_false c, Bool.false_or, sEyeNear] at h3
        have eb : iI (sBest v s x y k) = iI ((sBest v s x y k).toNat : Int) := by rw [Int.toNat_of_nonneg (by omega)]
        have hbn : ((sBest v s x y k).toNat : Int) < v.1 2 := by omega
        have e1 := sEye_bd hv (f := k) (by omega)
        have e2 := sEye_bd hv hbn
        have n1 := sNear_bd hv (f := k) (by omega) hx hy
        have n2 := sNear_bd hv hbn hx hy
        rw [h.2.2.2.2.1, L1, iI_eq (sm_of (by omega) (by omega)) (sm_of (by decide) (by decide))]
        refine ⟨fun c2 => ?_, fun c2 => ?_⟩
        · rw [if_neg c2] at h3
          refine pM_eye h hv (by omega) ?_
          rw [eb]
          refine pM_eye h hv hbn ?_
          rw [iI_le (sm_of (by omega) (by omega)) (sm_of (by omega) (by omega)), ← eb]
          refine ⟨fun c3 => cut0 _ ?_, fun c3 => cut1 _ ?_⟩
          · rw [decide_eq_false (by omega)] at h3
            exact h3
          · rw [decide_eq_true (by omega)] at h3
            exact h3
        · rw [if_pos c2] at h3
          refine pM_near h hv (by omega) ?_
          rw [eb]
          refine pM_near h hv hbn ?_
          rw [iI_le (sm_of (by omega) (by omega)) (sm_of (by omega) (by omega)), ← eb]
          refine ⟨fun c3 => cut0 _ ?_, fun c3 => cut1 _ ?_⟩
          · rw [decide_eq_false (by omega)] at h3
            exact h3
          · rw [decide_eq_true (by omega)] at h3
            exact h3
theorem pM_own {M : vS} {v : vV} (h : shM M v) (hv : okV v) {x y s : Nat} (hx : (x : Int) < v.1 0) (hy : (y : Int) < v.1 1) (hs : s < 2 ^ (v.1 2).toNat) {Q : Int32 → vS → Prop} (hq : Q (nI (sOwn v s x y)) M) : e_X7_ownersOf (nI s) (iI x) (iI y) M Q := by
  have hn := hv.2.2.2.1
  have hl := hv.2.2.2.2.2.1
  have hs6 : s < 64 := Nat.lt_of_lt_of_le hs (Nat.pow_le_pow_right (n := 2) (by omega) (show (v.1 2).toNat ≤ 6 by omega))
  unfold e_X7_ownersOf
  rw [h.2.2.2.2.1, L0, iI_eq (sm_of (by omega) (by omega)) (sm_of (by decide) (by decide))]
  unfold sOwn at hq
  have e0 : nI s = iI 0 ↔ s = 0 := by
    rw [iI_nat, iI_eq (sm_of (by omega) (by omega)) (sm_of (by decide) (by decide))]
    omega
  rw [e0]
  refine ⟨fun c => ?_, fun c => ⟨fun c2 => ?_, fun c2 => ?_⟩⟩
  · rw [if_pos (Or.inl c)] at hq
    exact hq
  · rw [if_neg (by omega)] at hq
    exact ⟨(v.1 2).toNat + 1, pM_own_loop h hv hx hy hs c2 c (v.1 2).toNat 0 (by omega) hq⟩
  · rw [if_pos (Or.inr c2)] at hq
    exact hq
/-- how many -/
def sCntTo (s : Nat) : Nat → Nat
  | 0 => 0
  | k + 1 => sCntTo s k + (if s.testBit k then 1 else 0)
def sCnt (s : Nat) : Nat := sCntTo s 6
theorem sCntTo_le (s : Nat) : ∀ k, sCntTo s k ≤ k
  | 0 => Nat.le_refl _
  | k + 1 => by
    have := sCntTo_le s k
    rw [sCntTo]
    split <;> omega
theorem sCntTo_pos {s f : Nat} (h : s.testBit f = true) : ∀ k, f < k → 0 < sCntTo s k
  | 0, hf => by omega
  | k + 1, hf => by
    rw [sCntTo]
    rcases Nat.lt_or_ge f k with q | q
    · have := sCntTo_pos h k q
      omega
    · have e : f = k := by omega
      subst e
      rw [if_pos h]
      omega
theorem pM_bits_loop {S : vS} {s : Nat} (hs : s < 64) {Q : Int32 → vS → Prop} :
    ∀ (r k : Nat), k + r = 6 → Q (nI (sCnt s)) S → e_X7_bits_4 Q (r + 1) (nI s) (nI (sCntTo s k)) (iI (k : Int)) S := by
  intro r
  induction r with
  | zero =>
    intro k hk hq
    rw [e_X7_bits_4.eq_2, L6, iI_le (sm_of (by decide) (by decide)) (sm_of (by omega) (by omega))]
    refine ⟨fun _ => ?_, fun c => absurd (by omega) c⟩
    have e : k = 6 := by omega
    rw [e]
    exact hq
  | succ r ih =>
    intro k hk hq
    rw [e_X7_bits_4.eq_2, L6, iI_le (sm_of (by decide) (by decide)) (sm_of (by omega) (by omega))]
    refine ⟨fun c => absurd c (by omega), fun _ v2 e2 v3 e3 => ?_⟩
    have f2 : v2 = nI (sCntTo s (k + 1)) := by
      rw [e2, ← iI_nat k, bit_has s hs k (by omega), sCntTo]
      split
      · exact nI_1 _
      · rw [← nI_0, nI_add]
    have f3 : v3 = iI ((k + 1 : Nat) : Int) := by rw [e3, L1, iI_add]; rfl
    rw [f2, f3]
    exact ih (k + 1) (by omega) hq
theorem pM_bits {S : vS} {s : Nat} (hs : s < 64) {Q : Int32 → vS → Prop} (hq : Q (nI (sCnt s)) S) : e_X7_bits (nI s) S Q := ⟨7, pM_bits_loop hs 6 0 rfl hq⟩
/-- what f has of a cell's fish; -1: not its own -/
def sOwnN (v : vV) (far : Int) (x y : Nat) : Nat := sOwn v (sSetN v far x y) x y
def sHas (v : vV) (far : Int) (f x y : Nat) : Int := if (sOwnN v far x y).testBit f then v.2 4 (wN v * y + x) / (sCnt (sOwnN v far x y) : Int) else -1
theorem sOwn_lt {v : vV} (hv : okV v) {s : Nat} (x y : Nat) (hs : s < 2 ^ (v.1 2).toNat) : sOwn v s x y < 2 ^ (v.1 2).toNat := by
  unfold sOwn
  split
  · exact hs
  · next hc =>
    have b := sBest_bd v s x y (v.1 2).toNat
    have nn := sBest_nn (v := v) x y hs (fun e => hc (Or.inr e))
    exact Nat.pow_lt_pow_right (by omega) (by omega)
theorem lt64 {v : vV} (hv : okV v) {s : Nat} (hs : s < 2 ^ (v.1 2).toNat) : s < 64 := by
  have hn := hv.2.2.2.1
  exact Nat.lt_of_lt_of_le hs (Nat.pow_le_pow_right (n := 2) (by omega) (show (v.1 2).toNat ≤ 6 by omega))
theorem idx_lt {v : vV} (hv : okV v) {x y : Nat} (hx : (x : Int) < v.1 0) (hy : (y : Int) < v.1 1) : wN v * y + x < 60 ∧ wN v * y + x < wN v * dN v := by
  have ew := wN_eq hv
  have ed := dN_eq hv
  have h1 : x < wN v := by omega
  have h2 : y < dN v := by omega
  have h3 : wN v * (y + 1) ≤ wN v * dN v := Nat.mul_le_mul_left _ h2
  rw [Nat.mul_add, Nat.mul_one] at h3
  have h4 : wN v * dN v ≤ 60 := by
    have hc := hv.2.2.1
    have e : ((wN v * dN v : Nat) : Int) = v.1 0 * v.1 1 := by
      rw [Int.natCast_mul, Int.toNat_of_nonneg hv.1.1, Int.toNat_of_nonneg hv.2.1.1]
    omega
  omega
theorem sHas_bd {v : vV} (hv : okV v) {far : Int} {f x y : Nat} (hf : f < 6) (hx : (x : Int) < v.1 0) (hy : (y : Int) < v.1 1) : -1 ≤ sHas v far f x y ∧ sHas v far f x y ≤ 99 := by
  unfold sHas
  split
  · next ht =>
    have h1 := (hv.2.2.2.2.2.2.2.1 (wN v * y + x) (idx_lt hv hx hy).1).2
    have hc := sCntTo_pos ht 6 hf
    have hc2 : 0 < (sCnt (sOwnN v far x y) : Int) := by unfold sCnt; omega
    have h2 := Int.ediv_nonneg h1.1 (Int.le_of_lt hc2)
    have h3 := Int.ediv_le_self (b := (sCnt (sOwnN v far x y) : Int)) h1.1 (a := v.2 4 (wN v * y + x))
    omega
  · omega
theorem pM_hasOf {M : vS} {v : vV} (h : shM M v) (hf : shFM M v) (hv : okV v) (hw : okF v) {f x y : Nat} (hfn : (f : Int) < v.1 2) (hx : (x : Int) < v.1 0) (hy : (y : Int) < v.1 1) {Q : Int32 → vS → Prop} (hq : Q (iI (sHas v (sFarN v (M.1 7).toInt) f x y)) M) : e_X7_hasOf (iI f) (iI x) (iI y) M Q := by
  have hn := hv.2.2.2.1
  unfold e_X7_hasOf
  refine pM_seers h hf hv hw hx hy ?_
  have hs : sSetN v (sFarN v (M.1 7).toInt) x y < 2 ^ (v.1 2).toNat := sSet_lt _ _ _ _ _
  refine pM_own h hv hx hy hs ?_
  have ho := sOwn_lt hv x y hs
  have ho6 := lt64 hv ho
  refine pM_has ho6 (by omega) ?_
  unfold sHas sOwnN at hq
  cases ht : (sOwn v (sSetN v (sFarN v (M.1 7).toInt) x y) x y).testBit f with
  | false =>
    rw [ht] at hq
    exact ⟨fun _ => hq, fun c => absurd rfl c⟩
  | true =>
    rw [ht] at hq
    refine ⟨fun c => absurd c (by decide), fun _ => ?_⟩
    obtain ⟨i1, i2⟩ := idx_lt hv hx hy
    have ei : M.1 0 * iI y + iI x = iI ((wN v * y + x : Nat) : Int) := by
      rw [h.1, iI_mul, iI_add, Int.natCast_add, Int.natCast_mul, Int.toNat_of_nonneg hv.1.1]
    rw [ei]
    refine ⟨in_nat (by omega) (by omega) (by omega), ?_⟩
    refine pM_bits ho6 ?_
    have hc := sCntTo_pos ht 6 (by omega)
    have hc1 := sCntTo_le (sOwn v (sSetN v (sFarN v (M.1 7).toInt) x y) x y) 6
    have hc2 : 0 < sCnt (sOwn v (sSetN v (sFarN v (M.1 7).toInt) x y) x y) := hc
    have hc3 : sCnt (sOwn v (sSetN v (sFarN v (M.1 7).toInt) x y) x y) ≤ 6 := hc1
    have fi := hv.2.2.2.2.2.2.2.1 (wN v * y + x) i1
    refine ⟨?_, ?_⟩
    · rw [L0, iI_nat, iI_eq (sm_of (by omega) (by omega)) (sm_of (by decide) (by decide))]
      omega
    · rw [cl_nat (by omega), (h.2.2.2.2.2.2 (wN v * y + x) i1).2 (by omega), iI_nat, iI_div (sm_of (by omega) (by omega)) (sm_of (by omega) (by omega)) (by omega)]
      exact hq
/-- sums -/
def fSum (g : Nat → Int) : Nat → Int
  | 0 => 0
  | n + 1 => fSum g n + g n
theorem fSum_bd {g : Nat → Int} {A : Int} {N : Nat} (hg : ∀ k, k < N → 0 ≤ g k ∧ g k ≤ A) : ∀ n, n ≤ N → 0 ≤ fSum g n ∧ fSum g n ≤ n * A
  | 0, _ => by simp [fSum]
  | n + 1, hn => by
    have ih := fSum_bd hg n (by omega)
    have h1 := hg n (by omega)
    have e : ((n + 1 : Nat) : Int) * A = n * A + A := by rw [Int.natCast_add, Int.add_mul]; simp
    rw [fSum, e]
    omega
theorem fSum_cong {g g2 : Nat → Int} {N : Nat} (h : ∀ k, k < N → g k = g2 k) : ∀ n, n ≤ N → fSum g n = fSum g2 n
  | 0, _ => rfl
  | n + 1, hn => by rw [fSum, fSum, fSum_cong h n (by omega), h n (by omega)]
def pos0 (z : Int) : Int := if 0 ≤ z then z else 0
abbrev cN (v : vV) : Nat := wN v * dN v
def sShare (v : vV) (far : Int) (f : Nat) : Int := fSum (fun k => pos0 (sHas v far f (k % wN v) (k / wN v))) (cN v)
theorem kxy {v : vV} (hv : okV v) {k : Nat} (hk : k < cN v) : ((k % wN v : Nat) : Int) < v.1 0 ∧ ((k / wN v : Nat) : Int) < v.1 1 ∧ 0 < wN v ∧ k < 60 ∧ wN v ≤ 12 := by
  have h0 : 0 < wN v := by
    rcases Nat.eq_zero_or_pos (wN v) with q | q
    · rw [cN, q, Nat.zero_mul] at hk
      omega
    · exact q
  have h1 := Nat.mod_lt k h0
  have h2 : k / wN v < dN v := Nat.div_lt_of_lt_mul hk
  have h4 : wN v * dN v ≤ 60 := by
    have hc := hv.2.2.1
    have e : ((wN v * dN v : Nat) : Int) = v.1 0 * v.1 1 := by
      rw [Int.natCast_mul, Int.toNat_of_nonneg hv.1.1, Int.toNat_of_nonneg hv.2.1.1]
    omega
  have := hv.1
  have ew := wN_eq hv
  have ed := dN_eq hv
  have hk2 : k < wN v * dN v := hk
  exact ⟨by omega, by omega, h0, by omega, by omega⟩
theorem cN_le {v : vV} (hv : okV v) : cN v ≤ 60 := by
  have hc := hv.2.2.1
  have e : ((wN v * dN v : Nat) : Int) = v.1 0 * v.1 1 := by
    rw [Int.natCast_mul, Int.toNat_of_nonneg hv.1.1, Int.toNat_of_nonneg hv.2.1.1]
  show wN v * dN v ≤ 60
  omega
theorem pM_w {M : vS} {v : vV} (h : shM M v) (hv : okV v) : M.1 0 = nI (wN v) := by rw [h.1, nI_of0 hv.1.1]
theorem pM_cells {M : vS} {v : vV} (h : shM M v) (hv : okV v) {Q : Int32 → vS → Prop} (hq : Q (nI (cN v)) M) : e_X7_cells M Q := by
  unfold e_X7_cells
  rw [h.1, h.2.1, nI_of0 hv.1.1, nI_of0 hv.2.1.1, pk_mul]
  exact hq
theorem pM_kx {M : vS} {v : vV} (h : shM M v) (hv : okV v) {k : Nat} (hk : k < cN v) : (nI k - nI k / M.1 0 * M.1 0 = iI ((k % wN v : Nat) : Int)) ∧ (nI k / M.1 0 = iI ((k / wN v : Nat) : Int)) ∧ ¬ M.1 0 = 0 := by
  obtain ⟨-, -, h0, h6, h12⟩ := kxy hv hk
  rw [pM_w h hv, ← iI_nat, ← iI_nat]
  exact ⟨pk_rem (by omega) h0 (by omega), pk_div (by omega) h0 (by omega), nI_ne0 h0 (by omega)⟩
theorem sHasK_bd {v : vV} (hv : okV v) {far : Int} {f : Nat} (hf : f < 6) : ∀ k, k < cN v → 0 ≤ pos0 (sHas v far f (k % wN v) (k / wN v)) ∧ pos0 (sHas v far f (k % wN v) (k / wN v)) ≤ 99 := by
  intro k hk
  obtain ⟨h1, h2, -⟩ := kxy hv hk
  have b := sHas_bd hv (far := far) hf h1 h2
  unfold pos0
  split <;> omega
theorem sShare_bd {v : vV} (hv : okV v) {far : Int} {f : Nat} (hf : f < 6) : 0 ≤ sShare v far f ∧ sShare v far f ≤ 5940 := by
  have h := fSum_bd (sHasK_bd hv (far := far) hf) (cN v) (Nat.le_refl _)
  have h2 := cN_le hv
  unfold sShare
  omega
theorem pM_share_loop {M : vS} {v : vV} (h : shM M v) (hf : shFM M v) (hv : okV v) (hw : okF v) {f : Nat} (hfn : (f : Int) < v.1 2) {Q : Int32 → vS → Prop} (hq : Q (iI (sShare v (sFarN v (M.1 7).toInt) f)) M) :
    ∀ (r k : Nat), k + r = cN v → e_X7_shareOf_4 Q (r + 1) (iI f) (iI (fSum (fun k => pos0 (sHas v (sFarN v (M.1 7).toInt) f (k % wN v) (k / wN v))) k)) (nI k) M := by
  have hn := hv.2.2.2.1
  have h60 := cN_le hv
  intro r
  induction r with
  | zero =>
    intro k hk
    rw [e_X7_shareOf_4.eq_2]
    refine pM_cells h hv ?_
    refine ⟨fun _ => ?_, fun c => absurd (nI_le (by omega) (by omega)) c⟩
    have e : k = cN v := by omega
    rw [e]
    exact hq
  | succ r ih =>
    intro k hk
    have hkc : k < cN v := by omega
    obtain ⟨h1, h2, h0, h6, -⟩ := kxy hv hkc
    obtain ⟨m1, m2, m3⟩ := pM_kx h hv hkc
    rw [e_X7_shareOf_4.eq_2]
    refine pM_cells h hv ?_
    refine ⟨fun c => absurd c (nI_ge hkc (by omega)), fun _ => ⟨m3, ?_⟩⟩
    rw [m1, m2]
    refine pM_hasOf h hf hv hw hfn h1 h2 ?_
    have b := sHas_bd hv (far := sFarN v (M.1 7).toInt) (f := f) (by omega) h1 h2
    have h3 := ih (k + 1) (by omega)
    rw [fSum] at h3
    rw [L0, iI_le (sm_of (by decide) (by decide)) (sm_of (by omega) (by omega))]
    refine ⟨fun c v8 e8 v9 e9 => ?_, fun c v8 e8 v9 e9 => ?_⟩
    · rw [e8, e9, iI_add, nI_1]
      rw [show pos0 (sHas v (sFarN v (M.1 7).toInt) f (k % wN v) (k / wN v)) = sHas v (sFarN v (M.1 7).toInt) f (k % wN v) (k / wN v) from if_pos c] at h3
      exact h3
    · rw [e8, e9, iI_add, nI_1]
      rw [show pos0 (sHas v (sFarN v (M.1 7).toInt) f (k % wN v) (k / wN v)) = 0 from if_neg c] at h3
      exact h3
theorem pM_share {M : vS} {v : vV} (h : shM M v) (hf : shFM M v) (hv : okV v) (hw : okF v) {f : Nat} (hfn : (f : Int) < v.1 2) {Q : Int32 → vS → Prop} (hq : Q (iI (sShare v (sFarN v (M.1 7).toInt) f)) M) : e_X7_shareOf (iI f) M Q := ⟨cN v + 1, pM_share_loop h hf hv hw hfn hq (cN v) 0 (by omega)⟩
