/-! ===== owners, parts, shares: the class's side ===== -/
theorem pC_holds {s k : Nat} (hs : s < 64) (hk : k < 6) {S : vS} {Q : Int32 → vS → Prop} (hq : Q (bI (s.testBit k)) S) : e_X6_holds (nI s) (iI (k : Int)) S Q := by
  unfold e_X6_holds
  rw [← iI_nat, bit_has s hs k hk]
  cases hb : s.testBit k with
  | false =>
    rw [hb] at hq
    exact ⟨fun _ => hq, fun c => absurd rfl c⟩
  | true =>
    rw [hb] at hq
    exact ⟨fun c => absurd c (by decide), fun _ => hq⟩
theorem pC_high_loop {C : vS} {v : vV} (h : shC C v) (hv : okV v) {s : Nat} (x y : Nat) (hs : s < 2 ^ (v.1 2).toNat) (h0 : s ≠ 0) (hlaw : v.1 4 ≠ 1) {Q : Int32 → vS → Prop} (hq : Q (iI (sBest v s x y (v.1 2).toNat)) C) :
    ∀ (r k : Nat), ((k + r : Nat) : Int) = v.1 2 → e_X4_highestOf_7 Q (r + 1) (nI s) (iI (if sBest v s x y k < 0 then 0 else sBest v s x y k)) (iI (if sBest v s x y k < 0 then 0 else sEye v (sBest v s x y k).toNat)) (iI (k : Int)) C := by
  have hn := hv.2.2.2.1
  have hs6 := lt64 hv hs
  intro r
  induction r with
  | zero =>
    intro k hk
    have e : (v.1 2).toNat = k := by omega
    rw [e] at hs hq
    have nn := sBest_nn (v := v) x y hs h0
    rw [e_X4_highestOf_7.eq_2, h.2.2.1, iI_le (sm_of (by omega) (by omega)) (sm_of (by omega) (by omega)), if_neg (by omega)]
    exact ⟨fun _ => hq, fun c => absurd (by omega) c⟩
  | succ r ih =>
    intro k hk
    have b := sBest_bd v s x y k
    have nx : ∀ u : Int32, u = iI (k : Int) + 1 → u = iI ((k + 1 : Nat) : Int) := fun u hu => by rw [hu, L1, iI_add]; rfl
    have h3 := ih (k + 1) (by omega)
    rw [sBest] at h3
    have ek := sEye_bd hv (f := k) (by omega)
    have eb : (if sBest v s x y k < 0 then 0 else sEye v (sBest v s x y k).toNat) ≤ 1000 ∧ 0 ≤ (if sBest v s x y k < 0 then 0 else sEye v (sBest v s x y k).toNat) := by
      split
      · omega
      · have := sEye_bd hv (f := (sBest v s x y k).toNat) (by omega)
        omega
    rw [e_X4_highestOf_7.eq_2, h.2.2.1, iI_le (sm_of (by omega) (by omega)) (sm_of (by omega) (by omega))]
    refine ⟨fun c => absurd c (by omega), fun _ => ?_⟩
    refine pC_holds hs6 (by omega) ?_
    cases ht : s.testBit k with
    | false =>
      rw [ht, Bool.false_and] at h3
      refine ⟨fun _ u hu => ?_, fun c => absurd rfl c⟩
      rw [nx u hu]
      exact h3
    | true =>
      rw [ht, Bool.true_and] at h3
      refine ⟨fun c => absurd c (by decide), fun _ => ?_⟩
      refine pC_eye h hv (by omega) ?_
      rw [iI_le (sm_of (by omega) (by omega)) (sm_of (by omega) (by omega))]
      rcases Int.lt_or_le (sBest v s x y k) 0 with q | q
      · rw [if_pos q, if_pos q]
        rw [decide_eq_true q, Bool.true_or, if_pos rfl, if_neg (by omega), if_neg (by omega), Int.toNat_natCast] at h3
        refine ⟨fun c => absurd c (by omega), fun _ => ?_⟩
        refine pC_eye h hv (by omega) ?_
        intro u hu
        rw [nx u hu]
        exact h3
      · rw [if_neg (by omega), if_neg (by omega)]
        rw [decide_eq_false (by omega), Bool.false_or, sEyeNear, if_neg hlaw] at h3
        refine ⟨fun c u hu => ?_, fun c => ?_⟩
        · have e9 : (if (false : Bool) = true then (k : Int) else sBest v s x y k) = sBest v s x y k := if_neg (by decide)
          rw [decide_eq_false (by omega), e9, if_neg (by omega), if_neg (by omega)] at h3
          rw [nx u hu]
          exact h3
        · rw [decide_eq_true (by omega), if_pos rfl, if_neg (by omega), if_neg (by omega), Int.toNat_natCast] at h3
          refine pC_eye h hv (by omega) ?_
          intro u hu
          rw [nx u hu]
          exact h3
theorem pC_near_loop {C : vS} {v : vV} (h : shC C v) (hv : okV v) {s x y : Nat} (hx : (x : Int) < v.1 0) (hy : (y : Int) < v.1 1) (hs : s < 2 ^ (v.1 2).toNat) (h0 : s ≠ 0) (hlaw : v.1 4 = 1) {Q : Int32 → vS → Prop} (hq : Q (iI (sBest v s x y (v.1 2).toNat)) C) :
    ∀ (r k : Nat), ((k + r : Nat) : Int) = v.1 2 → e_X4_nearestOf_9 Q (r + 1) (nI s) (iI x) (iI y) (iI (sBest v s x y k)) (iI (if sBest v s x y k < 0 then 0 else sNear v (sBest v s x y k).toNat x y)) (iI (k : Int)) C := by
  have hn := hv.2.2.2.1
  have hs6 := lt64 hv hs
  intro r
  induction r with
  | zero =>
    intro k hk
    have e : (v.1 2).toNat = k := by omega
    rw [e] at hs hq
    have nn := sBest_nn (v := v) x y hs h0
    have b := sBest_bd v s x y k
    rw [e_X4_nearestOf_9.eq_2, h.2.2.1, iI_le (sm_of (by omega) (by omega)) (sm_of (by omega) (by omega)), L0, if_lt (sm_of (by decide) (by decide)) (sm_of (by omega) (by omega))]
    refine ⟨fun _ => ?_, fun c => absurd (by omega) c⟩
    split
    · exact hq
    · next c =>
      have e0 : sBest v s x y k = 0 := by omega
      rw [e0] at hq
      exact hq
  | succ r ih =>
    intro k hk
    have b := sBest_bd v s x y k
    have nx : ∀ u : Int32, u = iI (k : Int) + 1 → u = iI ((k + 1 : Nat) : Int) := fun u hu => by rw [hu, L1, iI_add]; rfl
    have h3 := ih (k + 1) (by omega)
    rw [sBest] at h3
    have nk := sNear_bd hv (f := k) (by omega) hx hy
    obtain ⟨e0, -⟩ := h.2.2.2.2.2.1 k (by omega)
    rw [e_X4_nearestOf_9.eq_2, h.2.2.1, iI_le (sm_of (by omega) (by omega)) (sm_of (by omega) (by omega))]
    refine ⟨fun c => absurd c (by omega), fun _ => ⟨in6 (by omega), ?_⟩⟩
    rw [cl_nat (by omega), e0]
    intro v3 e3 v4 e4
    have f4 : v4 = iI (sNear v k x y) := by rw [e4, e3, L1, iI_sub, iI_mul, iI_add, iI_mul, iI_add]; rfl
    refine pC_holds hs6 (by omega) ?_
    rw [f4]
    cases ht : s.testBit k with
    | false =>
      rw [ht, Bool.false_and] at h3
      refine ⟨fun _ u hu => ?_, fun c => absurd rfl c⟩
      rw [nx u hu]
      exact h3
    | true =>
      rw [ht, Bool.true_and] at h3
      refine ⟨fun c => absurd c (by decide), fun _ => ?_⟩
      rw [Lm1, iI_eq (sm_of (by omega) (by omega)) (sm_of (by decide) (by decide))]
      rcases Int.lt_or_le (sBest v s x y k) 0 with q | q
      · rw [decide_eq_true q, Bool.true_or, if_pos rfl, if_neg (by omega), Int.toNat_natCast] at h3
        refine ⟨fun _ u hu => ?_, fun c => absurd (by omega) c⟩
        rw [nx u hu]
        exact h3
      · have nb := sNear_bd hv (f := (sBest v s x y k).toNat) (by omega) hx hy
        rw [if_neg (by omega)]
        rw [decide_eq_false (by omega), Bool.false_or, sEyeNear, if_pos hlaw] at h3
        rw [iI_le (sm_of (by omega) (by omega)) (sm_of (by omega) (by omega))]
        refine ⟨fun c => absurd c (by omega), fun _ => ⟨fun c u hu => ?_, fun c u hu => ?_⟩⟩
        · have e9 : (if (false : Bool) = true then (k : Int) else sBest v s x y k) = sBest v s x y k := if_neg (by decide)
          rw [decide_eq_false (by omega), e9, if_neg (by omega)] at h3
          rw [nx u hu]
          exact h3
        · rw [decide_eq_true (by omega), if_pos rfl, if_neg (by omega), Int.toNat_natCast] at h3
          rw [nx u hu]
          exact h3
theorem pC_own {C : vS} {v : vV} (h : shC C v) (hv : okV v) {far : Int} (hg : seesK (C.2.1 30) v far) {x y : Nat} (hx : (x : Int) < v.1 0) (hy : (y : Int) < v.1 1) {Q : Int32 → vS → Prop} (hq : Q (nI (sOwnN v far x y)) C) : e_X4_ownersOf (iI x) (iI y) C Q := by
  have hn := hv.2.2.2.1
  have hl := hv.2.2.2.2.2.1
  have ew := wN_eq hv
  obtain ⟨i1, i2⟩ := idx_lt hv hx hy
  obtain ⟨mx1, mx2⟩ := mod_ix (w := wN v) (x := x) (y := y) (by omega)
  have hs : sSetN v far x y < 2 ^ (v.1 2).toNat := sSet_lt _ _ _ _ _
  have hs6 := lt64 hv hs
  have eg := hg _ i2
  rw [mx1, mx2] at eg
  unfold e_X4_ownersOf
  refine pC_num h hv ⟨in_nat (by omega) (by omega) (by omega), ?_⟩
  rw [cl_nat (by omega), eg]
  intro v4 e4
  rw [e4]
  unfold sOwnN sOwn at hq
  have e0 : nI (sSetN v far x y) = 0 ↔ sSetN v far x y = 0 := by
    rw [L0, iI_nat, iI_eq (sm_of (by omega) (by omega)) (sm_of (by decide) (by decide))]
    omega
  rw [e0, h.2.2.2.2.1, L0, L1, iI_eq (sm_of (by omega) (by omega)) (sm_of (by decide) (by decide)), iI_eq (sm_of (by omega) (by omega)) (sm_of (by decide) (by decide))]
  refine ⟨fun c => ?_, fun c => ⟨fun c2 => ⟨fun c3 => ?_, fun c3 => ?_⟩, fun c2 => ?_⟩⟩
  · rw [if_pos (Or.inr c)] at hq
    exact hq
  · rw [if_neg (by omega)] at hq
    have b := sBest_bd v (sSetN v far x y) x y (v.1 2).toNat
    have nn := sBest_nn (v := v) x y hs c
    refine ⟨(v.1 2).toNat + 1, pC_high_loop h hv x y hs c c3 ?_ (v.1 2).toNat 0 (by omega)⟩
    rw [nI_of0 nn, ← L1, bit_one _ (by omega)]
    exact hq
  · rw [if_neg (by omega)] at hq
    have b := sBest_bd v (sSetN v far x y) x y (v.1 2).toNat
    have nn := sBest_nn (v := v) x y hs c
    refine ⟨(v.1 2).toNat + 1, pC_near_loop h hv hx hy hs c c3 ?_ (v.1 2).toNat 0 (by omega)⟩
    rw [nI_of0 nn, ← L1, bit_one _ (by omega)]
    exact hq
  · rw [if_pos (Or.inl c2)] at hq
    exact hq
/-- Integer.bitCount, as its bytes are -/
def bcf (x0 : Int32) : Int32 :=
  let v1 := (x0 - (((x0).toUInt32 >>> (((1 : Int32)).toUInt32 &&& Int32.toUInt32 31)).toInt32 &&& (1431655765 : Int32)))
  let v2 := ((v1 &&& (858993459 : Int32)) + (((v1).toUInt32 >>> (((2 : Int32)).toUInt32 &&& Int32.toUInt32 31)).toInt32 &&& (858993459 : Int32)))
  let v3 := ((v2 + ((v2).toUInt32 >>> (((4 : Int32)).toUInt32 &&& Int32.toUInt32 31)).toInt32) &&& (252645135 : Int32))
  let v4 := (v3 + ((v3).toUInt32 >>> (((8 : Int32)).toUInt32 &&& Int32.toUInt32 31)).toInt32)
  let v5 := (v4 + ((v4).toUInt32 >>> (((16 : Int32)).toUInt32 &&& Int32.toUInt32 31)).toInt32)
  v5 &&& (63 : Int32)
theorem bcf_ok : ∀ s, s < 64 → bcf (nI s) = nI (sCnt s) := by decide +kernel
theorem pC_cnt {s : Nat} (hs : s < 64) {S : vS} {Q : Int32 → vS → Prop} (hq : Q (nI (sCnt s)) S) : e_J6_bitCount_0f7a4 (nI s) S Q := by
  unfold e_J6_bitCount_0f7a4
  intro v1 e1 v2 e2 v3 e3 v4 e4 v5 e5
  subst e1 e2 e3 e4 e5
  rw [← bcf_ok s hs] at hq
  exact hq
theorem pC_part {C : vS} {v : vV} (h : shC C v) (hv : okV v) {s x y : Nat} (hs : s < 64) (hx : (x : Int) < v.1 0) (hy : (y : Int) < v.1 1) {Q : Int32 → vS → Prop} (hq : Q (iI (if sCnt s = 0 then 0 else v.2 4 (wN v * y + x) / (sCnt s : Int))) C) : e_X4_partOf (nI s) (iI x) (iI y) C Q := by
  obtain ⟨i1, i2⟩ := idx_lt hv hx hy
  have hc3 : sCnt s ≤ 6 := sCntTo_le s 6
  have fi := hv.2.2.2.2.2.2.2.1 (wN v * y + x) i1
  unfold e_X4_partOf
  refine pC_cnt hs ?_
  have e0 : nI (sCnt s) = 0 ↔ sCnt s = 0 := by
    rw [L0, iI_nat, iI_eq (sm_of (by omega) (by omega)) (sm_of (by decide) (by decide))]
    omega
  rw [e0]
  refine ⟨fun c => ?_, fun c => ?_⟩
  · rw [if_neg c] at hq
    refine pC_num h hv ⟨in_nat (by omega) (by omega) (by omega), ?_⟩
    rw [cl_nat (by omega), (h.2.2.2.2.2.2 (wN v * y + x) i1).2 (by omega), iI_nat, iI_div (sm_of (by omega) (by omega)) (sm_of (by omega) (by omega)) (by omega)]
    exact hq
  · rw [if_pos c] at hq
    exact hq
theorem sOwnN_lt {v : vV} (hv : okV v) (far : Int) (x y : Nat) : sOwnN v far x y < 2 ^ (v.1 2).toNat := sOwn_lt hv x y (sSet_lt _ _ _ _ _)
theorem pC_catch {C : vS} {v : vV} (h : shC C v) (hv : okV v) {far : Int} (hg : seesK (C.2.1 30) v far) {f x y : Nat} (hf : (f : Int) < v.1 2) (hx : (x : Int) < v.1 0) (hy : (y : Int) < v.1 1) {Q : Int32 → vS → Prop} (hq : Q (iI (sHas v far f x y)) C) : e_X4_catchOf (iI f) (iI x) (iI y) C Q := by
  have hn := hv.2.2.2.1
  have ho := lt64 hv (sOwnN_lt hv far x y)
  unfold e_X4_catchOf
  refine pC_own h hv hg hx hy ?_
  refine pC_holds ho (by omega) ?_
  unfold sHas at hq
  cases ht : (sOwnN v far x y).testBit f with
  | false =>
    rw [ht] at hq
    exact ⟨fun _ => hq, fun c => absurd rfl c⟩
  | true =>
    rw [ht, if_pos rfl] at hq
    refine ⟨fun c => absurd c (by decide), fun _ => ?_⟩
    refine pC_part h hv ho hx hy ?_
    have hc := sCntTo_pos ht 6 (by omega)
    have hc2 : sCnt (sOwnN v far x y) ≠ 0 := by unfold sCnt; omega
    rw [if_neg hc2]
    exact hq
theorem pC_share_in {C : vS} {v : vV} (h : shC C v) (hv : okV v) {far : Int} (hg : seesK (C.2.1 30) v far) {f y : Nat} (hf : (f : Int) < v.1 2) (hy : (y : Int) < v.1 1) {K : Int32 → Int32 → Int32 → vS → Prop} {Q : Int32 → vS → Prop} (hK : K (iI f) (iI (fSum (fun k => pos0 (sHas v far f (k % wN v) (k / wN v))) (wN v * (y + 1)))) (iI ((y + 1 : Nat) : Int)) C) :
    ∀ (r x : Nat), x + r = wN v → e_X4_shareOf_18 K Q (r + 1) (iI f) (iI (fSum (fun k => pos0 (sHas v far f (k % wN v) (k / wN v))) (wN v * y + x))) (iI y) (iI (x : Int)) C := by
  have hw := hv.1
  have hn := hv.2.2.2.1
  have ew := wN_eq hv
  intro r
  induction r with
  | zero =>
    intro x hx
    rw [e_X4_shareOf_18.eq_2, h.1, iI_le (sm_of (by omega) (by omega)) (sm_of (by omega) (by omega))]
    refine ⟨fun _ u hu => ?_, fun c => absurd (by omega) c⟩
    have e : x = wN v := by omega
    have fu : u = iI ((y + 1 : Nat) : Int) := by rw [hu, L1, iI_add]; rfl
    rw [fu, e, ← Nat.mul_succ]
    exact hK
  | succ r ih =>
    intro x hx
    have hxw : (x : Int) < v.1 0 := by omega
    obtain ⟨mx1, mx2⟩ := mod_ix (w := wN v) (x := x) (y := y) (by omega)
    have b := sHas_bd hv (far := far) (f := f) (by omega) hxw hy
    rw [e_X4_shareOf_18.eq_2, h.1, iI_le (sm_of (by omega) (by omega)) (sm_of (by omega) (by omega))]
    refine ⟨fun c => absurd c (by omega), fun _ => ?_⟩
    refine pC_catch h hv hg hf hxw hy ?_
    intro v6 e6 u hu
    have fu : u = iI ((x + 1 : Nat) : Int) := by rw [hu, L1, iI_add]; rfl
    have f6 : v6 = iI (fSum (fun k => pos0 (sHas v far f (k % wN v) (k / wN v))) (wN v * y + (x + 1))) := by
      rw [e6, L0, if_lt (sm_of (by decide) (by decide)) (sm_of (by omega) (by omega))]
      show _ = iI (fSum _ (wN v * y + x + 1))
      rw [fSum, mx1, mx2]
      unfold pos0
      by_cases c : 0 < sHas v far f x y
      · rw [if_pos c, if_pos (by omega), iI_add]
      · rw [if_neg c, iI_add]
        congr 1
        split <;> omega
    rw [f6, fu]
    exact ih (x + 1) (by omega)
theorem pC_share {C : vS} {v : vV} (h : shC C v) (hv : okV v) {far : Int} (hg : seesK (C.2.1 30) v far) {f : Nat} (hf : (f : Int) < v.1 2) {Q : Int32 → vS → Prop} (hq : Q (iI (sShare v far f)) C) : e_X4_shareOf (iI f) C Q := by
  have hd := hv.2.1
  have ed := dN_eq hv
  have loop : ∀ (r y : Nat), y + r = dN v → e_X4_shareOf_4 Q (r + 1) (iI f) (iI (fSum (fun k => pos0 (sHas v far f (k % wN v) (k / wN v))) (wN v * y))) (iI (y : Int)) C := by
    intro r
    induction r with
    | zero =>
      intro y hy
      rw [e_X4_shareOf_4.eq_2, h.2.1, iI_le (sm_of (by omega) (by omega)) (sm_of (by omega) (by omega))]
      refine ⟨fun _ => ?_, fun c => absurd (by omega) c⟩
      have e : y = dN v := by omega
      rw [e]
      exact hq
    | succ r ih =>
      intro y hy
      rw [e_X4_shareOf_4.eq_2, h.2.1, iI_le (sm_of (by omega) (by omega)) (sm_of (by omega) (by omega))]
      refine ⟨fun c => absurd c (by omega), fun _ => ⟨wN v + 1, ?_⟩⟩
      exact pC_share_in h hv hg hf (by omega) (ih (y + 1) (by omega)) (wN v) 0 (by omega)
  exact ⟨dN v + 1, loop (dN v) 0 (by omega)⟩
