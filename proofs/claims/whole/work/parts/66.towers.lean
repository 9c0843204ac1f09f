/-! ===== towers: the reference's moves, and both together ===== -/
section TT
variable {M : vS} {v : vV}
def tP (v : vV) (a b : Nat) (E : Nat → Nat → Int32) (rA rB n k c : Nat) (x : Int32) : Prop := v.2 2 a + tB c k 0 ≤ 9 → v.2 2 b + tB c k 1 ≤ 9 → x = tF E rA rB n (n - k) (tB c k 0) (tB c k 1)
theorem pM_225 {K107 : Int32 → Int32 → Int32 → Int32 → Int32 → vS → Prop} {K129 : Int32 → Int32 → Int32 → Int32 → Int32 → Int32 → Int32 → vS → Prop} {Q : Int32 → vS → Prop} {a1 a2 a5 a7 a8 a10 a11 : Int32} {c : Nat} (hc : c < 64) {g : Nat → Int32} (bt : Bool) (hK : K129 a1 a2 a5 (bI bt) a7 a8 (nI (c + 1)) (sr M 16 (upd g c (if bt then a11 else a10)))) : e_X7_towers_225 K107 K129 Q a1 a2 a5 a7 a8 (nI c) a10 a11 (bI bt) (sr M 16 g) := by
  unfold e_X7_towers_225
  cases bt with
  | false =>
    refine ⟨fun _ => ?_, fun q => absurd rfl q⟩
    unfold e_X7_towers_245
    refine ⟨in_nI (by omega) (by omega), fun S43 e43 => ⟨fun _ v45 e45 => ?_, fun q => absurd rfl q⟩⟩
    rw [cl_nI (by omega), sa_sr] at e43
    rw [e43, e45, nI_1]
    exact hK
  | true =>
    refine ⟨fun q => absurd q (by decide), fun _ => ?_⟩
    unfold e_X7_towers_245
    refine ⟨in_nI (by omega) (by omega), fun S43 e43 => ⟨fun q => absurd q (by decide), fun _ v45 e45 => ?_⟩⟩
    rw [cl_nI (by omega), sa_sr] at e43
    rw [e43, e45, nI_1]
    exact hK
/-- may the move be a build, and is it better -/
def tBt (k : Nat) (may : Bool) (wait build : Int32) : Bool := may && (if k % 2 = 0 then decide (wait < build) else decide (build < wait))
theorem pM_190 {K107 : Int32 → Int32 → Int32 → Int32 → Int32 → vS → Prop} {K129 : Int32 → Int32 → Int32 → Int32 → Int32 → Int32 → Int32 → vS → Prop} {Q : Int32 → vS → Prop} {a b k : Nat} (ha6 : a < 6) (hb6 : b < 6) (hab : a ≠ b) {a5 a7 wait build : Int32} {c : Nat} (hc : c < 64) {g : Nat → Int32} (may : Bool) (hK : K129 (iI a) (iI b) a5 (bI (tBt k may wait build)) a7 (iI (if k % 2 = 0 then a else b : Nat)) (nI (c + 1)) (sr M 16 (upd g c (if tBt k may wait build then build else wait)))) : e_X7_towers_190 K107 K129 Q (iI a) (iI b) a5 a7 (iI (if k % 2 = 0 then a else b : Nat)) (nI c) wait build (bI may) (sr M 16 g) := by
  unfold e_X7_towers_190
  cases may with
  | false =>
    refine ⟨fun _ => ?_, fun q => absurd rfl q⟩
    exact pM_225 hc false hK
  | true =>
    refine ⟨fun q => absurd q (by decide), fun _ => ?_⟩
    rw [iI_eq (sm_of (by split <;> omega) (by split <;> omega)) (sm_of (by omega) (by omega))]
    by_cases k0 : k % 2 = 0
    · have e1 : tBt k true wait build = decide (wait < build) := by simp [tBt, k0]
      rw [e1] at hK
      simp only [if_pos k0] at hK ⊢
      refine ⟨fun q => absurd trivial q, fun _ => ⟨fun q => ?_, fun q => ?_⟩⟩
      · have : decide (wait < build) = false := by simpa using q
        rw [this] at hK
        exact pM_225 hc false hK
      · have : decide (wait < build) = true := by simpa using q
        rw [this] at hK
        exact pM_225 hc true hK
    · have e1 : tBt k true wait build = decide (build < wait) := by simp [tBt, k0]
      rw [e1] at hK
      simp only [if_neg k0] at hK ⊢
      refine ⟨fun _ => ⟨fun q => ?_, fun q => ?_⟩, fun q => absurd q (by omega)⟩
      · have : decide (build < wait) = false := by simpa using q
        rw [this] at hK
        exact pM_225 hc false hK
      · have : decide (build < wait) = true := by simpa using q
        rw [this] at hK
        exact pM_225 hc true hK
theorem tP_step {a b rA rB n k c : Nat} {E : Nat → Nat → Int32} (hn : n < 7) (hk : k < n) (eA : (rA : Int) = if 9 - v.2 2 a < ((n + 1) / 2 : Nat) then 9 - v.2 2 a else ((n + 1) / 2 : Nat)) (eB : (rB : Int) = if 9 - v.2 2 b < (n / 2 : Nat) then 9 - v.2 2 b else (n / 2 : Nat)) (hc : c < 2 ^ k) {wait build : Int32} (h1 : tP v a b E rA rB n (k + 1) c wait) (h2 : tP v a b E rA rB n (k + 1) (c + 2 ^ k) build) {may : Bool} (hm : may = decide (v.2 2 (if k % 2 = 0 then a else b) + tB c k (k % 2) < 9)) : tP v a b E rA rB n k c (if tBt k may wait build then build else wait) := by
  have p5 := pw5 k (by omega)
  intro g1 g2
  have i0 := tB_hi k (by omega) c (by omega) hc 0 (by omega)
  have i1 := tB_hi k (by omega) c (by omega) hc 1 (by omega)
  have u0 := tB_up k (by omega) c (by omega) hc 0 (by omega)
  have u1 := tB_up k (by omega) c (by omega) hc 1 (by omega)
  have tl := tB_le k (by omega) c (by omega)
  unfold tP at h1 h2
  rw [i0, i1] at h1
  have w := h1 g1 g2
  have es : n - k = (n - (k + 1)) + 1 := by omega
  have fs : tF E rA rB n (n - (k + 1) + 1) = tStep ((n - (n - (k + 1)) - 1) % 2 == 0) rA rB (tF E rA rB n (n - (k + 1))) := rfl
  have ek : n - (n - (k + 1)) - 1 = k := by omega
  rw [es, fs, ek]
  by_cases k0 : k % 2 = 0
  · have kb : (k % 2 == 0) = true := by simpa using k0
    rw [kb]
    rw [if_pos k0] at u0
    rw [if_neg (by omega)] at u1
    rw [u0, u1] at h2
    rw [if_pos k0, k0] at hm
    by_cases m : v.2 2 a + (tB c k 0 : Int) < 9
    · have : tB c k 0 < rA := by
        have : (tB c k 0 : Int) < rA := by rw [eA]; split <;> omega
        omega
      have b2 : build = tF E rA rB n (n - (k + 1)) (tB c k 0 + 1) (tB c k 1) := h2 (by omega) (by omega)
      rw [tS1 this, ← w]
      rw [← b2]
      have : may = true := by rw [hm]; simpa using m
      have e1 : tBt k may wait build = decide (wait < build) := by simp [tBt, k0, this]
      rw [e1]
      by_cases q : wait < build <;> simp [q]
    · have : ¬ tB c k 0 < rA := by
        have : ¬ (tB c k 0 : Int) < rA := by rw [eA]; split <;> omega
        omega
      rw [tS2 this, ← w]
      have : may = false := by rw [hm]; simpa using m
      have e1 : tBt k may wait build = false := by simp [tBt, this]
      rw [e1]; rfl
  · have kb : (k % 2 == 0) = false := by simpa using k0
    rw [kb]
    have k1 : k % 2 = 1 := by omega
    rw [if_neg k0] at u0
    rw [if_pos k1] at u1
    rw [u0, u1] at h2
    rw [if_neg k0, k1] at hm
    by_cases m : v.2 2 b + (tB c k 1 : Int) < 9
    · have : tB c k 1 < rB := by
        have : (tB c k 1 : Int) < rB := by rw [eB]; split <;> omega
        omega
      have b2 : build = tF E rA rB n (n - (k + 1)) (tB c k 0) (tB c k 1 + 1) := h2 (by omega) (by omega)
      rw [tS3 this, ← w]
      rw [← b2]
      have : may = true := by rw [hm]; simpa using m
      have e1 : tBt k may wait build = decide (build < wait) := by simp [tBt, k0, this]
      rw [e1]
      by_cases q : build < wait <;> simp [q]
    · have : ¬ tB c k 1 < rB := by
        have : ¬ (tB c k 1 : Int) < rB := by rw [eB]; split <;> omega
        omega
      rw [tS4 this, ← w]
      have : may = false := by rw [hm]; simpa using m
      have e1 : tBt k may wait build = false := by simp [tBt, this]
      rw [e1]; rfl
/-- the first move -/
def tMv (v : vV) (a : Nat) (E : Nat → Nat → Int32) (rA rB n : Nat) : Bool := decide (v.2 2 a < 9) && decide (tF E rA rB n (n - 1) 0 0 < tF E rA rB n (n - 1) 1 0)
theorem pM_129 (h : shM M v) (hv : okV v) {a b rA rB n k : Nat} (hab : a ≠ b) (ha : (a : Int) < v.1 2) (hb : (b : Int) < v.1 2) {E : Nat → Nat → Int32} (hn : n < 7) (hk : k < n) (eA : (rA : Int) = if 9 - v.2 2 a < ((n + 1) / 2 : Nat) then 9 - v.2 2 a else ((n + 1) / 2 : Nat)) (eB : (rB : Int) = if 9 - v.2 2 b < (n / 2 : Nat) then 9 - v.2 2 b else (n / 2 : Nat)) {x5 : Int32} {Q : Int32 → vS → Prop} {K : Int32 → Int32 → Int32 → Int32 → Int32 → vS → Prop}
    (hK : ∀ (g : Nat → Int32) (mv : Int32), (∀ c, c < 2 ^ k → tP v a b E rA rB n k c (g c)) → (k = 0 → mv = bI (tMv v a E rA rB n)) → K (iI a) (iI b) x5 mv (iI ((k : Int) - 1)) (sr M 16 g)) :
    ∀ (r c : Nat), c + r = 2 ^ k → ∀ (g : Nat → Int32) (mv : Int32), (∀ c', c' < c → tP v a b E rA rB n k c' (g c')) → (∀ c', c ≤ c' → c' < 2 ^ (k + 1) → tP v a b E rA rB n (k + 1) c' (g c')) → (k = 0 → 0 < c → mv = bI (tMv v a E rA rB n)) → e_X7_towers_129 K Q (r + 1) (iI a) (iI b) x5 mv (nI k) (iI (if k % 2 = 0 then a else b : Nat)) (nI c) (sr M 16 g) := by
  have p5 := pw5 k (by omega)
  have p6 := pw6 k (by omega)
  have hn6 := hv.2.2.2.1
  have L9 : (9 : Int32) = iI 9 := rfl
  have who : ((if k % 2 = 0 then a else b : Nat) : Int) < v.1 2 := by split <;> omega
  have cw := (h.2.2.2.2.2.1 _ who).2.2
  have bw := (hv.2.2.2.2.2.2.1 _ who).2.2
  intro r
  induction r with
  | zero =>
    intro c hc g mv hg1 hg2 hmv
    unfold e_X7_towers_129
    rw [sh1 k (by omega), nI_leI (by omega) (by omega)]
    refine ⟨fun _ v28 e28 => ?_, fun q => absurd (by omega) q⟩
    rw [e28, iI_nat k, Lm1, iI_add]
    have : c = 2 ^ k := by omega
    rw [this] at hg1 hmv
    exact hK g mv hg1 (fun q => hmv q (by omega))
  | succ r ih =>
    intro c hc g mv hg1 hg2 hmv
    unfold e_X7_towers_129
    have hr : nI k - nI k / (2 : Int32) * (2 : Int32) = nI (k % 2) := by rw [iI_nat, rem2 (by omega), iI_nat]
    have tl := tB_le k (by omega) c (by omega)
    have tb : tB c k (k % 2) ≤ 3 := by
      rcases Nat.mod_two_eq_zero_or_one k with q | q <;> rw [q] <;> omega
    rw [sh1 k (by omega), nI_leI (by omega) (by omega), or1 k (by omega) c (by omega) (by omega), hr, cl_nI (by omega), cl_nI (by omega), cl_nat (by omega), sr_at]
    refine ⟨fun q => absurd q (by omega), fun _ => ⟨in_nI (by omega) (by omega), fun v30 e30 => ⟨in_nI (by omega) (by omega), fun v32 e32 => ⟨in6 (by omega), ?_⟩⟩⟩⟩
    refine pM_builds (by omega) (by omega) (by omega) ?_
    have cw2 : (sr M 16 g).2.1 6 (if k % 2 = 0 then a else b : Nat) = iI (v.2 2 (if k % 2 = 0 then a else b : Nat)) := cw
    have a1 := hg2 c (by omega) (by omega)
    have a2 := hg2 (c + 2 ^ k) (by omega) (by omega)
    rw [← e30] at a1
    rw [← e32] at a2
    have key : ∀ may : Bool, may = decide (v.2 2 (if k % 2 = 0 then a else b) + tB c k (k % 2) < 9) → e_X7_towers_190 K (e_X7_towers_129 K Q (r + 1)) Q (iI a) (iI b) x5 (nI k) (iI (if k % 2 = 0 then a else b : Nat)) (nI c) v30 v32 (bI may) (sr M 16 g) := by
      intro may hm
      refine pM_190 (k := k) (by omega) (by omega) hab (by omega) may ?_
      have st := tP_step hn hk eA eB (by omega) a1 a2 hm
      refine ih (c + 1) (by omega) _ _ (fun c' hc' => ?_) (fun c' h1' h2' => ?_) (fun k0 _ => ?_)
      · by_cases q : c' = c
        · rw [q, pk_us]; exact st
        · rw [pk_un q]; exact hg1 c' (by omega)
      · rw [pk_un (by omega)]
        exact hg2 c' (by omega) h2'
      · have c0 : c = 0 := by
          rw [k0] at hc
          omega
        subst k0 c0
        have m0 : may = decide (v.2 2 a < 9) := by
          rw [hm]
          have : v.2 2 (if 0 % 2 = 0 then a else b) + (tB 0 0 (0 % 2) : Int) = v.2 2 a := by
            show v.2 2 a + ((0 : Nat) : Int) = _
            omega
          rw [this]
        have b2 : 0 ≤ v.2 2 b ∧ v.2 2 b ≤ 9 := (hv.2.2.2.2.2.2.1 b hb).2.2
        have b1 : 0 ≤ v.2 2 a ∧ v.2 2 a ≤ 9 := (hv.2.2.2.2.2.2.1 a ha).2.2
        have w1 := a1 (show v.2 2 a + ((0 : Nat) : Int) ≤ 9 by omega) (show v.2 2 b + ((0 : Nat) : Int) ≤ 9 by omega)
        have w1' : v30 = tF E rA rB n (n - 1) 0 0 := w1
        congr 1
        unfold tMv
        rw [m0]
        by_cases m : v.2 2 a < 9
        · have w2 := a2 (show v.2 2 a + ((1 : Nat) : Int) ≤ 9 by omega) (show v.2 2 b + ((0 : Nat) : Int) ≤ 9 by omega)
          have w2' : v32 = tF E rA rB n (n - 1) 1 0 := w2
          rw [← w1', ← w2']
          simp [tBt]
        · simp [tBt, m]
    rw [cw2, iI_nat (tB c k (k % 2)), iI_add, L9, iI_le (sm_of (by decide) (by decide)) (sm_of (by omega) (by omega))]
    refine ⟨fun q => key false ?_, fun q => key true ?_⟩
    · symm; simpa using q
    · symm; simpa using q
theorem pM_107 (h : shM M v) (hv : okV v) {a b rA rB n : Nat} (hab : a ≠ b) (ha : (a : Int) < v.1 2) (hb : (b : Int) < v.1 2) {E : Nat → Nat → Int32} (hn : n < 7) (eA : (rA : Int) = if 9 - v.2 2 a < ((n + 1) / 2 : Nat) then 9 - v.2 2 a else ((n + 1) / 2 : Nat)) (eB : (rB : Int) = if 9 - v.2 2 b < (n / 2 : Nat) then 9 - v.2 2 b else (n / 2 : Nat)) {x5 : Int32} {Q : Int32 → vS → Prop}
    (hq : ∀ (g : Nat → Int32) (mv : Int32), g 0 = tF E rA rB n n 0 0 → (n = 0 → mv = -1) → (0 < n → mv = bI (tMv v a E rA rB n)) → (x5 = 0 → Q (g 0) (sr M 16 g)) ∧ (¬ x5 = 0 → Q mv (sr M 16 g))) :
    ∀ (k : Nat), k ≤ n → ∀ (g : Nat → Int32) (mv : Int32), (∀ c, c < 2 ^ k → tP v a b E rA rB n k c (g c)) → (n = 0 → mv = -1) → (k = 0 → 0 < n → mv = bI (tMv v a E rA rB n)) → e_X7_towers_107 Q (k + 1) (iI a) (iI b) x5 mv (iI ((k : Int) - 1)) (sr M 16 g) := by
  have b2 : 0 ≤ v.2 2 b ∧ v.2 2 b ≤ 9 := (hv.2.2.2.2.2.2.1 b hb).2.2
  have b1 : 0 ≤ v.2 2 a ∧ v.2 2 a ≤ 9 := (hv.2.2.2.2.2.2.1 a ha).2.2
  intro k
  induction k with
  | zero =>
    intro hk g mv hg m0 m1
    unfold e_X7_towers_107
    refine ⟨fun _ => ?_, fun q => absurd (by decide) q⟩
    have g0 : g 0 = tF E rA rB n n 0 0 := hg 0 (by decide) (show v.2 2 a + ((0 : Nat) : Int) ≤ 9 by omega) (show v.2 2 b + ((0 : Nat) : Int) ≤ 9 by omega)
    have := hq g mv g0 m0 (fun q => m1 rfl q)
    exact ⟨this.2, this.1⟩
  | succ k ih =>
    intro hk g mv hg m0 m1
    unfold e_X7_towers_107
    have ek : ((k + 1 : Nat) : Int) - 1 = (k : Int) := by omega
    have cz : ∀ z : Nat, z < 1000 → (iI (z : Int) = 0 ↔ z = 0) := by
      intro z hz
      rw [L0, iI_eq (sm_of (by omega) (by omega)) (sm_of (by decide) (by decide))]
      omega
    have lt0 : iI (k : Int) < 0 ↔ (k : Int) < 0 := by
      rw [L0, iI_lt (sm_of (by omega) (by omega)) (sm_of (by decide) (by decide))]
    rw [ek, rem2 (by omega), cz _ (by omega), lt0]
    have key := pM_129 h hv hab ha hb hn (by omega) eA eB (x5 := x5) (Q := Q) (K := e_X7_towers_107 Q (k + 1)) (fun g' mv' hg' hm' => ih (by omega) g' mv' hg' (fun q => by omega) (fun q _ => hm' q)) (2 ^ k) 0 (by omega) g mv (fun c' hc' => by omega) (fun c' _ hc' => hg c' hc') (fun _ q => by omega)
    rw [iI_nat k] at key
    refine ⟨fun q => absurd q (by omega), fun _ => ⟨fun q => ⟨2 ^ k + 1, ?_⟩, fun q => ⟨2 ^ k + 1, ?_⟩⟩⟩
    · rw [if_neg q] at key
      exact key
    · rw [if_pos q] at key
      exact key
end TT
