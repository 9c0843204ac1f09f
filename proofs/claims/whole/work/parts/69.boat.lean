/-! ===== boat: the class's sail ===== -/
def bBest (best fished mx : Int) : Int := if mx < 0 then best else max best (fished + mx)
theorem sf_sf (B : vS) (k : Nat) (x y : Int32) : sf (sf B k x) k y = sf B k y := by
  refine Prod.ext ?_ rfl
  funext j
  simp only [sf]
  split <;> rfl
theorem sa_sf_sr (B : vS) (a n k : Nat) (g : Nat → Int32) (u x : Int32) : sa (sf (sr B a g) n u) a k x = sf (sr B a (upd g k x)) n u := by
  refine Prod.ext rfl (Prod.ext ?_ rfl)
  funext b
  simp only [sf, sa, sr]
  by_cases h : b = a <;> simp [h]
section TT
variable {B : vS} {w d rich : Int}
theorem bC_lt {x y : Int} (h : bIn w d x y) : ((bC w x y : Nat) : Int) = y * w + x ∧ ((bC w x y : Nat) : Int) < w * d := by
  obtain ⟨h1, h2, h3, h4⟩ := h
  have p1 : 0 ≤ y * w := Int.mul_nonneg h3 (by omega)
  have p2 : y * w + w ≤ w * d := by
    have : (y + 1) * w ≤ d * w := Int.mul_le_mul_of_nonneg_right (by omega) (by omega)
    rw [Int.add_mul, Int.mul_comm d w] at this
    omega
  unfold bC
  omega
theorem pC_sail (hw : 0 ≤ w ∧ w ≤ 12) (hd : 0 ≤ d ∧ d ≤ 12) (hwd : w * d ≤ 60) (hr : 0 ≤ rich ∧ rich ≤ 99) (b32 : B.1 32 = iI w) (b33 : B.1 33 = iI d) (b34 : B.1 34 = iI rich) :
    ∀ (m F : Nat), m ≤ F → ∀ (x y fished best : Int) (g : Nat → Int) (r : Nat → Int32) (Q : vS → Prop), (-1 ≤ x ∧ x ≤ w) → (-1 ≤ y ∧ y ≤ d) → (0 ≤ fished ∧ fished + 99 * m ≤ 792) → (-1 ≤ best ∧ best ≤ 792) → (∀ k : Nat, (k : Int) < w * d → r k = iI (g k) ∧ -1 ≤ g k ∧ g k ≤ rich) → Q (sf (sr B 36 r) 35 (iI (bBest best fished (bMx w d m x y g)))) → e_X0_sail (F + 1) (iI x) (iI y) (iI m) (iI fished) (sf (sr B 36 r) 35 (iI best)) Q := by
  intro m
  induction m with
  | zero =>
    intro F hF x y fished best g r Q hx hy hf hb hg hq
    unfold e_X0_sail
    refine ⟨fun _ => hq, fun c => absurd (by decide) c⟩
  | succ m ih =>
    intro F hF x y fished best g r Q hx hy hf hb hg hq
    obtain ⟨F', eF⟩ : ∃ F', F = F' + 1 := ⟨F - 1, by omega⟩
    have l1 : iI ((m + 1 : Nat) : Int) < 1 ↔ ((m + 1 : Nat) : Int) < 1 := by rw [L1, iI_lt (sm_of (by omega) (by omega)) (sm_of (by decide) (by decide))]
    have lx : iI x < 0 ↔ x < 0 := by rw [L0, iI_lt (sm_of (by omega) (by omega)) (sm_of (by decide) (by decide))]
    have ly : iI y < 0 ↔ y < 0 := by rw [L0, iI_lt (sm_of (by omega) (by omega)) (sm_of (by decide) (by decide))]
    have s32 : (sf (sr B 36 r) 35 (iI best)).1 32 = iI w := b32
    have s33 : (sf (sr B 36 r) 35 (iI best)).1 33 = iI d := b33
    have no : ¬ bIn w d x y → Q (sf (sr B 36 r) 35 (iI best)) := by
      intro h
      rw [bMx_no (fun c => h c.1)] at hq
      exact hq
    unfold e_X0_sail
    rw [l1, lx, ly, s32, s33, iI_le (sm_of (by omega) (by omega)) (sm_of (by omega) (by omega)), iI_lt (sm_of (by omega) (by omega)) (sm_of (by omega) (by omega))]
    refine ⟨fun c => absurd c (by omega), fun _ => ⟨fun c => no (fun h => by have := h.1; omega), fun c1 => ⟨fun c => no (fun h => by have := h.2.1; omega), fun c2 => ⟨fun c => no (fun h => by have := h.2.2.1; omega), fun c3 => ⟨fun c4 => ?_, fun c => no (fun h => by have := h.2.2.2; omega)⟩⟩⟩⟩⟩
    have hin : bIn w d x y := ⟨by omega, by omega, by omega, by omega⟩
    obtain ⟨k1, k2⟩ := bC_lt hin
    intro v6 e6
    rw [iI_mul, iI_add, ← k1] at e6
    rw [e6, cl_nat (by omega)]
    refine ⟨in_nat (by omega) (by omega) (by omega), fun v8 e8 => ?_⟩
    have er : (sf (sr B 36 r) 35 (iI best)).2.1 36 (bC w x y) = r (bC w x y) := rfl
    obtain ⟨q1, q2, q3⟩ := hg _ k2
    rw [er, q1] at e8
    rw [e8]
    have em1 : iI (g (bC w x y)) = -1 ↔ g (bC w x y) = -1 := by rw [Lm1, iI_eq (sm_of (by omega) (by omega)) (sm_of (by decide) (by decide))]
    rw [em1]
    refine ⟨fun h1 => ?_, fun h1 => ?_⟩
    · intro v10 e10 S11 e11
      rw [iI_add] at e10
      have hgo : bIn w d x y ∧ 0 ≤ g (bC w x y) := ⟨hin, by omega⟩
      rw [bMx_go hgo] at hq
      have f35 : (sf (sr B 36 r) 35 (iI best)).1 35 = iI best := sf_at _ _ _
      rw [f35, e10, if_lt (sm_of (by omega) (by omega)) (sm_of (by omega) (by omega)), sf_sf] at e11
      have em : (if best < fished + g (bC w x y) then iI (fished + g (bC w x y)) else iI best) = iI (max best (fished + g (bC w x y))) := by
        split
        · congr 1; omega
        · congr 1; omega
      rw [em] at e11
      have n35 : S11.1 35 = iI (max best (fished + g (bC w x y))) := by rw [e11]; exact sf_at _ _ _
      have n34 : S11.1 34 = iI rich := by rw [e11]; exact b34
      have esub : iI ((m + 1 : Nat) : Int) - (1 : Int32) = iI (m : Int) := by
        rw [L1, iI_sub]
        congr 1
        omega
      have mr : 0 ≤ (m : Int) * rich := Int.mul_nonneg (by omega) hr.1
      have mr2 : (m : Int) * rich ≤ (m : Int) * 99 := Int.mul_le_mul_of_nonneg_left hr.2 (by omega)
      have g1 : ∀ k : Nat, (k : Int) < w * d → g0 g (bC w x y) k ≤ rich := by
        intro k hk
        unfold g0
        split
        · exact hr.1
        · exact (hg k hk).2.2
      have bup : bR w d m x y (g0 g (bC w x y)) ≤ (m : Int) * rich := m4_lub mr (bMx_le hr.1 m _ _ _ g1) (bMx_le hr.1 m _ _ _ g1) (bMx_le hr.1 m _ _ _ g1) (bMx_le hr.1 m _ _ _ g1)
      have blo := bR_ge w d m x y (g0 g (bC w x y))
      have ebest : bBest best fished (g (bC w x y) + bR w d m x y (g0 g (bC w x y))) = max (max best (fished + g (bC w x y))) (fished + g (bC w x y) + bR w d m x y (g0 g (bC w x y))) := by
        unfold bBest
        rw [if_neg (by omega)]
        omega
      rw [n35, n34, e10, esub, iI_mul, iI_add, iI_lt (sm_of (by omega) (by omega)) (sm_of (by omega) (by omega))]
      refine ⟨fun hlt S13 e13 => ?_, fun hge => ?_⟩
      · rw [e11, L0, sa_sf_sr] at e13
        rw [e13, eF, L1, iI_sub, iI_add, iI_sub, iI_add]
        have hg' : ∀ k : Nat, (k : Int) < w * d → upd r (bC w x y) (iI 0) k = iI (g0 g (bC w x y) k) ∧ -1 ≤ g0 g (bC w x y) k ∧ g0 g (bC w x y) k ≤ rich := by
          intro k hk
          refine ⟨?_, ?_, g1 k hk⟩
          · unfold g0
            by_cases c : k = bC w x y
            · rw [c, pk_us, if_pos rfl]
            · rw [pk_un c, if_neg c]; exact (hg k hk).1
          · unfold g0
            split
            · omega
            · exact (hg k hk).2.1
        have step : ∀ (i : Nat) (x2 y2 b2 : Int), x2 = x + wX i → y2 = y + wY i → -1 ≤ b2 → b2 ≤ 792 → ∀ Q2 : vS → Prop, (∀ b3, b3 = bBest b2 (fished + g (bC w x y)) (bMx w d m (x + wX i) (y + wY i) (g0 g (bC w x y))) → -1 ≤ b3 → b3 ≤ 792 → Q2 (sf (sr B 36 (upd r (bC w x y) (iI 0))) 35 (iI b3))) → e_X0_sail (F' + 1) (iI x2) (iI y2) (iI m) (iI (fished + g (bC w x y))) (sf (sr B 36 (upd r (bC w x y) (iI 0))) 35 (iI b2)) Q2 := by
          intro i x2 y2 b2 ex ey hb1 hb2 Q2 h2
          have wxb : -1 ≤ wX i ∧ wX i ≤ 1 ∧ -1 ≤ wY i ∧ wY i ≤ 1 := by
            unfold wX wY
            refine ⟨?_, ?_, ?_, ?_⟩ <;> (repeat' split) <;> omega
          have up := bMx_le hr.1 m (x + wX i) (y + wY i) _ g1
          have lo := bMx_ge w d m (x + wX i) (y + wY i) (g0 g (bC w x y))
          refine ih F' (by omega) x2 y2 _ b2 (g0 g (bC w x y)) _ Q2 (by omega) (by omega) (by omega) ⟨hb1, hb2⟩ hg' ?_
          rw [ex, ey]
          refine h2 _ rfl ?_ ?_
          · unfold bBest
            split <;> omega
          · unfold bBest
            split <;> omega
        refine step 0 _ _ _ (by show x - 1 = x + (-1); omega) (by show y = y + 0; omega) (by omega) (by omega) _ (fun b1 e1 l1 u1 => ?_)
        refine step 1 _ _ _ (by show x + 1 = x + 1; rfl) (by show y = y + 0; omega) l1 u1 _ (fun b2 e2 l2 u2 => ?_)
        refine step 2 _ _ _ (by show x = x + 0; omega) (by show y - 1 = y + (-1); omega) l2 u2 _ (fun b3 e3 l3 u3 => ?_)
        refine step 3 _ _ _ (by show x = x + 0; omega) (by show y + 1 = y + 1; rfl) l3 u3 _ (fun b4 e4 l4 u4 => ?_)
        intro S22 e22
        rw [← q1, sa_sf_sr, upd_back] at e22
        rw [e22]
        have : b4 = max (max best (fished + g (bC w x y))) (fished + g (bC w x y) + bR w d m x y (g0 g (bC w x y))) := by
          unfold bR m4
          unfold bBest at e1 e2 e3 e4
          have lo0 := bMx_ge w d m (x + wX 0) (y + wY 0) (g0 g (bC w x y))
          have lo1 := bMx_ge w d m (x + wX 1) (y + wY 1) (g0 g (bC w x y))
          have lo2 := bMx_ge w d m (x + wX 2) (y + wY 2) (g0 g (bC w x y))
          have lo3 := bMx_ge w d m (x + wX 3) (y + wY 3) (g0 g (bC w x y))
          revert e1 e2 e3 e4 lo0 lo1 lo2 lo3
          generalize bMx w d m (x + wX 0) (y + wY 0) (g0 g (bC w x y)) = p0
          generalize bMx w d m (x + wX 1) (y + wY 1) (g0 g (bC w x y)) = p1
          generalize bMx w d m (x + wX 2) (y + wY 2) (g0 g (bC w x y)) = p2
          generalize bMx w d m (x + wX 3) (y + wY 3) (g0 g (bC w x y)) = p3
          generalize fished + g (bC w x y) = sm0
          intro e1 e2 e3 e4 lo0 lo1 lo2 lo3
          have f1 : b1 = max (max best sm0) (sm0 + max 0 p0) := by rw [e1]; split <;> omega
          have f2 : b2 = max b1 (sm0 + max 0 p1) := by rw [e2]; split <;> omega
          have f3 : b3 = max b2 (sm0 + max 0 p2) := by rw [e3]; split <;> omega
          have f4 : b4 = max b3 (sm0 + max 0 p3) := by rw [e4]; split <;> omega
          clear e1 e2 e3 e4
          omega
        rw [ebest, ← this] at hq
        exact hq
      · rw [ebest] at hq
        have : max (max best (fished + g (bC w x y))) (fished + g (bC w x y) + bR w d m x y (g0 g (bC w x y))) = max best (fished + g (bC w x y)) := by omega
        rw [this] at hq
        rw [e11]
        exact hq
    · have : ¬ (bIn w d x y ∧ 0 ≤ g (bC w x y)) := fun c => by have := c.2; omega
      rw [bMx_no this] at hq
      exact hq
end TT
