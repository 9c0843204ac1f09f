/-! ===== boat: walks, in integers ===== -/
def g0 (g : Nat → Int) (c : Nat) : Nat → Int := fun k => if k = c then 0 else g k
abbrev bIn (w d x y : Int) : Prop := 0 ≤ x ∧ x < w ∧ 0 ≤ y ∧ y < d
def bC (w x y : Int) : Nat := (y * w + x).toNat
def wX (i : Nat) : Int := if i = 0 then -1 else if i = 1 then 1 else 0
def wY (i : Nat) : Int := if i = 2 then -1 else if i = 3 then 1 else 0
/-- 0 or the most of four -/
def m4 (a b c e : Int) : Int := max (max (max (max 0 a) b) c) e
def bMx (w d : Int) : Nat → Int → Int → (Nat → Int) → Int
  | 0, _, _, _ => -1
  | m + 1, x, y, g => if bIn w d x y ∧ 0 ≤ g (bC w x y) then g (bC w x y) + m4 (bMx w d m (x + wX 0) (y + wY 0) (g0 g (bC w x y))) (bMx w d m (x + wX 1) (y + wY 1) (g0 g (bC w x y))) (bMx w d m (x + wX 2) (y + wY 2) (g0 g (bC w x y))) (bMx w d m (x + wX 3) (y + wY 3) (g0 g (bC w x y))) else -1
def bR (w d : Int) (m : Nat) (x y : Int) (g : Nat → Int) : Int := m4 (bMx w d m (x + wX 0) (y + wY 0) g) (bMx w d m (x + wX 1) (y + wY 1) g) (bMx w d m (x + wX 2) (y + wY 2) g) (bMx w d m (x + wX 3) (y + wY 3) g)
theorem bMx_go {w d : Int} {m : Nat} {x y : Int} {g : Nat → Int} (h : bIn w d x y ∧ 0 ≤ g (bC w x y)) : bMx w d (m + 1) x y g = g (bC w x y) + bR w d m x y (g0 g (bC w x y)) := by
  unfold bMx
  rw [if_pos h]; rfl
theorem bMx_no {w d : Int} {m : Nat} {x y : Int} {g : Nat → Int} (h : ¬ (bIn w d x y ∧ 0 ≤ g (bC w x y))) : bMx w d (m + 1) x y g = -1 := by
  unfold bMx
  rw [if_neg h]
theorem m4_le (a b c e : Int) : 0 ≤ m4 a b c e ∧ a ≤ m4 a b c e ∧ b ≤ m4 a b c e ∧ c ≤ m4 a b c e ∧ e ≤ m4 a b c e := by unfold m4; omega
theorem m4_lub {a b c e z : Int} (h0 : 0 ≤ z) (h1 : a ≤ z) (h2 : b ≤ z) (h3 : c ≤ z) (h4 : e ≤ z) : m4 a b c e ≤ z := by unfold m4; omega
theorem m4_is (a b c e : Int) : m4 a b c e = max 0 a ∨ m4 a b c e = max 0 b ∨ m4 a b c e = max 0 c ∨ m4 a b c e = max 0 e := by unfold m4; omega
theorem bR_ge (w d : Int) (m : Nat) (x y : Int) (g : Nat → Int) : 0 ≤ bR w d m x y g := (m4_le _ _ _ _).1
theorem bMx_ge (w d : Int) (m : Nat) (x y : Int) (g : Nat → Int) : bMx w d m x y g = -1 ∨ 0 ≤ bMx w d m x y g := by
  cases m with
  | zero => left; rfl
  | succ m =>
    by_cases h : bIn w d x y ∧ 0 ≤ g (bC w x y)
    · right
      rw [bMx_go h]
      have := bR_ge w d m x y (g0 g (bC w x y))
      omega
    · left; exact bMx_no h
theorem bR_way {w d : Int} {m : Nat} {x y : Int} {g : Nat → Int} {i : Nat} (hi : i < 4) : bMx w d m (x + wX i) (y + wY i) g ≤ bR w d m x y g := by
  have h := m4_le (bMx w d m (x + wX 0) (y + wY 0) g) (bMx w d m (x + wX 1) (y + wY 1) g) (bMx w d m (x + wX 2) (y + wY 2) g) (bMx w d m (x + wX 3) (y + wY 3) g)
  have : i = 0 ∨ i = 1 ∨ i = 2 ∨ i = 3 := by omega
  rcases this with e | e | e | e <;> subst e
  · exact h.2.1
  · exact h.2.2.1
  · exact h.2.2.2.1
  · exact h.2.2.2.2
theorem bR_is (w d : Int) (m : Nat) (x y : Int) (g : Nat → Int) : ∃ i, i < 4 ∧ bR w d m x y g = max 0 (bMx w d m (x + wX i) (y + wY i) g) := by
  rcases m4_is (bMx w d m (x + wX 0) (y + wY 0) g) (bMx w d m (x + wX 1) (y + wY 1) g) (bMx w d m (x + wX 2) (y + wY 2) g) (bMx w d m (x + wX 3) (y + wY 3) g) with h | h | h | h
  · exact ⟨0, by omega, h⟩
  · exact ⟨1, by omega, h⟩
  · exact ⟨2, by omega, h⟩
  · exact ⟨3, by omega, h⟩
theorem bMx_le {w d r : Int} (hr : 0 ≤ r) : ∀ (m : Nat) (x y : Int) (g : Nat → Int), (∀ k : Nat, (k : Int) < w * d → g k ≤ r) → bMx w d m x y g ≤ (m : Int) * r := by
  intro m
  induction m with
  | zero => intro x y g hg; show (-1 : Int) ≤ ((0 : Nat) : Int) * r; omega
  | succ m ih =>
    intro x y g hg
    have hm : 0 ≤ (m : Int) * r := Int.mul_nonneg (by omega) hr
    have e : ((m + 1 : Nat) : Int) * r = (m : Int) * r + r := by rw [Int.natCast_add, Int.add_mul]; omega
    rw [e]
    by_cases h : bIn w d x y ∧ 0 ≤ g (bC w x y)
    · rw [bMx_go h]
      have hc : ((bC w x y : Nat) : Int) < w * d := by
        obtain ⟨⟨h1, h2, h3, h4⟩, -⟩ := h
        have p1 : 0 ≤ y * w := Int.mul_nonneg h3 (by omega)
        have p2 : y * w + w ≤ w * d := by
          have : (y + 1) * w ≤ d * w := Int.mul_le_mul_of_nonneg_right (by omega) (by omega)
          rw [Int.add_mul, Int.mul_comm d w] at this
          omega
        unfold bC
        omega
      have a1 := hg _ hc
      have g1 : ∀ k : Nat, (k : Int) < w * d → g0 g (bC w x y) k ≤ r := by
        intro k hk
        unfold g0
        split
        · exact hr
        · exact hg k hk
      have a2 : bR w d m x y (g0 g (bC w x y)) ≤ (m : Int) * r := m4_lub hm (ih _ _ _ g1) (ih _ _ _ g1) (ih _ _ _ g1) (ih _ _ _ g1)
      omega
    · rw [bMx_no h]; omega
/-- a walk by a code, four ways a step -/
def bCb (w d : Int) : Nat → Nat → Int → Int → (Nat → Int) → Int → Int
  | 0, _, _, _, _, s => s
  | m + 1, c, x, y, g, s => if bIn w d (x + wX (c % 4)) (y + wY (c % 4)) ∧ 0 ≤ g (bC w (x + wX (c % 4)) (y + wY (c % 4))) then bCb w d m (c / 4) (x + wX (c % 4)) (y + wY (c % 4)) (g0 g (bC w (x + wX (c % 4)) (y + wY (c % 4)))) (s + g (bC w (x + wX (c % 4)) (y + wY (c % 4)))) else s
theorem bCb_le {w d : Int} : ∀ (m c : Nat) (x y : Int) (g : Nat → Int) (s : Int), bCb w d m c x y g s ≤ s + bR w d m x y g := by
  intro m
  induction m with
  | zero =>
    intro c x y g s
    have := bR_ge w d 0 x y g
    show s ≤ _
    omega
  | succ m ih =>
    intro c x y g s
    have r0 := bR_ge w d (m + 1) x y g
    unfold bCb
    by_cases h : bIn w d (x + wX (c % 4)) (y + wY (c % 4)) ∧ 0 ≤ g (bC w (x + wX (c % 4)) (y + wY (c % 4)))
    · rw [if_pos h]
      have h1 := ih (c / 4) (x + wX (c % 4)) (y + wY (c % 4)) (g0 g (bC w (x + wX (c % 4)) (y + wY (c % 4)))) (s + g (bC w (x + wX (c % 4)) (y + wY (c % 4))))
      have h2 := bR_way (w := w) (d := d) (m := m + 1) (x := x) (y := y) (g := g) (i := c % 4) (by omega)
      rw [bMx_go h] at h2
      omega
    · rw [if_neg h]; omega
theorem bCb_ex {w d : Int} : ∀ (m : Nat) (x y : Int) (g : Nat → Int) (s : Int), ∃ c, c < 4 ^ m ∧ bCb w d m c x y g s = s + bR w d m x y g := by
  intro m
  induction m with
  | zero =>
    intro x y g s
    refine ⟨0, by decide, ?_⟩
    show s = s + m4 (-1) (-1) (-1) (-1)
    have : m4 (-1) (-1) (-1) (-1) = 0 := by decide
    omega
  | succ m ih =>
    intro x y g s
    obtain ⟨i, hi, e⟩ := bR_is w d (m + 1) x y g
    have r0 := bR_ge w d (m + 1) x y g
    have e4 : 4 ^ (m + 1) = 4 ^ m * 4 := Nat.pow_succ _ _
    by_cases h : bIn w d (x + wX i) (y + wY i) ∧ 0 ≤ g (bC w (x + wX i) (y + wY i))
    · obtain ⟨c, hc, e2⟩ := ih (x + wX i) (y + wY i) (g0 g (bC w (x + wX i) (y + wY i))) (s + g (bC w (x + wX i) (y + wY i)))
      refine ⟨i + 4 * c, by omega, ?_⟩
      have c1 : (i + 4 * c) % 4 = i := by omega
      have c2 : (i + 4 * c) / 4 = c := by omega
      unfold bCb
      rw [c1, c2, if_pos h, e2]
      have h3 := bMx_go (m := m) h
      have h4 := bR_ge w d m (x + wX i) (y + wY i) (g0 g (bC w (x + wX i) (y + wY i)))
      omega
    · refine ⟨i, ?_, ?_⟩
      · have : 0 < 4 ^ m := Nat.pow_pos (by omega)
        omega
      · have c1 : i % 4 = i := by omega
        unfold bCb
        rw [c1, if_neg h]
        have h3 := bMx_no (m := m) h
        omega
/-- the running most, from 0 on -/
def fMx (f : Nat → Int) : Nat → Int
  | 0 => 0
  | c + 1 => if f c ≤ fMx f c then fMx f c else f c
theorem fMx_is {f : Nat → Int} {V : Int} (h0 : 0 ≤ V) : ∀ N, (∀ c, c < N → f c ≤ V) → (fMx f N ≤ V ∧ 0 ≤ fMx f N) ∧ ((∃ c, c < N ∧ f c = V) → fMx f N = V) := by
  intro N
  induction N with
  | zero => intro _; exact ⟨⟨h0, by show (0 : Int) ≤ 0; omega⟩, fun ⟨c, hc, _⟩ => by omega⟩
  | succ N ih =>
    intro h
    obtain ⟨⟨a1, a0⟩, a2⟩ := ih (fun c hc => h c (by omega))
    have a3 := h N (by omega)
    unfold fMx
    refine ⟨by split <;> omega, fun ⟨c, hc, e⟩ => ?_⟩
    by_cases q : c = N
    · rw [q] at e
      split <;> omega
    · have := a2 ⟨c, by omega, e⟩
      split <;> omega
