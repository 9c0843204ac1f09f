/-! ===== begin, keep, goBack ===== -/
theorem cpy0 (f g : Nat → Int32) (n : Int32) (N : Nat) (hn : n.toNatClampNeg = N) (j : Nat) : va_cpy f g (0 : Int32).toNatClampNeg (0 : Int32).toNatClampNeg n.toNatClampNeg j = if j < N then f j else g j := by
  have e0 : (0 : Int32).toNatClampNeg = 0 := rfl
  rw [e0, hn]
  unfold va_cpy
  by_cases h : j < N
  · rw [if_pos ⟨Nat.zero_le _, by omega⟩, if_pos h, Nat.zero_add, Nat.sub_zero]
  · rw [if_neg (by omega), if_neg h]
/-- the class's restart: today 0, purses 0, storeys and stands as told -/
theorem pC_restart {C : vS} {Q : vS → Prop} (hq : ∀ g21 g22 g23 : Nat → Int32, (∀ j, j < 6 → g21 j = C.2.1 3 j) → (∀ j, j < 6 → g22 j = 0) → (∀ j, j < 60 → g23 j = C.2.1 4 j) → Q (sr (sr (sr (sf C 16 0) 22 g22) 21 g21) 23 g23)) : e_X5_restart_now_plan C Q := by
  unfold e_X5_restart_now_plan
  intro S1 e1
  rw [e1]
  have loop : ∀ (r k : Nat), k + r = 6 → ∀ g22 : Nat → Int32, (∀ j, j < k → g22 j = 0) → e_X5_restart_now_plan_7 Q (r + 1) (iI (k : Int)) (sr (sf C 16 0) 22 g22) := by
    intro r
    induction r with
    | zero =>
      intro k hk g22 hg
      rw [e_X5_restart_now_plan_7.eq_2, L6, iI_le (sm_of (by decide) (by decide)) (sm_of (by omega) (by omega))]
      refine ⟨fun _ S3 e3 S4 e4 => ?_, fun c => absurd (by omega) c⟩
      rw [e4, e3]
      refine hq _ _ _ (fun j hj => ?_) (fun j hj => hg j (by omega)) (fun j hj => ?_)
      · rw [← L6, cpy0 _ _ _ 6 rfl, if_pos hj]
        rfl
      · rw [cpy0 _ _ _ 60 rfl, if_pos hj]
        rfl
    | succ r ih =>
      intro k hk g22 hg
      rw [e_X5_restart_now_plan_7.eq_2, L6, iI_le (sm_of (by decide) (by decide)) (sm_of (by omega) (by omega))]
      refine ⟨fun c => absurd c (by omega), fun _ => ⟨in_nat (by omega) (by omega) (by omega), fun S6 e6 u hu => ?_⟩⟩
      have fu : u = iI ((k + 1 : Nat) : Int) := by rw [hu, L1, iI_add]; rfl
      rw [fu, e6, cl_nat (by omega), sa_sr]
      refine ih (k + 1) (by omega) _ (fun j hj => ?_)
      by_cases e : j = k
      · rw [e, pk_us]
      · rw [pk_un e]
        exact hg j (by omega)
  have e := loop 6 0 (by omega) ((sf C 16 0).2.1 22) (fun j hj => by omega)
  rw [sr_self] at e
  exact ⟨7, e⟩
/-- the reference's begin -/
theorem pM_begin {M : vS} {Q : Int32 → vS → Prop} (hq : ∀ g6 g7 g8 : Nat → Int32, (∀ j, j < 6 → g6 j = M.2.1 2 j) → (∀ j, j < 6 → g7 j = 0) → (∀ j, j < 60 → g8 j = M.2.1 3 j) → Q (M.1 7) (sr (sr (sr (sf M 7 0) 6 g6) 7 g7) 8 g8)) : e_X7_begin M Q := by
  unfold e_X7_begin
  intro v1 e1 S2 e2
  rw [e1, e2]
  have loop2 : ∀ (g6 g7 : Nat → Int32), (∀ j, j < 6 → g6 j = M.2.1 2 j) → (∀ j, j < 6 → g7 j = 0) → ∀ (r k : Nat), k + r = 60 → ∀ g8 : Nat → Int32, (∀ j, j < k → g8 j = M.2.1 3 j) → e_X7_begin_45 Q (r + 1) (M.1 7) (iI (k : Int)) (sr (sr (sr (sf M 7 0) 6 g6) 7 g7) 8 g8) := by
    intro g6 g7 h6 h7 r
    induction r with
    | zero =>
      intro k hk g8 hg
      rw [e_X7_begin_45.eq_2, L60, iI_le (sm_of (by decide) (by decide)) (sm_of (by omega) (by omega))]
      exact ⟨fun _ => hq g6 g7 g8 h6 h7 (fun j hj => hg j (by omega)), fun c => absurd (by omega) c⟩
    | succ r ih =>
      intro k hk g8 hg
      rw [e_X7_begin_45.eq_2, L60, iI_le (sm_of (by decide) (by decide)) (sm_of (by omega) (by omega))]
      refine ⟨fun c => absurd c (by omega), fun _ => ⟨in_nat (by omega) (by omega) (by omega), fun S6 e6 u hu => ?_⟩⟩
      have fu : u = iI ((k + 1 : Nat) : Int) := by rw [hu, L1, iI_add]; rfl
      rw [fu, e6, cl_nat (by omega), sa_sr]
      refine ih (k + 1) (by omega) _ (fun j hj => ?_)
      by_cases e : j = k
      · rw [e, pk_us]
        rfl
      · rw [pk_un e]
        exact hg j (by omega)
  have loop1 : ∀ (r k : Nat), k + r = 6 → ∀ g6 g7 : Nat → Int32, (∀ j, j < k → g6 j = M.2.1 2 j) → (∀ j, j < k → g7 j = 0) → e_X7_begin_12 Q (r + 1) (M.1 7) (iI (k : Int)) (sr (sr (sf M 7 0) 6 g6) 7 g7) := by
    intro r
    induction r with
    | zero =>
      intro k hk g6 g7 h6 h7
      rw [e_X7_begin_12.eq_2, L6, iI_le (sm_of (by decide) (by decide)) (sm_of (by omega) (by omega))]
      refine ⟨fun _ => ?_, fun c => absurd (by omega) c⟩
      have e := loop2 g6 g7 (fun j hj => h6 j (by omega)) (fun j hj => h7 j (by omega)) 60 0 (by omega) ((sr (sr (sf M 7 0) 6 g6) 7 g7).2.1 8) (fun j hj => by omega)
      rw [sr_self] at e
      exact ⟨61, e⟩
    | succ r ih =>
      intro k hk g6 g7 h6 h7
      rw [e_X7_begin_12.eq_2, L6, iI_le (sm_of (by decide) (by decide)) (sm_of (by omega) (by omega))]
      refine ⟨fun c => absurd c (by omega), fun _ => ⟨in_nat (by omega) (by omega) (by omega), fun S5 e5 S6 e6 u hu => ?_⟩⟩
      have fu : u = iI ((k + 1 : Nat) : Int) := by rw [hu, L1, iI_add]; rfl
      have es : S6 = sr (sr (sf M 7 0) 6 (upd g6 k (M.2.1 2 k))) 7 (upd g7 k 0) := by
        rw [e6, e5, cl_nat (by omega)]
        unfold sa sr
        refine Prod.ext rfl (Prod.ext ?_ rfl)
        funext b
        by_cases e7 : b = 7
        · subst e7; rfl
        · by_cases e8 : b = 6
          · subst e8; rfl
          · simp [e7, e8]
      rw [fu, es]
      refine ih (k + 1) (by omega) _ _ (fun j hj => ?_) (fun j hj => ?_)
      · by_cases e : j = k
        · rw [e, pk_us]
        · rw [pk_un e]
          exact h6 j (by omega)
      · by_cases e : j = k
        · rw [e, pk_us]
        · rw [pk_un e]
          exact h7 j (by omega)
  have e := loop1 6 0 (by omega) ((sf M 7 0).2.1 6) ((sr (sf M 7 0) 6 ((sf M 7 0).2.1 6)).2.1 7) (fun j hj => by omega) (fun j hj => by omega)
  rw [sr_self, sr_self] at e
  exact ⟨7, e⟩
section TT
variable {C M : vS}
/-- behind begin: both as told -/
theorem rel_begin {v : vV} (hV : RelV C M v) {g21 g22 g23 g6 g7 g8 : Nat → Int32} (a1 : ∀ j, j < 6 → g21 j = C.2.1 3 j) (a2 : ∀ j, j < 6 → g22 j = 0) (a3 : ∀ j, j < 60 → g23 j = C.2.1 4 j) (b1 : ∀ j, j < 6 → g6 j = M.2.1 2 j) (b2 : ∀ j, j < 6 → g7 j = 0) (b3 : ∀ j, j < 60 → g8 j = M.2.1 3 j) : Rel (sr (sr (sr (sf C 16 0) 22 g22) 21 g21) 23 g23) (sr (sr (sr (sf M 7 0) 6 g6) 7 g7) 8 g8) := by
  obtain ⟨⟨hC, hM, hfC, hfM, hv, hw⟩, h2, ⟨h3a, h3b⟩, h4, h5, h6, h7⟩ := hV
  have hn := hv.2.2.2.1
  refine ⟨(v.1, fun b j => if b = 2 then v.2 8 j else if b = 3 then v.2 9 j else v.2 b j), ⟨?_, ?_, hfC, hfM, ?_, hw⟩, ?_, ⟨h3a, h3b⟩, h4, h5, h6, h7⟩
  · obtain ⟨c1, c2, c3, c4, c5, c6, c7⟩ := hC
    refine ⟨c1, c2, c3, c4, c5, fun f hf => ⟨(c6 f hf).1, (c6 f hf).2.1, ?_⟩, fun k hk => ⟨?_, (c7 k hk).2⟩⟩
    · show g21 f = iI (v.2 8 f)
      have hf2 : (f : Int) < v.1 2 := hf
      rw [a1 f (by omega)]
      exact (h3a f hf).1
    · show g23 k = iI (v.2 9 k)
      rw [a3 k hk]
      exact (h3b k hk).1
  · obtain ⟨c1, c2, c3, c4, c5, c6, c7⟩ := hM
    refine ⟨c1, c2, c3, c4, c5, fun f hf => ⟨(c6 f hf).1, (c6 f hf).2.1, ?_⟩, fun k hk => ⟨?_, (c7 k hk).2⟩⟩
    · show g6 f = iI (v.2 8 f)
      have hf2 : (f : Int) < v.1 2 := hf
      rw [b1 f (by omega)]
      exact (h3a f hf).2.1
    · show g8 k = iI (v.2 9 k)
      rw [b3 k hk]
      exact (h3b k hk).2.1
  · obtain ⟨o1, o2, o3, o4, o5, o6, o7, o8, o9⟩ := hv
    exact ⟨o1, o2, o3, o4, o5, o6, fun f hf => ⟨(o7 f hf).1, (o7 f hf).2.1, (h3a f hf).2.2⟩, fun k hk => ⟨(h3b k hk).2.2, (o8 k hk).2⟩, o9⟩
  · refine ⟨h2.1, rfl, h2.2.2.1, h2.2.2.2.1, fun f hf => ?_⟩
    have hf2 : (f : Int) < v.1 2 := hf
    show g22 f = g7 f
    rw [a2 f (by omega), b2 f (by omega)]
theorem t_begin (hR : Rel C M) : e_X6_begin C (fun r C1 => e_X7_begin M (fun r2 M1 => r = r2 ∧ Rel C1 M1)) := by
  obtain ⟨v, hV⟩ := hR
  unfold e_X6_begin
  intro u hu
  refine pC_restart (fun g21 g22 g23 a1 a2 a3 => ?_)
  refine pM_begin (fun g6 g7 g8 b1 b2 b3 => ⟨?_, rel_begin hV a1 a2 a3 b1 b2 b3⟩)
  rw [hu]
  exact hV.2.1.2.1
end TT
