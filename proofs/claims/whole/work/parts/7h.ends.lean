/-! ===== lake: behind the loop, on both sides ===== -/
section SS
variable {C M B N X : vS}
theorem pC_copy {Q : vS → Prop} (hq : ∀ g1 g2 g3 g4 g5 g6 g7 g8 : Nat → Int32, (∀ j, j < 6 → g1 j = C.2.1 9 j) → (∀ j, j < 6 → g2 j = C.2.1 10 j) → (∀ j, j < 6 → g3 j = C.2.1 11 j) → (∀ j, j < 60 → g4 j = C.2.1 12 j) → (∀ j, j < 60 → g5 j = C.2.1 13 j) → (∀ j, j < 10 → g6 j = C.2.1 14 j) → (∀ j, j < 10 → g7 j = C.2.1 15 j) → (∀ j, j < 10 → g8 j = C.2.1 16 j) → Q (sr (sr (sr (sr (sr (sr (sr (sr (sf (sf (sf (sf (sf (sf C 0 (C.1 6)) 1 (C.1 7)) 2 (C.1 8)) 3 (C.1 9)) 4 (C.1 10)) 5 (C.1 11)) 1 g1) 2 g2) 3 g3) 4 g4) 5 g5) 6 g6) 7 g7) 8 g8)) : e_X2_copyFrom_plan_draft C Q := by
  unfold e_X2_copyFrom_plan_draft
  intro S1 e1 S2 e2 S3 e3 S4 e4 S5 e5 S6 e6 S7 e7 S8 e8 S9 e9 S10 e10 S11 e11 S12 e12 S13 e13 S14 e14
  rw [e14, e13, e12, e11, e10, e9, e8, e7, e6, e5, e4, e3, e2, e1]
  refine hq _ _ _ _ _ _ _ _ (fun j hj => ?_) (fun j hj => ?_) (fun j hj => ?_) (fun j hj => ?_) (fun j hj => ?_) (fun j hj => ?_) (fun j hj => ?_) (fun j hj => ?_)
  · rw [cpy0 _ _ _ 6 rfl, if_pos hj]
    rfl
  · rw [cpy0 _ _ _ 6 rfl, if_pos hj]
    rfl
  · rw [cpy0 _ _ _ 6 rfl, if_pos hj]
    rfl
  · rw [cpy0 _ _ _ 60 rfl, if_pos hj]
    rfl
  · rw [cpy0 _ _ _ 60 rfl, if_pos hj]
    rfl
  · rw [cpy0 _ _ _ 10 rfl, if_pos hj]
    rfl
  · rw [cpy0 _ _ _ 10 rfl, if_pos hj]
    rfl
  · rw [cpy0 _ _ _ 10 rfl, if_pos hj]
    rfl
theorem pM_236 {E : vS} {Q : Int32 → vS → Prop} (hq : ∀ g5 : Nat → Int32, (∀ j, j < 30 → g5 j = E.2.1 15 j) → e_X7_begin (sa (sa (sf (sr E 5 g5) 23 0) 22 0 0) 22 1 0) (fun _ S35 => e_X7_cells S35 (fun r S => Q r S))) : ∃ j, e_X7_lake_236 Q j 0 E := by
  have loop : ∀ (r k : Nat), k + r = 30 → ∀ g5 : Nat → Int32, (∀ j, j < k → g5 j = E.2.1 15 j) → e_X7_lake_236 Q (r + 1) (nI k) (sr E 5 g5) := by
    intro r
    induction r with
    | zero =>
      intro k hk g5 h5
      rw [e_X7_lake_236.eq_2, show (30 : Int32) = nI 30 from rfl, nI_leI (by omega) (by omega)]
      refine ⟨fun _ S32 e32 S33 e33 S34 e34 => ?_, fun c => absurd (by omega) c⟩
      rw [e34, e33, e32]
      exact hq g5 (fun j hj => h5 j (by omega))
    | succ r ih =>
      intro k hk g5 h5
      rw [e_X7_lake_236.eq_2, show (30 : Int32) = nI 30 from rfl, nI_leI (by omega) (by omega), cl_nI (by omega), nI_1]
      refine ⟨fun c => absurd c (by omega), fun _ => ⟨in_nI (by omega) (by omega), fun S6 e6 u hu => ?_⟩⟩
      rw [sa_sr] at e6
      rw [hu, e6]
      refine ih (k + 1) (by omega) _ (fun j hj => ?_)
      by_cases e : j = k
      · rw [e, pk_us]
        rfl
      · rw [pk_un e]
        exact h5 j (by omega)
  have e := loop 30 0 (by omega) (E.2.1 5) (fun j hj => by omega)
  rw [sr_self] at e
  exact ⟨31, e⟩
theorem pM_172 {F : vS} {Q : Int32 → vS → Prop} (hq : ∀ g3 g4 : Nat → Int32, (∀ j, j < 60 → g3 j = if 0 ≤ F.2.1 13 j then F.2.1 13 j else 0) → (∀ j, j < 60 → g4 j = if 0 ≤ F.2.1 14 j then F.2.1 14 j else 1) → ∃ j, e_X7_lake_236 Q j 0 (sr (sr F 3 g3) 4 g4)) : ∃ j, e_X7_lake_172 Q j 0 F := by
  have two : ∀ (g3 g4 : Nat → Int32) (k : Nat) (x y : Int32), sa (sa (sr (sr F 3 g3) 4 g4) 3 k x) 4 k y = sr (sr F 3 (upd g3 k x)) 4 (upd g4 k y) := by
    intro g3 g4 k x y
    unfold sa sr
    refine Prod.ext rfl (Prod.ext ?_ rfl)
    funext b
    by_cases e7 : b = 4
    · subst e7; rfl
    · by_cases e8 : b = 3
      · subst e8; rfl
      · simp [e7, e8]
  have loop : ∀ (r k : Nat), k + r = 60 → ∀ g3 g4 : Nat → Int32, (∀ j, j < k → g3 j = if 0 ≤ F.2.1 13 j then F.2.1 13 j else 0) → (∀ j, j < k → g4 j = if 0 ≤ F.2.1 14 j then F.2.1 14 j else 1) → e_X7_lake_172 Q (r + 1) (nI k) (sr (sr F 3 g3) 4 g4) := by
    intro r
    induction r with
    | zero =>
      intro k hk g3 g4 h3 h4
      rw [e_X7_lake_172.eq_2, show (60 : Int32) = nI 60 from rfl, nI_leI (by omega) (by omega)]
      exact ⟨fun _ => hq g3 g4 (fun j hj => h3 j (by omega)) (fun j hj => h4 j (by omega)), fun c => absurd (by omega) c⟩
    | succ r ih =>
      intro k hk g3 g4 h3 h4
      have nx : ∀ x y : Int32, (x = if 0 ≤ F.2.1 13 k then F.2.1 13 k else 0) → (y = if 0 ≤ F.2.1 14 k then F.2.1 14 k else 1) → e_X7_lake_172 Q (r + 1) (nI (k + 1)) (sa (sa (sr (sr F 3 g3) 4 g4) 3 k x) 4 k y) := by
        intro x y hx hy
        rw [two]
        refine ih (k + 1) (by omega) _ _ (fun j hj => ?_) (fun j hj => ?_)
        · by_cases e : j = k
          · rw [e, pk_us, hx]
          · rw [pk_un e]
            exact h3 j (by omega)
        · by_cases e : j = k
          · rw [e, pk_us, hy]
          · rw [pk_un e]
            exact h4 j (by omega)
      have r13 : (sr (sr F 3 g3) 4 g4).2.1 13 k = F.2.1 13 k := rfl
      have st : ∀ x : Int32, (x = if 0 ≤ F.2.1 13 k then F.2.1 13 k else 0) → e_X7_lake_202 (e_X7_lake_172 Q (r + 1)) Q (nI k) x (nI k) (sr (sr F 3 g3) 4 g4) := by
        intro x hx
        unfold e_X7_lake_202
        rw [cl_nI (by omega), nI_1]
        refine ⟨in_nI (by omega) (by omega), fun S43 e43 => ⟨in_nI (by omega) (by omega), ?_⟩⟩
        have r14 : S43.2.1 14 k = F.2.1 14 k := by rw [e43]; rfl
        rw [r14]
        refine ⟨fun c S46 e46 v47 e47 => ?_, fun c S46 e46 v47 e47 => ?_⟩
        · rw [e47, e46, e43]
          exact nx x _ hx (by rw [if_pos c])
        · rw [e47, e46, e43]
          exact nx x _ hx (by rw [if_neg c])
      rw [e_X7_lake_172.eq_2, show (60 : Int32) = nI 60 from rfl, nI_leI (by omega) (by omega), cl_nI (by omega), r13]
      refine ⟨fun c => absurd c (by omega), fun _ => ⟨in_nI (by omega) (by omega), fun c => st _ ?_, fun c => st _ ?_⟩⟩
      · rw [if_pos c]
      · rw [if_neg c]
  have e := loop 60 0 (by omega) (F.2.1 3) ((sr F 3 (F.2.1 3)).2.1 4) (fun j hj => by omega) (fun j hj => by omega)
  rw [sr_self, sr_self] at e
  exact ⟨61, e⟩
theorem pM_122 {Q : Int32 → vS → Prop} (hq : ∀ g0 g1 g2 : Nat → Int32, (∀ j, j < 6 → g0 j = B.2.1 10 j) → (∀ j, j < 6 → g1 j = B.2.1 11 j) → (∀ j, j < 6 → g2 j = B.2.1 12 j) → ∃ j, e_X7_lake_172 Q j 0 (sr (sr (sr B 0 g0) 1 g1) 2 g2)) : ∃ j, e_X7_lake_122 Q j 0 B := by
  have three : ∀ (g0 g1 g2 : Nat → Int32) (k : Nat) (x y z : Int32), sa (sa (sa (sr (sr (sr B 0 g0) 1 g1) 2 g2) 0 k x) 1 k y) 2 k z = sr (sr (sr B 0 (upd g0 k x)) 1 (upd g1 k y)) 2 (upd g2 k z) := by
    intro g0 g1 g2 k x y z
    unfold sa sr
    refine Prod.ext rfl (Prod.ext ?_ rfl)
    funext b
    by_cases e7 : b = 2
    · subst e7; rfl
    · by_cases e8 : b = 1
      · subst e8; rfl
      · by_cases e9 : b = 0
        · subst e9; rfl
        · simp [e7, e8, e9]
  have loop : ∀ (r k : Nat), k + r = 6 → ∀ g0 g1 g2 : Nat → Int32, (∀ j, j < k → g0 j = B.2.1 10 j) → (∀ j, j < k → g1 j = B.2.1 11 j) → (∀ j, j < k → g2 j = B.2.1 12 j) → e_X7_lake_122 Q (r + 1) (nI k) (sr (sr (sr B 0 g0) 1 g1) 2 g2) := by
    intro r
    induction r with
    | zero =>
      intro k hk g0 g1 g2 h0 h1 h2
      rw [e_X7_lake_122.eq_2, show (6 : Int32) = nI 6 from rfl, nI_leI (by omega) (by omega)]
      exact ⟨fun _ => hq g0 g1 g2 (fun j hj => h0 j (by omega)) (fun j hj => h1 j (by omega)) (fun j hj => h2 j (by omega)), fun c => absurd (by omega) c⟩
    | succ r ih =>
      intro k hk g0 g1 g2 h0 h1 h2
      rw [e_X7_lake_122.eq_2, show (6 : Int32) = nI 6 from rfl, nI_leI (by omega) (by omega), cl_nI (by omega), nI_1]
      refine ⟨fun c => absurd c (by omega), fun _ => ⟨in_nI (by omega) (by omega), fun S24 e24 S25 e25 S26 e26 u hu => ?_⟩⟩
      have es : S26 = sr (sr (sr B 0 (upd g0 k (B.2.1 10 k))) 1 (upd g1 k (B.2.1 11 k))) 2 (upd g2 k (B.2.1 12 k)) := by
        rw [e26, e25, e24]
        exact three g0 g1 g2 k _ _ _
      rw [hu, es]
      refine ih (k + 1) (by omega) _ _ _ (fun j hj => ?_) (fun j hj => ?_) (fun j hj => ?_)
      · by_cases e : j = k
        · rw [e, pk_us]
        · rw [pk_un e]
          exact h0 j (by omega)
      · by_cases e : j = k
        · rw [e, pk_us]
        · rw [pk_un e]
          exact h1 j (by omega)
      · by_cases e : j = k
        · rw [e, pk_us]
        · rw [pk_un e]
          exact h2 j (by omega)
  have e := loop 6 0 (by omega) (B.2.1 0) ((sr B 0 (B.2.1 0)).2.1 1) ((sr (sr B 0 (B.2.1 0)) 1 ((sr B 0 (B.2.1 0)).2.1 1)).2.1 2) (fun j hj => by omega) (fun j hj => by omega) (fun j hj => by omega)
  rw [sr_self, sr_self, sr_self] at e
  exact ⟨7, e⟩
theorem pM_35 {h c : Int32} {Q : Int32 → vS → Prop} (hh : (M.1 21 ≤ 0 ∧ h = 3 ∧ c = 100) ∨ (¬ M.1 21 ≤ 0 ∧ h = M.1 21 ∧ c = M.1 22)) (k : ∃ j, e_X7_lake_122 Q j 0 (sf (sf (sf (sf (sf (sf (sf M 9 0) 0 (M.1 15)) 1 (M.1 16)) 2 (M.1 17)) 3 (M.1 20)) 4 h) 5 c)) : e_X7_lake_35 Q 0 M := by
  unfold e_X7_lake_35
  intro S11 e11
  refine ⟨fun _ S13 e13 S14 e14 S15 e15 S16 e16 => ?_, fun c => absurd (by decide) c⟩
  have f21 : S16.1 21 = M.1 21 := by rw [e16, e15, e14, e13, e11]; rfl
  have f22 : S16.1 22 = M.1 22 := by rw [e16, e15, e14, e13, e11]; rfl
  rw [f21]
  unfold e_X7_lake_97
  rcases hh with ⟨h1, h2, h3⟩ | ⟨h1, h2, h3⟩
  · refine ⟨fun _ S18 e18 => ?_, fun c => absurd h1 c⟩
    have g21 : S18.1 21 = M.1 21 := by rw [e18]; exact f21
    rw [g21]
    refine ⟨fun _ S20 e20 => ?_, fun c => absurd h1 c⟩
    rw [e20, e18, e16, e15, e14, e13, e11]
    rw [h2, h3] at k
    exact k
  · refine ⟨fun c => absurd c h1, fun _ S18 e18 => ?_⟩
    have g21 : S18.1 21 = M.1 21 := by rw [e18]; exact f21
    have g22 : S18.1 22 = M.1 22 := by rw [e18]; exact f22
    rw [g21, g22]
    refine ⟨fun c => absurd c h1, fun _ S20 e20 => ?_⟩
    rw [e20, e18, e16, e15, e14, e13, e11]
    rw [h2, h3] at k
    exact k
end SS
