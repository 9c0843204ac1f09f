/-! ===== lake: the loop over the clauses on both sides ===== -/
def LE (T : Nat → Int) (t : Nat) (C0 M0 : vS) (eC : (Int32 → vS → Prop) → Prop) (eM : (Int32 → vS → Prop) → Prop) : Prop := (∃ C M a, (∀ Q, e_X3_readAll_49 Q C → eC Q) ∧ (∀ Q, e_X7_lake_35 Q 0 M → eM Q) ∧ PR T t C0 M0 a C M) ∨ (∃ C M k, (∀ Q, e_X3_readAll_49 Q C → eC Q) ∧ (∀ Q, e_X7_lake_35 Q (iI k) M → eM Q) ∧ FL T t C0 M0 k C M)
theorem rn_idem {P : Int → Bool} {T : Nat → Int} : ∀ m a n, rn P T m a < a + m → rn P T n (rn P T m a) = rn P T m a := by
  intro m a n h
  have := rn_stop (P := P) (T := T) m a h
  cases n with
  | zero => rfl
  | succ n => exact rn_f this
section TT
variable {C M C0 M0 X : vS} {T : Nat → Int} {t a : Nat}
theorem sk_sk (ha : a ≤ t) (h : sk T t a < t) : sk T t (sk T t a) = sk T t a := by
  have h' : rn pB T (t - a) a < t := h
  exact rn_idem (P := pB) (T := T) (t - a) a _ (by omega)
theorem lp (ht : okT T t) : ∀ (m a r : Nat) (C M : vS), t - a < m → a ≤ t → r ≤ a → PR T t C0 M0 a C M → LE T t C0 M0 (fun Q => ∃ j, e_X3_readAll_10 Q j (nI r) (cA C (sk T t a))) (fun Q => ∃ j, e_X7_lake_16 Q j 0 M) := by
  intro m
  induction m with
  | zero => intro a r C M h; omega
  | succ m ih =>
    intro a r C M hm ha hr hP
    have t5 := ht.1
    have hs := sk_le (T := T) ha
    obtain ⟨g1, g2, g3⟩ := pr_skip ht ha hP
    have c13 : (cA C (sk T t a)).1 13 = 0 := g3.2.2.2.1
    have c12 : (cA C (sk T t a)).1 12 = nI t := g3.1.1.1
    have c15 : (cA C (sk T t a)).1 15 = nI (sk T t a) := sf_at _ _ _
    by_cases e : sk T t a < t
    · have hc := clause ht e (sk_sk ha e) g3
      have tb := ht.2 _ e
      have cpre : ∀ (n : Nat) (Q : Int32 → vS → Prop), e_X3_readStatement (cA C (sk T t a)) (fun S8 => e_X3_skipBlanks S8 (fun S10 => ∀ v12 : Int32, v12 = nI r + 1 → e_X3_readAll_10 Q n v12 S10)) → e_X3_readAll_10 Q (n + 1) (nI r) (cA C (sk T t a)) := by
        intro n Q h
        rw [e_X3_readAll_10.eq_2, nI_500, nI_leI (by omega) (by omega), c12, c15, nI_leI (by omega) (by omega)]
        exact ⟨fun c => absurd c (by omega), fun _ => ⟨fun c => absurd c13 c, fun _ => ⟨fun c => absurd c (by omega), fun _ => h⟩⟩⟩
      have mpre : ∀ (n : Nat) (Q : Int32 → vS → Prop), e_X7_takeClause (mA M (sk T t a)) (fun r10 S9 => e_X7_lake_16 Q n r10 S9) → e_X7_lake_16 Q (n + 1) 0 M := by
        intro n Q h
        rw [e_X7_lake_16.eq_2]
        refine ⟨fun c => absurd rfl c, fun _ => g2 _ ?_⟩
        rw [if_pos e, L0, iI_lt (sm_of (by omega) (by omega)) (sm_of (by decide) (by decide))]
        exact ⟨fun c => absurd c (by omega), fun _ => h⟩
      rcases hc with ⟨C1, M1, a1, h1, h2, rC, rM, hP1⟩ | ⟨C1, M1, k, rC, rM, hF⟩
      · have ihh := ih a1 (r + 1) C1 M1 (by omega) h2 (by omega) hP1
        have g4 := (pr_skip ht h2 hP1).1
        have cs : ∀ Q, (∃ j, e_X3_readAll_10 Q j (nI (r + 1)) (cA C1 (sk T t a1))) → ∃ j, e_X3_readAll_10 Q j (nI r) (cA C (sk T t a)) := by
          intro Q ⟨j, hj⟩
          refine ⟨j + 1, cpre j Q (rC _ (g4 _ ?_))⟩
          intro v12 e12
          rw [e12, nI_1]
          exact hj
        have msx : ∀ Q, (∃ j, e_X7_lake_16 Q j 0 M1) → ∃ j, e_X7_lake_16 Q j 0 M := by
          intro Q ⟨j, hj⟩
          exact ⟨j + 1, mpre j Q (rM _ hj)⟩
        rcases ihh with ⟨C2, M2, a2, i1, i2, i3⟩ | ⟨C2, M2, k, i1, i2, i3⟩
        · exact Or.inl ⟨C2, M2, a2, fun Q h => cs Q (i1 Q h), fun Q h => msx Q (i2 Q h), i3⟩
        · exact Or.inr ⟨C2, M2, k, fun Q h => cs Q (i1 Q h), fun Q h => msx Q (i2 Q h), i3⟩
      · obtain ⟨f1, ⟨f2, f3⟩, f4, f5, f6, x, hx, f7⟩ := hF
        have e1 : C1 = cA C1 x := (sf_self f7).symm
        have g4 := pC_skip ht f1 hx
        rw [← e1] at g4
        have hx2 := sk_le (T := T) hx
        refine Or.inr ⟨cA C1 (sk T t x), M1, k, fun Q h => ⟨2, cpre 1 Q (rC _ (g4 _ ?_))⟩, fun Q h => ⟨2, mpre 1 Q (rM _ ?_)⟩, f1, ⟨frC_A f2 _, f3⟩, f4, f5, f6, sk T t x, hx2.2, sf_at _ _ _⟩
        · intro v12 e12
          have d13 : ¬ (cA C1 (sk T t x)).1 13 = 0 := by
            have : (cA C1 (sk T t x)).1 13 = iI k := f4
            rw [this]
            exact nz f5
          rw [e_X3_readAll_10.eq_2]
          exact ⟨fun _ => h, fun _ => ⟨fun _ => h, fun c => absurd c d13⟩⟩
        · rw [e_X7_lake_16.eq_2]
          exact ⟨fun _ => h, fun c => absurd c (nz f5)⟩
    · refine Or.inl ⟨cA C (sk T t a), mA M (sk T t a), sk T t a, fun Q h => ⟨1, ?_⟩, fun Q h => ⟨1, ?_⟩, g3⟩
      · rw [e_X3_readAll_10.eq_2, c12, c15, nI_leI (by omega) (by omega)]
        exact ⟨fun _ => h, fun _ => ⟨fun c => absurd c13 c, fun _ => ⟨fun _ => h, fun c => absurd (by omega) c⟩⟩⟩
      · rw [e_X7_lake_16.eq_2]
        refine ⟨fun c => absurd rfl c, fun _ => g2 _ ?_⟩
        rw [if_neg e]
        exact ⟨fun _ => h, fun c => absurd (by decide) c⟩
end TT

section SS
variable {C M : vS}
theorem pC_clear {Q : vS → Prop} (hq : ∀ g12 g13 : Nat → Int32, (∀ j, j < 60 → g12 j = 0) → (∀ j, j < 60 → g13 j = 1) → Q (sr (sr (sf (sf (sf (sf (sf (sf C 6 0) 7 0) 8 0) 9 0) 10 3) 11 100) 12 g12) 13 g13)) : e_X2_clear_draft C Q := by
  unfold e_X2_clear_draft
  intro S1 e1 S2 e2 S3 e3 S4 e4 S5 e5 S6 e6
  rw [e6, e5, e4, e3, e2, e1]
  generalize sf (sf (sf (sf (sf (sf C 6 0) 7 0) 8 0) 9 0) 10 3) 11 100 = B at hq
  have loop : ∀ (r k : Nat), k + r = 60 → ∀ g12 g13 : Nat → Int32, (∀ j, j < k → g12 j = 0) → (∀ j, j < k → g13 j = 1) → e_X2_clear_draft_33 Q (r + 1) (nI k) (sr (sr B 12 g12) 13 g13) := by
    intro r
    induction r with
    | zero =>
      intro k hk g12 g13 h12 h13
      rw [e_X2_clear_draft_33.eq_2, show (60 : Int32) = nI 60 from rfl, nI_leI (by omega) (by omega)]
      exact ⟨fun _ => hq g12 g13 (fun j hj => h12 j (by omega)) (fun j hj => h13 j (by omega)), fun c => absurd (by omega) c⟩
    | succ r ih =>
      intro k hk g12 g13 h12 h13
      rw [e_X2_clear_draft_33.eq_2, show (60 : Int32) = nI 60 from rfl, nI_leI (by omega) (by omega), cl_nI (by omega), nI_1]
      refine ⟨fun c => absurd c (by omega), fun _ => ⟨in_nI (by omega) (by omega), fun S5 e5 S6 e6 u hu => ?_⟩⟩
      have es : S6 = sr (sr B 12 (upd g12 k 0)) 13 (upd g13 k 1) := by
        rw [e6, e5]
        unfold sa sr
        refine Prod.ext rfl (Prod.ext ?_ rfl)
        funext b
        by_cases e7 : b = 13
        · subst e7; rfl
        · by_cases e8 : b = 12
          · subst e8; rfl
          · simp [e7, e8]
      rw [hu, es]
      refine ih (k + 1) (by omega) _ _ (fun j hj => ?_) (fun j hj => ?_)
      · by_cases e : j = k
        · rw [e, pk_us]
        · rw [pk_un e]
          exact h12 j (by omega)
      · by_cases e : j = k
        · rw [e, pk_us]
        · rw [pk_un e]
          exact h13 j (by omega)
  have e := loop 60 0 (by omega) (B.2.1 12) ((sr B 12 (B.2.1 12)).2.1 13) (fun j hj => by omega) (fun j hj => by omega)
  rw [sr_self, sr_self] at e
  exact ⟨61, e⟩
theorem pM_clearR {Q : vS → Prop} (hq : ∀ g12 g13 : Nat → Int32, (∀ j, j < 60 → g12 j = -1) → (∀ j, j < 60 → g13 j = -1) → Q (sr (sr (sf (sf (sf (sf (sf (sf (sf C 15 0) 16 0) 17 0) 18 0) 19 0) 20 0) 21 0) 13 g12) 14 g13)) : e_X7_clear C Q := by
  unfold e_X7_clear
  intro S1 e1 S2 e2 S3 e3 S4 e4 S5 e5 S6 e6 S7 e7
  rw [e7, e6, e5, e4, e3, e2, e1]
  generalize sf (sf (sf (sf (sf (sf (sf C 15 0) 16 0) 17 0) 18 0) 19 0) 20 0) 21 0 = B at hq
  have loop : ∀ (r k : Nat), k + r = 60 → ∀ g12 g13 : Nat → Int32, (∀ j, j < k → g12 j = -1) → (∀ j, j < k → g13 j = -1) → e_X7_clear_37 Q (r + 1) (nI k) (sr (sr B 13 g12) 14 g13) := by
    intro r
    induction r with
    | zero =>
      intro k hk g12 g13 h12 h13
      rw [e_X7_clear_37.eq_2, show (60 : Int32) = nI 60 from rfl, nI_leI (by omega) (by omega)]
      exact ⟨fun _ => hq g12 g13 (fun j hj => h12 j (by omega)) (fun j hj => h13 j (by omega)), fun c => absurd (by omega) c⟩
    | succ r ih =>
      intro k hk g12 g13 h12 h13
      rw [e_X7_clear_37.eq_2, show (60 : Int32) = nI 60 from rfl, nI_leI (by omega) (by omega), cl_nI (by omega), nI_1]
      refine ⟨fun c => absurd c (by omega), fun _ => ⟨in_nI (by omega) (by omega), fun S5 e5 S6 e6 u hu => ?_⟩⟩
      have es : S6 = sr (sr B 13 (upd g12 k (-1))) 14 (upd g13 k (-1)) := by
        rw [e6, e5]
        unfold sa sr
        refine Prod.ext rfl (Prod.ext ?_ rfl)
        funext b
        by_cases e7 : b = 14
        · subst e7; rfl
        · by_cases e8 : b = 13
          · subst e8; rfl
          · simp [e7, e8]
      rw [hu, es]
      refine ih (k + 1) (by omega) _ _ (fun j hj => ?_) (fun j hj => ?_)
      · by_cases e : j = k
        · rw [e, pk_us]
        · rw [pk_un e]
          exact h12 j (by omega)
      · by_cases e : j = k
        · rw [e, pk_us]
        · rw [pk_un e]
          exact h13 j (by omega)
  have e := loop 60 0 (by omega) (B.2.1 13) ((sr B 13 (B.2.1 13)).2.1 14) (fun j hj => by omega) (fun j hj => by omega)
  rw [sr_self, sr_self] at e
  exact ⟨61, e⟩
theorem pC_restartR {Q : vS → Prop} (hq : ∀ g12 g13 g19 g20 : Nat → Int32, (∀ j, j < 60 → g12 j = 0) → (∀ j, j < 60 → g13 j = 1) → (∀ j, j < 6 → g19 j = 0) → (∀ j, j < 60 → g20 j = 0) → Q (sr (sr (sf (sf (sf (sr (sr (sf (sf (sf (sf (sf (sf C 6 0) 7 0) 8 0) 9 0) 10 3) 11 100) 12 g12) 13 g13) 15 0) 13 0) 14 (-1)) 19 g19) 20 g20)) : e_X3_restart C Q := by
  unfold e_X3_restart
  refine pC_clear (fun g12 g13 h12 h13 => ?_)
  intro S3 e3 S4 e4 S5 e5
  rw [e5, e4, e3]
  have hq2 := fun g19 g20 => hq g12 g13 g19 g20 h12 h13
  generalize sf (sf (sf (sr (sr (sf (sf (sf (sf (sf (sf C 6 0) 7 0) 8 0) 9 0) 10 3) 11 100) 12 g12) 13 g13) 15 0) 13 0) 14 (-1) = B at hq2
  have loop2 : ∀ g19 : Nat → Int32, (∀ j, j < 6 → g19 j = 0) → ∀ (r k : Nat), k + r = 60 → ∀ g20 : Nat → Int32, (∀ j, j < k → g20 j = 0) → e_X3_restart_45 Q (r + 1) (nI k) (sr (sr B 19 g19) 20 g20) := by
    intro g19 h19 r
    induction r with
    | zero =>
      intro k hk g20 h20
      rw [e_X3_restart_45.eq_2, show (60 : Int32) = nI 60 from rfl, nI_leI (by omega) (by omega)]
      exact ⟨fun _ => hq2 g19 g20 h19 (fun j hj => h20 j (by omega)), fun c => absurd (by omega) c⟩
    | succ r ih =>
      intro k hk g20 h20
      rw [e_X3_restart_45.eq_2, show (60 : Int32) = nI 60 from rfl, nI_leI (by omega) (by omega), cl_nI (by omega), nI_1]
      refine ⟨fun c => absurd c (by omega), fun _ => ⟨in_nI (by omega) (by omega), fun S6 e6 u hu => ?_⟩⟩
      rw [sa_sr] at e6
      rw [hu, e6]
      refine ih (k + 1) (by omega) _ (fun j hj => ?_)
      by_cases e : j = k
      · rw [e, pk_us]
        rfl
      · rw [pk_un e]
        exact h20 j (by omega)
  have loop1 : ∀ (r k : Nat), k + r = 6 → ∀ g19 : Nat → Int32, (∀ j, j < k → g19 j = 0) → e_X3_restart_24 Q (r + 1) (nI k) (sr B 19 g19) := by
    intro r
    induction r with
    | zero =>
      intro k hk g19 h19
      rw [e_X3_restart_24.eq_2, show (6 : Int32) = nI 6 from rfl, nI_leI (by omega) (by omega)]
      refine ⟨fun _ => ⟨61, ?_⟩, fun c => absurd (by omega) c⟩
      have e := loop2 g19 (fun j hj => h19 j (by omega)) 60 0 (by omega) ((sr B 19 g19).2.1 20) (fun j hj => by omega)
      rw [sr_self] at e
      exact e
    | succ r ih =>
      intro k hk g19 h19
      rw [e_X3_restart_24.eq_2, show (6 : Int32) = nI 6 from rfl, nI_leI (by omega) (by omega), cl_nI (by omega), nI_1]
      refine ⟨fun c => absurd c (by omega), fun _ => ⟨in_nI (by omega) (by omega), fun S6 e6 u hu => ?_⟩⟩
      rw [sa_sr] at e6
      rw [hu, e6]
      refine ih (k + 1) (by omega) _ (fun j hj => ?_)
      by_cases e : j = k
      · rw [e, pk_us]
      · rw [pk_un e]
        exact h19 j (by omega)
  have e := loop1 6 0 (by omega) (B.2.1 19) (fun j hj => by omega)
  rw [sr_self] at e
  exact ⟨7, e⟩
end SS
