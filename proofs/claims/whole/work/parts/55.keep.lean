/-! ===== keep, goBack ===== -/
theorem L72 : (72 : Int32) = iI 72 := rfl
theorem L73 : (73 : Int32) = iI 73 := rfl
theorem L74 : (74 : Int32) = iI 74 := rfl
theorem L12 : (12 : Int32) = iI 12 := rfl
theorem L80 : (80 : Int32) = iI 80 := rfl
theorem ixN {b : Nat} {x c : Int32} {k : Nat} (hx : x = nI b) (hc : c = nI k) : x + c = nI (b + k) := by rw [hx, hc, nI_add]
/-- what keep writes into the row of images -/
def kpOk (M : vS) (e : Nat) (g : Nat → Int32) : Prop := (∀ f : Nat, f < 6 → g (80 * e + f) = M.2.1 6 f ∧ g (80 * e + 6 + f) = M.2.1 7 f) ∧ (∀ k : Nat, k < 60 → g (80 * e + 12 + k) = M.2.1 8 k) ∧ g (80 * e + 72) = M.1 7 ∧ g (80 * e + 73) = M.1 6 ∧ g (80 * e + 74) = M.1 8 ∧ ∀ j : Nat, (j < 80 * e ∨ 80 * e + 80 ≤ j) → g j = M.2.1 21 j
theorem pM_keep {M : vS} {e : Nat} (he : e < 2) {Q : Int32 → vS → Prop} (hq : ∀ g : Nat → Int32, kpOk M e g → Q 1 (sr (sr M 21 g) 22 (upd (M.2.1 22) e 1))) : e_X7_keep (nI e) M Q := by
  have z0 : (0 : Int64).toInt = 0 := rfl
  have z1 : (1 : Int64).toInt = 1 := rfl
  have n6 : (6 : Int32) = nI 6 := rfl
  have n12 : (12 : Int32) = nI 12 := rfl
  have n60 : (60 : Int32) = nI 60 := rfl
  have n72 : (72 : Int32) = nI 72 := rfl
  have n73 : (73 : Int32) = nI 73 := rfl
  have n74 : (74 : Int32) = nI 74 := rfl
  have n80 : (80 : Int32) = nI 80 := rfl
  have loop2 : ∀ (r k : Nat), k + r = 60 → ∀ g : Nat → Int32, (∀ f : Nat, f < 6 → g (80 * e + f) = M.2.1 6 f ∧ g (80 * e + 6 + f) = M.2.1 7 f) → (∀ j : Nat, j < k → g (80 * e + 12 + j) = M.2.1 8 j) → (∀ j : Nat, (j < 80 * e ∨ 80 * e + 80 ≤ j) → g j = M.2.1 21 j) → e_X7_keep_66 Q (r + 1) (nI e) (nI (80 * e)) (nI k) (sr M 21 g) := by
    intro r
    induction r with
    | zero =>
      intro k hk g h1 h2 h3
      rw [e_X7_keep_66.eq_2, n60, n72, n73, n74, nI_add, nI_add, nI_add, nI_leI (by omega) (by omega), cl_nI (by omega), cl_nI (by omega), cl_nI (by omega), cl_nI (by omega)]
      refine ⟨fun _ => ⟨in_nI (by omega) (by omega), fun S1 e1 => ⟨in_nI (by omega) (by omega), fun S2 e2 => ⟨in_nI (by omega) (by omega), fun S3 e3 => ⟨in_nI (by omega) (by omega), fun S4 e4 => ?_⟩⟩⟩⟩, fun c => absurd (by omega) c⟩
      rw [sa_sr] at e1
      rw [e1, sa_sr] at e2
      rw [e2, sa_sr] at e3
      have ev : vp_nar .boolean 1 = 1 := by decide
      have e5 : S4 = sr S3 22 (upd (M.2.1 22) e 1) := by
        rw [e4, ev, e3]
        rfl
      rw [e5, e3]
      refine hq _ ⟨fun f hf => ?_, fun k2 hk2 => ?_, ?_, ?_, ?_, fun j hj => ?_⟩
      · rw [pk_un (by omega), pk_un (by omega), pk_un (by omega), pk_un (by omega), pk_un (by omega), pk_un (by omega)]
        exact h1 f hf
      · rw [pk_un (by omega), pk_un (by omega), pk_un (by omega)]
        exact h2 k2 (by omega)
      · rw [pk_un (by omega), pk_un (by omega), pk_us]
        rfl
      · rw [pk_un (by omega), pk_us]
        rfl
      · rw [pk_us]
        rfl
      · rw [pk_un (by omega), pk_un (by omega), pk_un (by omega)]
        exact h3 j hj
    | succ r ih =>
      intro k hk g h1 h2 h3
      rw [e_X7_keep_66.eq_2, n60, n12, nI_add, nI_add, nI_leI (by omega) (by omega), cl_nI (by omega), cl_nI (by omega)]
      refine ⟨fun c => absurd c (by omega), fun _ => ⟨in_nI (by omega) (by omega), in_nI (by omega) (by omega), fun S1 e1 u hu => ?_⟩⟩
      rw [sa_sr] at e1
      rw [hu, nI_1, e1]
      refine ih (k + 1) (by omega) _ (fun f hf => ?_) (fun j hj => ?_) (fun j hj => ?_)
      · rw [pk_un (by omega), pk_un (by omega)]
        exact h1 f hf
      · by_cases ej : j = k
        · rw [ej, pk_us, cl_nI (by omega)]
          rfl
        · rw [pk_un (by omega)]
          exact h2 j (by omega)
      · rw [pk_un (by omega)]
        exact h3 j hj
  have loop1 : ∀ (r k : Nat), k + r = 6 → ∀ g : Nat → Int32, (∀ f : Nat, f < k → g (80 * e + f) = M.2.1 6 f ∧ g (80 * e + 6 + f) = M.2.1 7 f) → (∀ j : Nat, (j < 80 * e ∨ 80 * e + 80 ≤ j) → g j = M.2.1 21 j) → e_X7_keep_21 Q (r + 1) (nI e) (nI (80 * e)) (nI k) (sr M 21 g) := by
    intro r
    induction r with
    | zero =>
      intro k hk g h1 h3
      rw [e_X7_keep_21.eq_2, n6, nI_leI (by omega) (by omega)]
      exact ⟨fun _ => ⟨61, loop2 60 0 (by omega) g (fun f hf => h1 f (by omega)) (fun j hj => by omega) h3⟩, fun c => absurd (by omega) c⟩
    | succ r ih =>
      intro k hk g h1 h3
      rw [e_X7_keep_21.eq_2, n6, nI_add, nI_add, nI_add, nI_leI (by omega) (by omega), cl_nI (by omega), cl_nI (by omega), cl_nI (by omega)]
      refine ⟨fun c => absurd c (by omega), fun _ => ⟨in_nI (by omega) (by omega), in_nI (by omega) (by omega), fun S1 e1 => ⟨in_nI (by omega) (by omega), fun S2 e2 u hu => ?_⟩⟩⟩
      rw [sa_sr] at e1
      rw [e1, sa_sr] at e2
      rw [hu, nI_1, e2]
      refine ih (k + 1) (by omega) _ (fun f hf => ?_) (fun j hj => ?_)
      · by_cases ej : f = k
        · rw [ej, pk_un (by omega), pk_us, pk_us]
          exact ⟨rfl, rfl⟩
        · rw [pk_un (by omega), pk_un (by omega), pk_un (by omega), pk_un (by omega)]
          exact h1 f (by omega)
      · rw [pk_un (by omega), pk_un (by omega)]
        exact h3 j hj
  unfold e_X7_keep
  refine p_in (fun _ _ => ⟨fun _ u hu => ?_, fun c => absurd c (by decide)⟩) (fun a1 => ?_)
  · have fu : u = nI (80 * e) := by rw [hu, n80, pk_mul]
    rw [fu]
    have q := loop1 6 0 (by omega) (M.2.1 21) (fun f hf => by omega) (fun j _ => rfl)
    rw [sr_self] at q
    exact ⟨7, q⟩
  · rw [iI_L, z0, z1, iI_nat, iI_T (sm_of (by omega) (by omega))] at a1
    omega
theorem out_keep {M : vS} {x : Int32} (h : x.toInt < 0 ∨ 1 < x.toInt) {Q : Int32 → vS → Prop} (hq : Q (-1000000001) M) : e_X7_keep x M Q := by
  have z0 : (0 : Int64).toInt = 0 := rfl
  have z1 : (1 : Int64).toInt = 1 := rfl
  unfold e_X7_keep
  refine p_in (fun a1 a2 => ?_) (fun _ => ⟨fun c => absurd rfl c, fun _ => hq⟩)
  rw [iI_L, z0] at a1
  rw [iI_L, z1] at a2
  omega
theorem out_goBack {M : vS} {x : Int32} (h : x.toInt < 0 ∨ 1 < x.toInt) {Q : Int32 → vS → Prop} (hq : Q (-1000000001) M) : e_X7_goBack x M Q := by
  have z0 : (0 : Int64).toInt = 0 := rfl
  have z1 : (1 : Int64).toInt = 1 := rfl
  unfold e_X7_goBack
  refine p_in (fun a1 a2 => ?_) (fun _ => ⟨fun c => absurd rfl c, fun _ => hq⟩)
  rw [iI_L, z0] at a1
  rw [iI_L, z1] at a2
  omega
theorem pM_goBack {M : vS} {e : Nat} (he : e < 2) {Q : Int32 → vS → Prop} (h0 : M.2.1 22 e = 0 → Q (-1000000003) M) (hq : ¬ M.2.1 22 e = 0 → ∀ g6 g7 g8 : Nat → Int32, (∀ f : Nat, f < 6 → g6 f = M.2.1 21 (80 * e + f) ∧ g7 f = M.2.1 21 (80 * e + 6 + f)) → (∀ k : Nat, k < 60 → g8 k = M.2.1 21 (80 * e + 12 + k)) → Q 1 (sf (sf (sf (sr (sr (sr M 6 g6) 7 g7) 8 g8) 7 (M.2.1 21 (80 * e + 72))) 6 (M.2.1 21 (80 * e + 73))) 8 (M.2.1 21 (80 * e + 74)))) : e_X7_goBack (nI e) M Q := by
  have z0 : (0 : Int64).toInt = 0 := rfl
  have z1 : (1 : Int64).toInt = 1 := rfl
  have n6 : (6 : Int32) = nI 6 := rfl
  have n12 : (12 : Int32) = nI 12 := rfl
  have n60 : (60 : Int32) = nI 60 := rfl
  have n72 : (72 : Int32) = nI 72 := rfl
  have n73 : (73 : Int32) = nI 73 := rfl
  have n74 : (74 : Int32) = nI 74 := rfl
  have n80 : (80 : Int32) = nI 80 := rfl
  unfold e_X7_goBack
  refine p_in (fun _ _ => ⟨fun _ => ?_, fun c => absurd c (by decide)⟩) (fun a1 => ?_)
  · rw [cl_nI (by omega)]
    refine ⟨in_nI (by omega) (by omega), fun hk u hu => ?_, fun hk => h0 hk⟩
    have hq := hq hk
    have loop2 : ∀ g6 g7 : Nat → Int32, (∀ f : Nat, f < 6 → g6 f = M.2.1 21 (80 * e + f) ∧ g7 f = M.2.1 21 (80 * e + 6 + f)) → ∀ (r k : Nat), k + r = 60 → ∀ g8 : Nat → Int32, (∀ j : Nat, j < k → g8 j = M.2.1 21 (80 * e + 12 + j)) → e_X7_goBack_79 Q (r + 1) (nI (80 * e)) (nI k) (sr (sr (sr M 6 g6) 7 g7) 8 g8) := by
      intro g6 g7 h1 r
      induction r with
      | zero =>
        intro k hk g8 h2
        rw [e_X7_goBack_79.eq_2, n60, n72, n73, n74, nI_add, nI_add, nI_add, nI_leI (by omega) (by omega), cl_nI (by omega), cl_nI (by omega), cl_nI (by omega)]
        refine ⟨fun _ => ⟨in_nI (by omega) (by omega), fun S1 e1 => ⟨in_nI (by omega) (by omega), fun S2 e2 => ⟨in_nI (by omega) (by omega), fun S3 e3 => ?_⟩⟩⟩, fun c => absurd (by omega) c⟩
        rw [e3, e2, e1]
        exact hq g6 g7 g8 h1 (fun j hj => h2 j (by omega))
      | succ r ih =>
        intro k hk g8 h2
        rw [e_X7_goBack_79.eq_2, n60, n12, nI_add, nI_add, nI_leI (by omega) (by omega), cl_nI (by omega), cl_nI (by omega)]
        refine ⟨fun c => absurd c (by omega), fun _ => ⟨in_nI (by omega) (by omega), in_nI (by omega) (by omega), fun S1 e1 u hu => ?_⟩⟩
        rw [sa_sr] at e1
        rw [hu, nI_1, e1]
        refine ih (k + 1) (by omega) _ (fun j hj => ?_)
        by_cases ej : j = k
        · rw [ej, pk_us]
          rfl
        · rw [pk_un (by omega)]
          exact h2 j (by omega)
    have loop1 : ∀ (r k : Nat), k + r = 6 → ∀ g6 g7 : Nat → Int32, (∀ f : Nat, f < k → g6 f = M.2.1 21 (80 * e + f) ∧ g7 f = M.2.1 21 (80 * e + 6 + f)) → e_X7_goBack_34 Q (r + 1) (nI (80 * e)) (nI k) (sr (sr M 6 g6) 7 g7) := by
      intro r
      induction r with
      | zero =>
        intro k hk g6 g7 h1
        rw [e_X7_goBack_34.eq_2, n6, nI_leI (by omega) (by omega)]
        refine ⟨fun _ => ?_, fun c => absurd (by omega) c⟩
        have q := loop2 g6 g7 (fun f hf => h1 f (by omega)) 60 0 (by omega) ((sr (sr M 6 g6) 7 g7).2.1 8) (fun j hj => by omega)
        rw [sr_self] at q
        exact ⟨61, q⟩
      | succ r ih =>
        intro k hk g6 g7 h1
        rw [e_X7_goBack_34.eq_2, n6, nI_add, nI_add, nI_add, nI_leI (by omega) (by omega), cl_nI (by omega), cl_nI (by omega), cl_nI (by omega)]
        refine ⟨fun c => absurd c (by omega), fun _ => ⟨in_nI (by omega) (by omega), in_nI (by omega) (by omega), fun S1 e1 => ⟨in_nI (by omega) (by omega), fun S2 e2 u hu => ?_⟩⟩⟩
        have es : S2 = sr (sr M 6 (upd g6 k (M.2.1 21 (80 * e + k)))) 7 (upd g7 k (M.2.1 21 (80 * e + 6 + k))) := by
          rw [e2, e1]
          unfold sa sr
          refine Prod.ext rfl (Prod.ext ?_ rfl)
          funext b
          by_cases e7 : b = 7
          · subst e7; rfl
          · by_cases e8 : b = 6
            · subst e8; rfl
            · simp [e7, e8]
        rw [hu, nI_1, es]
        refine ih (k + 1) (by omega) _ _ (fun f hf => ?_)
        by_cases ej : f = k
        · rw [ej, pk_us, pk_us]
          exact ⟨rfl, rfl⟩
        · rw [pk_un (by omega), pk_un (by omega)]
          exact h1 f (by omega)
    have fu : u = nI (80 * e) := by rw [hu, n80, pk_mul]
    rw [fu]
    have q := loop1 6 0 (by omega) (M.2.1 6) ((sr M 6 (M.2.1 6)).2.1 7) (fun f hf => by omega)
    rw [sr_self, sr_self] at q
    exact ⟨7, q⟩
  · rw [iI_L, z0, z1, iI_nat, iI_T (sm_of (by omega) (by omega))] at a1
    omega
theorem rng_iI {z : Int} (h1 : 0 ≤ z) (h2 : z ≤ 1000) : (iI z).toInt = z := iI_T (sm_of (by omega) (by omega))
section TT
variable {C M : vS}
theorem t_keep_0 {v : vV} (hV : RelV C M v) : e_X5_copyFrom_im0_now C (fun S5 => ∀ S8 : vS, S8 = sf S5 23 (1 : Int32) → e_X7_keep (nI 0) M (fun r2 M1 => (1 : Int32) = r2 ∧ Rel S8 M1)) := by
  obtain ⟨⟨hC, hM, hfC, hfM, hv, hw⟩, h2, h3, h4, h5, h6, h7⟩ := id hV
  have hn := hv.2.2.2.1
  have hl := hv.2.2.2.2.2.1
  unfold e_X5_copyFrom_im0_now
  intro S1 e1 S2 e2 S3 e3 S4 e4 S5 e5 S6 e6 S8 e8
  subst e1 e2 e3 e4 e5 e6 e8
  refine pM_keep (by omega) (fun g hg => ⟨rfl, v, ⟨hC, hM, hfC, hfM, hv, hw⟩, h2, h3, h4, h5, ?_⟩)
  obtain ⟨k1, k2, k3, k4, k5, k6⟩ := hg
  have own : Rim (sf (sr (sr (sr (sf (sf (sf C 20 (C.1 16)) 21 ((sf C 20 (C.1 16)).1 17)) 22 ((sf (sf C 20 (C.1 16)) 21 ((sf C 20 (C.1 16)).1 17)).1 18)) 24 (va_cpy (C.2.1 21) (C.2.1 24) (0 : Int32).toNatClampNeg (0 : Int32).toNatClampNeg (6 : Int32).toNatClampNeg)) 25 (va_cpy (C.2.1 22) (C.2.1 25) (0 : Int32).toNatClampNeg (0 : Int32).toNatClampNeg (6 : Int32).toNatClampNeg)) 26 (va_cpy (C.2.1 23) (C.2.1 26) (0 : Int32).toNatClampNeg (0 : Int32).toNatClampNeg (60 : Int32).toNatClampNeg)) 23 1) (sr (sr M 21 g) 22 (upd (M.2.1 22) 0 1)) v 23 20 21 22 24 25 26 0 := by
    refine Or.inr ⟨rfl, by show upd (M.2.1 22) 0 1 0 = 1; rw [pk_us], ?_, ⟨?_, ?_, ?_⟩, ⟨?_, ?_⟩, fun f hf => ⟨?_, ?_, ?_, ?_⟩, fun k hk => ⟨?_, ?_, ?_⟩⟩
    · show C.1 16 = g (80 * 0 + 72)
      rw [k3]; exact h2.2.1
    · show C.1 17 = g (80 * 0 + 73)
      rw [k4, hC.2.2.2.2.1, hM.2.2.2.2.1]
    · show 0 ≤ (C.1 17).toInt
      rw [hC.2.2.2.2.1, rng_iI (by omega) (by omega)]; omega
    · show (C.1 17).toInt ≤ 2
      rw [hC.2.2.2.2.1, rng_iI (by omega) (by omega)]; omega
    · show C.1 18 = g (80 * 0 + 74)
      rw [k5]; exact h2.2.2.1
    · show 0 ≤ (C.1 18).toInt
      rw [h2.2.2.1]; exact h2.2.2.2.1
    · show va_cpy (C.2.1 21) (C.2.1 24) _ _ _ f = g (80 * 0 + f)
      rw [cpy0 _ _ _ 6 rfl, if_pos (by omega), (k1 f (by omega)).1, (hC.2.2.2.2.2.1 f hf).2.2, (hM.2.2.2.2.2.1 f hf).2.2]
    · show 0 ≤ (va_cpy (C.2.1 21) (C.2.1 24) _ _ _ f).toInt
      have b := (hv.2.2.2.2.2.2.1 f hf).2.2
      rw [cpy0 _ _ _ 6 rfl, if_pos (by omega), (hC.2.2.2.2.2.1 f hf).2.2, rng_iI (by omega) (by omega)]; omega
    · show (va_cpy (C.2.1 21) (C.2.1 24) _ _ _ f).toInt ≤ 9
      have b := (hv.2.2.2.2.2.2.1 f hf).2.2
      rw [cpy0 _ _ _ 6 rfl, if_pos (by omega), (hC.2.2.2.2.2.1 f hf).2.2, rng_iI (by omega) (by omega)]; omega
    · show va_cpy (C.2.1 22) (C.2.1 25) _ _ _ f = g (80 * 0 + 6 + f)
      rw [cpy0 _ _ _ 6 rfl, if_pos (by omega), (k1 f (by omega)).2]
      exact h2.2.2.2.2 f hf
    · show va_cpy (C.2.1 23) (C.2.1 26) _ _ _ k = g (80 * 0 + 12 + k)
      rw [cpy0 _ _ _ 60 rfl, if_pos hk, k2 k hk, (hC.2.2.2.2.2.2 k hk).1, (hM.2.2.2.2.2.2 k hk).1]
    · show 0 ≤ (va_cpy (C.2.1 23) (C.2.1 26) _ _ _ k).toInt
      have b := (hv.2.2.2.2.2.2.2.1 k hk).1
      rw [cpy0 _ _ _ 60 rfl, if_pos hk, (hC.2.2.2.2.2.2 k hk).1, rng_iI (by omega) (by omega)]; omega
    · show (va_cpy (C.2.1 23) (C.2.1 26) _ _ _ k).toInt ≤ 99
      have b := (hv.2.2.2.2.2.2.2.1 k hk).1
      rw [cpy0 _ _ _ 60 rfl, if_pos hk, (hC.2.2.2.2.2.2 k hk).1, rng_iI (by omega) (by omega)]; omega
  have oth : ∀ (C1 : vS), (∀ j, j = 27 ∨ j = 24 ∨ j = 25 ∨ j = 26 → C1.1 j = C.1 j) → (∀ a, a = 27 ∨ a = 28 ∨ a = 29 → C1.2.1 a = C.2.1 a) → Rim C1 (sr (sr M 21 g) 22 (upd (M.2.1 22) 0 1)) v 27 24 25 26 27 28 29 1 := by
    intro C1 q1 q2
    have u1 : (sr (sr M 21 g) 22 (upd (M.2.1 22) 0 1)).2.1 22 1 = M.2.1 22 1 := by
      show upd (M.2.1 22) 0 1 1 = _
      rw [pk_un (by decide)]
    have u2 : ∀ j : Nat, 80 * 1 ≤ j → j < 80 * 1 + 80 → (sr (sr M 21 g) 22 (upd (M.2.1 22) 0 1)).2.1 21 j = M.2.1 21 j := by
      intro j hj1 hj2
      show g j = _
      exact k6 j (by omega)
    unfold Rim
    rw [q1 27 (by omega), q1 24 (by omega), q1 25 (by omega), q1 26 (by omega), q2 27 (by omega), q2 28 (by omega), q2 29 (by omega), u1, u2 _ (by omega) (by omega), u2 _ (by omega) (by omega), u2 _ (by omega) (by omega)]
    rcases h7 with h | ⟨r1, r2, r3, r4, r5, r6, r7⟩
    · exact Or.inl h
    · refine Or.inr ⟨r1, r2, r3, r4, r5, fun f hf => ?_, fun k hk => ?_⟩
      · rw [u2 _ (by omega) (by omega), u2 _ (by omega) (by omega)]
        exact r6 f hf
      · rw [u2 _ (by omega) (by omega)]
        exact r7 k hk
  exact ⟨own, oth _ (fun j hj => by rcases hj with rfl | rfl | rfl | rfl <;> rfl) (fun a ha => by rcases ha with rfl | rfl | rfl <;> rfl)⟩
theorem t_goBack_0 {v : vV} (hV : RelV C M v) : (¬ C.1 23 = 0 → e_X5_copyFrom_now_im0 C (fun S7 => e_X7_goBack (nI 0) M (fun r2 M1 => (1 : Int32) = r2 ∧ Rel S7 M1))) ∧ (C.1 23 = 0 → e_X7_goBack (nI 0) M (fun r2 M1 => (-1000000003 : Int32) = r2 ∧ Rel C M1)) := by
  obtain ⟨⟨hC, hM, hfC, hfM, hv, hw⟩, h2, h3, h4, h5, h6, h7⟩ := id hV
  have hn := hv.2.2.2.1
  rcases id h6 with ⟨q1, q2⟩ | ⟨q1, q2, q3, q4, q5, q6, q7⟩
  · refine ⟨fun c => absurd q1 c, fun _ => ?_⟩
    exact pM_goBack (by omega) (fun _ => ⟨rfl, v, hV⟩) (fun c => absurd q2 c)
  · refine ⟨fun _ => ?_, fun c => absurd (q1.symm.trans c) (by decide)⟩
    unfold e_X5_copyFrom_now_im0
    intro S1 e1 S2 e2 S3 e3 S4 e4 S5 e5 S6 e6
    subst e1 e2 e3 e4 e5 e6
    refine pM_goBack (by omega) (fun c => absurd (q2.symm.trans c) (by decide)) (fun _ g6 g7 g8 k1 k2 => ⟨rfl, ?_⟩)
    refine ⟨(fun j => if j = 4 then (C.1 21).toInt else v.1 j, fun b j => if b = 2 then (C.2.1 24 j).toInt else if b = 3 then (C.2.1 26 j).toInt else v.2 b j), ⟨?_, ?_, hfC, hfM, ?_, hw⟩, ?_, h3, h4, h5, h6, h7⟩
    · obtain ⟨c1, c2, c3, c4, c5, c6, c7⟩ := hC
      refine ⟨c1, c2, c3, c4, iI_of _, fun f hf => ⟨(c6 f hf).1, (c6 f hf).2.1, ?_⟩, fun k hk => ⟨?_, (c7 k hk).2⟩⟩
      · have hf2 : (f : Int) < v.1 2 := hf
        show va_cpy (C.2.1 24) (C.2.1 21) _ _ _ f = iI (C.2.1 24 f).toInt
        rw [cpy0 _ _ _ 6 rfl, if_pos (by omega)]
        exact iI_of _
      · show va_cpy (C.2.1 26) (C.2.1 23) _ _ _ k = iI (C.2.1 26 k).toInt
        rw [cpy0 _ _ _ 60 rfl, if_pos hk]
        exact iI_of _
    · obtain ⟨c1, c2, c3, c4, c5, c6, c7⟩ := hM
      refine ⟨c1, c2, c3, c4, ?_, fun f hf => ⟨(c6 f hf).1, (c6 f hf).2.1, ?_⟩, fun k hk => ⟨?_, (c7 k hk).2⟩⟩
      · show M.2.1 21 (80 * 0 + 73) = iI (C.1 21).toInt
        rw [← q4.1]
        exact iI_of _
      · have hf2 : (f : Int) < v.1 2 := hf
        show g6 f = iI (C.2.1 24 f).toInt
        rw [(k1 f (by omega)).1, ← (q6 f hf).1]
        exact iI_of _
      · show g8 k = iI (C.2.1 26 k).toInt
        rw [k2 k hk, ← (q7 k hk).1]
        exact iI_of _
    · obtain ⟨o1, o2, o3, o4, o5, o6, o7, o8, o9⟩ := hv
      exact ⟨o1, o2, o3, o4, o5, q4.2, fun f hf => ⟨(o7 f hf).1, (o7 f hf).2.1, (q6 f hf).2.1, (q6 f hf).2.2.1⟩, fun k hk => ⟨(q7 k hk).2, (o8 k hk).2⟩, o9⟩
    · refine ⟨h2.1, q3, q5.1, ?_, fun f hf => ?_⟩
      · show 0 ≤ (M.2.1 21 (80 * 0 + 74)).toInt
        rw [← q5.1]
        exact q5.2
      · have hf2 : (f : Int) < v.1 2 := hf
        show va_cpy (C.2.1 25) (C.2.1 22) _ _ _ f = g7 f
        rw [cpy0 _ _ _ 6 rfl, if_pos (by omega), (k1 f (by omega)).2]
        exact (q6 f hf).2.2.2
theorem t_keep_1 {v : vV} (hV : RelV C M v) : e_X5_copyFrom_im1_now C (fun S5 => ∀ S8 : vS, S8 = sf S5 27 (1 : Int32) → e_X7_keep (nI 1) M (fun r2 M1 => (1 : Int32) = r2 ∧ Rel S8 M1)) := by
  obtain ⟨⟨hC, hM, hfC, hfM, hv, hw⟩, h2, h3, h4, h5, h6, h7⟩ := id hV
  have hn := hv.2.2.2.1
  have hl := hv.2.2.2.2.2.1
  unfold e_X5_copyFrom_im1_now
  intro S1 e1 S2 e2 S3 e3 S4 e4 S5 e5 S6 e6 S8 e8
  subst e1 e2 e3 e4 e5 e6 e8
  refine pM_keep (by omega) (fun g hg => ⟨rfl, v, ⟨hC, hM, hfC, hfM, hv, hw⟩, h2, h3, h4, h5, ?_⟩)
  obtain ⟨k1, k2, k3, k4, k5, k6⟩ := hg
  have own : Rim (sf (sr (sr (sr (sf (sf (sf C 24 (C.1 16)) 25 ((sf C 24 (C.1 16)).1 17)) 26 ((sf (sf C 24 (C.1 16)) 25 ((sf C 24 (C.1 16)).1 17)).1 18)) 27 (va_cpy (C.2.1 21) (C.2.1 27) (0 : Int32).toNatClampNeg (0 : Int32).toNatClampNeg (6 : Int32).toNatClampNeg)) 28 (va_cpy (C.2.1 22) (C.2.1 28) (0 : Int32).toNatClampNeg (0 : Int32).toNatClampNeg (6 : Int32).toNatClampNeg)) 29 (va_cpy (C.2.1 23) (C.2.1 29) (0 : Int32).toNatClampNeg (0 : Int32).toNatClampNeg (60 : Int32).toNatClampNeg)) 27 1) (sr (sr M 21 g) 22 (upd (M.2.1 22) 1 1)) v 27 24 25 26 27 28 29 1 := by
    refine Or.inr ⟨rfl, by show upd (M.2.1 22) 1 1 1 = 1; rw [pk_us], ?_, ⟨?_, ?_, ?_⟩, ⟨?_, ?_⟩, fun f hf => ⟨?_, ?_, ?_, ?_⟩, fun k hk => ⟨?_, ?_, ?_⟩⟩
    · show C.1 16 = g (80 * 1 + 72)
      rw [k3]; exact h2.2.1
    · show C.1 17 = g (80 * 1 + 73)
      rw [k4, hC.2.2.2.2.1, hM.2.2.2.2.1]
    · show 0 ≤ (C.1 17).toInt
      rw [hC.2.2.2.2.1, rng_iI (by omega) (by omega)]; omega
    · show (C.1 17).toInt ≤ 2
      rw [hC.2.2.2.2.1, rng_iI (by omega) (by omega)]; omega
    · show C.1 18 = g (80 * 1 + 74)
      rw [k5]; exact h2.2.2.1
    · show 0 ≤ (C.1 18).toInt
      rw [h2.2.2.1]; exact h2.2.2.2.1
    · show va_cpy (C.2.1 21) (C.2.1 27) _ _ _ f = g (80 * 1 + f)
      rw [cpy0 _ _ _ 6 rfl, if_pos (by omega), (k1 f (by omega)).1, (hC.2.2.2.2.2.1 f hf).2.2, (hM.2.2.2.2.2.1 f hf).2.2]
    · show 0 ≤ (va_cpy (C.2.1 21) (C.2.1 27) _ _ _ f).toInt
      have b := (hv.2.2.2.2.2.2.1 f hf).2.2
      rw [cpy0 _ _ _ 6 rfl, if_pos (by omega), (hC.2.2.2.2.2.1 f hf).2.2, rng_iI (by omega) (by omega)]; omega
    · show (va_cpy (C.2.1 21) (C.2.1 27) _ _ _ f).toInt ≤ 9
      have b := (hv.2.2.2.2.2.2.1 f hf).2.2
      rw [cpy0 _ _ _ 6 rfl, if_pos (by omega), (hC.2.2.2.2.2.1 f hf).2.2, rng_iI (by omega) (by omega)]; omega
    · show va_cpy (C.2.1 22) (C.2.1 28) _ _ _ f = g (80 * 1 + 6 + f)
      rw [cpy0 _ _ _ 6 rfl, if_pos (by omega), (k1 f (by omega)).2]
      exact h2.2.2.2.2 f hf
    · show va_cpy (C.2.1 23) (C.2.1 29) _ _ _ k = g (80 * 1 + 12 + k)
      rw [cpy0 _ _ _ 60 rfl, if_pos hk, k2 k hk, (hC.2.2.2.2.2.2 k hk).1, (hM.2.2.2.2.2.2 k hk).1]
    · show 0 ≤ (va_cpy (C.2.1 23) (C.2.1 29) _ _ _ k).toInt
      have b := (hv.2.2.2.2.2.2.2.1 k hk).1
      rw [cpy0 _ _ _ 60 rfl, if_pos hk, (hC.2.2.2.2.2.2 k hk).1, rng_iI (by omega) (by omega)]; omega
    · show (va_cpy (C.2.1 23) (C.2.1 29) _ _ _ k).toInt ≤ 99
      have b := (hv.2.2.2.2.2.2.2.1 k hk).1
      rw [cpy0 _ _ _ 60 rfl, if_pos hk, (hC.2.2.2.2.2.2 k hk).1, rng_iI (by omega) (by omega)]; omega
  have oth : ∀ (C1 : vS), (∀ j, j = 23 ∨ j = 20 ∨ j = 21 ∨ j = 22 → C1.1 j = C.1 j) → (∀ a, a = 24 ∨ a = 25 ∨ a = 26 → C1.2.1 a = C.2.1 a) → Rim C1 (sr (sr M 21 g) 22 (upd (M.2.1 22) 1 1)) v 23 20 21 22 24 25 26 0 := by
    intro C1 q1 q2
    have u1 : (sr (sr M 21 g) 22 (upd (M.2.1 22) 1 1)).2.1 22 0 = M.2.1 22 0 := by
      show upd (M.2.1 22) 1 1 0 = _
      rw [pk_un (by decide)]
    have u2 : ∀ j : Nat, 80 * 0 ≤ j → j < 80 * 0 + 80 → (sr (sr M 21 g) 22 (upd (M.2.1 22) 1 1)).2.1 21 j = M.2.1 21 j := by
      intro j hj1 hj2
      show g j = _
      exact k6 j (by omega)
    unfold Rim
    rw [q1 23 (by omega), q1 20 (by omega), q1 21 (by omega), q1 22 (by omega), q2 24 (by omega), q2 25 (by omega), q2 26 (by omega), u1, u2 _ (by omega) (by omega), u2 _ (by omega) (by omega), u2 _ (by omega) (by omega)]
    rcases h6 with h | ⟨r1, r2, r3, r4, r5, r6, r7⟩
    · exact Or.inl h
    · refine Or.inr ⟨r1, r2, r3, r4, r5, fun f hf => ?_, fun k hk => ?_⟩
      · rw [u2 _ (by omega) (by omega), u2 _ (by omega) (by omega)]
        exact r6 f hf
      · rw [u2 _ (by omega) (by omega)]
        exact r7 k hk
  exact ⟨oth _ (fun j hj => by rcases hj with rfl | rfl | rfl | rfl <;> rfl) (fun a ha => by rcases ha with rfl | rfl | rfl <;> rfl), own⟩
theorem t_goBack_1 {v : vV} (hV : RelV C M v) : (¬ C.1 27 = 0 → e_X5_copyFrom_now_im1 C (fun S7 => e_X7_goBack (nI 1) M (fun r2 M1 => (1 : Int32) = r2 ∧ Rel S7 M1))) ∧ (C.1 27 = 0 → e_X7_goBack (nI 1) M (fun r2 M1 => (-1000000003 : Int32) = r2 ∧ Rel C M1)) := by
  obtain ⟨⟨hC, hM, hfC, hfM, hv, hw⟩, h2, h3, h4, h5, h6, h7⟩ := id hV
  have hn := hv.2.2.2.1
  rcases id h7 with ⟨q1, q2⟩ | ⟨q1, q2, q3, q4, q5, q6, q7⟩
  · refine ⟨fun c => absurd q1 c, fun _ => ?_⟩
    exact pM_goBack (by omega) (fun _ => ⟨rfl, v, hV⟩) (fun c => absurd q2 c)
  · refine ⟨fun _ => ?_, fun c => absurd (q1.symm.trans c) (by decide)⟩
    unfold e_X5_copyFrom_now_im1
    intro S1 e1 S2 e2 S3 e3 S4 e4 S5 e5 S6 e6
    subst e1 e2 e3 e4 e5 e6
    refine pM_goBack (by omega) (fun c => absurd (q2.symm.trans c) (by decide)) (fun _ g6 g7 g8 k1 k2 => ⟨rfl, ?_⟩)
    refine ⟨(fun j => if j = 4 then (C.1 25).toInt else v.1 j, fun b j => if b = 2 then (C.2.1 27 j).toInt else if b = 3 then (C.2.1 29 j).toInt else v.2 b j), ⟨?_, ?_, hfC, hfM, ?_, hw⟩, ?_, h3, h4, h5, h6, h7⟩
    · obtain ⟨c1, c2, c3, c4, c5, c6, c7⟩ := hC
      refine ⟨c1, c2, c3, c4, iI_of _, fun f hf => ⟨(c6 f hf).1, (c6 f hf).2.1, ?_⟩, fun k hk => ⟨?_, (c7 k hk).2⟩⟩
      · have hf2 : (f : Int) < v.1 2 := hf
        show va_cpy (C.2.1 27) (C.2.1 21) _ _ _ f = iI (C.2.1 27 f).toInt
        rw [cpy0 _ _ _ 6 rfl, if_pos (by omega)]
        exact iI_of _
      · show va_cpy (C.2.1 29) (C.2.1 23) _ _ _ k = iI (C.2.1 29 k).toInt
        rw [cpy0 _ _ _ 60 rfl, if_pos hk]
        exact iI_of _
    · obtain ⟨c1, c2, c3, c4, c5, c6, c7⟩ := hM
      refine ⟨c1, c2, c3, c4, ?_, fun f hf => ⟨(c6 f hf).1, (c6 f hf).2.1, ?_⟩, fun k hk => ⟨?_, (c7 k hk).2⟩⟩
      · show M.2.1 21 (80 * 1 + 73) = iI (C.1 25).toInt
        rw [← q4.1]
        exact iI_of _
      · have hf2 : (f : Int) < v.1 2 := hf
        show g6 f = iI (C.2.1 27 f).toInt
        rw [(k1 f (by omega)).1, ← (q6 f hf).1]
        exact iI_of _
      · show g8 k = iI (C.2.1 29 k).toInt
        rw [k2 k hk, ← (q7 k hk).1]
        exact iI_of _
    · obtain ⟨o1, o2, o3, o4, o5, o6, o7, o8, o9⟩ := hv
      exact ⟨o1, o2, o3, o4, o5, q4.2, fun f hf => ⟨(o7 f hf).1, (o7 f hf).2.1, (q6 f hf).2.1, (q6 f hf).2.2.1⟩, fun k hk => ⟨(q7 k hk).2, (o8 k hk).2⟩, o9⟩
    · refine ⟨h2.1, q3, q5.1, ?_, fun f hf => ?_⟩
      · show 0 ≤ (M.2.1 21 (80 * 1 + 74)).toInt
        rw [← q5.1]
        exact q5.2
      · have hf2 : (f : Int) < v.1 2 := hf
        show va_cpy (C.2.1 28) (C.2.1 22) _ _ _ f = g7 f
        rw [cpy0 _ _ _ 6 rfl, if_pos (by omega), (k1 f (by omega)).2]
        exact (q6 f hf).2.2.2
theorem t_keep (hR : Rel C M) (x : Int32) : e_X6_keep x C (fun r C1 => e_X7_keep x M (fun r2 M1 => r = r2 ∧ Rel C1 M1)) := by
  obtain ⟨v, hV⟩ := id hR
  have ex : x < 0 ↔ x.toInt < 0 := by rw [Int32.lt_iff_toInt_lt]; rfl
  have e2 : x < 2 ↔ x.toInt < 2 := by rw [Int32.lt_iff_toInt_lt]; rfl
  unfold e_X6_keep
  rw [ex, e2]
  refine ⟨fun c => out_keep (Or.inl c) ⟨rfl, hR⟩, fun c => ⟨fun c2 => ⟨vp_in_iff.mpr ⟨by omega, by omega⟩, fun e => ?_, fun e => ?_⟩, fun c2 => out_keep (Or.inr (by omega)) ⟨rfl, hR⟩⟩⟩
  · rw [e]
    exact t_keep_0 hV
  · rw [e]
    exact t_keep_1 hV
theorem t_goBack (hR : Rel C M) (x : Int32) : e_X6_goBack x C (fun r C1 => e_X7_goBack x M (fun r2 M1 => r = r2 ∧ Rel C1 M1)) := by
  obtain ⟨v, hV⟩ := id hR
  have ex : x < 0 ↔ x.toInt < 0 := by rw [Int32.lt_iff_toInt_lt]; rfl
  have e2 : x < 2 ↔ x.toInt < 2 := by rw [Int32.lt_iff_toInt_lt]; rfl
  unfold e_X6_goBack
  rw [ex, e2]
  refine ⟨fun c => out_goBack (Or.inl c) ⟨rfl, hR⟩, fun c => ⟨fun c2 => ⟨vp_in_iff.mpr ⟨by omega, by omega⟩, fun e => ?_, fun e => ?_⟩, fun c2 => out_goBack (Or.inr (by omega)) ⟨rfl, hR⟩⟩⟩
  · rw [e]
    exact t_goBack_0 hV
  · rw [e]
    exact t_goBack_1 hV
end TT
