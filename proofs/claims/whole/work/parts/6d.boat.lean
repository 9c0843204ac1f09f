/-! ===== boat: the class's rows, and both together ===== -/
section TT
variable {B C M : vS} {v : vV}
theorem pC_boat_72 (h : shC B v) (hv : okV v) {far : Int} (hg : seesK (B.2.1 30) v far) {f y : Nat} (hf : (f : Int) < v.1 2) (hy : (y : Int) < v.1 1) {x2 : Int32} {Q : Int32 → vS → Prop} {K : Int32 → Int32 → Int32 → vS → Prop}
    (hK : ∀ (r : Nat → Int32) (ρ : Int), (∀ j, j < wN v * (y + 1) → r j = iI (sHas v far f (j % wN v) (j / wN v)) ∧ sHas v far f (j % wN v) (j / wN v) ≤ ρ) → 0 ≤ ρ → ρ ≤ 99 → K (iI f) x2 (iI ((y + 1 : Nat) : Int)) (sf (sr B 36 r) 34 (iI ρ))) :
    ∀ (q x : Nat), x + q = wN v → ∀ (r : Nat → Int32) (ρ : Int), (∀ j, j < wN v * y + x → r j = iI (sHas v far f (j % wN v) (j / wN v)) ∧ sHas v far f (j % wN v) (j / wN v) ≤ ρ) → 0 ≤ ρ → ρ ≤ 99 → e_X6_boat_72 K Q (q + 1) (iI f) x2 (iI y) (iI x) (sf (sr B 36 r) 34 (iI ρ)) := by
  have hn6 := hv.2.2.2.1
  have hwb := hv.1
  have hdb := hv.2.1
  have ew := wN_eq hv
  intro q
  induction q with
  | zero =>
    intro x hx r ρ hr r0 r1
    unfold e_X6_boat_72
    have s0 : (sf (sr B 36 r) 34 (iI ρ)).1 0 = iI (v.1 0) := h.1
    rw [s0, iI_le (sm_of (by omega) (by omega)) (sm_of (by omega) (by omega)), L1, iI_add]
    refine ⟨fun _ v15 e15 => ?_, fun c => absurd (by omega) c⟩
    rw [e15]
    refine hK r ρ (fun j hj => hr j ?_) r0 r1
    have : wN v * (y + 1) = wN v * y + wN v := Nat.mul_succ _ _
    omega
  | succ q ih =>
    intro x hx r ρ hr r0 r1
    unfold e_X6_boat_72
    have s0 : (sf (sr B 36 r) 34 (iI ρ)).1 0 = iI (v.1 0) := h.1
    rw [s0, iI_le (sm_of (by omega) (by omega)) (sm_of (by omega) (by omega)), L1, iI_add]
    refine ⟨fun c => absurd c (by omega), fun _ => ?_⟩
    have hxw : (x : Int) < v.1 0 := by omega
    obtain ⟨i1, i2⟩ := idx_lt hv hxw hy
    obtain ⟨mx1, mx2⟩ := mod_ix (w := wN v) (x := x) (y := y) (by omega)
    have hb := sHas_bd hv (far := far) (f := f) (by omega) hxw hy
    refine pC_num (C := sf (sr B 36 r) 34 (iI ρ)) h hv ?_
    refine pC_catch (C := sf (sr B 36 r) 34 (iI ρ)) h hv hg hf hxw hy ?_
    unfold e_X0_putCatch
    have l0 : iI ((wN v * y + x : Nat) : Int) < 0 ↔ ((wN v * y + x : Nat) : Int) < 0 := by rw [L0, iI_lt (sm_of (by omega) (by omega)) (sm_of (by decide) (by decide))]
    rw [l0, L60, iI_le (sm_of (by decide) (by decide)) (sm_of (by omega) (by omega)), cl_nat (by omega)]
    refine ⟨fun c => absurd c (by omega), fun _ => ⟨fun c => absurd c (by omega), fun _ => ⟨in_nat (by omega) (by omega) (by omega), fun S4 e4 S5 e5 v22 e22 => ?_⟩⟩⟩
    have f34 : S4.1 34 = iI ρ := by rw [e4]; rfl
    rw [f34, if_lt (sm_of (by omega) (by omega)) (sm_of (by omega) (by omega)), e4, sf_sa_sf] at e5
    have em : (if ρ < sHas v far f x y then iI (sHas v far f x y) else iI ρ) = iI (max ρ (sHas v far f x y)) := by
      split
      · congr 1; omega
      · congr 1; omega
    rw [em] at e5
    rw [e5, e22, iI_add]
    refine ih (x + 1) (by omega) (upd r (wN v * y + x) (iI (sHas v far f x y))) (max ρ (sHas v far f x y)) (fun j hj => ?_) (by omega) (by omega)
    by_cases c : j = wN v * y + x
    · rw [c, pk_us, mx1, mx2]
      exact ⟨rfl, by omega⟩
    · rw [pk_un c]
      obtain ⟨a1, a2⟩ := hr j (by omega)
      exact ⟨a1, by omega⟩
theorem pC_boat_58 (h : shC B v) (hv : okV v) {far : Int} (hg : seesK (B.2.1 30) v far) {n f : Nat} (hn : n ≤ 8) (hn0 : 1 ≤ n) (hf : (f : Int) < v.1 2) (b32 : B.1 32 = iI (v.1 0)) (b33 : B.1 33 = iI (v.1 1)) {Q : Int32 → vS → Prop}
    (hq : ∀ (r : Nat → Int32) (ρ b : Int32), Q (iI (bMx (v.1 0) (v.1 1) n (v.2 0 f) 0 (fun k => sHas v far f (k % wN v) (k / wN v)))) (sf (sr (sf B 34 ρ) 36 r) 35 b)) :
    ∀ (q y : Nat), y + q = dN v → ∀ (r : Nat → Int32) (ρ : Int), (∀ j, j < wN v * y → r j = iI (sHas v far f (j % wN v) (j / wN v)) ∧ sHas v far f (j % wN v) (j / wN v) ≤ ρ) → 0 ≤ ρ → ρ ≤ 99 → e_X6_boat_58 Q (q + 1) (iI f) (nI n) (iI y) (sf (sr B 36 r) 34 (iI ρ)) := by
  have hn6 := hv.2.2.2.1
  have hwb := hv.1
  have hdb := hv.2.1
  have ew := wN_eq hv
  have ed := dN_eq hv
  intro q
  induction q with
  | zero =>
    intro y hy r ρ hr r0 r1
    unfold e_X6_boat_58
    have s1 : (sf (sr B 36 r) 34 (iI ρ)).1 1 = iI (v.1 1) := h.2.1
    rw [s1, iI_le (sm_of (by omega) (by omega)) (sm_of (by omega) (by omega))]
    refine ⟨fun _ => ⟨in6 (by omega), ?_⟩, fun c => absurd (by omega) c⟩
    have ey : y = dN v := by omega
    rw [ey] at hr
    obtain ⟨b0, b1, b2⟩ := hv.2.2.2.2.2.2.1 f hf
    have sp : (sf (sr B 36 r) 34 (iI ρ)).2.1 1 f = iI (v.2 0 f) := (h.2.2.2.2.2.1 f hf).1
    rw [cl_nat (by omega), sp]
    unfold e_X0_mostFish
    intro S1 e1
    have e2 : S1 = sf (sr (sf B 34 (iI ρ)) 36 r) 35 (iI (-1)) := e1
    have l8 : (if (8 : Int32) < nI n then (8 : Int32) else nI n) = iI n := by
      rw [iI_nat, show (8 : Int32) = iI 8 from rfl, if_lt (sm_of (by decide) (by decide)) (sm_of (by omega) (by omega)), if_neg (by omega)]
    rw [l8, e2]
    have hcN := cN_le hv
    refine pC_sail (B := sf B 34 (iI ρ)) (w := v.1 0) (d := v.1 1) (rich := ρ) hwb hdb hv.2.2.1 ⟨r0, r1⟩ b32 b33 rfl n 8 hn (v.2 0 f) 0 0 (-1) (fun k => sHas v far f (k % wN v) (k / wN v)) r _ (by omega) (by omega) (by omega) (by omega) (fun k hk => ?_) ?_
    · have hk2 : k < wN v * dN v := by
        rw [← ew, ← ed, ← Int.natCast_mul] at hk
        omega
      obtain ⟨a1, a2⟩ := hr k hk2
      obtain ⟨c1, c2, -, -, -⟩ := kxy hv (k := k) hk2
      have := sHas_bd hv (far := far) (f := f) (by omega) c1 c2
      exact ⟨a1, this.1, a2⟩
    · have hmx := bMx_ge (v.1 0) (v.1 1) n (v.2 0 f) 0 (fun k => sHas v far f (k % wN v) (k / wN v))
      have e3 : bBest (-1) 0 (bMx (v.1 0) (v.1 1) n (v.2 0 f) 0 (fun k => sHas v far f (k % wN v) (k / wN v))) = bMx (v.1 0) (v.1 1) n (v.2 0 f) 0 (fun k => sHas v far f (k % wN v) (k / wN v)) := by
        unfold bBest
        split <;> omega
      rw [e3]
      have e4 : (sf (sr (sf B 34 (iI ρ)) 36 r) 35 (iI (bMx (v.1 0) (v.1 1) n (v.2 0 f) 0 (fun k => sHas v far f (k % wN v) (k / wN v))))).1 35 = iI (bMx (v.1 0) (v.1 1) n (v.2 0 f) 0 (fun k => sHas v far f (k % wN v) (k / wN v))) := sf_at _ _ _
      rw [e4]
      exact hq r (iI ρ) _
  | succ q ih =>
    intro y hy r ρ hr r0 r1
    unfold e_X6_boat_58
    have s1 : (sf (sr B 36 r) 34 (iI ρ)).1 1 = iI (v.1 1) := h.2.1
    rw [s1, iI_le (sm_of (by omega) (by omega)) (sm_of (by omega) (by omega))]
    refine ⟨fun c => absurd c (by omega), fun _ => ⟨wN v + 1, ?_⟩⟩
    exact pC_boat_72 h hv hg hf (by omega) (fun r' ρ' h1 h2 h3 => ih (y + 1) (by omega) r' ρ' h1 h2 h3) (wN v) 0 (by omega) r ρ (fun j hj => hr j (by omega)) r0 r1
theorem t_boat (hR : Rel C M) (x1 x2 : Int32) : e_X6_boat x1 x2 C (fun r C1 => e_X7_boat x1 x2 M (fun r2 M1 => r = r2 ∧ Rel C1 M1)) := by
  obtain ⟨v, ⟨hC, hM, hfC, hfM, hv, hw⟩, h2, h3, h4, h5, h6, h7⟩ := id hR
  have hn6 := hv.2.2.2.1
  have hwb := hv.1
  have hdb := hv.2.1
  have z1 : (1 : Int64).toInt = 1 := rfl
  have z8 : (8 : Int64).toInt = 8 := rfl
  have e1 : x2 < 1 ↔ x2.toInt < 1 := by rw [Int32.lt_iff_toInt_lt]; rfl
  have e8 : x2 ≤ 8 ↔ x2.toInt ≤ 8 := by rw [Int32.le_iff_toInt_le]; rfl
  unfold e_X6_boat
  refine pC_hasMan hC hv (fun f ef hf => ⟨fun _ => ?_, fun c => absurd c (by decide)⟩) (fun h0 => ⟨fun c => absurd rfl c, fun _ => ?_⟩)
  · rw [ef, e1, e8]
    have mout : (x2.toInt < 1 ∨ 8 < x2.toInt) → e_X7_boat (iI f) x2 M (fun r2 M1 => (-1000000002 : Int32) = r2 ∧ Rel C M1) := by
      intro ho
      unfold e_X7_boat
      refine pM_isMan hM hv (fun f2 ef2 hf2 => ⟨fun _ => ?_, fun c => absurd c (by decide)⟩) (fun h0 => (man_no hv rfl hf h0).elim)
      refine p_in (fun a1 a2 => ?_) (fun _ => ⟨fun c => absurd rfl c, fun _ => ⟨rfl, hR⟩⟩)
      rw [iI_L, z1] at a1
      rw [iI_L, z8] at a2
      omega
    refine ⟨fun c => mout (Or.inl c), fun c => ⟨fun c2 => ?_, fun c2 => mout (Or.inr (by omega))⟩⟩
    obtain ⟨n, hN⟩ : ∃ n : Nat, (n : Int) = x2.toInt := ⟨x2.toInt.toNat, Int.toNat_of_nonneg (by omega)⟩
    have en : x2 = nI n := by rw [iI_nat, hN]; exact iI_of x2
    refine pC_lookAll hC hfC hv hw (fun gs hgs => ?_)
    unfold e_X0_start
    intro S1 es1 S2 es2 S3 es3
    have g0' : (sr C 30 gs).1 0 = iI (v.1 0) := hC.1
    have g1' : (sr C 30 gs).1 1 = iI (v.1 1) := hC.2.1
    rw [g0'] at es1
    rw [g1', es1] at es2
    have eS : S3 = sf (sr (sf (sf (sr C 30 gs) 32 (iI (v.1 0))) 33 (iI (v.1 1))) 36 (C.2.1 36)) 34 (iI 0) := by
      rw [es3, es2]
      have : sr (sf (sf (sr C 30 gs) 32 (iI (v.1 0))) 33 (iI (v.1 1))) 36 (C.2.1 36) = sf (sf (sr C 30 gs) 32 (iI (v.1 0))) 33 (iI (v.1 1)) := sr_self (sf (sf (sr C 30 gs) 32 (iI (v.1 0))) 33 (iI (v.1 1))) 36
      rw [this]; rfl
    rw [eS, en]
    refine ⟨dN v + 1, ?_⟩
    refine pC_boat_58 (B := sf (sf (sr C 30 gs) 32 (iI (v.1 0))) 33 (iI (v.1 1))) (v := v) (far := sFarN v (C.1 16).toInt) hC hv hgs (by omega) (by omega) hf rfl rfl (fun r ρ b => ?_) (dN v) 0 (by omega) _ 0 (fun j hj => by omega) (by omega) (by omega)
    unfold e_X7_boat
    refine pM_isMan hM hv (fun f2 ef2 hf2 => ⟨fun _ => ?_, fun c => absurd c (by decide)⟩) (fun h0 => (man_no hv rfl hf h0).elim)
    refine p_in (fun a1 a2 => ⟨fun _ => ?_, fun c => absurd c (by decide)⟩) (fun a1 => ?_)
    · have hm := pM_boat hM hfM hv hw (n := n) (f := f) (by omega) (by omega) hf (Q := fun r2 M1 => iI (bMx (v.1 0) (v.1 1) n (v.2 0 f) 0 (fun k => sHas v (sFarN v (C.1 16).toInt) f (k % wN v) (k / wN v))) = r2 ∧ Rel (sf (sr (sf (sf (sf (sr C 30 gs) 32 (iI (v.1 0))) 33 (iI (v.1 1))) 34 ρ) 36 r) 35 b) M1) (fun e => ⟨?_, ?_⟩) (cN v) 0 (by omega) (M.2.1 17) (fun j hj => by omega)
      · rw [sr_self] at hm
        exact ⟨_, hm⟩
      · rw [h2.2.1]
      · exact rel_M17 (rel_Cn35 (rel_C36 (rel_Cn34 (rel_Cn33 (rel_Cn32 (rel_C30 hR))))))
    · rw [← en, iI_L, z1, z8] at a1
      omega
  · unfold e_X7_boat
    exact pM_isMan hM hv (fun f ef hf => (man_no hv ef hf h0).elim) (fun _ => ⟨fun c => absurd rfl c, fun _ => ⟨rfl, hR⟩⟩)
end TT
