/-! ===== towers: both together ===== -/
section TT
variable {C M : vS}
theorem rel_C0 {e : Nat → Int32} (h : Rel C M) : Rel (sr C 0 e) M := h
theorem rel_C30 {e : Nat → Int32} (h : Rel C M) : Rel (sr C 30 e) M := h
theorem rel_M16 {e : Nat → Int32} (h : Rel C M) : Rel C (sr M 16 e) := h
theorem mn_iI {x y : Int} (hx : sm x) (hy : sm y) : (if iI x < iI y then iI x else iI y) = iI (if x < y then x else y) := by
  rw [if_lt hx hy]
  split <;> rfl
theorem t_towers (hR : Rel C M) (x1 x2 x3 x4 x5 : Int32) : e_X6_towers x1 x2 x3 x4 x5 C (fun r C1 => e_X7_towers x1 x2 x3 x4 x5 M (fun r2 M1 => r = r2 ∧ Rel C1 M1)) := by
  obtain ⟨v, ⟨hC, hM, hfC, hfM, hv, hw⟩, h2, h3, h4, h5, h6, h7⟩ := id hR
  have hn6 := hv.2.2.2.1
  have z0 : (0 : Int64).toInt = 0 := rfl
  have z1 : (1 : Int64).toInt = 1 := rfl
  have z6 : (6 : Int64).toInt = 6 := rfl
  have z99 : (99 : Int64).toInt = 99 := rfl
  have i30 : x3 < 0 ↔ x3.toInt < 0 := by rw [Int32.lt_iff_toInt_lt]; rfl
  have i36 : (6 : Int32) < x3 ↔ 6 < x3.toInt := by rw [Int32.lt_iff_toInt_lt]; rfl
  have i41 : x4 < 1 ↔ x4.toInt < 1 := by rw [Int32.lt_iff_toInt_lt]; rfl
  have i49 : (99 : Int32) < x4 ↔ 99 < x4.toInt := by rw [Int32.lt_iff_toInt_lt]; rfl
  have i50 : x5 < 0 ↔ x5.toInt < 0 := by rw [Int32.lt_iff_toInt_lt]; rfl
  have i51 : x5 ≤ 1 ↔ x5.toInt ≤ 1 := by rw [Int32.le_iff_toInt_le]; rfl
  unfold e_X6_towers
  refine pC_hasMan hC hv (fun a ea ha => ⟨fun c => absurd c (by decide), fun _ => ?_⟩) (fun h0 => ⟨fun _ => ?_, fun c => absurd rfl c⟩)
  · refine pC_hasMan hC hv (fun b eb hb => ⟨fun c => absurd c (by decide), fun _ => ?_⟩) (fun h0 => ⟨fun _ => ?_, fun c => absurd rfl c⟩)
    · rw [ea, eb, iI_eq (sm_of (by omega) (by omega)) (sm_of (by omega) (by omega))]
      -- the reference's road to its three tests
      have mroad : ∀ (r : Int32) (C1 : vS), ((a : Int) = b → r = -1000000001 ∧ Rel C1 M) → (¬ (a : Int) = b → (x3.toInt < 0 ∨ 6 < x3.toInt ∨ x4.toInt < 1 ∨ 99 < x4.toInt ∨ x5.toInt < 0 ∨ 1 < x5.toInt) → r = -1000000002 ∧ Rel C1 M) → (¬ (a : Int) = b → 0 ≤ x3.toInt → x3.toInt ≤ 6 → (∃ j, e_X7_towers_67 (fun r2 M1 => r = r2 ∧ Rel C1 M1) j (iI a) (iI b) x3 x4 x5 (0 : Int32) M)) → e_X7_towers (iI a) (iI b) x3 x4 x5 M (fun r2 M1 => r = r2 ∧ Rel C1 M1) := by
        intro r C1 k1 k2 k3
        unfold e_X7_towers
        refine pM_isMan hM hv (fun f2 ef2 hf2 => ⟨fun c => absurd c (by decide), fun _ => ?_⟩) (fun h0 => (man_no hv rfl ha h0).elim)
        refine pM_isMan hM hv (fun f2 ef2 hf2 => ⟨fun c => absurd c (by decide), fun _ => ?_⟩) (fun h0 => (man_no hv rfl hb h0).elim)
        rw [iI_eq (sm_of (by omega) (by omega)) (sm_of (by omega) (by omega))]
        refine ⟨fun ne => ?_, fun e => k1 e⟩
        refine p_in (fun a1 a2 => ⟨fun c => absurd c (by decide), fun _ => ?_⟩) (fun a1 => ⟨fun _ => ?_, fun c => absurd rfl c⟩)
        · rw [iI_L, z0] at a1
          rw [iI_L, z6] at a2
          refine p_in (fun b1 b2 => ⟨fun c => absurd c (by decide), fun _ => ?_⟩) (fun b1 => ⟨fun _ => ?_, fun c => absurd rfl c⟩)
          · refine p_in (fun c1 c2 => ⟨fun _ => ?_, fun c => absurd c (by decide)⟩) (fun c1 => ⟨fun c => absurd rfl c, fun _ => ?_⟩)
            · exact k3 ne a1 a2
            · rw [iI_L, z0, z1] at c1
              exact k2 ne (by omega)
          · rw [iI_L, z1, z99] at b1
            exact k2 ne (by omega)
        · rw [iI_L, z0, z6] at a1
          exact k2 ne (by omega)
      refine ⟨fun ne => ?_, fun e => mroad _ _ (fun _ => ⟨rfl, hR⟩) (fun n => absurd e n) (fun n => absurd e n)⟩
      rw [i30, i36, i41, i49, i50, i51]
      have out : (x3.toInt < 0 ∨ 6 < x3.toInt ∨ x4.toInt < 1 ∨ 99 < x4.toInt ∨ x5.toInt < 0 ∨ 1 < x5.toInt) → e_X7_towers (iI a) (iI b) x3 x4 x5 M (fun r2 M1 => -1000000002 = r2 ∧ Rel C M1) := by
        intro ho
        unfold e_X7_towers
        refine pM_isMan hM hv (fun f2 ef2 hf2 => ⟨fun c => absurd c (by decide), fun _ => ?_⟩) (fun h0 => (man_no hv rfl ha h0).elim)
        refine pM_isMan hM hv (fun f2 ef2 hf2 => ⟨fun c => absurd c (by decide), fun _ => ?_⟩) (fun h0 => (man_no hv rfl hb h0).elim)
        rw [iI_eq (sm_of (by omega) (by omega)) (sm_of (by omega) (by omega))]
        refine ⟨fun _ => ?_, fun e => absurd e ne⟩
        refine p_in (fun a1 a2 => ⟨fun c => absurd c (by decide), fun _ => ?_⟩) (fun a1 => ⟨fun _ => ⟨rfl, hR⟩, fun c => absurd rfl c⟩)
        refine p_in (fun b1 b2 => ⟨fun c => absurd c (by decide), fun _ => ?_⟩) (fun b1 => ⟨fun _ => ⟨rfl, hR⟩, fun c => absurd rfl c⟩)
        refine p_in (fun c1 c2 => ?_) (fun c1 => ⟨fun c => absurd rfl c, fun _ => ⟨rfl, hR⟩⟩)
        rw [iI_L, z0] at a1
        rw [iI_L, z6] at a2
        rw [iI_L, z1] at b1
        rw [iI_L, z99] at b2
        rw [iI_L, z0] at c1
        rw [iI_L, z1] at c2
        omega
      refine ⟨fun q => out (by omega), fun q1 => ⟨fun q => out (by omega), fun q2 => ⟨fun q => out (by omega), fun q3 => ⟨fun q => out (by omega), fun q4 => ⟨fun q => out (by omega), fun q5 => ⟨fun q6 => ?_, fun q => out (by omega)⟩⟩⟩⟩⟩⟩
      have ca := (hC.2.2.2.2.2.1 a ha).2.2
      have cb := (hC.2.2.2.2.2.1 b hb).2.2
      have ba := (hv.2.2.2.2.2.2.1 a ha).2.2
      have bb := (hv.2.2.2.2.2.2.1 b hb).2.2
      have hab : a ≠ b := fun e => ne (by omega)
      obtain ⟨n, hN⟩ : ∃ n : Nat, (n : Int) = x3.toInt := ⟨x3.toInt.toNat, Int.toNat_of_nonneg (by omega)⟩
      have en : x3 = nI n := by rw [iI_nat, hN]; exact iI_of x3
      have hn7 : n < 7 := by omega
      have L9 : (9 : Int32) = iI 9 := rfl
      have d1 : (nI n + (1 : Int32)) / (2 : Int32) = iI (((n + 1) / 2 : Nat) : Int) := by
        rw [iI_nat, L1, L2, iI_add, iI_div (sm_of (by omega) (by omega)) (sm_of (by decide) (by decide)) (by omega)]
        congr 1
      have d2 : nI n / (2 : Int32) = iI ((n / 2 : Nat) : Int) := by
        rw [iI_nat, L2, iI_div (sm_of (by omega) (by omega)) (sm_of (by decide) (by decide)) (by omega)]
        congr 1
      obtain ⟨rA, eA⟩ : ∃ rA : Nat, (rA : Int) = if 9 - v.2 2 a < ((n + 1) / 2 : Nat) then 9 - v.2 2 a else ((n + 1) / 2 : Nat) := by
        refine ⟨(if 9 - v.2 2 a < ((n + 1) / 2 : Nat) then 9 - v.2 2 a else ((n + 1) / 2 : Nat)).toNat, Int.toNat_of_nonneg ?_⟩
        split <;> omega
      obtain ⟨rB, eB⟩ : ∃ rB : Nat, (rB : Int) = if 9 - v.2 2 b < (n / 2 : Nat) then 9 - v.2 2 b else (n / 2 : Nat) := by
        refine ⟨(if 9 - v.2 2 b < (n / 2 : Nat) then 9 - v.2 2 b else (n / 2 : Nat)).toNat, Int.toNat_of_nonneg ?_⟩
        split <;> omega
      have rA3 : rA ≤ 3 ∧ v.2 2 a + rA ≤ 9 := by
        rw [eA]
        have : (rA : Int) ≤ 3 := by rw [eA]; split <;> omega
        refine ⟨by omega, ?_⟩
        split <;> omega
      have rB3 : rB ≤ 3 ∧ v.2 2 b + rB ≤ 9 := by
        rw [eB]
        have : (rB : Int) ≤ 3 := by rw [eB]; split <;> omega
        refine ⟨by omega, ?_⟩
        split <;> omega
      rw [cl_nat (by omega), cl_nat (by omega), ca, cb, en, d1, d2, L9, iI_sub, iI_sub, mn_iI (sm_of (by omega) (by omega)) (sm_of (by omega) (by omega)), mn_iI (sm_of (by omega) (by omega)) (sm_of (by omega) (by omega)), ← eA, ← eB]
      refine ⟨in6 (by omega), fun v15 e15 => ⟨in6 (by omega), fun v17 e17 => ?_⟩⟩
      rw [e15, e17]
      refine pC_ends hC hfC hv hw hab ha hb rA3.1 rB3.1 rA3.2 rB3.2 (fun e g he => ?_)
      intro v20 e20
      rw [e20, iI_nat, L1, iI_sub]
      have hE : tE v (sFarN v (C.1 16).toInt) (C.1 5) x4 a b = tE v (sFarN v (M.1 7).toInt) (M.1 5) x4 a b := by rw [h2.1, h2.2.1]
      rw [hE] at he
      generalize hEE : tE v (sFarN v (M.1 7).toInt) (M.1 5) x4 a b = E at he
      -- the class's state
      have sw : sr (sr C 0 e) 30 g = sr (sr C 30 g) 0 e := by
        refine Prod.ext rfl (Prod.ext ?_ rfl)
        funext r
        simp only [sr]
        by_cases r1 : r = 0
        · simp [r1]
        · by_cases r2 : r = 30 <;> simp [r1, r2]
      rw [sw]
      -- the end, for both
      have fin : ∀ (e' : Nat → Int32) (bt : Bool), (e' 0 = tF E rA rB n (n - 1) 0 0) → (0 < rA → e' 4 = tF E rA rB n (n - 1) 1 0) → (bt = decide (0 < rA ∧ tF E rA rB n (n - 1) 0 0 < tF E rA rB n (n - 1) 1 0)) → e_X6_towers_186 (fun r C1 => e_X7_towers (iI a) (iI b) (nI n) x4 x5 M (fun r2 M1 => r = r2 ∧ Rel C1 M1)) (nI n) x5 (e' 0) (bI bt) (sr (sr C 30 g) 0 e') := by
        intro e' bt f1 f2 f3
        have mgo : ∀ r, (x5 = 0 → r = tF E rA rB n n 0 0) → (¬ x5 = 0 → n = 0 → r = -1) → (¬ x5 = 0 → 0 < n → r = bI (tMv v a E rA rB n)) → e_X7_towers (iI a) (iI b) (nI n) x4 x5 M (fun r2 M1 => r = r2 ∧ Rel (sr (sr C 30 g) 0 e') M1) := by
          intro r r1 r2 r3
          rw [← en]
          refine mroad _ _ (fun e => absurd e ne) (fun _ o => by omega) (fun _ _ _ => ?_)
          rw [en]
          have := pM_codes hM hfM hv hw hab ha hb hn7 (d := x4) (x5 := x5) (Q := fun r2 M1 => r = r2 ∧ Rel (sr (sr C 30 g) 0 e') M1) (fun g' hg' => ⟨n + 1, ?_⟩) (2 ^ n) 0 (by omega) (M.2.1 16) (fun c hc => by omega)
          · rw [sr_self] at this
            exact ⟨_, this⟩
          · have hp : ∀ c, c < 2 ^ n → tP v a b E rA rB n n c (g' c) := by
              intro c hc v1 v2'
              rw [hg' c hc]
              unfold mE
              rw [if_neg (by omega), hEE, Nat.sub_self]
              rfl
            refine pM_107 (E := E) hM hv hab ha hb hn7 eA eB ?_ n (by omega) g' (-1) hp (fun _ => rfl) (fun q q' => by omega)
            intro g'' mv k1 k2 k3
            refine ⟨fun q => ⟨?_, rel_M16 (rel_C0 (rel_C30 hR))⟩, fun q => ⟨?_, rel_M16 (rel_C0 (rel_C30 hR))⟩⟩
            · rw [k1, r1 q]
            · rcases Nat.eq_zero_or_pos n with z | z
              · rw [r2 q z, k2 z]
              · rw [r3 q z, k3 z]
        unfold e_X6_towers_186
        have hx : x5 = 0 ↔ x5 = 0 := Iff.rfl
        have nz : nI n = 0 ↔ n = 0 := nI_z (by omega)
        have mvn : 0 < n → tMv v a E rA rB n = bt := by
          intro hn0
          rw [f3]
          unfold tMv
          have : (v.2 2 a < 9) ↔ 0 < rA := by
            have : (0 < (rA : Int)) ↔ v.2 2 a < 9 := by rw [eA]; split <;> omega
            omega
          by_cases q : 0 < rA
          · have q2 : v.2 2 a < 9 := this.mpr q
            simp [q, q2]
          · have q2 : ¬ v.2 2 a < 9 := fun c => q (this.mp c)
            simp [q, q2]
        have top : tF E rA rB n n 0 0 = if bt then tF E rA rB n (n - 1) 1 0 else tF E rA rB n (n - 1) 0 0 := by
          rcases Nat.eq_zero_or_pos n with z | z
          · have : ¬ 0 < rA := by
              have : ¬ (0 < (rA : Int)) := by rw [eA]; split <;> omega
              omega
            have bf : bt = false := by rw [f3]; simp [this]
            rw [bf, z]; rfl
          · have e1 : n = (n - 1) + 1 := by omega
            have fs : tF E rA rB n (n - 1 + 1) = tStep ((n - (n - 1) - 1) % 2 == 0) rA rB (tF E rA rB n (n - 1)) := rfl
            have e2 : n - (n - 1) - 1 = 0 := by omega
            have e3 : tF E rA rB n n = tF E rA rB n (n - 1 + 1) := by rw [← e1]
            rw [e3, fs, e2]
            show tStep true rA rB _ 0 0 = _
            by_cases q : 0 < rA
            · rw [tS1 q, f3]
              simp [q]
            · rw [tS2 q, f3]
              simp [q]
        rw [nz]
        refine ⟨fun q => ⟨fun q2 => ?_, fun q2 => ?_⟩, fun q => ?_⟩
        · have mm := mvn (by omega)
          cases bt with
          | false => exact ⟨fun _ => mgo _ (fun c => absurd c q) (fun _ c => absurd c q2) (fun _ _ => by rw [mm]; rfl), fun c => absurd rfl c⟩
          | true => exact ⟨fun c => absurd c (by decide), fun _ => mgo _ (fun c => absurd c q) (fun _ c => absurd c q2) (fun _ _ => by rw [mm]; rfl)⟩
        · exact mgo _ (fun c => absurd c q) (fun _ _ => rfl) (fun _ c => by omega)
        · cases bt with
          | false =>
            refine ⟨fun _ => mgo _ (fun _ => ?_) (fun c => absurd q c) (fun c => absurd q c), fun c => absurd rfl c⟩
            rw [top, f1]; rfl
          | true =>
            refine ⟨fun c => absurd c (by decide), fun _ => mgo _ (fun _ => ?_) (fun c => absurd q c) (fun c => absurd q c)⟩
            have f3' : (0 < rA ∧ tF E rA rB n (n - 1) 0 0 < tF E rA rB n (n - 1) 1 0) := by simpa using f3.symm
            rw [top]
            exact f2 f3'.1
      have last : ∀ e' : Nat → Int32, (∀ i j, i ≤ rA → j ≤ rB → e' (4 * i + j) = tF E rA rB n (n - 1) i j) → ∀ z : Int, z ≤ 0 → sm z → e_X6_towers_126 (fun r C1 => e_X7_towers (iI a) (iI b) (nI n) x4 x5 M (fun r2 M1 => r = r2 ∧ Rel C1 M1)) 1 (nI n) x5 (iI rA) (iI rB) (iI z) (sr (sr C 30 g) 0 e') := by
        intro e' he' z hz hs
        unfold e_X6_towers_126
        have le0 : iI z ≤ 0 ↔ z ≤ 0 := by
          rw [L0, iI_le hs (sm_of (by decide) (by decide))]
        have la0 : iI (rA : Int) ≤ 0 ↔ rA = 0 := by
          rw [L0, iI_le (sm_of (by omega) (by omega)) (sm_of (by decide) (by decide))]
          omega
        have f0 : e' 0 = tF E rA rB n (n - 1) 0 0 := he' 0 0 (by omega) (by omega)
        have c0 : ((0 : Int32)).toNatClampNeg = 0 := rfl
        have c4 : ((4 : Int32)).toNatClampNeg = 4 := rfl
        rw [le0, la0, sr_at, c0, c4]
        refine ⟨fun _ v22 e22 => ?_, fun c => absurd hz c⟩
        rw [e22]
        refine ⟨fun q => fin e' false f0 (fun c => by omega) ?_, fun q => ?_⟩
        · have : ¬ 0 < rA := by omega
          simp [this]
        · have f4 : e' 4 = tF E rA rB n (n - 1) 1 0 := he' 1 0 (by omega) (by omega)
          have q' : 0 < rA := by omega
          refine ⟨fun q2 => fin e' false f0 (fun _ => f4) ?_, fun q2 => fin e' true f0 (fun _ => f4) ?_⟩
          · rw [f4, f0] at q2
            symm
            simp only [decide_eq_false_iff_not, not_and, Int32.not_lt]
            exact fun _ => q2
          · rw [f4, f0] at q2
            symm
            simp only [decide_eq_true_eq]
            exact ⟨q', Int32.not_le.mp q2⟩
      rcases Nat.eq_zero_or_pos n with z | z
      · refine ⟨1, last e (fun i j a1 a2 => ?_) _ (by omega) (sm_of (by omega) (by omega))⟩
        rw [he i j a1 a2, z]; rfl
      · obtain ⟨m, hm⟩ : ∃ m, n = m + 1 := ⟨n - 1, by omega⟩
        refine ⟨m + 1, ?_⟩
        have em : (n : Int) - 1 = (m : Int) := by omega
        rw [em]
        refine pC_moves rA3.1 rB3.1 (E := E) (n := n) (by omega) m (by omega) e (fun i j a1 a2 => ?_) (fun e' he' => last e' he' 0 (by omega) (sm_of (by decide) (by decide)))
        have : n - 1 - m = 0 := by omega
        rw [he i j a1 a2, this]; rfl
    · unfold e_X7_towers
      refine pM_isMan hM hv (fun f2 ef2 hf2 => ⟨fun c => absurd c (by decide), fun _ => ?_⟩) (fun h0 => (man_no hv ea ha h0).elim)
      exact pM_isMan hM hv (fun f ef hf => (man_no hv ef hf h0).elim) (fun _ => ⟨fun _ => ⟨rfl, hR⟩, fun c => absurd rfl c⟩)
  · unfold e_X7_towers
    exact pM_isMan hM hv (fun f ef hf => (man_no hv ef hf h0).elim) (fun _ => ⟨fun _ => ⟨rfl, hR⟩, fun c => absurd rfl c⟩)
end TT
