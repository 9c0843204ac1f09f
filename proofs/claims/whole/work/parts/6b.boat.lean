/-! ===== boat: the reference's walks, in its own terms ===== -/
theorem way2k : ∀ k : Nat, k < 8 → (((2 : Int32) * nI k) &&& 31).toBitVec.smod 32 = BitVec.ofNat 32 (2 * k) := by decide +kernel
theorem way_of {c k : Nat} (hc : c < 65536) (hk : k < 8) : (nI c >>> (((2 : Int32) * nI k) &&& 31)) &&& (3 : Int32) = nI (c / 4 ^ k % 4) := by
  apply Int32.toBitVec_inj.mp
  have h9 : (BitVec.ofNat 32 (2 * k)).toNat = 2 * k := by rw [BitVec.toNat_ofNat]; omega
  have hcb : (nI c).toBitVec = BitVec.ofNat 32 c := rfl
  have three : (Int32.toBitVec 3) = 3#32 := rfl
  have hr : (nI (c / 4 ^ k % 4)).toBitVec = BitVec.ofNat 32 (c / 4 ^ k % 4) := rfl
  rw [Int32.toBitVec_and, Int32.toBitVec_shiftRight, way2k k hk, BitVec.sshiftRight_eq', h9, hcb, three, hr]
  have hcn : (BitVec.ofNat 32 c).toNat = c := by rw [BitVec.toNat_ofNat]; omega
  have hm : (BitVec.ofNat 32 c).msb = false := by
    rw [BitVec.msb_eq_false_iff_two_mul_lt, hcn]; omega
  rw [BitVec.sshiftRight_eq_of_msb_false hm]
  apply BitVec.eq_of_toNat_eq
  rw [BitVec.toNat_and, BitVec.toNat_ushiftRight, hcn, BitVec.toNat_ofNat, Nat.shiftRight_eq_div_pow]
  have e4 : 2 ^ (2 * k) = 4 ^ k := by rw [Nat.pow_mul]
  rw [e4]
  have := Nat.and_two_pow_sub_one_eq_mod (c / 4 ^ k) 2
  have t3 : 3 % 2 ^ 32 = 2 ^ 2 - 1 := by decide
  rw [t3, this, BitVec.toNat_ofNat]
  have : c / 4 ^ k % 4 < 4 := Nat.mod_lt _ (by omega)
  omega
section TT
variable {S : vS} {v : vV}
theorem pM_walk (h : shM S v) (hv : okV v) {G : Nat → Int} (hG : ∀ k, k < cN v → S.2.1 17 k = iI (G k) ∧ -1 ≤ G k ∧ G k ≤ 99) {n code : Nat} (hn : n ≤ 8) (hn0 : 1 ≤ n) (hc : code < 65536) {Q : Int32 → vS → Prop} :
    ∀ (m k : Nat), k + m = n - 1 → ∀ (x y : Nat) (g : Nat → Int) (s : Int) (was : Int64), (x : Int) < v.1 0 → (y : Int) < v.1 1 → 0 ≤ s → s + 99 * m ≤ 792 → (∀ j, j < cN v → g j = if wb was j then 0 else G j) → (∀ j, j < cN v → wb was j = true → 0 ≤ G j) → Q (iI (bCb (v.1 0) (v.1 1) m (code / 4 ^ k) x y g s)) S → e_X7_caughtBy_19 Q (m + 1) (nI n) (nI code) was (nI (wN v * y + x)) (iI s) (nI k) S := by
  have hwb := hv.1
  have hdb := hv.2.1
  have ew := wN_eq hv
  have ed := dN_eq hv
  have hcN := cN_le hv
  intro m
  induction m with
  | zero =>
    intro k hk x y g s was hx hy s0 s1 hg hg2 hq
    unfold e_X7_caughtBy_19
    have e1 : nI n - (1 : Int32) = iI ((n : Int) - 1) := by rw [iI_nat, L1, iI_sub]
    rw [e1, iI_nat k, iI_le (sm_of (by omega) (by omega)) (sm_of (by omega) (by omega))]
    exact ⟨fun _ => hq, fun c => absurd (by omega) c⟩
  | succ m ih =>
    intro k hk x y g s was hx hy s0 s1 hg hg2 hq
    unfold e_X7_caughtBy_19
    have e1 : nI n - (1 : Int32) = iI ((n : Int) - 1) := by rw [iI_nat, L1, iI_sub]
    obtain ⟨i1, i2⟩ := idx_lt hv hx hy
    obtain ⟨mx1, mx2⟩ := mod_ix (w := wN v) (x := x) (y := y) (by omega)
    obtain ⟨m1, m2, m3⟩ := pM_kx h hv (k := wN v * y + x) i2
    rw [mx1] at m1
    rw [mx2] at m2
    rw [e1, way_of hc (by omega), m1, iI_nat k, iI_le (sm_of (by omega) (by omega)) (sm_of (by omega) (by omega))]
    refine ⟨fun c => absurd c (by omega), fun _ v5 e5 => ⟨m3, ?_⟩⟩
    have hway : code / 4 ^ k % 4 < 4 := Nat.mod_lt _ (by omega)
    have ecd : code / 4 ^ (k + 1) = code / 4 ^ k / 4 := by rw [Nat.pow_succ, Nat.div_div_eq_div_mul]
    generalize hwy : code / 4 ^ k % 4 = way at e5 hway
    -- from the new place on
    have go95 : ∀ (t0 t1 : Int32), t1 + t0 = iI (y + wY way) → e_X7_caughtBy_95 (e_X7_caughtBy_19 Q (m + 1)) Q (nI n) (nI code) was (iI s) (iI k) (iI (x + wX way)) t0 t1 S := by
      intro t0 t1 et
      have wxb : -1 ≤ wX way ∧ wX way ≤ 1 ∧ -1 ≤ wY way ∧ wY way ≤ 1 := by
        unfold wX wY
        refine ⟨?_, ?_, ?_, ?_⟩ <;> (repeat' split) <;> omega
      unfold bCb at hq
      rw [hwy] at hq
      unfold e_X7_caughtBy_95
      intro v13 e13
      rw [et] at e13
      rw [e13]
      refine pM_isCell h hv (fun a b ea eb ha hb => ⟨fun c => absurd c (by decide), fun _ => ?_⟩) (fun h0 => ⟨fun _ => ?_, fun c => absurd rfl c⟩)
      · rw [iI_eq (sm_of (by omega) (by omega)) (sm_of (by omega) (by omega))] at ea eb
        have hin : bIn (v.1 0) (v.1 1) (x + wX way) (y + wY way) := ⟨by omega, by omega, by omega, by omega⟩
        have ec : bC (v.1 0) (x + wX way) (y + wY way) = wN v * b + a := by
          have := (bC_lt hin).1
          rw [ea, eb, ← ew, Int.mul_comm] at this
          rw [ea, eb, ← ew]
          omega
        obtain ⟨j1, j2⟩ := idx_lt hv ha hb
        have ei : S.1 0 * iI (y + wY way) + iI (x + wX way) = iI ((wN v * b + a : Nat) : Int) := by
          rw [h.1, iI_mul, iI_add, ea, eb, Int.natCast_add, Int.natCast_mul, ew]
        obtain ⟨q1, q2, q3⟩ := hG _ j2
        have gl : 0 ≤ iI (G (wN v * b + a)) ↔ 0 ≤ G (wN v * b + a) := by
          rw [L0, iI_le (sm_of (by decide) (by decide)) (sm_of (by omega) (by omega))]
        rw [ei, cl_nat (by omega), q1, gl]
        rw [ec] at hq
        have gc := hg _ j2
        refine ⟨in_nat (by omega) (by omega) (by omega), fun k0 => ?_, fun k0 => ?_⟩
        · intro v19 e19
          rw [e19, wb_at (by omega), cl_nat (by omega), q1]
          have gp : 0 ≤ g (wN v * b + a) := by rw [gc]; split <;> omega
          have gp2 : g (wN v * b + a) ≤ 99 := by rw [gc]; split <;> omega
          rw [if_pos ⟨hin, gp⟩] at hq
          have fin : ∀ t, t = iI (g (wN v * b + a)) → e_X7_caughtBy_167 (e_X7_caughtBy_19 Q (m + 1)) Q (nI n) (nI code) was (iI ((wN v * b + a : Nat) : Int)) (iI k) t (iI s) S := by
            intro t et2
            unfold e_X7_caughtBy_167
            intro v22 e22 v23 e23 v24 e24
            rw [et2, iI_add] at e22
            rw [← iI_nat k, nI_1] at e24
            rw [e22, e23, e24, ← iI_nat]
            refine ih (k + 1) (by omega) a b (g0 g (wN v * b + a)) _ _ ha hb (by omega) (by omega) (fun j hj => ?_) (fun j hj hwj => ?_) ?_
            · rw [iI_nat (wN v * b + a), wb_or j1 (by omega)]
              unfold g0
              by_cases c : j = wN v * b + a
              · simp [c]
              · simp only [if_neg c, c, decide_false, Bool.or_false]
                exact hg j hj
            · rw [iI_nat (wN v * b + a), wb_or j1 (by omega)] at hwj
              by_cases c : j = wN v * b + a
              · rw [c]; exact k0
              · simp only [c, decide_false, Bool.or_false] at hwj
                exact hg2 j hj hwj
            · rw [ecd, ← ea, ← eb]
              exact hq
          refine ⟨fun nb => ⟨in_nat (by omega) (by omega) (by omega), fin _ ?_⟩, fun nb => fin _ ?_⟩
          · have : wb was (wN v * b + a) = false := by simpa using nb
            rw [gc, this]; rfl
          · rw [gc, nb]; rfl
        · have nb : wb was (wN v * b + a) = false := by
            cases hb2 : wb was (wN v * b + a)
            · rfl
            · exact absurd (hg2 _ j2 hb2) k0
          rw [nb] at gc
          rw [if_neg (fun c => by have := c.2; rw [gc] at this; exact k0 this)] at hq
          exact hq
      · rw [iI_T (sm_of (by omega) (by omega)), iI_T (sm_of (by omega) (by omega))] at h0
        rw [if_neg (fun c => by obtain ⟨⟨c1, c2, c3, c4⟩, -⟩ := c; omega)] at hq
        exact hq
    have go64 : ∀ t0, iI (x : Int) + t0 = iI (x + wX way) → e_X7_caughtBy_64 (e_X7_caughtBy_19 Q (m + 1)) Q (nI n) (nI code) was (nI (wN v * y + x)) (iI s) (iI k) v5 t0 (iI (x : Int)) S := by
      intro t0 et
      unfold e_X7_caughtBy_64
      intro v9 e9
      rw [et] at e9
      rw [e9, m2]
      have z2 : v5 = 2 ↔ way = 2 := by
        rw [e5, iI_nat, L2, iI_eq (sm_of (by omega) (by omega)) (sm_of (by decide) (by decide))]; omega
      have z3 : v5 = 3 ↔ way = 3 := by
        rw [e5, iI_nat, L3, iI_eq (sm_of (by omega) (by omega)) (sm_of (by decide) (by decide))]; omega
      rw [z2, z3]
      refine ⟨m3, fun c => ⟨fun c2 => go95 _ _ ?_, fun c2 => go95 _ _ ?_⟩, fun c => go95 _ _ ?_⟩
      · rw [L0, iI_add]; unfold wY; rw [if_neg c, if_neg c2]
      · rw [L1, iI_add]; unfold wY; rw [if_neg c, if_pos c2]
      · rw [Lm1, iI_add]; unfold wY; rw [if_pos c]
    have z0 : v5 = 0 ↔ way = 0 := by
      rw [e5, iI_nat, L0, iI_eq (sm_of (by omega) (by omega)) (sm_of (by decide) (by decide))]; omega
    have z1 : v5 = 1 ↔ way = 1 := by
      rw [e5, iI_nat, L1, iI_eq (sm_of (by omega) (by omega)) (sm_of (by decide) (by decide))]; omega
    refine ⟨fun c => ⟨fun c2 => go64 _ ?_, fun c2 => go64 _ ?_⟩, fun c => go64 _ ?_⟩
    · rw [z0] at c
      rw [z1] at c2
      rw [L0, iI_add]; unfold wX; rw [if_neg c, if_neg c2]
    · rw [z0] at c
      rw [z1] at c2
      rw [L1, iI_add]; unfold wX; rw [if_neg c, if_pos c2]
    · rw [z0] at c
      rw [Lm1, iI_add]; unfold wX; rw [if_pos c]
end TT
