/-! ===== cell, man, free, judge, build, plant, write ===== -/
theorem sa_ne (S : vS) {a b k : Nat} {x : Int32} (h : b ≠ a) : (sa S a k x).2.1 b = S.2.1 b := by simp [sa, sr, h]
theorem sa_at (S : vS) (a k : Nat) (x : Int32) : (sa S a k x).2.1 a = upd (S.2.1 a) k x := by simp [sa, sr]
theorem upd_iI (g : Nat → Int32) (p : Nat → Int) {j k : Nat} {z : Int} (h : g j = iI (p j)) : upd g k (iI z) j = iI (if j = k then z else p j) := by
  by_cases e : j = k
  · subst e
    rw [pk_us, if_pos rfl]
  · rw [pk_un e, if_neg e, h]
theorem shC_stand {C : vS} {v : vV} (h : shC C v) (k : Nat) (z : Int) : shC (sa C 23 k (iI z)) (vu v 3 k z) := by
  obtain ⟨h1, h2, h3, h4, h5, h6, h7⟩ := h
  refine ⟨h1, h2, h3, h4, h5, h6, fun j hj => ⟨?_, (h7 j hj).2⟩⟩
  rw [sa_at]
  exact upd_iI _ (v.2 3) (h7 j hj).1
theorem shM_stand {M : vS} {v : vV} (h : shM M v) (k : Nat) (z : Int) : shM (sa M 8 k (iI z)) (vu v 3 k z) := by
  obtain ⟨h1, h2, h3, h4, h5, h6, h7⟩ := h
  refine ⟨h1, h2, h3, h4, h5, h6, fun j hj => ⟨?_, (h7 j hj).2⟩⟩
  rw [sa_at]
  exact upd_iI _ (v.2 3) (h7 j hj).1
theorem shC_stor {C : vS} {v : vV} (h : shC C v) (k : Nat) (z : Int) : shC (sa C 21 k (iI z)) (vu v 2 k z) := by
  obtain ⟨h1, h2, h3, h4, h5, h6, h7⟩ := h
  refine ⟨h1, h2, h3, h4, h5, fun j hj => ⟨(h6 j hj).1, (h6 j hj).2.1, ?_⟩, h7⟩
  rw [sa_at]
  exact upd_iI _ (v.2 2) (h6 j hj).2.2
theorem shM_stor {M : vS} {v : vV} (h : shM M v) (k : Nat) (z : Int) : shM (sa M 6 k (iI z)) (vu v 2 k z) := by
  obtain ⟨h1, h2, h3, h4, h5, h6, h7⟩ := h
  refine ⟨h1, h2, h3, h4, h5, fun j hj => ⟨(h6 j hj).1, (h6 j hj).2.1, ?_⟩, h7⟩
  rw [sa_at]
  exact upd_iI _ (v.2 2) (h6 j hj).2.2
theorem okV_stand {v : vV} (h : okV v) {k : Nat} {z : Int} (h1 : 0 ≤ z) (h2 : z ≤ 99) : okV (vu v 3 k z) := by
  obtain ⟨o1, o2, o3, o4, o5, o6, o7, o8, o9⟩ := h
  refine ⟨o1, o2, o3, o4, o5, o6, o7, fun j hj => ⟨?_, (o8 j hj).2⟩, o9⟩
  show 0 ≤ (if j = k then z else v.2 3 j) ∧ (if j = k then z else v.2 3 j) ≤ 99
  have := (o8 j hj).1
  split <;> omega
theorem okV_stor {v : vV} (h : okV v) {k : Nat} {z : Int} (h1 : 0 ≤ z) (h2 : z ≤ 9) : okV (vu v 2 k z) := by
  obtain ⟨o1, o2, o3, o4, o5, o6, o7, o8, o9⟩ := h
  refine ⟨o1, o2, o3, o4, o5, o6, fun j hj => ⟨(o7 j hj).1, (o7 j hj).2.1, ?_⟩, o8, o9⟩
  show 0 ≤ (if j = k then z else v.2 2 j) ∧ (if j = k then z else v.2 2 j) ≤ 9
  have := (o7 j hj).2.2
  split <;> omega
section TT
variable {C M : vS}
theorem t_cell (hR : Rel C M) (x y z : Int32) : e_X6_cell x y z C (fun r C1 => e_X7_cell x y z M (fun r2 M1 => r = r2 ∧ Rel C1 M1)) := by
  obtain ⟨v, ⟨hC, hM, hfC, hfM, hv, hw⟩, h2, h3, h4, h5, h6, h7⟩ := id hR
  unfold e_X6_cell
  refine pC_hasCell hC hv (fun a c ea ec ha hc => ⟨fun _ => ?_, fun c => absurd c (by decide)⟩) (fun h0 => ⟨fun c => absurd rfl c, fun _ => ?_⟩)
  · obtain ⟨i1, i2⟩ := idx_lt hv ha hc
    have ew := wN_eq hv
    obtain ⟨mx1, mx2⟩ := mod_ix (w := wN v) (x := a) (y := c) (by omega)
    have ei : M.1 0 * iI c + iI a = iI ((wN v * c + a : Nat) : Int) := by
      rw [hM.1, iI_mul, iI_add, Int.natCast_add, Int.natCast_mul, ew]
    have key : ∀ (r : Int32) (C1 : vS), Rel C1 M → (z.toInt < 0 ∨ 3 < z.toInt → r = -1000000002) → (z.toInt = 0 → r = iI (v.2 3 (wN v * c + a))) → (z.toInt = 1 → r = iI (v.2 4 (wN v * c + a))) → (z.toInt = 2 → r = nI (sSetN v (sFarN v (M.1 7).toInt) a c)) → (z.toInt = 3 → r = nI (sOwnN v (sFarN v (M.1 7).toInt) a c)) → e_X7_cell (iI a) (iI c) z M (fun r2 M1 => r = r2 ∧ Rel C1 M1) := by
      intro r C1 hR1 q0 q1 q2 q3 q4
      unfold e_X7_cell
      refine pM_isCell hM hv (fun a2 c2 ea2 ec2 ha2 hc2 => ⟨fun _ => ?_, fun c => absurd c (by decide)⟩) (fun h0 => (cell_no hv rfl rfl ha hc h0).elim)
      rw [ei, cl_nat (by omega), (hM.2.2.2.2.2.2 _ i1).1, (hM.2.2.2.2.2.2 _ i1).2 (by omega)]
      refine ⟨fun k => ⟨q0 k, hR1⟩, fun k => ⟨in_nat (by omega) (by omega) (by omega), q1 k, hR1⟩, fun k => ⟨in_nat (by omega) (by omega) (by omega), q2 k, hR1⟩, fun k => ?_, fun k => ?_⟩
      · exact pM_seers hM hfM hv hw ha hc ⟨q3 k, hR1⟩
      · refine pM_seers hM hfM hv hw ha hc ?_
        exact pM_own hM hv ha hc (sSet_lt _ _ _ _ _) ⟨q4 k, hR1⟩
    rw [ea, ec]
    refine pC_num hC hv ?_
    rw [cl_nat (by omega), (hC.2.2.2.2.2.2 _ i1).1, (hC.2.2.2.2.2.2 _ i1).2 (by omega)]
    refine ⟨fun k => ?_, fun k => ⟨in_nat (by omega) (by omega) (by omega), ?_⟩, fun k => ⟨in_nat (by omega) (by omega) (by omega), ?_⟩, fun k => ?_, fun k => ?_⟩
    · exact key _ C hR (fun _ => rfl) (fun _ => by omega) (fun _ => by omega) (fun _ => by omega) (fun _ => by omega)
    · exact key _ C hR (fun _ => by omega) (fun _ => rfl) (fun _ => by omega) (fun _ => by omega) (fun _ => by omega)
    · exact key _ C hR (fun _ => by omega) (fun _ => by omega) (fun _ => rfl) (fun _ => by omega) (fun _ => by omega)
    · refine pC_lookAll hC hfC hv hw (fun g hg => ⟨in_nat (by omega) (by omega) (by omega), ?_⟩)
      refine key _ (sr C 30 g) hR (fun _ => by omega) (fun _ => by omega) (fun _ => by omega) (fun _ => ?_) (fun _ => by omega)
      rw [sr_at, hg _ i2, mx1, mx2, h2.2.1]
    · refine pC_lookAll hC hfC hv hw (fun g hg => ?_)
      refine pC_own (far := sFarN v (C.1 16).toInt) (shC30 hC) hv (by rw [sr_at]; exact hg) ha hc ?_
      exact key _ (sr C 30 g) hR (fun _ => by omega) (fun _ => by omega) (fun _ => by omega) (fun _ => by omega) (fun _ => by rw [h2.2.1])
  · unfold e_X7_cell
    exact pM_isCell hM hv (fun a c ea ec ha hc => (cell_no hv ea ec ha hc h0).elim) (fun _ => ⟨fun c => absurd rfl c, fun _ => ⟨rfl, hR⟩⟩)
theorem t_man (hR : Rel C M) (x z : Int32) : e_X6_man x z C (fun r C1 => e_X7_man x z M (fun r2 M1 => r = r2 ∧ Rel C1 M1)) := by
  obtain ⟨v, ⟨hC, hM, hfC, hfM, hv, hw⟩, h2, h3, h4, h5, h6, h7⟩ := id hR
  have hn := hv.2.2.2.1
  unfold e_X6_man
  refine pC_hasMan hC hv (fun f ef hf => ⟨fun _ => ?_, fun c => absurd c (by decide)⟩) (fun h0 => ⟨fun c => absurd rfl c, fun _ => ?_⟩)
  · obtain ⟨c1, c2, c3⟩ := hC.2.2.2.2.2.1 f hf
    obtain ⟨m1, m2, m3⟩ := hM.2.2.2.2.2.1 f hf
    have key : ∀ (r : Int32) (C1 : vS), Rel C1 M → (z.toInt < 0 ∨ 6 < z.toInt → r = -1000000002) → (z.toInt = 0 → r = iI (v.2 0 f)) → (z.toInt = 1 → r = iI (v.2 1 f)) → (z.toInt = 2 → r = iI (v.2 2 f)) → (z.toInt = 3 → r = iI (sEye v f)) → (z.toInt = 4 → r = M.2.1 7 f) → (z.toInt = 5 → r = nI (fCnt (fun k => (sSetN v (sFarN v (M.1 7).toInt) (k % wN v) (k / wN v)).testBit f) (cN v))) → (z.toInt = 6 → r = nI (fCnt (fun k => (sOwnN v (sFarN v (M.1 7).toInt) (k % wN v) (k / wN v)).testBit f) (cN v))) → e_X7_man (iI f) z M (fun r2 M1 => r = r2 ∧ Rel C1 M1) := by
      intro r C1 hR1 q0 q1 q2 q3 q4 q5 q6 q7
      unfold e_X7_man
      refine pM_isMan hM hv (fun f2 ef2 hf2 => ⟨fun _ => ?_, fun c => absurd c (by decide)⟩) (fun h0 => (man_no hv rfl hf h0).elim)
      rw [cl_nat (by omega), m1, m2, m3]
      refine ⟨fun k => ⟨q0 k, hR1⟩, fun k => ⟨in6 (by omega), q1 k, hR1⟩, fun k => ⟨in6 (by omega), q2 k, hR1⟩, fun k => ⟨in6 (by omega), q3 k, hR1⟩, fun k => ?_, fun k => ⟨in6 (by omega), q5 k, hR1⟩, fun k => ?_, fun k => ?_⟩
      · exact pM_eye hM hv hf ⟨q4 k, hR1⟩
      · exact pM_countCells hM hfM hv hw hf false ⟨q6 k, hR1⟩
      · exact pM_countCells hM hfM hv hw hf true ⟨q7 k, hR1⟩
    rw [ef, cl_nat (by omega), c1, c2, c3]
    refine ⟨fun k => ?_, fun k => ⟨in6 (by omega), ?_⟩, fun k => ⟨in6 (by omega), ?_⟩, fun k => ⟨in6 (by omega), ?_⟩, fun k => ?_, fun k => ⟨in6 (by omega), ?_⟩, fun k => ?_, fun k => ?_⟩
    · exact key _ C hR (fun _ => rfl) (fun _ => by omega) (fun _ => by omega) (fun _ => by omega) (fun _ => by omega) (fun _ => by omega) (fun _ => by omega) (fun _ => by omega)
    · exact key _ C hR (fun _ => by omega) (fun _ => rfl) (fun _ => by omega) (fun _ => by omega) (fun _ => by omega) (fun _ => by omega) (fun _ => by omega) (fun _ => by omega)
    · exact key _ C hR (fun _ => by omega) (fun _ => by omega) (fun _ => rfl) (fun _ => by omega) (fun _ => by omega) (fun _ => by omega) (fun _ => by omega) (fun _ => by omega)
    · exact key _ C hR (fun _ => by omega) (fun _ => by omega) (fun _ => by omega) (fun _ => rfl) (fun _ => by omega) (fun _ => by omega) (fun _ => by omega) (fun _ => by omega)
    · refine pC_eye hC hv hf ?_
      exact key _ C hR (fun _ => by omega) (fun _ => by omega) (fun _ => by omega) (fun _ => by omega) (fun _ => rfl) (fun _ => by omega) (fun _ => by omega) (fun _ => by omega)
    · exact key _ C hR (fun _ => by omega) (fun _ => by omega) (fun _ => by omega) (fun _ => by omega) (fun _ => by omega) (fun _ => h2.2.2.2.2 f hf) (fun _ => by omega) (fun _ => by omega)
    · refine pC_countSeen hC hfC hv hw hf (fun g => ?_)
      exact key _ (sr C 30 g) hR (fun _ => by omega) (fun _ => by omega) (fun _ => by omega) (fun _ => by omega) (fun _ => by omega) (fun _ => by omega) (fun _ => by rw [h2.2.1]) (fun _ => by omega)
    · refine pC_countOwned hC hfC hv hw hf (fun g => ?_)
      exact key _ (sr C 30 g) hR (fun _ => by omega) (fun _ => by omega) (fun _ => by omega) (fun _ => by omega) (fun _ => by omega) (fun _ => by omega) (fun _ => by omega) (fun _ => by rw [h2.2.1])
  · unfold e_X7_man
    exact pM_isMan hM hv (fun f ef hf => (man_no hv ef hf h0).elim) (fun _ => ⟨fun c => absurd rfl c, fun _ => ⟨rfl, hR⟩⟩)
theorem t_build (hR : Rel C M) (x : Int32) : e_X6_build x C (fun r C1 => e_X7_build x M (fun r2 M1 => r = r2 ∧ Rel C1 M1)) := by
  obtain ⟨v, ⟨hC, hM, hfC, hfM, hv, hw⟩, h2, h3, h4, h5, h6, h7⟩ := id hR
  have hn := hv.2.2.2.1
  unfold e_X6_build
  refine pC_hasMan hC hv (fun f ef hf => ⟨fun _ => ?_, fun c => absurd c (by decide)⟩) (fun h0 => ⟨fun c => absurd rfl c, fun _ => ?_⟩)
  · obtain ⟨c1, c2, c3⟩ := hC.2.2.2.2.2.1 f hf
    obtain ⟨m1, m2, m3⟩ := hM.2.2.2.2.2.1 f hf
    obtain ⟨-, -, b3⟩ := hv.2.2.2.2.2.2.1 f hf
    have L9 : (9 : Int32) = iI 9 := rfl
    rw [ef, cl_nat (by omega), c3, L9, iI_lt (sm_of (by omega) (by omega)) (sm_of (by decide) (by decide))]
    refine ⟨in6 (by omega), fun q => ?_, fun q => ?_⟩
    · unfold e_X5_addStorey_now
      rw [cl_nat (by omega), c3, L1, iI_add]
      refine ⟨in6 (by omega), fun S2 e2 S3 e3 => ?_⟩
      unfold e_X7_build
      refine pM_isMan hM hv (fun f2 ef2 hf2 => ⟨fun _ => ?_, fun c => absurd c (by decide)⟩) (fun h0 => (man_no hv rfl hf h0).elim)
      rw [cl_nat (by omega), m3, L9, iI_eq (sm_of (by omega) (by omega)) (sm_of (by decide) (by decide))]
      refine ⟨in6 (by omega), fun _ => ?_, fun c => absurd c (by omega)⟩
      unfold e_X7_buildNow
      rw [cl_nat (by omega), m3, L1, iI_add]
      refine ⟨in6 (by omega), fun M2 em2 M3 em3 => ⟨?_, ?_⟩⟩
      · rw [e3, em3, sa_ne _ (by decide), sa_ne _ (by decide), e2, em2, sa_at, sa_at, pk_us, pk_us]
      · have hp : ∀ k : Nat, (k : Int) < v.1 2 → S3.2.1 22 k = M3.2.1 7 k := by
          intro k hk
          rw [e3, em3, sa_at, sa_at, e2, em2, sa_ne _ (by decide), sa_ne _ (by decide)]
          have ec : (sa M 6 f (iI (v.2 2 f + 1))).1 5 = C.1 5 := h2.1.symm
          rw [ec, h2.2.2.2.2 f hf]
          by_cases e : k = f
          · rw [e, pk_us, pk_us]
          · rw [pk_un e, pk_un e]
            exact h2.2.2.2.2 k hk
        have hp2 : Rp S3 M3 (vu v 2 f (v.2 2 f + 1)) := by
          refine ⟨?_, ?_, ?_, ?_, hp⟩
          · rw [e3, em3, e2, em2]; exact h2.1
          · rw [e3, em3, e2, em2]; exact h2.2.1
          · rw [e3, em3, e2, em2]; exact h2.2.2.1
          · rw [em3, em2]; exact h2.2.2.2.1
        refine ⟨vu v 2 f (v.2 2 f + 1), ⟨?_, ?_, ?_, ?_, okV_stor hv (by omega) (by omega), hw⟩, hp2, ?_, ?_, ?_, ?_, ?_⟩
        · rw [e3, e2]; exact shC_stor hC f (v.2 2 f + 1)
        · rw [em3, em2]; exact shM_stor hM f (v.2 2 f + 1)
        · rw [e3, e2]; exact hfC
        · rw [em3, em2]; exact hfM
        · rw [e3, e2, em3, em2]; exact h3
        · rw [e3, e2, em3, em2]; exact h4
        · rw [e3, e2, em3, em2]; exact h5
        · rw [e3, e2, em3, em2]; exact h6
        · rw [e3, e2, em3, em2]; exact h7
    · unfold e_X7_build
      refine pM_isMan hM hv (fun f2 ef2 hf2 => ⟨fun _ => ?_, fun c => absurd c (by decide)⟩) (fun h0 => (man_no hv rfl hf h0).elim)
      rw [cl_nat (by omega), m3, L9, iI_eq (sm_of (by omega) (by omega)) (sm_of (by decide) (by decide))]
      exact ⟨in6 (by omega), fun c => absurd (by omega) c, fun _ => ⟨rfl, hR⟩⟩
  · unfold e_X7_build
    exact pM_isMan hM hv (fun f ef hf => (man_no hv ef hf h0).elim) (fun _ => ⟨fun c => absurd rfl c, fun _ => ⟨rfl, hR⟩⟩)
theorem t_plant (hR : Rel C M) (x y z : Int32) : e_X6_plant x y z C (fun r C1 => e_X7_plant x y z M (fun r2 M1 => r = r2 ∧ Rel C1 M1)) := by
  obtain ⟨v, ⟨hC, hM, hfC, hfM, hv, hw⟩, h2, h3, h4, h5, h6, h7⟩ := id hR
  have ez : z < 0 ↔ z.toInt < 0 := by rw [Int32.lt_iff_toInt_lt]; rfl
  have e9 : z ≤ 99 ↔ z.toInt ≤ 99 := by rw [Int32.le_iff_toInt_le]; rfl
  have z0 : (0 : Int64).toInt = 0 := rfl
  have z9 : (99 : Int64).toInt = 99 := rfl
  unfold e_X6_plant
  refine pC_hasCell hC hv (fun a c ea ec ha hc => ⟨fun _ => ?_, fun c => absurd c (by decide)⟩) (fun h0 => ⟨fun c => absurd rfl c, fun _ => ?_⟩)
  · obtain ⟨i1, i2⟩ := idx_lt hv ha hc
    have ei : M.1 0 * iI c + iI a = iI ((wN v * c + a : Nat) : Int) := by
      rw [hM.1, iI_mul, iI_add, Int.natCast_add, Int.natCast_mul, wN_eq hv]
    rw [ea, ec, ez, e9]
    have mout : (z.toInt < 0 ∨ 99 < z.toInt) → e_X7_plant (iI a) (iI c) z M (fun r2 M1 => (-1000000002 : Int32) = r2 ∧ Rel C M1) := by
      intro ho
      unfold e_X7_plant
      refine pM_isCell hM hv (fun a2 c2 ea2 ec2 ha2 hc2 => ⟨fun _ => ?_, fun c => absurd c (by decide)⟩) (fun h0 => (cell_no hv rfl rfl ha hc h0).elim)
      refine p_in (fun a1 a2 => ?_) (fun _ => ⟨fun c => absurd rfl c, fun _ => ⟨rfl, hR⟩⟩)
      rw [iI_L, z0] at a1
      rw [iI_L, z9] at a2
      omega
    refine ⟨fun q => mout (Or.inl q), fun q => ⟨fun q2 => ?_, fun q2 => mout (Or.inr (by omega))⟩⟩
    refine pC_num hC hv ⟨in_nat (by omega) (by omega) (by omega), ?_⟩
    rw [cl_nat (by omega), (hC.2.2.2.2.2.2 _ i1).1]
    intro u hu S4 e4
    unfold e_X7_plant
    refine pM_isCell hM hv (fun a2 c2 ea2 ec2 ha2 hc2 => ⟨fun _ => ?_, fun c => absurd c (by decide)⟩) (fun h0 => (cell_no hv rfl rfl ha hc h0).elim)
    refine p_in (fun _ _ => ⟨fun _ => ?_, fun c => absurd c (by decide)⟩) (fun a1 => ?_)
    · rw [ei, cl_nat (by omega), (hM.2.2.2.2.2.2 _ i1).1]
      refine ⟨in_nat (by omega) (by omega) (by omega), ?_⟩
      intro u2 hu2 M4 e5
      refine ⟨by rw [hu, hu2], ?_⟩
      rw [e4, e5, iI_of z]
      exact ⟨vu v 3 (wN v * c + a) z.toInt, ⟨shC_stand hC _ _, shM_stand hM _ _, hfC, hfM, okV_stand hv (by omega) (by omega), hw⟩, h2, h3, h4, h5, h6, h7⟩
    · rw [iI_L, z0, z9] at a1
      omega
  · unfold e_X7_plant
    exact pM_isCell hM hv (fun a c ea ec ha hc => (cell_no hv ea ec ha hc h0).elim) (fun _ => ⟨fun c => absurd rfl c, fun _ => ⟨rfl, hR⟩⟩)
theorem t_write (hR : Rel C M) (x y z : Int32) : e_X6_write x y z C (fun r C1 => e_X7_write x y z M (fun r2 M1 => r = r2 ∧ Rel C1 M1)) := by
  obtain ⟨v, ⟨hC, hM, hfC, hfM, hv, hw⟩, h2, h3, h4, ⟨b, b1, b2, b3, b4⟩, h6, h7⟩ := id hR
  have e40 : (40 : Int32) = nI 40 := rfl
  unfold e_X6_write
  refine pC_hasMan hC hv (fun f ef hf => ⟨fun c => absurd c (by decide), fun _ => ?_⟩) (fun h0 => ⟨fun _ => ?_, fun c => absurd rfl c⟩)
  · refine pC_hasCell hC hv (fun a c ea ec ha hc => ⟨fun _ => ?_, fun c => absurd c (by decide)⟩) (fun h0 => ⟨fun c => absurd rfl c, fun _ => ?_⟩)
    · rw [ef, ea, ec, b2, e40, nI_ltI (by omega) (by omega)]
      refine ⟨fun q => ?_, fun q => ?_⟩
      · unfold e_X1_add
        rw [b2, e40, nI_leI (by omega) (by omega), cl_nI (by omega)]
        refine ⟨fun c => absurd c (by omega), fun _ => ⟨in_nI (by omega) (by omega), fun S3 e3 => ?_⟩⟩
        have f3 : S3.1 31 = nI b := by rw [e3]; exact b2
        rw [f3, cl_nI (by omega)]
        refine ⟨in_nI (by omega) (by omega), fun S5 e5 => ?_⟩
        have f5 : S5.1 31 = nI b := by rw [e5]; exact f3
        rw [f5, cl_nI (by omega)]
        refine ⟨in_nI (by omega) (by omega), fun S7 e7 S8 e8 => ?_⟩
        have f7 : S7.1 31 = nI b := by rw [e7]; exact f5
        rw [f7, nI_1] at e8
        have f8 : S8.1 31 = nI (b + 1) := by rw [e8]; rfl
        unfold e_X7_write
        refine pM_isMan hM hv (fun f2 ef2 hf2 => ⟨fun c => absurd c (by decide), fun _ => ?_⟩) (fun h0 => (man_no hv rfl hf h0).elim)
        refine pM_isCell hM hv (fun a2 c2 ea2 ec2 ha2 hc2 => ⟨fun _ => ?_, fun c => absurd c (by decide)⟩) (fun h0 => (cell_no hv rfl rfl ha hc h0).elim)
        rw [b3, e40, nI_eq (by omega) (by omega), cl_nI (by omega)]
        refine ⟨fun _ => ⟨in_nI (by omega) (by omega), fun M3 em3 => ?_⟩, fun c => absurd c (by omega)⟩
        have g3 : M3.1 23 = nI b := by rw [em3]; exact b3
        rw [g3, cl_nI (by omega)]
        refine ⟨in_nI (by omega) (by omega), fun M5 em5 => ?_⟩
        have g5 : M5.1 23 = nI b := by rw [em5]; exact g3
        rw [g5, cl_nI (by omega)]
        refine ⟨in_nI (by omega) (by omega), fun M7 em7 M8 em8 => ?_⟩
        have g7 : M7.1 23 = nI b := by rw [em7]; exact g5
        rw [g7, nI_1] at em8
        have g8 : M8.1 23 = nI (b + 1) := by rw [em8]; rfl
        refine ⟨by rw [f8, g8], ?_⟩
        subst e8 e7 e5 e3 em8 em7 em5 em3
        refine ⟨v, ⟨hC, hM, hfC, hfM, hv, hw⟩, h2, h3, h4, ⟨b + 1, by omega, rfl, rfl, fun j hj => ?_⟩, h6, h7⟩
        rcases Nat.lt_or_ge j b with q3 | q3
        · obtain ⟨f', x', y', k1, k2, k3⟩ := b4 j q3
          refine ⟨f', x', y', k1, ?_, ?_⟩
          · refine ⟨?_, ?_, ?_⟩
            · show upd (C.2.1 33) b _ j = _
              rw [pk_un (by omega)]; exact k2.1
            · show upd (C.2.1 34) b _ j = _
              rw [pk_un (by omega)]; exact k2.2.1
            · show upd (C.2.1 35) b _ j = _
              rw [pk_un (by omega)]; exact k2.2.2
          · refine ⟨?_, ?_, ?_⟩
            · show upd (M.2.1 18) b _ j = _
              rw [pk_un (by omega)]; exact k3.1
            · show upd (M.2.1 19) b _ j = _
              rw [pk_un (by omega)]; exact k3.2.1
            · show upd (M.2.1 20) b _ j = _
              rw [pk_un (by omega)]; exact k3.2.2
        · have ej : j = b := by omega
          subst ej
          refine ⟨f, a, c, ⟨hf, ha, hc⟩, ⟨?_, ?_, ?_⟩, ?_, ?_, ?_⟩
          · show upd (C.2.1 33) j _ j = _
            rw [pk_us]
          · show upd (C.2.1 34) j _ j = _
            rw [pk_us]
          · show upd (C.2.1 35) j _ j = _
            rw [pk_us]
          · show upd (M.2.1 18) j _ j = _
            rw [pk_us]
          · show upd (M.2.1 19) j _ j = _
            rw [pk_us]
          · show upd (M.2.1 20) j _ j = _
            rw [pk_us]
      · unfold e_X7_write
        refine pM_isMan hM hv (fun f2 ef2 hf2 => ⟨fun c => absurd c (by decide), fun _ => ?_⟩) (fun h0 => (man_no hv rfl hf h0).elim)
        refine pM_isCell hM hv (fun a2 c2 ea2 ec2 ha2 hc2 => ⟨fun _ => ?_, fun c => absurd c (by decide)⟩) (fun h0 => (cell_no hv rfl rfl ha hc h0).elim)
        rw [b3, e40, nI_eq (by omega) (by omega)]
        exact ⟨fun c => absurd (by omega) c, fun _ => ⟨rfl, hR⟩⟩
    · unfold e_X7_write
      refine pM_isMan hM hv (fun f2 ef2 hf2 => ⟨fun c => absurd c (by decide), fun _ => ?_⟩) (fun h0 => (man_no hv ef hf h0).elim)
      exact pM_isCell hM hv (fun a c ea ec ha hc => (cell_no hv ea ec ha hc h0).elim) (fun _ => ⟨fun c => absurd rfl c, fun _ => ⟨rfl, hR⟩⟩)
  · unfold e_X7_write
    exact pM_isMan hM hv (fun f ef hf => (man_no hv ef hf h0).elim) (fun _ => ⟨fun _ => ⟨rfl, hR⟩, fun c => absurd rfl c⟩)
end TT
