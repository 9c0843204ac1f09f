/-! ===== wins, view ===== -/
theorem sa_comm (S : vS) {a b : Nat} (h : a ≠ b) (k : Nat) (x : Int32) (g : Nat → Int32) : sa (sr S b g) a k x = sr (sa S a k x) b g := by
  unfold sa sr
  refine Prod.ext rfl (Prod.ext ?_ rfl)
  funext c
  by_cases e1 : c = a
  · subst e1
    simp [h]
  · by_cases e2 : c = b
    · subst e2
      simp [e1]
    · simp [e1, e2]
theorem upd_back (g : Nat → Int32) (k : Nat) (x : Int32) : upd (upd g k x) k (g k) = g := by
  funext j
  by_cases e : j = k
  · rw [e, pk_us]
  · rw [pk_un e, pk_un e]
theorem sa_back (S : vS) (a k : Nat) (x : Int32) : sa (sa S a k x) a k (S.2.1 a k) = S := by
  have e : sa (sa S a k x) a k (S.2.1 a k) = sr S a (upd (upd (S.2.1 a) k x) k (S.2.1 a k)) := by
    show sa (sr S a _) a k _ = _
    rw [sa_sr]
  rw [e, upd_back, sr_self]
theorem sFar_cong {v v2 : vV} {day : Int} (h5 : ∀ j, v2.2 5 j = v.2 5 j) (h6 : ∀ j, v2.2 6 j = v.2 6 j) (h7 : ∀ j, v2.2 7 j = v.2 7 j) : ∀ k, sFar v2 day k = sFar v day k
  | 0 => rfl
  | k + 1 => by rw [sFar, sFar, sFar_cong h5 h6 h7 k, h5, h6, h7]
theorem sFarN_2 {v : vV} {k : Nat} {z day : Int} : sFarN (vu v 2 k z) day = sFarN v day := sFar_cong (v := v) (v2 := vu v 2 k z) (fun _ => rfl) (fun _ => rfl) (fun _ => rfl) (v.1 5).toNat
theorem sFarN_3 {v : vV} {k : Nat} {z day : Int} : sFarN (vu v 3 k z) day = sFarN v day := sFar_cong (v := v) (v2 := vu v 3 k z) (fun _ => rfl) (fun _ => rfl) (fun _ => rfl) (v.1 5).toNat
section TT
variable {C M : vS}
theorem t_wins (hR : Rel C M) (x : Int32) : e_X6_wins x C (fun r C1 => e_X7_wins x M (fun r2 M1 => r = r2 ∧ Rel C1 M1)) := by
  obtain ⟨v, ⟨hC, hM, hfC, hfM, hv, hw⟩, h2, h3, h4, h5, h6, h7⟩ := id hR
  have hn := hv.2.2.2.1
  have L9 : (9 : Int32) = iI 9 := rfl
  unfold e_X6_wins
  refine pC_hasMan hC hv (fun f ef hf => ⟨fun _ => ?_, fun c => absurd c (by decide)⟩) (fun h0 => ⟨fun c => absurd rfl c, fun _ => ?_⟩)
  · obtain ⟨c1, c2, c3⟩ := hC.2.2.2.2.2.1 f hf
    obtain ⟨m1, m2, m3⟩ := hM.2.2.2.2.2.1 f hf
    obtain ⟨-, -, b3⟩ := hv.2.2.2.2.2.2.1 f hf
    rw [ef, cl_nat (by omega)]
    refine ⟨in6 (by omega), fun v5 e5 => ?_⟩
    have f5 : v5 = iI (v.2 2 f) := by rw [e5, c3]
    rw [f5, L9, iI_lt (sm_of (by omega) (by omega)) (sm_of (by decide) (by decide)), L1, iI_add]
    refine ⟨fun q => ?_, fun q => ?_⟩
    · refine pC_lookAll hC hfC hv hw (fun g hg => ?_)
      refine pC_share (far := sFarN v (C.1 16).toInt) (shC30 hC) hv (by rw [sr_at]; exact hg) hf ?_
      intro S11 e11
      rw [sa_comm _ (by decide)] at e11
      rw [e11]
      have hC1 : shC (sa C 21 f (iI (v.2 2 f + 1))) (vu v 2 f (v.2 2 f + 1)) := shC_stor hC f _
      have hv1 : okV (vu v 2 f (v.2 2 f + 1)) := okV_stor hv (by omega) (by omega)
      refine pC_lookBy1 (v0 := v) hC1 hfC hv1 hw hf rfl (by rw [sFarN_2]; exact hg) (fun g2 hg2 => ?_)
      rw [sFarN_2] at hg2
      refine pC_share (far := sFarN v (C.1 16).toInt) (shC30 hC1) hv1 (by rw [sr_at]; exact hg2) hf ?_
      intro S16 e16
      rw [sa_comm _ (by decide), ← c3, sa_back] at e16
      rw [e16]
      unfold e_X7_wins
      refine pM_isMan hM hv (fun f2 ef2 hf2 => ⟨fun _ => ?_, fun c => absurd c (by decide)⟩) (fun h0 => (man_no hv rfl hf h0).elim)
      rw [cl_nat (by omega), m3, L9, iI_eq (sm_of (by omega) (by omega)) (sm_of (by decide) (by decide))]
      refine ⟨in6 (by omega), fun _ => ?_, fun c => absurd c (by omega)⟩
      refine pM_share hM hfM hv hw hf ?_
      rw [m3, L1, iI_add]
      intro S8 e8
      rw [e8]
      have hM1 : shM (sa M 6 f (iI (v.2 2 f + 1))) (vu v 2 f (v.2 2 f + 1)) := shM_stor hM f _
      refine pM_share hM1 hfM hv1 hw hf ?_
      intro S11 e12
      rw [sa_at, pk_us, iI_sub] at e12
      have e13 : v.2 2 f + 1 - 1 = v.2 2 f := by omega
      rw [e13, ← m3, sa_back] at e12
      rw [e12]
      refine ⟨?_, hR⟩
      have e14 : (sa M 6 f (iI (v.2 2 f + 1))).1 7 = M.1 7 := rfl
      rw [h2.2.1, sFarN_2, e14]
    · unfold e_X7_wins
      refine pM_isMan hM hv (fun f2 ef2 hf2 => ⟨fun _ => ?_, fun c => absurd c (by decide)⟩) (fun h0 => (man_no hv rfl hf h0).elim)
      rw [cl_nat (by omega), m3, L9, iI_eq (sm_of (by omega) (by omega)) (sm_of (by decide) (by decide))]
      exact ⟨in6 (by omega), fun c => absurd (by omega) c, fun _ => ⟨rfl, hR⟩⟩
  · unfold e_X7_wins
    exact pM_isMan hM hv (fun f ef hf => (man_no hv ef hf h0).elim) (fun _ => ⟨fun c => absurd rfl c, fun _ => ⟨rfl, hR⟩⟩)
theorem t_view (hR : Rel C M) (x y z : Int32) : e_X6_view x y z C (fun r C1 => e_X7_view x y z M (fun r2 M1 => r = r2 ∧ Rel C1 M1)) := by
  obtain ⟨v, ⟨hC, hM, hfC, hfM, hv, hw⟩, h2, h3, h4, h5, h6, h7⟩ := id hR
  unfold e_X6_view
  refine pC_hasMan hC hv (fun f ef hf => ⟨fun c => absurd c (by decide), fun _ => ?_⟩) (fun h0 => ⟨fun _ => ?_, fun c => absurd rfl c⟩)
  · refine pC_hasCell hC hv (fun a c ea ec ha hc => ⟨fun _ => ?_, fun c => absurd c (by decide)⟩) (fun h0 => ⟨fun c => absurd rfl c, fun _ => ?_⟩)
    · obtain ⟨i1, i2⟩ := idx_lt hv ha hc
      have sC := (hC.2.2.2.2.2.2 _ i1).1
      have sM := (hM.2.2.2.2.2.2 _ i1).1
      have ei : M.1 0 * iI c + iI a = iI ((wN v * c + a : Nat) : Int) := by
        rw [hM.1, iI_mul, iI_add, Int.natCast_add, Int.natCast_mul, wN_eq hv]
      rw [ef, ea, ec]
      refine pC_num hC hv ⟨in_nat (by omega) (by omega) (by omega), ?_⟩
      rw [cl_nat (by omega)]
      intro v10 e10
      refine pC_lookAll hC hfC hv hw (fun g hg => ?_)
      refine pC_share (far := sFarN v (C.1 16).toInt) (shC30 hC) hv (by rw [sr_at]; exact hg) hf ?_
      intro S15 e15
      rw [sa_comm _ (by decide)] at e15
      rw [e15]
      have hC1 : shC (sa C 23 (wN v * c + a) (iI 0)) (vu v 3 (wN v * c + a) 0) := shC_stand hC _ _
      have hv1 : okV (vu v 3 (wN v * c + a) 0) := okV_stand hv (by omega) (by omega)
      refine pC_lookOver (v0 := v) hC1 hfC hv hv1 hw ha hc rfl (by rw [sFarN_3]; exact hg) (fun g2 hg2 => ?_)
      rw [sFarN_3] at hg2
      refine pC_share (far := sFarN v (C.1 16).toInt) (shC30 hC1) hv1 (by rw [sr_at]; exact hg2) hf ?_
      intro S20 e20
      rw [sa_comm _ (by decide), e10, sa_back] at e20
      rw [e20]
      unfold e_X7_view
      refine pM_isMan hM hv (fun f2 ef2 hf2 => ⟨fun c => absurd c (by decide), fun _ => ?_⟩) (fun h0 => (man_no hv rfl hf h0).elim)
      refine pM_isCell hM hv (fun a2 c2 ea2 ec2 ha2 hc2 => ⟨fun _ => ?_, fun c => absurd c (by decide)⟩) (fun h0 => (cell_no hv rfl rfl ha hc h0).elim)
      refine pM_share hM hfM hv hw hf ?_
      rw [ei, cl_nat (by omega)]
      refine ⟨in_nat (by omega) (by omega) (by omega), fun u hu S11 e11 => ?_⟩
      rw [e11]
      have hM1 : shM (sa M 8 (wN v * c + a) (iI 0)) (vu v 3 (wN v * c + a) 0) := shM_stand hM _ _
      refine pM_share hM1 hfM hv1 hw hf ?_
      have ei2 : (sa M 8 (wN v * c + a) (iI 0)).1 0 * iI c + iI a = iI ((wN v * c + a : Nat) : Int) := ei
      rw [ei2, cl_nat (by omega)]
      refine ⟨in_nat (by omega) (by omega) (by omega), fun S15 e16 => ?_⟩
      rw [hu, sa_back] at e16
      rw [e16]
      refine ⟨?_, hR⟩
      have e14 : (sa M 8 (wN v * c + a) (iI 0)).1 7 = M.1 7 := rfl
      rw [h2.2.1, sFarN_3, e14]
    · unfold e_X7_view
      refine pM_isMan hM hv (fun f2 ef2 hf2 => ⟨fun c => absurd c (by decide), fun _ => ?_⟩) (fun h0 => (man_no hv ef hf h0).elim)
      exact pM_isCell hM hv (fun a c ea ec ha hc => (cell_no hv ea ec ha hc h0).elim) (fun _ => ⟨fun c => absurd rfl c, fun _ => ⟨rfl, hR⟩⟩)
  · unfold e_X7_view
    exact pM_isMan hM hv (fun f ef hf => (man_no hv ef hf h0).elim) (fun _ => ⟨fun _ => ⟨rfl, hR⟩, fun c => absurd rfl c⟩)
end TT
