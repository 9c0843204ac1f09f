/-! ===== both systems show one value: the relation, and the calls one by one ===== -/
def Rp (C M : vS) (v : vV) : Prop := C.1 5 = M.1 5 ∧ C.1 16 = M.1 7 ∧ C.1 18 = M.1 8 ∧ 0 ≤ (M.1 8).toInt ∧ ∀ f : Nat, (f : Int) < v.1 2 → C.2.1 22 f = M.2.1 7 f
def Rt (C M : vS) (v : vV) : Prop := (∀ f : Nat, (f : Int) < v.1 2 → C.2.1 3 f = iI (v.2 8 f) ∧ M.2.1 2 f = iI (v.2 8 f) ∧ 0 ≤ v.2 8 f ∧ v.2 8 f ≤ 9) ∧ (∀ k : Nat, k < 60 → C.2.1 4 k = iI (v.2 9 k) ∧ M.2.1 3 k = iI (v.2 9 k) ∧ 0 ≤ v.2 9 k ∧ v.2 9 k ≤ 99)
def Rx (C M : vS) : Prop := ∃ t : Nat, t ≤ 500 ∧ C.1 12 = nI t ∧ M.1 9 = nI t ∧ C.1 14 = M.1 10 ∧ ∀ j : Nat, j < t → (0 ≤ (M.2.1 9 j).toInt ∧ (M.2.1 9 j).toInt < 256) ∧ C.2.1 17 j = (M.2.1 9 j).toInt8.toInt32
def Rb (C M : vS) (v : vV) : Prop := ∃ b : Nat, b ≤ 40 ∧ C.1 31 = nI b ∧ M.1 23 = nI b ∧ ∀ j : Nat, j < b → ∃ f x y : Nat, ((f : Int) < v.1 2 ∧ (x : Int) < v.1 0 ∧ (y : Int) < v.1 1) ∧ (C.2.1 33 j = iI f ∧ C.2.1 34 j = iI x ∧ C.2.1 35 j = iI y) ∧ (M.2.1 18 j = iI f ∧ M.2.1 19 j = iI x ∧ M.2.1 20 j = iI y)
def Rim (C M : vS) (v : vV) (ck ct cr cd cs cp cz e : Nat) : Prop := (C.1 ck = 0 ∧ M.2.1 22 e = 0) ∨ (C.1 ck = 1 ∧ M.2.1 22 e = 1 ∧ C.1 ct = M.2.1 21 (80 * e + 72) ∧ (C.1 cr = M.2.1 21 (80 * e + 73) ∧ 0 ≤ (C.1 cr).toInt ∧ (C.1 cr).toInt ≤ 2) ∧ (C.1 cd = M.2.1 21 (80 * e + 74) ∧ 0 ≤ (C.1 cd).toInt) ∧ (∀ f : Nat, (f : Int) < v.1 2 → C.2.1 cs f = M.2.1 21 (80 * e + f) ∧ 0 ≤ (C.2.1 cs f).toInt ∧ (C.2.1 cs f).toInt ≤ 9 ∧ C.2.1 cp f = M.2.1 21 (80 * e + 6 + f)) ∧ ∀ k : Nat, k < 60 → C.2.1 cz k = M.2.1 21 (80 * e + 12 + k) ∧ 0 ≤ (C.2.1 cz k).toInt ∧ (C.2.1 cz k).toInt ≤ 99)
def Rv (C M : vS) (v : vV) : Prop := shC C v ∧ shM M v ∧ shFC C v ∧ shFM M v ∧ okV v ∧ okF v
def RelV (C M : vS) (v : vV) : Prop := Rv C M v ∧ Rp C M v ∧ Rt C M v ∧ Rx C M ∧ Rb C M v ∧ Rim C M v 23 20 21 22 24 25 26 0 ∧ Rim C M v 27 24 25 26 27 28 29 1
def Rel (C M : vS) : Prop := ∃ v : vV, RelV C M v
theorem man_no {v : vV} (hv : okV v) {x : Int32} {f : Nat} (h1 : x = iI f) (h2 : (f : Int) < v.1 2) (h3 : x.toInt < 0 ∨ v.1 2 ≤ x.toInt) : False := by
  have hn := hv.2.2.2.1
  rw [h1, iI_T (sm_of (by omega) (by omega))] at h3
  omega
theorem cell_no {v : vV} (hv : okV v) {x y : Int32} {a b : Nat} (h1 : x = iI a) (h2 : y = iI b) (h3 : (a : Int) < v.1 0) (h4 : (b : Int) < v.1 1) (h5 : x.toInt < 0 ∨ v.1 0 ≤ x.toInt ∨ y.toInt < 0 ∨ v.1 1 ≤ y.toInt) : False := by
  have hw := hv.1
  have hd := hv.2.1
  rw [h1, h2, iI_T (sm_of (by omega) (by omega)), iI_T (sm_of (by omega) (by omega))] at h5
  omega
theorem sameI {a b : Nat} (ha : a < 1000) (hb : b < 1000) (h : iI (a : Int) = iI (b : Int)) : a = b := by
  rw [iI_eq (sm_of (by omega) (by omega)) (sm_of (by omega) (by omega))] at h
  omega
section TT
variable {C M : vS}
theorem t_fault (hR : Rel C M) : e_X6_fault C (fun r C1 => e_X7_fault M (fun r2 M1 => r = r2 ∧ Rel C1 M1)) := by
  obtain ⟨v, h1, h2, h3, ⟨t, h4⟩, h5⟩ := id hR
  exact ⟨h4.2.2.2.1, hR⟩
theorem t_law (hR : Rel C M) (x : Int32) : e_X6_law x C (fun r C1 => e_X7_law x M (fun r2 M1 => r = r2 ∧ Rel C1 M1)) := by
  obtain ⟨v, ⟨hC, hM, hfC, hfM, hv, hw⟩, h2, h3, h4, h5, h6, h7⟩ := id hR
  have ex : x < 0 ↔ x.toInt < 0 := by rw [Int32.lt_iff_toInt_lt]; rfl
  have e2 : x ≤ 2 ↔ x.toInt ≤ 2 := by rw [Int32.le_iff_toInt_le]; rfl
  have z0 : (0 : Int64).toInt = 0 := rfl
  have z2 : (2 : Int64).toInt = 2 := rfl
  have mout : (x.toInt < 0 ∨ 2 < x.toInt) → e_X7_law x M (fun r2 M1 => (-1000000002 : Int32) = r2 ∧ Rel C M1) := by
    intro ho
    unfold e_X7_law
    refine p_in (fun a1 a2 => ?_) (fun _ => ⟨fun c => absurd rfl c, fun _ => ⟨rfl, hR⟩⟩)
    rw [iI_L, z0] at a1
    rw [iI_L, z2] at a2
    omega
  unfold e_X6_law
  rw [ex, e2]
  refine ⟨fun c => mout (Or.inl c), fun c => ⟨fun c2 => ?_, fun c2 => mout (Or.inr (by omega))⟩⟩
  intro v3 e3 S4 e4
  unfold e_X7_law
  refine p_in (fun _ _ => ⟨fun _ => ?_, fun c => absurd c (by decide)⟩) (fun a1 => ?_)
  · intro u hu M4 e5
    refine ⟨by rw [e3, hu, hC.2.2.2.2.1, hM.2.2.2.2.1], ?_⟩
    rw [e4, e5]
    refine ⟨(fun j => if j = 4 then x.toInt else v.1 j, v.2), ⟨?_, ?_, hfC, hfM, ?_, hw⟩, h2, h3, h4, h5, h6, h7⟩
    · exact ⟨hC.1, hC.2.1, hC.2.2.1, hC.2.2.2.1, iI_of x, hC.2.2.2.2.2⟩
    · exact ⟨hM.1, hM.2.1, hM.2.2.1, hM.2.2.2.1, iI_of x, hM.2.2.2.2.2⟩
    · obtain ⟨o1, o2, o3, o4, o5, o6, o7⟩ := hv
      exact ⟨o1, o2, o3, o4, o5, ⟨show (0 : Int) ≤ x.toInt by omega, show x.toInt ≤ 2 by omega⟩, o7⟩
  · rw [iI_L, z0, z2] at a1
    omega
theorem t_seed (hR : Rel C M) (x : Int32) : e_X6_seed x C (fun r C1 => e_X7_seed x M (fun r2 M1 => r = r2 ∧ Rel C1 M1)) := by
  obtain ⟨v, ⟨hC, hM, hfC, hfM, hv, hw⟩, h2, h3, h4, h5, h6, h7⟩ := id hR
  have ex : (0 : Int32) ≤ x ↔ 0 ≤ x.toInt := by rw [Int32.le_iff_toInt_le]; rfl
  unfold e_X6_seed e_X7_seed
  refine ⟨fun c u hu S3 e3 => ⟨fun _ u2 hu2 M3 e4 => ⟨by rw [hu, hu2]; exact h2.2.2.1, ?_⟩, fun c2 => absurd c c2⟩, fun c => ⟨fun c2 => absurd c2 c, fun _ => ⟨rfl, hR⟩⟩⟩
  rw [e3, e4]
  exact ⟨v, ⟨hC, hM, hfC, hfM, hv, hw⟩, ⟨h2.1, h2.2.1, rfl, ex.mp c, h2.2.2.2.2⟩, h3, h4, h5, h6, h7⟩
theorem t_tear (hR : Rel C M) : e_X6_tear C (fun r C1 => e_X7_tear M (fun r2 M1 => r = r2 ∧ Rel C1 M1)) := by
  obtain ⟨v, hV, h2, h3, h4, ⟨b, b1, b2, b3, b4⟩, h6, h7⟩ := id hR
  unfold e_X6_tear e_X7_tear
  intro u hu S2 e2 u2 hu2 M2 e3
  refine ⟨by rw [hu, hu2, b2, b3], ?_⟩
  rw [e2, e3]
  exact ⟨v, hV, h2, h3, h4, ⟨0, by omega, rfl, rfl, fun j hj => by omega⟩, h6, h7⟩
theorem t_share (hR : Rel C M) (x : Int32) : e_X6_share x C (fun r C1 => e_X7_share x M (fun r2 M1 => r = r2 ∧ Rel C1 M1)) := by
  obtain ⟨v, ⟨hC, hM, hfC, hfM, hv, hw⟩, h2, h3, h4, h5, h6, h7⟩ := id hR
  unfold e_X6_share
  refine pC_hasMan hC hv (fun f ef hf => ⟨fun _ => ?_, fun c => absurd c (by decide)⟩) (fun h0 => ⟨fun c => absurd rfl c, fun _ => ?_⟩)
  · refine pC_lookAll hC hfC hv hw (fun g hg => ?_)
    rw [ef]
    refine pC_share (far := sFarN v (C.1 16).toInt) (shC30 hC) hv (by rw [sr_at]; exact hg) hf ?_
    unfold e_X7_share
    refine pM_isMan hM hv (fun f2 ef2 hf2 => ⟨fun c => absurd c (by decide), fun _ => ?_⟩) (fun h0 => (man_no hv rfl hf h0).elim)
    refine pM_share hM hfM hv hw hf ⟨?_, hR⟩
    rw [h2.2.1]
  · unfold e_X7_share
    exact pM_isMan hM hv (fun f ef hf => (man_no hv ef hf h0).elim) (fun _ => ⟨fun _ => ⟨rfl, hR⟩, fun c => absurd rfl c⟩)
theorem t_sees (hR : Rel C M) (x y z : Int32) : e_X6_sees x y z C (fun r C1 => e_X7_sees x y z M (fun r2 M1 => r = r2 ∧ Rel C1 M1)) := by
  obtain ⟨v, ⟨hC, hM, hfC, hfM, hv, hw⟩, h2, h3, h4, h5, h6, h7⟩ := id hR
  have b := sFarN_bd hw (C.1 16).toInt
  unfold e_X6_sees
  refine pC_hasMan hC hv (fun f ef hf => ⟨fun c => absurd c (by decide), fun _ => ?_⟩) (fun h0 => ⟨fun _ => ?_, fun c => absurd rfl c⟩)
  · refine pC_hasCell hC hv (fun a c ea ec ha hc => ⟨fun _ => ?_, fun c => absurd c (by decide)⟩) (fun h0 => ⟨fun c => absurd rfl c, fun _ => ?_⟩)
    · refine pC_far hfC hw ?_
      rw [ef, ea, ec]
      refine pC_see hC hv hf ha hc b.1 (by omega) ?_
      have goal : ∀ k : Bool, k = sSee v (sFarN v (C.1 16).toInt) f a c → e_X7_sees (iI f) (iI a) (iI c) M (fun r2 M1 => bI k = r2 ∧ Rel C M1) := by
        intro k ek
        unfold e_X7_sees
        refine pM_isMan hM hv (fun f2 ef2 hf2 => ⟨fun c => absurd c (by decide), fun _ => ?_⟩) (fun h0 => (man_no hv rfl hf h0).elim)
        refine pM_isCell hM hv (fun a2 c2 ea2 ec2 ha2 hc2 => ⟨fun _ => ?_, fun c => absurd c (by decide)⟩) (fun h0 => (cell_no hv rfl rfl ha hc h0).elim)
        refine pM_far hfM hw ?_
        rw [← h2.2.1]
        refine pM_see hM hv hf ha hc b.1 (by omega) ?_
        rw [← ek]
        cases k
        · exact ⟨fun _ => ⟨rfl, hR⟩, fun c => absurd rfl c⟩
        · exact ⟨fun c => absurd c (by decide), fun _ => ⟨rfl, hR⟩⟩
      cases hk : sSee v (sFarN v (C.1 16).toInt) f a c
      · exact ⟨fun _ => goal false hk.symm, fun c => absurd rfl c⟩
      · exact ⟨fun c => absurd c (by decide), fun _ => goal true hk.symm⟩
    · unfold e_X7_sees
      refine pM_isMan hM hv (fun f2 ef2 hf2 => ⟨fun c => absurd c (by decide), fun _ => ?_⟩) (fun h0 => (man_no hv ef hf h0).elim)
      exact pM_isCell hM hv (fun a c ea ec ha hc => (cell_no hv ea ec ha hc h0).elim) (fun _ => ⟨fun c => absurd rfl c, fun _ => ⟨rfl, hR⟩⟩)
  · unfold e_X7_sees
    exact pM_isMan hM hv (fun f ef hf => (man_no hv ef hf h0).elim) (fun _ => ⟨fun _ => ⟨rfl, hR⟩, fun c => absurd rfl c⟩)
theorem t_blocker (hR : Rel C M) (x y z : Int32) : e_X6_blocker x y z C (fun r C1 => e_X7_blocker x y z M (fun r2 M1 => r = r2 ∧ Rel C1 M1)) := by
  obtain ⟨v, ⟨hC, hM, hfC, hfM, hv, hw⟩, h2, h3, h4, h5, h6, h7⟩ := id hR
  unfold e_X6_blocker
  refine pC_hasMan hC hv (fun f ef hf => ⟨fun c => absurd c (by decide), fun _ => ?_⟩) (fun h0 => ⟨fun _ => ?_, fun c => absurd rfl c⟩)
  · refine pC_hasCell hC hv (fun a c ea ec ha hc => ⟨fun _ => ?_, fun c => absurd c (by decide)⟩) (fun h0 => ⟨fun c => absurd rfl c, fun _ => ?_⟩)
    · rw [ef, ea, ec]
      refine pC_blk hC hv hf ha hc ?_
      unfold e_X7_blocker
      refine pM_isMan hM hv (fun f2 ef2 hf2 => ⟨fun c => absurd c (by decide), fun _ => ?_⟩) (fun h0 => (man_no hv rfl hf h0).elim)
      refine pM_isCell hM hv (fun a2 c2 ea2 ec2 ha2 hc2 => ⟨fun c => absurd c (by decide), fun _ => ?_⟩) (fun h0 => (cell_no hv rfl rfl ha hc h0).elim)
      have be := sEye_bd hv hf
      refine pM_eye hM hv hf ?_
      exact pM_blk hM hv hf ha hc (by omega) (by omega) ⟨rfl, hR⟩
    · unfold e_X7_blocker
      refine pM_isMan hM hv (fun f2 ef2 hf2 => ⟨fun c => absurd c (by decide), fun _ => ?_⟩) (fun h0 => (man_no hv ef hf h0).elim)
      exact pM_isCell hM hv (fun a c ea ec ha hc => (cell_no hv ea ec ha hc h0).elim) (fun _ => ⟨fun _ => ⟨rfl, hR⟩, fun c => absurd rfl c⟩)
  · unfold e_X7_blocker
    exact pM_isMan hM hv (fun f ef hf => (man_no hv ef hf h0).elim) (fun _ => ⟨fun _ => ⟨rfl, hR⟩, fun c => absurd rfl c⟩)
end TT
