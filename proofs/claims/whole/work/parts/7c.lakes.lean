/-! ===== lake: the clauses lake and storey ===== -/
section TT
variable {C M C0 M0 : vS} {T : Nat → Int} {t a : Nat}

theorem k_lake (ht : okT T t) (hC : txC T t C) (hM : txM T t M) (fC : frC C0 C) (fM : frL M0 M) (h13 : C.1 13 = 0) (h14 : C.1 14 = -1) (m10 : M.1 10 = -1) {w d n ms ns nf : Int} (q1 : rW C M w d) (q2 : rD C M w n) (q3 : rS C M ns) (q4 : rF C M nf) (q5 : rM C M ms) (q6 : rH C M) {b : Nat} (hab : a < b) (hb : b ≤ t) (s : Int) (w0 : w = 0) : OC T t C0 M0 a (eC 0 2 (cA (sa C 19 0 (iI 1)) b)) (eM 0 a b s M) := by
  have hp0 := pp (T := T) hb
  have hp1 := pp (T := T) hp0.2.2
  have fC1 : frC C0 (sa C 19 0 (iI 1)) := frC_sa fC (by decide) (by decide) _ _
  have fC2 : frC C0 (sa (sa C 19 0 (iI 1)) 18 0 (iI (zN T t b))) := frC_sa fC1 (by decide) (by decide) _ _
  have fC3 : frC C0 (sa (sa (sa C 19 0 (iI 1)) 18 0 (iI (zN T t b))) 18 1 (iI (zN T t (p2 T t b)))) := frC_sa fC2 (by decide) (by decide) _ _
  have hM1 : txM T t (mK M b s) := hM
  have fM1 := frL_K fM b s
  by_cases o0 : nOK T t b 1 12
  · have z0 : 1 ≤ (zN T t b) ∧ (zN T t b) ≤ 12 := o0.2.2
    have cst : ∀ X, R73 (nI 0) 2 1 (cA (sa (sa C 19 0 (iI 1)) 18 0 (iI (zN T t b))) (p2 T t b)) X → R73 (nI 0) 2 0 (cA (sa C 19 0 (iI 1)) b) X := fun X h => r_ok (C := (sa C 19 0 (iI 1))) ht hC hb h13 (by decide) (by decide) (by decide) (by decide) (fun _ _ h => le00 h) (fun _ h => mo00 h) o0 (cl00 _) h
    have mst := m_num ht hM1 hb (lo := 1) (hi := 12) (by decide) (by decide) o0
    have hM2 : txM T t (mZ (mK M b s) (p1 T t b) (zN T t b)) := hM
    have fM2 : frL M0 (mZ (mK M b s) (p1 T t b) (zN T t b)) := frL_Z fM1 _ _
    have d0 : 0 ≤ 60 / (zN T t b) := Int.ediv_nonneg (by decide) (by omega)
    have bhi : -1000 ≤ (if 60 / (zN T t b) < 12 then 60 / (zN T t b) else 12) ∧ (if 60 / (zN T t b) < 12 then 60 / (zN T t b) else 12) ≤ 1000 := by split <;> omega
    by_cases o1 : nOK T t (p2 T t b) 1 12
    · have z1 : 1 ≤ (zN T t (p2 T t b)) ∧ (zN T t (p2 T t b)) ≤ 12 := o1.2.2
      have mst1 := m_num ht hM2 hp0.2.2 (lo := 1) (hi := 12) (by decide) (by decide) o1
      have pb0 : 0 ≤ (zN T t b) * (zN T t (p2 T t b)) := Int.mul_nonneg (by omega) (by omega)
      have pb1 : (zN T t b) * (zN T t (p2 T t b)) ≤ 12 * 12 := Int.mul_le_mul z0.2 z1.2 (by omega) (by omega)
      have ple : iI (zN T t b) * (mA (mZ (mZ (mK M b s) (p1 T t b) (zN T t b)) (p1 T t (p2 T t b)) (zN T t (p2 T t b))) (p2 T t (p2 T t b))).1 13 ≤ 60 ↔ (zN T t b) * (zN T t (p2 T t b)) ≤ 60 := by
        have e13 : (mA (mZ (mZ (mK M b s) (p1 T t b) (zN T t b)) (p1 T t (p2 T t b)) (zN T t (p2 T t b))) (p2 T t (p2 T t b))).1 13 = iI (zN T t (p2 T t b)) := rfl
        rw [e13, iI_mul, L60, iI_le (sm_of (by omega) (by omega)) (sm_of (by decide) (by decide))]
      by_cases pr : (zN T t b) * (zN T t (p2 T t b)) ≤ 60
      · have oc1 : nOK T t (p2 T t b) 1 (if 60 / (zN T t b) < 12 then 60 / (zN T t b) else 12) := by
          refine ⟨o1.1, o1.2.1, z1.1, ?_⟩
          split
          · refine Int.le_ediv_of_mul_le (by omega) ?_
            rw [Int.mul_comm]
            exact pr
          · exact z1.2
        refine oc_e (C2 := (sa (sa (sa C 19 0 (iI 1)) 18 0 (iI (zN T t b))) 18 1 (iI (zN T t (p2 T t b))))) (N := (sf (sf (mZ (mZ (mK M b s) (p1 T t b) (zN T t b)) (p1 T t (p2 T t b)) (zN T t (p2 T t b))) 15 (iI (zN T t b))) 16 (iI (zN T t (p2 T t b))))) ht (by decide) (fun X h => cst X (r_ok (C := (sa (sa C 19 0 (iI 1)) 18 0 (iI (zN T t b)))) ht hC hp0.2.2 h13 (by decide) (by decide) (by decide) bhi (fun _ _ h => le01 h) (fun _ h => mo01z rfl z0 h) oc1 (cl01 _) h)) (tk0 (fun Q hq => ?_)) hC hM fC3 (frL_sf (frL_sf (frL_Z fM2 _ _) (by decide) (by decide) _) (by decide) (by decide) _) h13 hp1.2.2 (by omega) (fun y hy => ⟨sf (sf (cA (sa (sa (sa C 19 0 (iI 1)) 18 0 (iI (zN T t b))) 18 1 (iI (zN T t (p2 T t b)))) y) 6 (iI (zN T t b))) 7 (iI (zN T t (p2 T t b))), fun Q hq => ?_, ?_⟩)
        · unfold e_X7_takeLake
          refine mst _ ?_
          intro v3 e3
          refine ⟨fun _ => mst1 _ ?_, fun c => absurd (by decide) c⟩
          have e3' : v3 = iI (zN T t b) := e3
          unfold e_X7_takeLake_28
          rw [e3', ple]
          refine ⟨fun _ => ⟨fun _ S9 e9 S10 e10 => ?_, fun c => absurd pr c⟩, fun c => absurd (by decide) c⟩
          have e13 : S9.1 13 = iI (zN T t (p2 T t b)) := by rw [e9]; rfl
          rw [e13, e9, mA_sf (by decide), mA_sf (by decide)] at e10
          rw [e10]
          exact hq
        · unfold e_X3_put
          exact ⟨fun c => absurd c (by decide), fun _ S4 e4 S5 e5 => by rw [e5, e4]; exact hq, fun c => absurd c (by decide), fun c => absurd c (by decide), fun c => absurd c (by decide), fun c => absurd c (by decide)⟩
        · have n0 : n ≤ 0 := by
            have h1 := q2.2.2.2.2.1
            omega
          refine ⟨⟨hC, hM⟩, ⟨frC_sf (frC_sf (frC_A fC3 _) (by decide) (by decide) _) (by decide) (by decide) _, frL_A (frL_sf (frL_sf (frL_Z fM2 _ _) (by decide) (by decide) _) (by decide) (by decide) _) _⟩, ⟨rfl, rfl⟩, h13, ⟨h14, m10⟩, (zN T t b), (zN T t (p2 T t b)), n, ms, ns, nf, ?_, ?_, rS_of q3 rfl rfl rfl rfl, rF_of q4 rfl rfl rfl rfl rfl, rM_of q5 rfl rfl rfl rfl rfl rfl rfl, rH_of q6 rfl rfl rfl rfl rfl⟩
          · refine ⟨rfl, rfl, rfl, rfl, ?_, ⟨by omega, z0.2⟩, ⟨by omega, z1.2⟩, pr, ⟨fun _ => by omega, fun _ => by omega⟩⟩
            rw [if_pos (by omega)]
            rfl
          · exact ⟨q2.1, q2.2.1, q2.2.2.1, q2.2.2.2.1, fun _ => by omega, fun f hf => absurd hf (by omega)⟩
      · have noc : ¬ nOK T t (p2 T t b) 1 (if 60 / (zN T t b) < 12 then 60 / (zN T t b) else 12) := by
          intro q
          have h4 := q.2.2.2
          have h5 : (zN T t (p2 T t b)) ≤ 60 / (zN T t b) := by
            split at h4
            · exact h4
            · omega
          have h6 := Int.mul_le_of_le_ediv (by omega) h5
          rw [Int.mul_comm] at h6
          exact pr h6
        have ecd : nCd T t (p2 T t b) = 2 := if_neg (by have := o1.1; omega)
        refine oc_f (cst _ (r_no (C := (sa (sa C 19 0 (iI 1)) 18 0 (iI (zN T t b)))) ht hC hp0.2.2 h13 (by decide) (by decide) (by decide) bhi (fun _ _ h => le01 h) (fun _ h => mo01z rfl z0 h) noc)) (fcx (C := (sa (sa C 19 0 (iI 1)) 18 0 (iI (zN T t b)))) hC fC2 hp1.2.2) ?_ ncd14
        rw [ecd]
        refine ⟨sf (mA (mZ (mZ (mK M b s) (p1 T t b) (zN T t b)) (p1 T t (p2 T t b)) (zN T t (p2 T t b))) (p2 T t (p2 T t b))) 10 (nI (p1 T t (p2 T t b))), frL_sf (frL_A (frL_Z fM2 _ _) _) (by decide) (by decide) _, rfl, tk0 (fun Q hq => ?_)⟩
        unfold e_X7_takeLake
        refine mst _ ?_
        intro v3 e3
        refine ⟨fun _ => mst1 _ ?_, fun c => absurd (by decide) c⟩
        have e3' : v3 = iI (zN T t b) := e3
        unfold e_X7_takeLake_28 e_X7_fails
        rw [e3', ple]
        exact ⟨fun _ => ⟨fun c => absurd c pr, fun _ S1 e1 => by rw [e1]; exact hq⟩, fun c => absurd (by decide) c⟩
    · have noc : ¬ nOK T t (p2 T t b) 1 (if 60 / (zN T t b) < 12 then 60 / (zN T t b) else 12) := by
        intro q
        refine o1 ⟨q.1, q.2.1, q.2.2.1, ?_⟩
        have h4 := q.2.2.2
        split at h4 <;> omega
      refine oc_f (cst _ (r_no (C := (sa (sa C 19 0 (iI 1)) 18 0 (iI (zN T t b)))) ht hC hp0.2.2 h13 (by decide) (by decide) (by decide) bhi (fun _ _ h => le01 h) (fun _ h => mo01z rfl z0 h) noc)) (fcx (C := (sa (sa C 19 0 (iI 1)) 18 0 (iI (zN T t b)))) hC fC2 hp1.2.2) ?_ ncd14
      obtain ⟨N, n1, n2, n3⟩ := fm_num ht hM2 fM2 hp0.2.2 (lo := 1) (hi := 12) (by decide) (by decide) o1
      refine ⟨N, n1, n2, tk0 (fun Q hq => ?_)⟩
      unfold e_X7_takeLake
      refine mst _ ?_
      intro v3 e3
      refine ⟨fun _ => n3 _ ?_, fun c => absurd (by decide) c⟩
      unfold e_X7_takeLake_28
      exact ⟨fun c => absurd c (nle ncd14), fun _ => hq⟩
  · refine oc_f (r_no (C := (sa C 19 0 (iI 1))) ht hC hb h13 (by decide) (by decide) (by decide) (by decide) (fun _ _ h => le00 h) (fun _ h => mo00 h) o0) (fcx (C := (sa C 19 0 (iI 1))) hC fC1 hp0.2.2) ?_ ncd14
    obtain ⟨N, n1, n2, n3⟩ := fm_num ht hM1 fM1 hb (lo := 1) (hi := 12) (by decide) (by decide) o0
    refine ⟨N, n1, n2, tk0 (fun Q hq => ?_)⟩
    unfold e_X7_takeLake
    refine n3 _ ?_
    intro v3 e3
    refine ⟨fun c => absurd c (nle ncd14), fun _ => ?_⟩
    unfold e_X7_takeLake_28
    exact ⟨fun c => absurd c (nle ncd14), fun _ => hq⟩
theorem k_storey (ht : okT T t) (hC : txC T t C) (hM : txM T t M) (fC : frC C0 C) (fM : frL M0 M) (h13 : C.1 13 = 0) (h14 : C.1 14 = -1) (m10 : M.1 10 = -1) {w d n ms ns nf : Int} (q1 : rW C M w d) (q2 : rD C M w n) (q3 : rS C M ns) (q4 : rF C M nf) (q5 : rM C M ms) (q6 : rH C M) {b : Nat} (hab : a < b) (hb : b ≤ t) (s : Int) : OC T t C0 M0 a (eC 5 2 (cA (sa C 19 5 (iI 1)) b)) (eM 5 a b s M) := by
  have hp0 := pp (T := T) hb
  have hp1 := pp (T := T) hp0.2.2
  have fC1 : frC C0 (sa C 19 5 (iI 1)) := frC_sa fC (by decide) (by decide) _ _
  have fC2 : frC C0 (sa (sa C 19 5 (iI 1)) 18 0 (iI (zN T t b))) := frC_sa fC1 (by decide) (by decide) _ _
  have fC3 : frC C0 (sa (sa (sa C 19 5 (iI 1)) 18 0 (iI (zN T t b))) 18 1 (iI (zN T t (p2 T t b)))) := frC_sa fC2 (by decide) (by decide) _ _
  have hM1 : txM T t (mK M b s) := hM
  have fM1 := frL_K fM b s
  by_cases o0 : nOK T t b 1 20
  · have z0 : 1 ≤ (zN T t b) ∧ (zN T t b) ≤ 20 := o0.2.2
    have cst : ∀ X, R73 (nI 5) 2 1 (cA (sa (sa C 19 5 (iI 1)) 18 0 (iI (zN T t b))) (p2 T t b)) X → R73 (nI 5) 2 0 (cA (sa C 19 5 (iI 1)) b) X := fun X h => r_ok (C := (sa C 19 5 (iI 1))) ht hC hb h13 (by decide) (by decide) (by decide) (by decide) (fun _ _ h => le50 h) (fun _ h => mo50 h) o0 (cl50 _) h
    have mst := m_num ht hM1 hb (lo := 1) (hi := 20) (by decide) (by decide) o0
    have hM2 : txM T t (sf (mZ (mK M b s) (p1 T t b) (zN T t b)) 21 (iI (zN T t b))) := hM
    have fM2 : frL M0 (sf (mZ (mK M b s) (p1 T t b) (zN T t b)) 21 (iI (zN T t b))) := frL_sf (frL_Z fM1 _ _) (by decide) (by decide) _
    by_cases o1 : nOK T t (p2 T t b) 0 999
    · have z1 : 0 ≤ (zN T t (p2 T t b)) ∧ (zN T t (p2 T t b)) ≤ 999 := o1.2.2
      have mst1 := m_num ht hM2 hp0.2.2 (lo := 0) (hi := 999) (by decide) (by decide) o1
      refine oc_e (C2 := (sa (sa (sa C 19 5 (iI 1)) 18 0 (iI (zN T t b))) 18 1 (iI (zN T t (p2 T t b))))) (N := (sf (mZ (sf (mZ (mK M b s) (p1 T t b) (zN T t b)) 21 (iI (zN T t b))) (p1 T t (p2 T t b)) (zN T t (p2 T t b))) 22 (iI (zN T t (p2 T t b))))) ht (by decide) (fun X h => cst X (r_ok (C := (sa (sa C 19 5 (iI 1)) 18 0 (iI (zN T t b)))) ht hC hp0.2.2 h13 (by decide) (by decide) (by decide) (by decide) (fun _ _ h => le51 h) (fun _ h => mo51 h) o1 (cl51 _) h)) (tk5 (fun Q hq => ?_)) hC hM fC3 (frL_sf (frL_Z fM2 _ _) (by decide) (by decide) _) h13 hp1.2.2 (by omega) (fun y hy => ⟨sf (sf (cA (sa (sa (sa C 19 5 (iI 1)) 18 0 (iI (zN T t b))) 18 1 (iI (zN T t (p2 T t b)))) y) 10 (iI (zN T t b))) 11 (iI (zN T t (p2 T t b))), fun Q hq => ?_, ?_⟩)
      · unfold e_X7_takeStorey
        refine mst _ ?_
        intro S3 e3
        have e3' : S3 = mA (sf (mZ (mK M b s) (p1 T t b) (zN T t b)) 21 (iI (zN T t b))) (p2 T t b) := e3.trans (mA_sf (by decide) _ _ _)
        rw [e3']
        refine ⟨fun _ => mst1 _ ?_, fun c => absurd (by decide) c⟩
        intro S7 e7
        have e7' : S7 = mA (sf (mZ (sf (mZ (mK M b s) (p1 T t b) (zN T t b)) 21 (iI (zN T t b))) (p1 T t (p2 T t b)) (zN T t (p2 T t b))) 22 (iI (zN T t (p2 T t b)))) (p2 T t (p2 T t b)) := e7.trans (mA_sf (by decide) _ _ _)
        rw [e7']
        exact hq
      · unfold e_X3_put
        exact ⟨fun _ S4 e4 S5 e5 => by rw [e5, e4]; exact hq, fun c => absurd c (by decide), fun c => absurd c (by decide), fun c => absurd c (by decide), fun c => absurd c (by decide), fun c => absurd c (by decide)⟩
      · exact ⟨⟨hC, hM⟩, ⟨frC_sf (frC_sf (frC_A fC3 _) (by decide) (by decide) _) (by decide) (by decide) _, frL_A (frL_sf (frL_Z fM2 _ _) (by decide) (by decide) _) _⟩, ⟨rfl, rfl⟩, h13, ⟨h14, m10⟩, w, d, n, ms, ns, nf, rW_of q1 rfl rfl rfl rfl rfl, rD_of q2 rfl rfl rfl rfl rfl rfl rfl rfl rfl, rS_of q3 rfl rfl rfl rfl, rF_of q4 rfl rfl rfl rfl rfl, rM_of q5 rfl rfl rfl rfl rfl rfl rfl, Or.inr ⟨rfl, (zN T t b), (zN T t (p2 T t b)), z0.1, z0.2, z1.1, z1.2, rfl, rfl, rfl, rfl⟩⟩
    · refine oc_f (cst _ (r_no (C := (sa (sa C 19 5 (iI 1)) 18 0 (iI (zN T t b)))) ht hC hp0.2.2 h13 (by decide) (by decide) (by decide) (by decide) (fun _ _ h => le51 h) (fun _ h => mo51 h) o1)) (fcx (C := (sa (sa C 19 5 (iI 1)) 18 0 (iI (zN T t b)))) hC fC2 hp1.2.2) ?_ ncd14
      obtain ⟨N, n1, n2, n3⟩ := fm_num ht hM2 fM2 hp0.2.2 (lo := 0) (hi := 999) (by decide) (by decide) o1
      refine ⟨sf N 22 (N.1 13), frL_sf n1 (by decide) (by decide) _, n2, tk5 (fun Q hq => ?_)⟩
      unfold e_X7_takeStorey
      refine mst _ ?_
      intro S3 e3
      have e3' : S3 = mA (sf (mZ (mK M b s) (p1 T t b) (zN T t b)) 21 (iI (zN T t b))) (p2 T t b) := e3.trans (mA_sf (by decide) _ _ _)
      rw [e3']
      refine ⟨fun _ => n3 _ ?_, fun c => absurd (by decide) c⟩
      intro S7 e7
      rw [e7]
      exact hq
  · refine oc_f (r_no (C := (sa C 19 5 (iI 1))) ht hC hb h13 (by decide) (by decide) (by decide) (by decide) (fun _ _ h => le50 h) (fun _ h => mo50 h) o0) (fcx (C := (sa C 19 5 (iI 1))) hC fC1 hp0.2.2) ?_ ncd14
    obtain ⟨N, n1, n2, n3⟩ := fm_num ht hM1 fM1 hb (lo := 1) (hi := 20) (by decide) (by decide) o0
    refine ⟨sf (sf N 21 (N.1 13)) 22 (N.1 13), frL_sf (frL_sf n1 (by decide) (by decide) _) (by decide) (by decide) _, n2, tk5 (fun Q hq => ?_)⟩
    unfold e_X7_takeStorey
    refine n3 _ ?_
    intro S3 e3
    refine ⟨fun c => absurd c (nle ncd14), fun _ S8 e8 => ?_⟩
    rw [e8, e3]
    exact hq
end TT
