/-! ===== lake: numbers into rows; the clauses door and mist ===== -/
section TT
variable {C M C0 M0 : vS} {T : Nat → Int} {t a i : Nat} {lo hi : Int}
theorem no_readMist (hi6 : i < 30) (h : FM M0 (e_X7_takeNumber (iI lo) (iI hi) (mA M a)) (nCd T t a) (p1 T t a)) : FM M0 (e_X7_into_mod_readMist (nI i) (iI lo) (iI hi) (mA M a)) (nCd T t a) (p1 T t a) := by
  obtain ⟨N, n1, n2, n3⟩ := h
  refine ⟨sa N 15 i (N.1 13), frL_sa n1 (by decide) (by decide) _ _, n2, fun Q hq => ?_⟩
  unfold e_X7_into_mod_readMist
  refine n3 _ ?_
  rw [cl_nI (by omega)]
  refine ⟨in_nI hi6 (by omega), fun S4 e4 => ?_⟩
  rw [e4]
  exact hq
theorem ok_readMist (hi6 : i < 30) (h : runV (e_X7_takeNumber (iI lo) (iI hi) (mA M a)) 0 (mA (mZ M (p1 T t a) (zN T t a)) (p2 T t a))) : runV (e_X7_into_mod_readMist (nI i) (iI lo) (iI hi) (mA M a)) 0 (mA (sa (mZ M (p1 T t a) (zN T t a)) 15 i (iI (zN T t a))) (p2 T t a)) := by
  intro Q hq
  unfold e_X7_into_mod_readMist
  refine h _ ?_
  rw [cl_nI (by omega)]
  refine ⟨in_nI hi6 (by omega), fun S4 e4 => ?_⟩
  rw [e4]
  exact hq
theorem no_readFish (hi6 : i < 60) (h : FM M0 (e_X7_takeNumber (iI lo) (iI hi) (mA M a)) (nCd T t a) (p1 T t a)) : FM M0 (e_X7_into_mod_readFish (nI i) (iI lo) (iI hi) (mA M a)) (nCd T t a) (p1 T t a) := by
  obtain ⟨N, n1, n2, n3⟩ := h
  refine ⟨sa N 14 i (N.1 13), frL_sa n1 (by decide) (by decide) _ _, n2, fun Q hq => ?_⟩
  unfold e_X7_into_mod_readFish
  refine n3 _ ?_
  rw [cl_nI (by omega)]
  refine ⟨in_nI hi6 (by omega), fun S4 e4 => ?_⟩
  rw [e4]
  exact hq
theorem ok_readFish (hi6 : i < 60) (h : runV (e_X7_takeNumber (iI lo) (iI hi) (mA M a)) 0 (mA (mZ M (p1 T t a) (zN T t a)) (p2 T t a))) : runV (e_X7_into_mod_readFish (nI i) (iI lo) (iI hi) (mA M a)) 0 (mA (sa (mZ M (p1 T t a) (zN T t a)) 14 i (iI (zN T t a))) (p2 T t a)) := by
  intro Q hq
  unfold e_X7_into_mod_readFish
  refine h _ ?_
  rw [cl_nI (by omega)]
  refine ⟨in_nI hi6 (by omega), fun S4 e4 => ?_⟩
  rw [e4]
  exact hq
theorem no_readStand (hi6 : i < 60) (h : FM M0 (e_X7_takeNumber (iI lo) (iI hi) (mA M a)) (nCd T t a) (p1 T t a)) : FM M0 (e_X7_into_mod_readStand (nI i) (iI lo) (iI hi) (mA M a)) (nCd T t a) (p1 T t a) := by
  obtain ⟨N, n1, n2, n3⟩ := h
  refine ⟨sa N 13 i (N.1 13), frL_sa n1 (by decide) (by decide) _ _, n2, fun Q hq => ?_⟩
  unfold e_X7_into_mod_readStand
  refine n3 _ ?_
  rw [cl_nI (by omega)]
  refine ⟨in_nI hi6 (by omega), fun S4 e4 => ?_⟩
  rw [e4]
  exact hq
theorem ok_readStand (hi6 : i < 60) (h : runV (e_X7_takeNumber (iI lo) (iI hi) (mA M a)) 0 (mA (mZ M (p1 T t a) (zN T t a)) (p2 T t a))) : runV (e_X7_into_mod_readStand (nI i) (iI lo) (iI hi) (mA M a)) 0 (mA (sa (mZ M (p1 T t a) (zN T t a)) 13 i (iI (zN T t a))) (p2 T t a)) := by
  intro Q hq
  unfold e_X7_into_mod_readStand
  refine h _ ?_
  rw [cl_nI (by omega)]
  refine ⟨in_nI hi6 (by omega), fun S4 e4 => ?_⟩
  rw [e4]
  exact hq
theorem no_readShore (hi6 : i < 6) (h : FM M0 (e_X7_takeNumber (iI lo) (iI hi) (mA M a)) (nCd T t a) (p1 T t a)) : FM M0 (e_X7_into_mod_readShore (nI i) (iI lo) (iI hi) (mA M a)) (nCd T t a) (p1 T t a) := by
  obtain ⟨N, n1, n2, n3⟩ := h
  refine ⟨sa N 10 i (N.1 13), frL_sa n1 (by decide) (by decide) _ _, n2, fun Q hq => ?_⟩
  unfold e_X7_into_mod_readShore
  refine n3 _ ?_
  rw [cl_nI (by omega)]
  refine ⟨in_nI hi6 (by omega), fun S4 e4 => ?_⟩
  rw [e4]
  exact hq
theorem ok_readShore (hi6 : i < 6) (h : runV (e_X7_takeNumber (iI lo) (iI hi) (mA M a)) 0 (mA (mZ M (p1 T t a) (zN T t a)) (p2 T t a))) : runV (e_X7_into_mod_readShore (nI i) (iI lo) (iI hi) (mA M a)) 0 (mA (sa (mZ M (p1 T t a) (zN T t a)) 10 i (iI (zN T t a))) (p2 T t a)) := by
  intro Q hq
  unfold e_X7_into_mod_readShore
  refine h _ ?_
  rw [cl_nI (by omega)]
  refine ⟨in_nI hi6 (by omega), fun S4 e4 => ?_⟩
  rw [e4]
  exact hq
theorem no_readGround (hi6 : i < 6) (h : FM M0 (e_X7_takeNumber (iI lo) (iI hi) (mA M a)) (nCd T t a) (p1 T t a)) : FM M0 (e_X7_into_mod_readGround (nI i) (iI lo) (iI hi) (mA M a)) (nCd T t a) (p1 T t a) := by
  obtain ⟨N, n1, n2, n3⟩ := h
  refine ⟨sa N 11 i (N.1 13), frL_sa n1 (by decide) (by decide) _ _, n2, fun Q hq => ?_⟩
  unfold e_X7_into_mod_readGround
  refine n3 _ ?_
  rw [cl_nI (by omega)]
  refine ⟨in_nI hi6 (by omega), fun S4 e4 => ?_⟩
  rw [e4]
  exact hq
theorem ok_readGround (hi6 : i < 6) (h : runV (e_X7_takeNumber (iI lo) (iI hi) (mA M a)) 0 (mA (mZ M (p1 T t a) (zN T t a)) (p2 T t a))) : runV (e_X7_into_mod_readGround (nI i) (iI lo) (iI hi) (mA M a)) 0 (mA (sa (mZ M (p1 T t a) (zN T t a)) 11 i (iI (zN T t a))) (p2 T t a)) := by
  intro Q hq
  unfold e_X7_into_mod_readGround
  refine h _ ?_
  rw [cl_nI (by omega)]
  refine ⟨in_nI hi6 (by omega), fun S4 e4 => ?_⟩
  rw [e4]
  exact hq
theorem no_readStoreys (hi6 : i < 6) (h : FM M0 (e_X7_takeNumber (iI lo) (iI hi) (mA M a)) (nCd T t a) (p1 T t a)) : FM M0 (e_X7_into_mod_readStoreys (nI i) (iI lo) (iI hi) (mA M a)) (nCd T t a) (p1 T t a) := by
  obtain ⟨N, n1, n2, n3⟩ := h
  refine ⟨sa N 12 i (N.1 13), frL_sa n1 (by decide) (by decide) _ _, n2, fun Q hq => ?_⟩
  unfold e_X7_into_mod_readStoreys
  refine n3 _ ?_
  rw [cl_nI (by omega)]
  refine ⟨in_nI hi6 (by omega), fun S4 e4 => ?_⟩
  rw [e4]
  exact hq
theorem ok_readStoreys (hi6 : i < 6) (h : runV (e_X7_takeNumber (iI lo) (iI hi) (mA M a)) 0 (mA (mZ M (p1 T t a) (zN T t a)) (p2 T t a))) : runV (e_X7_into_mod_readStoreys (nI i) (iI lo) (iI hi) (mA M a)) 0 (mA (sa (mZ M (p1 T t a) (zN T t a)) 12 i (iI (zN T t a))) (p2 T t a)) := by
  intro Q hq
  unfold e_X7_into_mod_readStoreys
  refine h _ ?_
  rw [cl_nI (by omega)]
  refine ⟨in_nI hi6 (by omega), fun S4 e4 => ?_⟩
  rw [e4]
  exact hq
theorem door_pre {w : Int} (h17 : M.1 17 = nI i) (h15 : M.1 15 = iI w) {Q : Int32 → vS → Prop} (h : e_X7_into_mod_readShore (nI i) (iI 0) (iI (w - 1)) (mA (sf M 17 (nI (i + 1))) a) (fun r4 S3 => ((r4 ≤ 0 → e_X7_into_mod_readGround (nI i) (iI 0) (iI 99) S3 (fun r7 S6 => e_X7_takeDoor_52 Q (nI i) r7 S6)) ∧ (¬ r4 ≤ 0 → e_X7_takeDoor_52 Q (nI i) r4 S3)))) : e_X7_takeDoor (mA M a) Q := by
  unfold e_X7_takeDoor
  intro v1 e1 S2 e2
  have e17 : (mA M a).1 17 = nI i := h17
  rw [e17] at e1
  rw [e17, nI_1, mA_sf (by decide)] at e2
  have e15 : (mA (sf M 17 (nI (i + 1))) a).1 15 - 1 = iI (w - 1) := by
    have : (mA (sf M 17 (nI (i + 1))) a).1 15 = iI w := h15
    rw [this, L1, iI_sub]
  rw [e1, e2, e15]
  exact h
theorem mist_pre (hi6 : i < 10) (h20 : M.1 20 = nI i) {Q : Int32 → vS → Prop} (h : e_X7_into_mod_readMist (nI (3 * i)) (iI 0) (iI 999) (mA (sf M 20 (nI (i + 1))) a) (fun r4 S3 => ((r4 ≤ 0 → e_X7_into_mod_readMist (nI (3 * i + 1)) (iI 0) (iI 999) S3 (fun r7 S6 => e_X7_takeMist_54 Q (nI (3 * i)) r7 S6)) ∧ (¬ r4 ≤ 0 → e_X7_takeMist_54 Q (nI (3 * i)) r4 S3)))) : e_X7_takeMist (mA M a) Q := by
  unfold e_X7_takeMist
  intro v1 e1 S2 e2
  have e20 : (mA M a).1 20 = nI i := h20
  have e3 : (3 : Int32) * nI i = nI (3 * i) := by
    rw [L3, iI_nat, iI_nat, iI_mul]
    congr 1
  rw [e20, e3] at e1
  rw [e20, nI_1, mA_sf (by decide)] at e2
  rw [e1, e2, nI_1]
  exact h
theorem mist_2 : nI (3 * i) + 2 = nI (3 * i + 2) := by
  rw [L2, iI_nat, iI_nat, iI_add]
  congr 1
end TT
section TT
variable {C M C0 M0 : vS} {T : Nat → Int} {t a : Nat}

theorem k_door (ht : okT T t) (hC : txC T t C) (hM : txM T t M) (fC : frC C0 C) (fM : frL M0 M) (h13 : C.1 13 = 0) (h14 : C.1 14 = -1) (m10 : M.1 10 = -1) {w d n ms ns nf : Int} (q1 : rW C M w d) (q2 : rD C M w n) (q3 : rS C M ns) (q4 : rF C M nf) (q5 : rM C M ms) (q6 : rH C M) {b : Nat} (hab : a < b) (hb : b ≤ t) (s : Int) (w1 : 0 < w) (n6 : n < 6) : OC T t C0 M0 a (eC 1 3 (cA (sa C 19 1 (iI (n + 1))) b)) (eM 1 a b s M) := by
  obtain ⟨i, hi⟩ : ∃ i : Nat, n = i := ⟨n.toNat, by have := q2.2.2.2.1; omega⟩
  have hi6 : i < 6 := by omega
  have hp0 := pp (T := T) hb
  have hp1 := pp (T := T) hp0.2.2
  have hp2 := pp (T := T) hp1.2.2
  have wb := q1.2.2.2.2.2.1
  have fC1 : frC C0 (sa C 19 1 (iI (n + 1))) := frC_sa fC (by decide) (by decide) _ _
  have fC2 : frC C0 (sa (sa C 19 1 (iI (n + 1))) 18 0 (iI (zN T t b))) := frC_sa fC1 (by decide) (by decide) _ _
  have fC3 : frC C0 (sa (sa (sa C 19 1 (iI (n + 1))) 18 0 (iI (zN T t b))) 18 1 (iI (zN T t (p2 T t b)))) := frC_sa fC2 (by decide) (by decide) _ _
  have fC4 : frC C0 (sa (sa (sa (sa C 19 1 (iI (n + 1))) 18 0 (iI (zN T t b))) 18 1 (iI (zN T t (p2 T t b)))) 18 2 (iI (zN T t (p2 T t (p2 T t b))))) := frC_sa fC3 (by decide) (by decide) _ _
  have h17 : (mK M b s).1 17 = nI i := by rw [iI_nat, ← hi]; exact q2.2.1
  have h15 : (mK M b s).1 15 = iI w := q1.2.1
  have h8 : C.1 8 = nI i := by rw [iI_nat, ← hi]; exact q2.1
  have fM1 : frL M0 (sf (mK M b s) 17 (nI (i + 1))) := frL_sf (frL_K fM b s) (by decide) (by decide) _
  have hM1 : txM T t (sf (mK M b s) 17 (nI (i + 1))) := hM
  have bhi : -1000 ≤ w - 1 ∧ w - 1 ≤ 1000 := by omega
  by_cases o0 : nOK T t b 0 (w - 1)
  · have z0 : 0 ≤ (zN T t b) ∧ (zN T t b) ≤ w - 1 := o0.2.2
    have cst : ∀ X, R73 (nI 1) 3 1 (cA (sa (sa C 19 1 (iI (n + 1))) 18 0 (iI (zN T t b))) (p2 T t b)) X → R73 (nI 1) 3 0 (cA (sa C 19 1 (iI (n + 1))) b) X := fun X h => r_ok (C := (sa C 19 1 (iI (n + 1)))) ht hC hb h13 (by decide) (by decide) (by decide) bhi (fun _ _ h => le10 h) (fun _ h => mo10 q1.1 h) o0 (cl10 _) h
    have mst := ok_readShore hi6 (m_num ht hM1 hb (lo := 0) (hi := w - 1) (by decide) bhi o0)
    have hM2 : txM T t (sa (mZ (sf (mK M b s) 17 (nI (i + 1))) (p1 T t b) (zN T t b)) 10 i (iI (zN T t b))) := hM
    have fM2 : frL M0 (sa (mZ (sf (mK M b s) 17 (nI (i + 1))) (p1 T t b) (zN T t b)) 10 i (iI (zN T t b))) := frL_sa (frL_Z fM1 _ _) (by decide) (by decide) _ _
    by_cases o1 : nOK T t (p2 T t b) 0 99
    · have z1 : 0 ≤ (zN T t (p2 T t b)) ∧ (zN T t (p2 T t b)) ≤ 99 := o1.2.2
      have cst1 : ∀ X, R73 (nI 1) 3 2 (cA (sa (sa (sa C 19 1 (iI (n + 1))) 18 0 (iI (zN T t b))) 18 1 (iI (zN T t (p2 T t b)))) (p2 T t (p2 T t b))) X → R73 (nI 1) 3 0 (cA (sa C 19 1 (iI (n + 1))) b) X := fun X h => cst X (r_ok (C := (sa (sa C 19 1 (iI (n + 1))) 18 0 (iI (zN T t b)))) ht hC hp0.2.2 h13 (by decide) (by decide) (by decide) (by decide) (fun _ _ h => le11 h) (fun _ h => mo11 h) o1 (cl11 _) h)
      have mst1 := ok_readGround hi6 (m_num ht hM2 hp0.2.2 (lo := 0) (hi := 99) (by decide) (by decide) o1)
      have hM3 : txM T t (sa (mZ (sa (mZ (sf (mK M b s) 17 (nI (i + 1))) (p1 T t b) (zN T t b)) 10 i (iI (zN T t b))) (p1 T t (p2 T t b)) (zN T t (p2 T t b))) 11 i (iI (zN T t (p2 T t b)))) := hM
      have fM3 : frL M0 (sa (mZ (sa (mZ (sf (mK M b s) 17 (nI (i + 1))) (p1 T t b) (zN T t b)) 10 i (iI (zN T t b))) (p1 T t (p2 T t b)) (zN T t (p2 T t b))) 11 i (iI (zN T t (p2 T t b)))) := frL_sa (frL_Z fM2 _ _) (by decide) (by decide) _ _
      by_cases o2 : nOK T t (p2 T t (p2 T t b)) 0 9
      · have z2 : 0 ≤ (zN T t (p2 T t (p2 T t b))) ∧ (zN T t (p2 T t (p2 T t b))) ≤ 9 := o2.2.2
        have mst2 := ok_readStoreys hi6 (m_num ht hM3 hp1.2.2 (lo := 0) (hi := 9) (by decide) (by decide) o2)
        refine oc_e (C2 := (sa (sa (sa (sa C 19 1 (iI (n + 1))) 18 0 (iI (zN T t b))) 18 1 (iI (zN T t (p2 T t b)))) 18 2 (iI (zN T t (p2 T t (p2 T t b)))))) (N := (sa (mZ (sa (mZ (sa (mZ (sf (mK M b s) 17 (nI (i + 1))) (p1 T t b) (zN T t b)) 10 i (iI (zN T t b))) (p1 T t (p2 T t b)) (zN T t (p2 T t b))) 11 i (iI (zN T t (p2 T t b)))) (p1 T t (p2 T t (p2 T t b))) (zN T t (p2 T t (p2 T t b)))) 12 i (iI (zN T t (p2 T t (p2 T t b)))))) ht (by decide) (fun X h => cst1 X (r_ok (C := (sa (sa (sa C 19 1 (iI (n + 1))) 18 0 (iI (zN T t b))) 18 1 (iI (zN T t (p2 T t b))))) ht hC hp1.2.2 h13 (by decide) (by decide) (by decide) (by decide) (fun _ _ h => le12 h) (fun _ h => mo12 h) o2 (cl12 _) h)) (tk1 (fun Q hq => door_pre h17 h15 (mst _ ⟨fun _ => mst1 _ ?_, fun c => absurd (by decide) c⟩))) hC hM fC4 (frL_sa (frL_Z fM3 _ _) (by decide) (by decide) _ _) h13 hp2.2.2 (by omega) (fun y hy => ⟨sf (sa (sa (sa (cA (sa (sa (sa (sa C 19 1 (iI (n + 1))) 18 0 (iI (zN T t b))) 18 1 (iI (zN T t (p2 T t b)))) 18 2 (iI (zN T t (p2 T t (p2 T t b))))) y) 9 i (iI (zN T t b))) 10 i (iI (zN T t (p2 T t b)))) 11 i (iI (zN T t (p2 T t (p2 T t b))))) 8 (nI (i + 1)), fun Q hq => ?_, ?_⟩)
        · unfold e_X7_takeDoor_52
          exact ⟨fun _ => mst2 _ hq, fun c => absurd (by decide) c⟩
        · unfold e_X3_put
          refine ⟨fun c => absurd c (by decide), fun c => absurd c (by decide), fun _ => ?_, fun c => absurd c (by decide), fun c => absurd c (by decide), fun c => absurd c (by decide)⟩
          unfold e_X2_addDoor_draft
          have e8 : (cA (sa (sa (sa (sa C 19 1 (iI (n + 1))) 18 0 (iI (zN T t b))) 18 1 (iI (zN T t (p2 T t b)))) 18 2 (iI (zN T t (p2 T t (p2 T t b))))) y).1 8 = nI i := h8
          rw [e8, show (6 : Int32) = nI 6 from rfl, nI_leI (by omega) (by omega), cl_nI (by omega)]
          refine ⟨fun c => absurd c (by omega), fun _ => ⟨in_nI hi6 (by omega), fun S3 e3 => ?_⟩⟩
          have f3 : S3.1 8 = nI i := by rw [e3]; exact h8
          rw [f3, cl_nI (by omega)]
          refine ⟨in_nI hi6 (by omega), fun S5 e5 => ?_⟩
          have f5 : S5.1 8 = nI i := by rw [e5]; exact f3
          rw [f5, cl_nI (by omega)]
          refine ⟨in_nI hi6 (by omega), fun S7 e7 S8 e8 => ?_⟩
          have f7 : S7.1 8 = nI i := by rw [e7]; exact f5
          rw [f7, nI_1, e7, e5, e3] at e8
          rw [e8]
          exact hq
        · refine ⟨⟨hC, hM⟩, ⟨frC_sf (frC_sa (frC_sa (frC_sa (frC_A fC4 _) (by decide) (by decide) _ _) (by decide) (by decide) _ _) (by decide) (by decide) _ _) (by decide) (by decide) _, frL_A (frL_sa (frL_Z fM3 _ _) (by decide) (by decide) _ _) _⟩, ⟨rfl, rfl⟩, h13, ⟨h14, m10⟩, w, d, n + 1, ms, ns, nf, rW_of q1 rfl rfl rfl rfl rfl, ?_, rS_of q3 rfl rfl rfl rfl, rF_of q4 rfl rfl rfl rfl rfl, rM_of q5 rfl rfl rfl rfl rfl rfl rfl, rH_of q6 rfl rfl rfl rfl rfl⟩
          have en : nI (i + 1) = iI (n + 1) := by
            rw [iI_nat, hi]
            congr 1
          refine ⟨en, en, rfl, by omega, fun _ => w1, fun f hf => ?_⟩
          have r9 : (sf (sa (sa (sa (cA (sa (sa (sa (sa C 19 1 (iI (n + 1))) 18 0 (iI (zN T t b))) 18 1 (iI (zN T t (p2 T t b)))) 18 2 (iI (zN T t (p2 T t (p2 T t b))))) y) 9 i (iI (zN T t b))) 10 i (iI (zN T t (p2 T t b)))) 11 i (iI (zN T t (p2 T t (p2 T t b))))) 8 (nI (i + 1))).2.1 9 = upd (C.2.1 9) i (iI (zN T t b)) := rfl
          have r10 : (sf (sa (sa (sa (cA (sa (sa (sa (sa C 19 1 (iI (n + 1))) 18 0 (iI (zN T t b))) 18 1 (iI (zN T t (p2 T t b)))) 18 2 (iI (zN T t (p2 T t (p2 T t b))))) y) 9 i (iI (zN T t b))) 10 i (iI (zN T t (p2 T t b)))) 11 i (iI (zN T t (p2 T t (p2 T t b))))) 8 (nI (i + 1))).2.1 10 = upd (C.2.1 10) i (iI (zN T t (p2 T t b))) := rfl
          have r11 : (sf (sa (sa (sa (cA (sa (sa (sa (sa C 19 1 (iI (n + 1))) 18 0 (iI (zN T t b))) 18 1 (iI (zN T t (p2 T t b)))) 18 2 (iI (zN T t (p2 T t (p2 T t b))))) y) 9 i (iI (zN T t b))) 10 i (iI (zN T t (p2 T t b)))) 11 i (iI (zN T t (p2 T t (p2 T t b))))) 8 (nI (i + 1))).2.1 11 = upd (C.2.1 11) i (iI (zN T t (p2 T t (p2 T t b)))) := rfl
          have s10 : (mA (sa (mZ (sa (mZ (sa (mZ (sf (mK M b s) 17 (nI (i + 1))) (p1 T t b) (zN T t b)) 10 i (iI (zN T t b))) (p1 T t (p2 T t b)) (zN T t (p2 T t b))) 11 i (iI (zN T t (p2 T t b)))) (p1 T t (p2 T t (p2 T t b))) (zN T t (p2 T t (p2 T t b)))) 12 i (iI (zN T t (p2 T t (p2 T t b))))) y).2.1 10 = upd (M.2.1 10) i (iI (zN T t b)) := rfl
          have s11 : (mA (sa (mZ (sa (mZ (sa (mZ (sf (mK M b s) 17 (nI (i + 1))) (p1 T t b) (zN T t b)) 10 i (iI (zN T t b))) (p1 T t (p2 T t b)) (zN T t (p2 T t b))) 11 i (iI (zN T t (p2 T t b)))) (p1 T t (p2 T t (p2 T t b))) (zN T t (p2 T t (p2 T t b)))) 12 i (iI (zN T t (p2 T t (p2 T t b))))) y).2.1 11 = upd (M.2.1 11) i (iI (zN T t (p2 T t b))) := rfl
          have s12 : (mA (sa (mZ (sa (mZ (sa (mZ (sf (mK M b s) 17 (nI (i + 1))) (p1 T t b) (zN T t b)) 10 i (iI (zN T t b))) (p1 T t (p2 T t b)) (zN T t (p2 T t b))) 11 i (iI (zN T t (p2 T t b)))) (p1 T t (p2 T t (p2 T t b))) (zN T t (p2 T t (p2 T t b)))) 12 i (iI (zN T t (p2 T t (p2 T t b))))) y).2.1 12 = upd (M.2.1 12) i (iI (zN T t (p2 T t (p2 T t b)))) := rfl
          rw [r9, r10, r11, s10, s11, s12]
          by_cases e : f = i
          · rw [e]
            exact ⟨(zN T t b), (zN T t (p2 T t b)), (zN T t (p2 T t (p2 T t b))), ⟨pk_us, pk_us, z0.1, by omega⟩, ⟨pk_us, pk_us, z1.1, z1.2⟩, ⟨pk_us, pk_us, z2.1, z2.2⟩⟩
          · rw [pk_un e, pk_un e, pk_un e, pk_un e, pk_un e, pk_un e]
            exact q2.2.2.2.2.2 f (by omega)
      · refine oc_f (cst1 _ (r_no (C := (sa (sa (sa C 19 1 (iI (n + 1))) 18 0 (iI (zN T t b))) 18 1 (iI (zN T t (p2 T t b))))) ht hC hp1.2.2 h13 (by decide) (by decide) (by decide) (by decide) (fun _ _ h => le12 h) (fun _ h => mo12 h) o2)) (fcx (C := (sa (sa (sa C 19 1 (iI (n + 1))) 18 0 (iI (zN T t b))) 18 1 (iI (zN T t (p2 T t b))))) hC fC3 hp2.2.2) ?_ ncd14
        obtain ⟨N, n1, n2, n3⟩ := no_readStoreys hi6 (fm_num ht hM3 fM3 hp1.2.2 (lo := 0) (hi := 9) (by decide) (by decide) o2)
        refine ⟨N, n1, n2, tk1 (fun Q hq => door_pre h17 h15 (mst _ ⟨fun _ => mst1 _ ?_, fun c => absurd (by decide) c⟩))⟩
        unfold e_X7_takeDoor_52
        exact ⟨fun _ => n3 _ hq, fun c => absurd (by decide) c⟩
    · refine oc_f (cst _ (r_no (C := (sa (sa C 19 1 (iI (n + 1))) 18 0 (iI (zN T t b)))) ht hC hp0.2.2 h13 (by decide) (by decide) (by decide) (by decide) (fun _ _ h => le11 h) (fun _ h => mo11 h) o1)) (fcx (C := (sa (sa C 19 1 (iI (n + 1))) 18 0 (iI (zN T t b)))) hC fC2 hp1.2.2) ?_ ncd14
      obtain ⟨N, n1, n2, n3⟩ := no_readGround hi6 (fm_num ht hM2 fM2 hp0.2.2 (lo := 0) (hi := 99) (by decide) (by decide) o1)
      refine ⟨N, n1, n2, tk1 (fun Q hq => door_pre h17 h15 (mst _ ⟨fun _ => n3 _ ?_, fun c => absurd (by decide) c⟩))⟩
      unfold e_X7_takeDoor_52
      exact ⟨fun c => absurd c (nle ncd14), fun _ => hq⟩
  · refine oc_f (r_no (C := (sa C 19 1 (iI (n + 1)))) ht hC hb h13 (by decide) (by decide) (by decide) bhi (fun _ _ h => le10 h) (fun _ h => mo10 q1.1 h) o0) (fcx (C := (sa C 19 1 (iI (n + 1)))) hC fC1 hp0.2.2) ?_ ncd14
    obtain ⟨N, n1, n2, n3⟩ := no_readShore hi6 (fm_num ht hM1 fM1 hb (lo := 0) (hi := w - 1) (by decide) bhi o0)
    refine ⟨N, n1, n2, tk1 (fun Q hq => door_pre h17 h15 (n3 _ ⟨fun c => absurd c (nle ncd14), fun _ => ?_⟩))⟩
    unfold e_X7_takeDoor_52
    exact ⟨fun c => absurd c (nle ncd14), fun _ => hq⟩
theorem k_mist (ht : okT T t) (hC : txC T t C) (hM : txM T t M) (fC : frC C0 C) (fM : frL M0 M) (h13 : C.1 13 = 0) (h14 : C.1 14 = -1) (m10 : M.1 10 = -1) {w d n ms ns nf : Int} (q1 : rW C M w d) (q2 : rD C M w n) (q3 : rS C M ns) (q4 : rF C M nf) (q5 : rM C M ms) (q6 : rH C M) {b : Nat} (hab : a < b) (hb : b ≤ t) (s : Int) (m10' : ms < 10) : OC T t C0 M0 a (eC 4 3 (cA (sa C 19 4 (iI (ms + 1))) b)) (eM 4 a b s M) := by
  obtain ⟨i, hi⟩ : ∃ i : Nat, ms = i := ⟨ms.toNat, by have := q5.2.2.2.1; omega⟩
  have hi6 : i < 10 := by omega
  have hp0 := pp (T := T) hb
  have hp1 := pp (T := T) hp0.2.2
  have hp2 := pp (T := T) hp1.2.2
  have fC1 : frC C0 (sa C 19 4 (iI (ms + 1))) := frC_sa fC (by decide) (by decide) _ _
  have fC2 : frC C0 (sa (sa C 19 4 (iI (ms + 1))) 18 0 (iI (zN T t b))) := frC_sa fC1 (by decide) (by decide) _ _
  have fC3 : frC C0 (sa (sa (sa C 19 4 (iI (ms + 1))) 18 0 (iI (zN T t b))) 18 1 (iI (zN T t (p2 T t b)))) := frC_sa fC2 (by decide) (by decide) _ _
  have fC4 : frC C0 (sa (sa (sa (sa C 19 4 (iI (ms + 1))) 18 0 (iI (zN T t b))) 18 1 (iI (zN T t (p2 T t b)))) 18 2 (iI (zN T t (p2 T t (p2 T t b))))) := frC_sa fC3 (by decide) (by decide) _ _
  have h20 : (mK M b s).1 20 = nI i := by rw [iI_nat, ← hi]; exact q5.2.1
  have h9 : C.1 9 = nI i := by rw [iI_nat, ← hi]; exact q5.1
  have fM1 : frL M0 (sf (mK M b s) 20 (nI (i + 1))) := frL_sf (frL_K fM b s) (by decide) (by decide) _
  have hM1 : txM T t (sf (mK M b s) 20 (nI (i + 1))) := hM
  by_cases o0 : nOK T t b 0 999
  · have z0 : 0 ≤ (zN T t b) ∧ (zN T t b) ≤ 999 := o0.2.2
    have cst : ∀ X, R73 (nI 4) 3 1 (cA (sa (sa C 19 4 (iI (ms + 1))) 18 0 (iI (zN T t b))) (p2 T t b)) X → R73 (nI 4) 3 0 (cA (sa C 19 4 (iI (ms + 1))) b) X := fun X h => r_ok (C := (sa C 19 4 (iI (ms + 1)))) ht hC hb h13 (by decide) (by decide) (by decide) (by decide) (fun _ _ h => le40 h) (fun _ h => mo40 h) o0 (cl40 _) h
    have mst := ok_readMist (i := 3 * i) (by omega) (m_num ht hM1 hb (lo := 0) (hi := 999) (by decide) (by decide) o0)
    have hM2 : txM T t (sa (mZ (sf (mK M b s) 20 (nI (i + 1))) (p1 T t b) (zN T t b)) 15 (3 * i) (iI (zN T t b))) := hM
    have fM2 : frL M0 (sa (mZ (sf (mK M b s) 20 (nI (i + 1))) (p1 T t b) (zN T t b)) 15 (3 * i) (iI (zN T t b))) := frL_sa (frL_Z fM1 _ _) (by decide) (by decide) _ _
    by_cases o1 : nOK T t (p2 T t b) 0 999
    · have z1 : 0 ≤ (zN T t (p2 T t b)) ∧ (zN T t (p2 T t b)) ≤ 999 := o1.2.2
      have mst1 := ok_readMist (i := 3 * i + 1) (by omega) (m_num ht hM2 hp0.2.2 (lo := 0) (hi := 999) (by decide) (by decide) o1)
      have hM3 : txM T t (sa (mZ (sa (mZ (sf (mK M b s) 20 (nI (i + 1))) (p1 T t b) (zN T t b)) 15 (3 * i) (iI (zN T t b))) (p1 T t (p2 T t b)) (zN T t (p2 T t b))) 15 (3 * i + 1) (iI (zN T t (p2 T t b)))) := hM
      have fM3 : frL M0 (sa (mZ (sa (mZ (sf (mK M b s) 20 (nI (i + 1))) (p1 T t b) (zN T t b)) 15 (3 * i) (iI (zN T t b))) (p1 T t (p2 T t b)) (zN T t (p2 T t b))) 15 (3 * i + 1) (iI (zN T t (p2 T t b)))) := frL_sa (frL_Z fM2 _ _) (by decide) (by decide) _ _
      have c4 := cl4 (S := cA (sa (sa C 19 4 (iI (ms + 1))) 18 0 (iI (zN T t b))) (p2 T t (p2 T t b))) (x := (zN T t b)) (z := (zN T t (p2 T t b))) rfl (sm_of (by omega) (by omega)) (sm_of (by omega) (by omega))
      have r15 : (mA (sa (mZ (sa (mZ (sf (mK M b s) 20 (nI (i + 1))) (p1 T t b) (zN T t b)) 15 (3 * i) (iI (zN T t b))) (p1 T t (p2 T t b)) (zN T t (p2 T t b))) 15 (3 * i + 1) (iI (zN T t (p2 T t b)))) (p2 T t (p2 T t b))).2.1 15 = upd (upd (M.2.1 15) (3 * i) (iI (zN T t b))) (3 * i + 1) (iI (zN T t (p2 T t b))) := rfl
      have r15a : (mA (sa (mZ (sa (mZ (sf (mK M b s) 20 (nI (i + 1))) (p1 T t b) (zN T t b)) 15 (3 * i) (iI (zN T t b))) (p1 T t (p2 T t b)) (zN T t (p2 T t b))) 15 (3 * i + 1) (iI (zN T t (p2 T t b)))) (p2 T t (p2 T t b))).2.1 15 (3 * i) = iI (zN T t b) := by rw [r15, pk_un (show 3 * i ≠ 3 * i + 1 by omega), pk_us]
      have r15b : (mA (sa (mZ (sa (mZ (sf (mK M b s) 20 (nI (i + 1))) (p1 T t b) (zN T t b)) 15 (3 * i) (iI (zN T t b))) (p1 T t (p2 T t b)) (zN T t (p2 T t b))) 15 (3 * i + 1) (iI (zN T t (p2 T t b)))) (p2 T t (p2 T t b))).2.1 15 (3 * i + 1) = iI (zN T t (p2 T t b)) := by rw [r15, pk_us]
      by_cases le : (zN T t b) ≤ (zN T t (p2 T t b))
      · have cst1 : ∀ X, R73 (nI 4) 3 2 (cA (sa (sa (sa C 19 4 (iI (ms + 1))) 18 0 (iI (zN T t b))) 18 1 (iI (zN T t (p2 T t b)))) (p2 T t (p2 T t b))) X → R73 (nI 4) 3 0 (cA (sa C 19 4 (iI (ms + 1))) b) X := fun X h => cst X (r_ok (C := (sa (sa C 19 4 (iI (ms + 1))) 18 0 (iI (zN T t b)))) ht hC hp0.2.2 h13 (by decide) (by decide) (by decide) (by decide) (fun _ _ h => le41 h) (fun _ h => mo41 h) o1 (c4.1 le) h)
        have go : ∀ Q : Int32 → vS → Prop, e_X7_into_mod_readMist (nI (3 * i + 2)) (iI 0) (iI 20) (mA (sa (mZ (sa (mZ (sf (mK M b s) 20 (nI (i + 1))) (p1 T t b) (zN T t b)) 15 (3 * i) (iI (zN T t b))) (p1 T t (p2 T t b)) (zN T t (p2 T t b))) 15 (3 * i + 1) (iI (zN T t (p2 T t b)))) (p2 T t (p2 T t b))) (fun r S => Q r S) → e_X7_takeMist_54 Q (nI (3 * i)) 0 (mA (sa (mZ (sa (mZ (sf (mK M b s) 20 (nI (i + 1))) (p1 T t b) (zN T t b)) 15 (3 * i) (iI (zN T t b))) (p1 T t (p2 T t b)) (zN T t (p2 T t b))) 15 (3 * i + 1) (iI (zN T t (p2 T t b)))) (p2 T t (p2 T t b))) := by
          intro Q h
          unfold e_X7_takeMist_54 e_X7_takeMist_89
          rw [nI_1, mist_2, cl_nI (by omega), cl_nI (by omega), r15a, r15b, iI_le (sm_of (by omega) (by omega)) (sm_of (by omega) (by omega))]
          exact ⟨fun c => absurd rfl c, fun _ => ⟨in_nI (by omega) (by omega), in_nI (by omega) (by omega), fun _ => ⟨fun _ => h, fun c => absurd (by decide) c⟩, fun c => absurd le c⟩⟩
        by_cases o2 : nOK T t (p2 T t (p2 T t b)) 0 20
        · have z2 : 0 ≤ (zN T t (p2 T t (p2 T t b))) ∧ (zN T t (p2 T t (p2 T t b))) ≤ 20 := o2.2.2
          have mst2 := ok_readMist (i := 3 * i + 2) (by omega) (m_num ht hM3 hp1.2.2 (lo := 0) (hi := 20) (by decide) (by decide) o2)
          refine oc_e (C2 := (sa (sa (sa (sa C 19 4 (iI (ms + 1))) 18 0 (iI (zN T t b))) 18 1 (iI (zN T t (p2 T t b)))) 18 2 (iI (zN T t (p2 T t (p2 T t b)))))) (N := (sa (mZ (sa (mZ (sa (mZ (sf (mK M b s) 20 (nI (i + 1))) (p1 T t b) (zN T t b)) 15 (3 * i) (iI (zN T t b))) (p1 T t (p2 T t b)) (zN T t (p2 T t b))) 15 (3 * i + 1) (iI (zN T t (p2 T t b)))) (p1 T t (p2 T t (p2 T t b))) (zN T t (p2 T t (p2 T t b)))) 15 (3 * i + 2) (iI (zN T t (p2 T t (p2 T t b)))))) ht (by decide) (fun X h => cst1 X (r_ok (C := (sa (sa (sa C 19 4 (iI (ms + 1))) 18 0 (iI (zN T t b))) 18 1 (iI (zN T t (p2 T t b))))) ht hC hp1.2.2 h13 (by decide) (by decide) (by decide) (by decide) (fun _ _ h => le42 h) (fun _ h => mo42 h) o2 (cl42 _) h)) (tk4 (fun Q hq => mist_pre hi6 h20 (mst _ ⟨fun _ => mst1 _ (go _ (mst2 _ hq)), fun c => absurd (by decide) c⟩))) hC hM fC4 (frL_sa (frL_Z fM3 _ _) (by decide) (by decide) _ _) h13 hp2.2.2 (by omega) (fun y hy => ⟨sf (sa (sa (sa (cA (sa (sa (sa (sa C 19 4 (iI (ms + 1))) 18 0 (iI (zN T t b))) 18 1 (iI (zN T t (p2 T t b)))) 18 2 (iI (zN T t (p2 T t (p2 T t b))))) y) 14 i (iI (zN T t b))) 15 i (iI (zN T t (p2 T t b)))) 16 i (iI (zN T t (p2 T t (p2 T t b))))) 9 (nI (i + 1)), fun Q hq => ?_, ?_⟩)
          · unfold e_X3_put
            refine ⟨fun c => absurd c (by decide), fun c => absurd c (by decide), fun c => absurd c (by decide), fun c => absurd c (by decide), fun c => absurd c (by decide), fun _ => ?_⟩
            unfold e_X2_addMist_draft
            have e8 : (cA (sa (sa (sa (sa C 19 4 (iI (ms + 1))) 18 0 (iI (zN T t b))) 18 1 (iI (zN T t (p2 T t b)))) 18 2 (iI (zN T t (p2 T t (p2 T t b))))) y).1 9 = nI i := h9
            rw [e8, show (10 : Int32) = nI 10 from rfl, nI_leI (by omega) (by omega), cl_nI (by omega)]
            refine ⟨fun c => absurd c (by omega), fun _ => ⟨in_nI hi6 (by omega), fun S3 e3 => ?_⟩⟩
            have f3 : S3.1 9 = nI i := by rw [e3]; exact h9
            rw [f3, cl_nI (by omega)]
            refine ⟨in_nI hi6 (by omega), fun S5 e5 => ?_⟩
            have f5 : S5.1 9 = nI i := by rw [e5]; exact f3
            rw [f5, cl_nI (by omega)]
            refine ⟨in_nI hi6 (by omega), fun S7 e7 S8 e8 => ?_⟩
            have f7 : S7.1 9 = nI i := by rw [e7]; exact f5
            rw [f7, nI_1, e7, e5, e3] at e8
            rw [e8]
            exact hq
          · refine ⟨⟨hC, hM⟩, ⟨frC_sf (frC_sa (frC_sa (frC_sa (frC_A fC4 _) (by decide) (by decide) _ _) (by decide) (by decide) _ _) (by decide) (by decide) _ _) (by decide) (by decide) _, frL_A (frL_sa (frL_Z fM3 _ _) (by decide) (by decide) _ _) _⟩, ⟨rfl, rfl⟩, h13, ⟨h14, m10⟩, w, d, n, ms + 1, ns, nf, rW_of q1 rfl rfl rfl rfl rfl, rD_of q2 rfl rfl rfl rfl rfl rfl rfl rfl rfl, rS_of q3 rfl rfl rfl rfl, rF_of q4 rfl rfl rfl rfl rfl, ?_, rH_of q6 rfl rfl rfl rfl rfl⟩
            have en : nI (i + 1) = iI (ms + 1) := by
              rw [iI_nat, hi]
              congr 1
            refine ⟨en, en, rfl, by omega, fun j hj => ?_⟩
            have r14 : (sf (sa (sa (sa (cA (sa (sa (sa (sa C 19 4 (iI (ms + 1))) 18 0 (iI (zN T t b))) 18 1 (iI (zN T t (p2 T t b)))) 18 2 (iI (zN T t (p2 T t (p2 T t b))))) y) 14 i (iI (zN T t b))) 15 i (iI (zN T t (p2 T t b)))) 16 i (iI (zN T t (p2 T t (p2 T t b))))) 9 (nI (i + 1))).2.1 14 = upd (C.2.1 14) i (iI (zN T t b)) := rfl
            have r15 : (sf (sa (sa (sa (cA (sa (sa (sa (sa C 19 4 (iI (ms + 1))) 18 0 (iI (zN T t b))) 18 1 (iI (zN T t (p2 T t b)))) 18 2 (iI (zN T t (p2 T t (p2 T t b))))) y) 14 i (iI (zN T t b))) 15 i (iI (zN T t (p2 T t b)))) 16 i (iI (zN T t (p2 T t (p2 T t b))))) 9 (nI (i + 1))).2.1 15 = upd (C.2.1 15) i (iI (zN T t (p2 T t b))) := rfl
            have r16 : (sf (sa (sa (sa (cA (sa (sa (sa (sa C 19 4 (iI (ms + 1))) 18 0 (iI (zN T t b))) 18 1 (iI (zN T t (p2 T t b)))) 18 2 (iI (zN T t (p2 T t (p2 T t b))))) y) 14 i (iI (zN T t b))) 15 i (iI (zN T t (p2 T t b)))) 16 i (iI (zN T t (p2 T t (p2 T t b))))) 9 (nI (i + 1))).2.1 16 = upd (C.2.1 16) i (iI (zN T t (p2 T t (p2 T t b)))) := rfl
            have s15 : (mA (sa (mZ (sa (mZ (sa (mZ (sf (mK M b s) 20 (nI (i + 1))) (p1 T t b) (zN T t b)) 15 (3 * i) (iI (zN T t b))) (p1 T t (p2 T t b)) (zN T t (p2 T t b))) 15 (3 * i + 1) (iI (zN T t (p2 T t b)))) (p1 T t (p2 T t (p2 T t b))) (zN T t (p2 T t (p2 T t b)))) 15 (3 * i + 2) (iI (zN T t (p2 T t (p2 T t b))))) y).2.1 15 = upd (upd (upd (M.2.1 15) (3 * i) (iI (zN T t b))) (3 * i + 1) (iI (zN T t (p2 T t b)))) (3 * i + 2) (iI (zN T t (p2 T t (p2 T t b)))) := rfl
            rw [r14, r15, r16, s15]
            by_cases e : j = i
            · rw [e, pk_un (show 3 * i ≠ 3 * i + 2 by omega), pk_un (show 3 * i ≠ 3 * i + 1 by omega), pk_un (show 3 * i + 1 ≠ 3 * i + 2 by omega)]
              exact ⟨(zN T t b), (zN T t (p2 T t b)), (zN T t (p2 T t (p2 T t b))), ⟨pk_us, pk_us, z0.1, z0.2⟩, ⟨pk_us, pk_us, z1.1, z1.2⟩, ⟨pk_us, pk_us, z2.1, z2.2⟩⟩
            · have un : ∀ q, (q < 3 * i ∨ 3 * i + 2 < q) → upd (upd (upd (M.2.1 15) (3 * i) (iI (zN T t b))) (3 * i + 1) (iI (zN T t (p2 T t b)))) (3 * i + 2) (iI (zN T t (p2 T t (p2 T t b)))) q = M.2.1 15 q := by
                intro q hq
                rw [pk_un (show q ≠ 3 * i + 2 by omega), pk_un (show q ≠ 3 * i + 1 by omega), pk_un (show q ≠ 3 * i by omega)]
              rw [pk_un e, pk_un e, pk_un e, un (3 * j) (by omega), un (3 * j + 1) (by omega), un (3 * j + 2) (by omega)]
              exact q5.2.2.2.2 j (by omega)
        · refine oc_f (cst1 _ (r_no (C := (sa (sa (sa C 19 4 (iI (ms + 1))) 18 0 (iI (zN T t b))) 18 1 (iI (zN T t (p2 T t b))))) ht hC hp1.2.2 h13 (by decide) (by decide) (by decide) (by decide) (fun _ _ h => le42 h) (fun _ h => mo42 h) o2)) (fcx (C := (sa (sa (sa C 19 4 (iI (ms + 1))) 18 0 (iI (zN T t b))) 18 1 (iI (zN T t (p2 T t b))))) hC fC3 hp2.2.2) ?_ ncd14
          obtain ⟨N, n1, n2, n3⟩ := no_readMist (i := 3 * i + 2) (by omega) (fm_num ht hM3 fM3 hp1.2.2 (lo := 0) (hi := 20) (by decide) (by decide) o2)
          exact ⟨N, n1, n2, tk4 (fun Q hq => mist_pre hi6 h20 (mst _ ⟨fun _ => mst1 _ (go _ (n3 _ hq)), fun c => absurd (by decide) c⟩))⟩
      · refine oc_f (cst _ (r_cl (C := (sa (sa C 19 4 (iI (ms + 1))) 18 0 (iI (zN T t b)))) ht hC hp0.2.2 h13 (by decide) (by decide) (by decide) (by decide) (fun _ _ h => le41 h) (fun _ h => mo41 h) o1 (c4.2 le))) (fcx (C := (sa (sa C 19 4 (iI (ms + 1))) 18 0 (iI (zN T t b)))) hC fC2 hp1.2.2) ?_ (by decide)
        refine ⟨sf (mA (sa (mZ (sa (mZ (sf (mK M b s) 20 (nI (i + 1))) (p1 T t b) (zN T t b)) 15 (3 * i) (iI (zN T t b))) (p1 T t (p2 T t b)) (zN T t (p2 T t b))) 15 (3 * i + 1) (iI (zN T t (p2 T t b)))) (p2 T t (p2 T t b))) 10 (nI (p1 T t (p2 T t b))), frL_sf (frL_A fM3 _) (by decide) (by decide) _, rfl, tk4 (fun Q hq => mist_pre hi6 h20 (mst _ ⟨fun _ => mst1 _ ?_, fun c => absurd (by decide) c⟩))⟩
        unfold e_X7_takeMist_54 e_X7_takeMist_89 e_X7_fails
        rw [nI_1, cl_nI (by omega), cl_nI (by omega), r15a, r15b, iI_le (sm_of (by omega) (by omega)) (sm_of (by omega) (by omega))]
        exact ⟨fun c => absurd rfl c, fun _ => ⟨in_nI (by omega) (by omega), in_nI (by omega) (by omega), fun c => absurd c le, fun _ S1 e1 => ⟨fun c => absurd c (by decide), fun _ => by rw [e1]; exact hq⟩⟩⟩
    · refine oc_f (cst _ (r_no (C := (sa (sa C 19 4 (iI (ms + 1))) 18 0 (iI (zN T t b)))) ht hC hp0.2.2 h13 (by decide) (by decide) (by decide) (by decide) (fun _ _ h => le41 h) (fun _ h => mo41 h) o1)) (fcx (C := (sa (sa C 19 4 (iI (ms + 1))) 18 0 (iI (zN T t b)))) hC fC2 hp1.2.2) ?_ ncd14
      obtain ⟨N, n1, n2, n3⟩ := no_readMist (i := 3 * i + 1) (by omega) (fm_num ht hM2 fM2 hp0.2.2 (lo := 0) (hi := 999) (by decide) (by decide) o1)
      refine ⟨N, n1, n2, tk4 (fun Q hq => mist_pre hi6 h20 (mst _ ⟨fun _ => n3 _ ?_, fun c => absurd (by decide) c⟩))⟩
      unfold e_X7_takeMist_54 e_X7_takeMist_89
      exact ⟨fun _ => ⟨fun c => absurd c (nle ncd14), fun _ => hq⟩, fun c => absurd c (nz ncd14)⟩
  · refine oc_f (r_no (C := (sa C 19 4 (iI (ms + 1)))) ht hC hb h13 (by decide) (by decide) (by decide) (by decide) (fun _ _ h => le40 h) (fun _ h => mo40 h) o0) (fcx (C := (sa C 19 4 (iI (ms + 1)))) hC fC1 hp0.2.2) ?_ ncd14
    obtain ⟨N, n1, n2, n3⟩ := no_readMist (i := 3 * i) (by omega) (fm_num ht hM1 fM1 hb (lo := 0) (hi := 999) (by decide) (by decide) o0)
    refine ⟨N, n1, n2, tk4 (fun Q hq => mist_pre hi6 h20 (n3 _ ⟨fun c => absurd c (nle ncd14), fun _ => ?_⟩))⟩
    unfold e_X7_takeMist_54 e_X7_takeMist_89
    exact ⟨fun _ => ⟨fun c => absurd c (nle ncd14), fun _ => hq⟩, fun c => absurd c (nz ncd14)⟩
end TT
