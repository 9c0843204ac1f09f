/-! ===== lake: the clauses stand and fish ===== -/
section TT
variable {C M C0 M0 : vS} {T : Nat → Int} {t a : Nat}
theorem stand_pre {M : vS} {w n : Int} {a : Nat} (h15 : M.1 15 = iI w) (hc : M.1 18 = iI n) {Q : Int32 → vS → Prop} (h : e_X7_takeNumber (iI 0) (iI (w - 1)) (mA (sf M 18 (iI (n + 1))) a) (fun r2 S1 => ∀ v3 : Int32, v3 = S1.1 13 → ((r2 ≤ 0 → (e_X7_takeNumber (iI 0) ((S1.1 16) - (1 : Int32)) S1 (fun (r6 : Int32) (S5 : vS) => e_X7_takeCell_mod_readStand_37 Q 1 v3 r6 S5))) ∧ (¬ r2 ≤ 0 → e_X7_takeCell_mod_readStand_37 Q 1 v3 r2 S1)))) : e_X7_takeCell_mod_readStand 1 (sf (mA M a) 18 ((mA M a).1 18 + 1)) Q := by
  unfold e_X7_takeCell_mod_readStand
  have e1 : (mA M a).1 18 + 1 = iI (n + 1) := by
    have : (mA M a).1 18 = iI n := hc
    rw [this, L1, iI_add]
  have e15 : (mA (sf M 18 (iI (n + 1))) a).1 15 - 1 = iI (w - 1) := by
    have : (mA (sf M 18 (iI (n + 1))) a).1 15 = iI w := h15
    rw [this, L1, iI_sub]
  rw [e1, mA_sf (by decide), e15]
  exact h
theorem k_stand (ht : okT T t) (hC : txC T t C) (hM : txM T t M) (fC : frC C0 C) (fM : frL M0 M) (h13 : C.1 13 = 0) (h14 : C.1 14 = -1) (m10 : M.1 10 = -1) {w d n ms ns nf : Int} (q1 : rW C M w d) (q2 : rD C M w n) (q3 : rS C M ns) (q4 : rF C M nf) (q5 : rM C M ms) (q6 : rH C M) {b : Nat} (hab : a < b) (hb : b ≤ t) (s : Int) (w1 : 0 < w) (n30 : ns < 30) : OC T t C0 M0 a (eC 2 3 (cA (sa C 19 2 (iI (ns + 1))) b)) (eM 2 a b s M) := by
  have hp0 := pp (T := T) hb
  have hp1 := pp (T := T) hp0.2.2
  have hp2 := pp (T := T) hp1.2.2
  have wb := q1.2.2.2.2.2.1
  have db := q1.2.2.2.2.2.2.1
  have wd := q1.2.2.2.2.2.2.2.1
  have fC1 : frC C0 (sa C 19 2 (iI (ns + 1))) := frC_sa fC (by decide) (by decide) _ _
  have fC2 : frC C0 (sa (sa C 19 2 (iI (ns + 1))) 18 0 (iI (zN T t b))) := frC_sa fC1 (by decide) (by decide) _ _
  have fC3 : frC C0 (sa (sa (sa C 19 2 (iI (ns + 1))) 18 0 (iI (zN T t b))) 18 1 (iI (zN T t (p2 T t b)))) := frC_sa fC2 (by decide) (by decide) _ _
  have fC4 : frC C0 (sa (sa (sa (sa C 19 2 (iI (ns + 1))) 18 0 (iI (zN T t b))) 18 1 (iI (zN T t (p2 T t b)))) 18 2 (iI (zN T t (p2 T t (p2 T t b))))) := frC_sa fC3 (by decide) (by decide) _ _
  have hcn : (mK M b s).1 18 = iI ns := q3.2.1
  have h15 : (mK M b s).1 15 = iI w := q1.2.1
  have fM1 : frL M0 (sf (mK M b s) 18 (iI (ns + 1))) := frL_sf (frL_K fM b s) (by decide) (by decide) _
  have hM1 : txM T t (sf (mK M b s) 18 (iI (ns + 1))) := hM
  have bhi : -1000 ≤ w - 1 ∧ w - 1 ≤ 1000 := by omega
  have bhd : -1000 ≤ d - 1 ∧ d - 1 ≤ 1000 := by omega
  by_cases o0 : nOK T t b 0 (w - 1)
  · have z0 : 0 ≤ (zN T t b) ∧ (zN T t b) ≤ w - 1 := o0.2.2
    have cst : ∀ X, R73 (nI 2) 3 1 (cA (sa (sa C 19 2 (iI (ns + 1))) 18 0 (iI (zN T t b))) (p2 T t b)) X → R73 (nI 2) 3 0 (cA (sa C 19 2 (iI (ns + 1))) b) X := fun X h => r_ok (C := (sa C 19 2 (iI (ns + 1)))) ht hC hb h13 (by decide) (by decide) (by decide) bhi (fun _ _ h => le20 h) (fun _ h => mo20 q1.1 h) o0 (cl20 _) h
    have mst := m_num ht hM1 hb (lo := 0) (hi := w - 1) (by decide) bhi o0
    have hM2 : txM T t (mZ (sf (mK M b s) 18 (iI (ns + 1))) (p1 T t b) (zN T t b)) := hM
    have fM2 : frL M0 (mZ (sf (mK M b s) 18 (iI (ns + 1))) (p1 T t b) (zN T t b)) := frL_Z fM1 _ _
    have e16 : (mA (mZ (sf (mK M b s) 18 (iI (ns + 1))) (p1 T t b) (zN T t b)) (p2 T t b)).1 16 - 1 = iI (d - 1) := by
      have : (mA (mZ (sf (mK M b s) 18 (iI (ns + 1))) (p1 T t b) (zN T t b)) (p2 T t b)).1 16 = iI d := q1.2.2.2.1
      rw [this, L1, iI_sub]
    by_cases o1 : nOK T t (p2 T t b) 0 (d - 1)
    · have z1 : 0 ≤ (zN T t (p2 T t b)) ∧ (zN T t (p2 T t b)) ≤ d - 1 := o1.2.2
      have mst1 := m_num ht hM2 hp0.2.2 (lo := 0) (hi := d - 1) (by decide) bhd o1
      have hM3 : txM T t (mZ (mZ (sf (mK M b s) 18 (iI (ns + 1))) (p1 T t b) (zN T t b)) (p1 T t (p2 T t b)) (zN T t (p2 T t b))) := hM
      have fM3 : frL M0 (mZ (mZ (sf (mK M b s) 18 (iI (ns + 1))) (p1 T t b) (zN T t b)) (p1 T t (p2 T t b)) (zN T t (p2 T t b))) := frL_Z fM2 _ _
      have b1 : 0 ≤ (zN T t (p2 T t b)) * w := Int.mul_nonneg z1.1 (by omega)
      have b2 : (zN T t (p2 T t b)) * w ≤ (d - 1) * w := Int.mul_le_mul_of_nonneg_right z1.2 (by omega)
      have b3 : (d - 1) * w = w * d - w := by rw [Int.sub_mul, Int.mul_comm d w]; omega
      have j0 : 0 ≤ (zN T t (p2 T t b)) * w + (zN T t b) := by omega
      have j1 : (zN T t (p2 T t b)) * w + (zN T t b) < 60 := by omega
      have j2 : ((zN T t (p2 T t b)) * w + (zN T t b)).toNat < 60 := by omega
      have cc := cl2 (S := cA (sa (sa C 19 2 (iI (ns + 1))) 18 0 (iI (zN T t b))) (p2 T t (p2 T t b))) (w := w) (x := (zN T t b)) (z := (zN T t (p2 T t b))) q1.1 rfl j0 j1
      have ev : (mA (mZ (mZ (sf (mK M b s) 18 (iI (ns + 1))) (p1 T t b) (zN T t b)) (p1 T t (p2 T t b)) (zN T t (p2 T t b))) (p2 T t (p2 T t b))).1 15 * (mA (mZ (mZ (sf (mK M b s) 18 (iI (ns + 1))) (p1 T t b) (zN T t b)) (p1 T t (p2 T t b)) (zN T t (p2 T t b))) (p2 T t (p2 T t b))).1 13 + iI (zN T t b) = nI ((zN T t (p2 T t b)) * w + (zN T t b)).toNat := by
        have f15 : (mA (mZ (mZ (sf (mK M b s) 18 (iI (ns + 1))) (p1 T t b) (zN T t b)) (p1 T t (p2 T t b)) (zN T t (p2 T t b))) (p2 T t (p2 T t b))).1 15 = iI w := q1.2.1
        have f13 : (mA (mZ (mZ (sf (mK M b s) 18 (iI (ns + 1))) (p1 T t b) (zN T t b)) (p1 T t (p2 T t b)) (zN T t (p2 T t b))) (p2 T t (p2 T t b))).1 13 = iI (zN T t (p2 T t b)) := rfl
        rw [f15, f13, iI_mul, iI_add, Int.mul_comm w, iI_nat]
        congr 1
        omega
      have er : (mA (mZ (mZ (sf (mK M b s) 18 (iI (ns + 1))) (p1 T t b) (zN T t b)) (p1 T t (p2 T t b)) (zN T t (p2 T t b))) (p2 T t (p2 T t b))).2.1 13 ((zN T t (p2 T t b)) * w + (zN T t b)).toNat = M.2.1 13 ((zN T t (p2 T t b)) * w + (zN T t b)).toNat := rfl
      have rs := q3.2.2.2 ((zN T t (p2 T t b)) * w + (zN T t b)).toNat j2
      have pre : ∀ Q : Int32 → vS → Prop, e_X7_takeCell_mod_readStand_37 Q 1 (iI (zN T t b)) 0 (mA (mZ (mZ (sf (mK M b s) 18 (iI (ns + 1))) (p1 T t b) (zN T t b)) (p1 T t (p2 T t b)) (zN T t (p2 T t b))) (p2 T t (p2 T t b))) → e_X7_takeCell_mod_readStand 1 (sf (mA (mK M b s) b) 18 ((mA (mK M b s) b).1 18 + 1)) Q := by
        intro Q hq
        refine stand_pre h15 hcn (mst _ ?_)
        intro v3 e3
        have e3' : v3 = iI (zN T t b) := e3
        rw [e3', e16]
        exact ⟨fun _ => mst1 _ hq, fun c => absurd (by decide) c⟩
      by_cases free : C.2.1 12 ((zN T t (p2 T t b)) * w + (zN T t b)).toNat = 0
      · have neg : M.2.1 13 ((zN T t (p2 T t b)) * w + (zN T t b)).toNat < 0 := by
          rcases rs with h | ⟨z, h⟩
          · rw [h.2]
            decide
          · exfalso
            rw [h.2.2.1] at free
            exact (ne0 ⟨h.1, by omega⟩).1 free
        have cst1 : ∀ X, R73 (nI 2) 3 2 (cA (sa (sa (sa C 19 2 (iI (ns + 1))) 18 0 (iI (zN T t b))) 18 1 (iI (zN T t (p2 T t b)))) (p2 T t (p2 T t b))) X → R73 (nI 2) 3 0 (cA (sa C 19 2 (iI (ns + 1))) b) X := fun X h => cst X (r_ok (C := (sa (sa C 19 2 (iI (ns + 1))) 18 0 (iI (zN T t b)))) ht hC hp0.2.2 h13 (by decide) (by decide) (by decide) bhd (fun _ _ h => le21 h) (fun _ h => mo21 q1.2.2.1 h) o1 (cc.1 free) h)
        have go : ∀ Q : Int32 → vS → Prop, e_X7_into_mod_readStand (nI ((zN T t (p2 T t b)) * w + (zN T t b)).toNat) (iI 1) (iI 99) (mA (mZ (mZ (sf (mK M b s) 18 (iI (ns + 1))) (p1 T t b) (zN T t b)) (p1 T t (p2 T t b)) (zN T t (p2 T t b))) (p2 T t (p2 T t b))) (fun r S => Q r S) → e_X7_takeCell_mod_readStand_37 Q 1 (iI (zN T t b)) 0 (mA (mZ (mZ (sf (mK M b s) 18 (iI (ns + 1))) (p1 T t b) (zN T t b)) (p1 T t (p2 T t b)) (zN T t (p2 T t b))) (p2 T t (p2 T t b))) := by
          intro Q h
          unfold e_X7_takeCell_mod_readStand_37
          refine ⟨fun _ v8 e8 => ?_, fun c => absurd (by decide) c⟩
          rw [e8, ev, cl_nI (by omega), er]
          exact ⟨in_nI j2 (by omega), fun _ => h, fun c => absurd neg c⟩
        by_cases o2 : nOK T t (p2 T t (p2 T t b)) 1 99
        · have z2 : 1 ≤ (zN T t (p2 T t (p2 T t b))) ∧ (zN T t (p2 T t (p2 T t b))) ≤ 99 := o2.2.2
          have mst2 := ok_readStand (i := ((zN T t (p2 T t b)) * w + (zN T t b)).toNat) j2 (m_num ht hM3 hp1.2.2 (lo := 1) (hi := 99) (by decide) (by decide) o2)
          refine oc_e (C2 := (sa (sa (sa (sa C 19 2 (iI (ns + 1))) 18 0 (iI (zN T t b))) 18 1 (iI (zN T t (p2 T t b)))) 18 2 (iI (zN T t (p2 T t (p2 T t b)))))) (N := (sa (mZ (mZ (mZ (sf (mK M b s) 18 (iI (ns + 1))) (p1 T t b) (zN T t b)) (p1 T t (p2 T t b)) (zN T t (p2 T t b))) (p1 T t (p2 T t (p2 T t b))) (zN T t (p2 T t (p2 T t b)))) 13 ((zN T t (p2 T t b)) * w + (zN T t b)).toNat (iI (zN T t (p2 T t (p2 T t b)))))) ht (by decide) (fun X h => cst1 X (r_ok (C := (sa (sa (sa C 19 2 (iI (ns + 1))) 18 0 (iI (zN T t b))) 18 1 (iI (zN T t (p2 T t b))))) ht hC hp1.2.2 h13 (by decide) (by decide) (by decide) (by decide) (fun _ _ h => le22 h) (fun _ h => mo22 h) o2 (cl22 _) h)) (tk2 (fun Q hq => pre _ (go _ (mst2 _ hq)))) hC hM fC4 (frL_sa (frL_Z fM3 _ _) (by decide) (by decide) _ _) h13 hp2.2.2 (by omega) (fun y hy => ⟨sa (cA (sa (sa (sa (sa C 19 2 (iI (ns + 1))) 18 0 (iI (zN T t b))) 18 1 (iI (zN T t (p2 T t b)))) 18 2 (iI (zN T t (p2 T t (p2 T t b))))) y) 12 ((zN T t (p2 T t b)) * w + (zN T t b)).toNat (iI (zN T t (p2 T t (p2 T t b)))), fun Q hq => ?_, ?_⟩)
          · unfold e_X3_put e_X2_numberOf_draft
            have ix := ix_at (S := cA (sa (sa (sa (sa C 19 2 (iI (ns + 1))) 18 0 (iI (zN T t b))) 18 1 (iI (zN T t (p2 T t b)))) 18 2 (iI (zN T t (p2 T t (p2 T t b))))) y) (w := w) (x := (zN T t b)) (z := (zN T t (p2 T t b))) q1.1 rfl j0 j1
            have f1 : (cA (sa (sa (sa (sa C 19 2 (iI (ns + 1))) 18 0 (iI (zN T t b))) 18 1 (iI (zN T t (p2 T t b)))) 18 2 (iI (zN T t (p2 T t (p2 T t b))))) y).2.1 18 (1 : Int32).toNatClampNeg = iI (zN T t (p2 T t b)) := rfl
            refine ⟨fun c => absurd c (by decide), fun c => absurd c (by decide), fun c => absurd c (by decide), fun _ => ?_, fun c => absurd c (by decide), fun c => absurd c (by decide)⟩
            rw [f1]
            refine ⟨ix.1, ?_⟩
            rw [ix.2]
            exact fun S11 e11 => by rw [e11]; exact hq
          · refine ⟨⟨hC, hM⟩, ⟨frC_sa (frC_A fC4 _) (by decide) (by decide) _ _, frL_A (frL_sa (frL_Z fM3 _ _) (by decide) (by decide) _ _) _⟩, ⟨rfl, rfl⟩, h13, ⟨h14, m10⟩, w, d, n, ms, ns + 1, nf, rW_of q1 rfl rfl rfl rfl rfl, rD_of q2 rfl rfl rfl rfl rfl rfl rfl rfl rfl, ?_, rF_of q4 rfl rfl rfl rfl rfl, rM_of q5 rfl rfl rfl rfl rfl rfl rfl, rH_of q6 rfl rfl rfl rfl rfl⟩
            have cb := q3.2.2.1
            refine ⟨rfl, rfl, by omega, fun k hk => ?_⟩
            have r12 : (sa (cA (sa (sa (sa (sa C 19 2 (iI (ns + 1))) 18 0 (iI (zN T t b))) 18 1 (iI (zN T t (p2 T t b)))) 18 2 (iI (zN T t (p2 T t (p2 T t b))))) y) 12 ((zN T t (p2 T t b)) * w + (zN T t b)).toNat (iI (zN T t (p2 T t (p2 T t b))))).2.1 12 = upd (C.2.1 12) ((zN T t (p2 T t b)) * w + (zN T t b)).toNat (iI (zN T t (p2 T t (p2 T t b)))) := rfl
            have s13 : (mA (sa (mZ (mZ (mZ (sf (mK M b s) 18 (iI (ns + 1))) (p1 T t b) (zN T t b)) (p1 T t (p2 T t b)) (zN T t (p2 T t b))) (p1 T t (p2 T t (p2 T t b))) (zN T t (p2 T t (p2 T t b)))) 13 ((zN T t (p2 T t b)) * w + (zN T t b)).toNat (iI (zN T t (p2 T t (p2 T t b))))) y).2.1 13 = upd (M.2.1 13) ((zN T t (p2 T t b)) * w + (zN T t b)).toNat (iI (zN T t (p2 T t (p2 T t b)))) := rfl
            rw [r12, s13]
            by_cases e : k = ((zN T t (p2 T t b)) * w + (zN T t b)).toNat
            · rw [e]
              exact Or.inr ⟨(zN T t (p2 T t (p2 T t b))), z2.1, z2.2, pk_us, pk_us⟩
            · rw [pk_un e, pk_un e]
              exact q3.2.2.2 k hk
        · refine oc_f (cst1 _ (r_no (C := (sa (sa (sa C 19 2 (iI (ns + 1))) 18 0 (iI (zN T t b))) 18 1 (iI (zN T t (p2 T t b))))) ht hC hp1.2.2 h13 (by decide) (by decide) (by decide) (by decide) (fun _ _ h => le22 h) (fun _ h => mo22 h) o2)) (fcx (C := (sa (sa (sa C 19 2 (iI (ns + 1))) 18 0 (iI (zN T t b))) 18 1 (iI (zN T t (p2 T t b))))) hC fC3 hp2.2.2) ?_ ncd14
          obtain ⟨N, n1, n2, n3⟩ := no_readStand (i := ((zN T t (p2 T t b)) * w + (zN T t b)).toNat) j2 (fm_num ht hM3 fM3 hp1.2.2 (lo := 1) (hi := 99) (by decide) (by decide) o2)
          exact ⟨N, n1, n2, tk2 (fun Q hq => pre _ (go _ (n3 _ hq)))⟩
      · have neg : ¬ M.2.1 13 ((zN T t (p2 T t b)) * w + (zN T t b)).toNat < 0 := by
          rcases rs with h | ⟨z, h⟩
          · exact absurd h.1 free
          · rw [h.2.2.2, L0, iI_lt (sm_of (by omega) (by omega)) (sm_of (by decide) (by decide))]
            omega
        refine oc_f (cst _ (r_cl (C := (sa (sa C 19 2 (iI (ns + 1))) 18 0 (iI (zN T t b)))) ht hC hp0.2.2 h13 (by decide) (by decide) (by decide) bhd (fun _ _ h => le21 h) (fun _ h => mo21 q1.2.2.1 h) o1 (cc.2 free))) (fcx (C := (sa (sa C 19 2 (iI (ns + 1))) 18 0 (iI (zN T t b)))) hC fC2 hp1.2.2) ?_ (by decide)
        refine ⟨sf (mA (mZ (mZ (sf (mK M b s) 18 (iI (ns + 1))) (p1 T t b) (zN T t b)) (p1 T t (p2 T t b)) (zN T t (p2 T t b))) (p2 T t (p2 T t b))) 10 (nI (p1 T t (p2 T t b))), frL_sf (frL_A fM3 _) (by decide) (by decide) _, rfl, tk2 (fun Q hq => pre _ ?_)⟩
        unfold e_X7_takeCell_mod_readStand_37 e_X7_fails
        refine ⟨fun _ v8 e8 => ?_, fun c => absurd (by decide) c⟩
        rw [e8, ev, cl_nI (by omega), er]
        exact ⟨in_nI j2 (by omega), fun c => absurd c neg, fun _ S1 e1 => by rw [e1]; exact hq⟩
    · refine oc_f (cst _ (r_no (C := (sa (sa C 19 2 (iI (ns + 1))) 18 0 (iI (zN T t b)))) ht hC hp0.2.2 h13 (by decide) (by decide) (by decide) bhd (fun _ _ h => le21 h) (fun _ h => mo21 q1.2.2.1 h) o1)) (fcx (C := (sa (sa C 19 2 (iI (ns + 1))) 18 0 (iI (zN T t b)))) hC fC2 hp1.2.2) ?_ ncd14
      obtain ⟨N, n1, n2, n3⟩ := fm_num ht hM2 fM2 hp0.2.2 (lo := 0) (hi := d - 1) (by decide) bhd o1
      refine ⟨N, n1, n2, tk2 (fun Q hq => stand_pre h15 hcn (mst _ ?_))⟩
      intro v3 e3
      rw [e16]
      refine ⟨fun _ => n3 _ ?_, fun c => absurd (by decide) c⟩
      unfold e_X7_takeCell_mod_readStand_37
      exact ⟨fun c => absurd c (nle ncd14), fun _ => hq⟩
  · refine oc_f (r_no (C := (sa C 19 2 (iI (ns + 1)))) ht hC hb h13 (by decide) (by decide) (by decide) bhi (fun _ _ h => le20 h) (fun _ h => mo20 q1.1 h) o0) (fcx (C := (sa C 19 2 (iI (ns + 1)))) hC fC1 hp0.2.2) ?_ ncd14
    obtain ⟨N, n1, n2, n3⟩ := fm_num ht hM1 fM1 hb (lo := 0) (hi := w - 1) (by decide) bhi o0
    refine ⟨N, n1, n2, tk2 (fun Q hq => stand_pre h15 hcn (n3 _ ?_))⟩
    intro v3 e3
    refine ⟨fun c => absurd c (nle ncd14), fun _ => ?_⟩
    unfold e_X7_takeCell_mod_readStand_37
    exact ⟨fun c => absurd c (nle ncd14), fun _ => hq⟩
theorem fish_pre {M : vS} {w n : Int} {a : Nat} (h15 : M.1 15 = iI w) (hc : M.1 19 = iI n) {Q : Int32 → vS → Prop} (h : e_X7_takeNumber (iI 0) (iI (w - 1)) (mA (sf M 19 (iI (n + 1))) a) (fun r2 S1 => ∀ v3 : Int32, v3 = S1.1 13 → ((r2 ≤ 0 → (e_X7_takeNumber (iI 0) ((S1.1 16) - (1 : Int32)) S1 (fun (r6 : Int32) (S5 : vS) => e_X7_takeCell_mod_readFish_37 Q 0 v3 r6 S5))) ∧ (¬ r2 ≤ 0 → e_X7_takeCell_mod_readFish_37 Q 0 v3 r2 S1)))) : e_X7_takeCell_mod_readFish 0 (sf (mA M a) 19 ((mA M a).1 19 + 1)) Q := by
  unfold e_X7_takeCell_mod_readFish
  have e1 : (mA M a).1 19 + 1 = iI (n + 1) := by
    have : (mA M a).1 19 = iI n := hc
    rw [this, L1, iI_add]
  have e15 : (mA (sf M 19 (iI (n + 1))) a).1 15 - 1 = iI (w - 1) := by
    have : (mA (sf M 19 (iI (n + 1))) a).1 15 = iI w := h15
    rw [this, L1, iI_sub]
  rw [e1, mA_sf (by decide), e15]
  exact h
theorem k_fish (ht : okT T t) (hC : txC T t C) (hM : txM T t M) (fC : frC C0 C) (fM : frL M0 M) (h13 : C.1 13 = 0) (h14 : C.1 14 = -1) (m10 : M.1 10 = -1) {w d n ms ns nf : Int} (q1 : rW C M w d) (q2 : rD C M w n) (q3 : rS C M ns) (q4 : rF C M nf) (q5 : rM C M ms) (q6 : rH C M) {b : Nat} (hab : a < b) (hb : b ≤ t) (s : Int) (w1 : 0 < w) (n30 : nf < 30) : OC T t C0 M0 a (eC 3 3 (cA (sa C 19 3 (iI (nf + 1))) b)) (eM 3 a b s M) := by
  have hp0 := pp (T := T) hb
  have hp1 := pp (T := T) hp0.2.2
  have hp2 := pp (T := T) hp1.2.2
  have wb := q1.2.2.2.2.2.1
  have db := q1.2.2.2.2.2.2.1
  have wd := q1.2.2.2.2.2.2.2.1
  have fC1 : frC C0 (sa C 19 3 (iI (nf + 1))) := frC_sa fC (by decide) (by decide) _ _
  have fC2 : frC C0 (sa (sa C 19 3 (iI (nf + 1))) 18 0 (iI (zN T t b))) := frC_sa fC1 (by decide) (by decide) _ _
  have fC3 : frC C0 (sa (sa (sa C 19 3 (iI (nf + 1))) 18 0 (iI (zN T t b))) 18 1 (iI (zN T t (p2 T t b)))) := frC_sa fC2 (by decide) (by decide) _ _
  have fC4 : frC C0 (sa (sa (sa (sa C 19 3 (iI (nf + 1))) 18 0 (iI (zN T t b))) 18 1 (iI (zN T t (p2 T t b)))) 18 2 (iI (zN T t (p2 T t (p2 T t b))))) := frC_sa fC3 (by decide) (by decide) _ _
  have hcn : (mK M b s).1 19 = iI nf := q4.2.1
  have h15 : (mK M b s).1 15 = iI w := q1.2.1
  have fM1 : frL M0 (sf (mK M b s) 19 (iI (nf + 1))) := frL_sf (frL_K fM b s) (by decide) (by decide) _
  have hM1 : txM T t (sf (mK M b s) 19 (iI (nf + 1))) := hM
  have bhi : -1000 ≤ w - 1 ∧ w - 1 ≤ 1000 := by omega
  have bhd : -1000 ≤ d - 1 ∧ d - 1 ≤ 1000 := by omega
  by_cases o0 : nOK T t b 0 (w - 1)
  · have z0 : 0 ≤ (zN T t b) ∧ (zN T t b) ≤ w - 1 := o0.2.2
    have cst : ∀ X, R73 (nI 3) 3 1 (cA (sa (sa C 19 3 (iI (nf + 1))) 18 0 (iI (zN T t b))) (p2 T t b)) X → R73 (nI 3) 3 0 (cA (sa C 19 3 (iI (nf + 1))) b) X := fun X h => r_ok (C := (sa C 19 3 (iI (nf + 1)))) ht hC hb h13 (by decide) (by decide) (by decide) bhi (fun _ _ h => le30 h) (fun _ h => mo30 q1.1 h) o0 (cl30 _) h
    have mst := m_num ht hM1 hb (lo := 0) (hi := w - 1) (by decide) bhi o0
    have hM2 : txM T t (mZ (sf (mK M b s) 19 (iI (nf + 1))) (p1 T t b) (zN T t b)) := hM
    have fM2 : frL M0 (mZ (sf (mK M b s) 19 (iI (nf + 1))) (p1 T t b) (zN T t b)) := frL_Z fM1 _ _
    have e16 : (mA (mZ (sf (mK M b s) 19 (iI (nf + 1))) (p1 T t b) (zN T t b)) (p2 T t b)).1 16 - 1 = iI (d - 1) := by
      have : (mA (mZ (sf (mK M b s) 19 (iI (nf + 1))) (p1 T t b) (zN T t b)) (p2 T t b)).1 16 = iI d := q1.2.2.2.1
      rw [this, L1, iI_sub]
    by_cases o1 : nOK T t (p2 T t b) 0 (d - 1)
    · have z1 : 0 ≤ (zN T t (p2 T t b)) ∧ (zN T t (p2 T t b)) ≤ d - 1 := o1.2.2
      have mst1 := m_num ht hM2 hp0.2.2 (lo := 0) (hi := d - 1) (by decide) bhd o1
      have hM3 : txM T t (mZ (mZ (sf (mK M b s) 19 (iI (nf + 1))) (p1 T t b) (zN T t b)) (p1 T t (p2 T t b)) (zN T t (p2 T t b))) := hM
      have fM3 : frL M0 (mZ (mZ (sf (mK M b s) 19 (iI (nf + 1))) (p1 T t b) (zN T t b)) (p1 T t (p2 T t b)) (zN T t (p2 T t b))) := frL_Z fM2 _ _
      have b1 : 0 ≤ (zN T t (p2 T t b)) * w := Int.mul_nonneg z1.1 (by omega)
      have b2 : (zN T t (p2 T t b)) * w ≤ (d - 1) * w := Int.mul_le_mul_of_nonneg_right z1.2 (by omega)
      have b3 : (d - 1) * w = w * d - w := by rw [Int.sub_mul, Int.mul_comm d w]; omega
      have j0 : 0 ≤ (zN T t (p2 T t b)) * w + (zN T t b) := by omega
      have j1 : (zN T t (p2 T t b)) * w + (zN T t b) < 60 := by omega
      have j2 : ((zN T t (p2 T t b)) * w + (zN T t b)).toNat < 60 := by omega
      have cc := cl3 (S := cA (sa (sa C 19 3 (iI (nf + 1))) 18 0 (iI (zN T t b))) (p2 T t (p2 T t b))) (w := w) (x := (zN T t b)) (z := (zN T t (p2 T t b))) q1.1 rfl j0 j1
      have ev : (mA (mZ (mZ (sf (mK M b s) 19 (iI (nf + 1))) (p1 T t b) (zN T t b)) (p1 T t (p2 T t b)) (zN T t (p2 T t b))) (p2 T t (p2 T t b))).1 15 * (mA (mZ (mZ (sf (mK M b s) 19 (iI (nf + 1))) (p1 T t b) (zN T t b)) (p1 T t (p2 T t b)) (zN T t (p2 T t b))) (p2 T t (p2 T t b))).1 13 + iI (zN T t b) = nI ((zN T t (p2 T t b)) * w + (zN T t b)).toNat := by
        have f15 : (mA (mZ (mZ (sf (mK M b s) 19 (iI (nf + 1))) (p1 T t b) (zN T t b)) (p1 T t (p2 T t b)) (zN T t (p2 T t b))) (p2 T t (p2 T t b))).1 15 = iI w := q1.2.1
        have f13 : (mA (mZ (mZ (sf (mK M b s) 19 (iI (nf + 1))) (p1 T t b) (zN T t b)) (p1 T t (p2 T t b)) (zN T t (p2 T t b))) (p2 T t (p2 T t b))).1 13 = iI (zN T t (p2 T t b)) := rfl
        rw [f15, f13, iI_mul, iI_add, Int.mul_comm w, iI_nat]
        congr 1
        omega
      have er : (mA (mZ (mZ (sf (mK M b s) 19 (iI (nf + 1))) (p1 T t b) (zN T t b)) (p1 T t (p2 T t b)) (zN T t (p2 T t b))) (p2 T t (p2 T t b))).2.1 14 ((zN T t (p2 T t b)) * w + (zN T t b)).toNat = M.2.1 14 ((zN T t (p2 T t b)) * w + (zN T t b)).toNat := rfl
      have rs := q4.2.2.2 ((zN T t (p2 T t b)) * w + (zN T t b)).toNat j2
      have pre : ∀ Q : Int32 → vS → Prop, e_X7_takeCell_mod_readFish_37 Q 0 (iI (zN T t b)) 0 (mA (mZ (mZ (sf (mK M b s) 19 (iI (nf + 1))) (p1 T t b) (zN T t b)) (p1 T t (p2 T t b)) (zN T t (p2 T t b))) (p2 T t (p2 T t b))) → e_X7_takeCell_mod_readFish 0 (sf (mA (mK M b s) b) 19 ((mA (mK M b s) b).1 19 + 1)) Q := by
        intro Q hq
        refine fish_pre h15 hcn (mst _ ?_)
        intro v3 e3
        have e3' : v3 = iI (zN T t b) := e3
        rw [e3', e16]
        exact ⟨fun _ => mst1 _ hq, fun c => absurd (by decide) c⟩
      by_cases free : C.2.1 20 ((zN T t (p2 T t b)) * w + (zN T t b)).toNat = 0
      · have neg : M.2.1 14 ((zN T t (p2 T t b)) * w + (zN T t b)).toNat < 0 := by
          rcases rs with h | ⟨z, h⟩
          · rw [h.2.2]
            decide
          · exfalso
            rw [h.2.2.2.1] at free
            exact absurd free (by decide)
        have cst1 : ∀ X, R73 (nI 3) 3 2 (cA (sa (sa (sa C 19 3 (iI (nf + 1))) 18 0 (iI (zN T t b))) 18 1 (iI (zN T t (p2 T t b)))) (p2 T t (p2 T t b))) X → R73 (nI 3) 3 0 (cA (sa C 19 3 (iI (nf + 1))) b) X := fun X h => cst X (r_ok (C := (sa (sa C 19 3 (iI (nf + 1))) 18 0 (iI (zN T t b)))) ht hC hp0.2.2 h13 (by decide) (by decide) (by decide) bhd (fun _ _ h => le31 h) (fun _ h => mo31 q1.2.2.1 h) o1 (cc.1 free) h)
        have go : ∀ Q : Int32 → vS → Prop, e_X7_into_mod_readFish (nI ((zN T t (p2 T t b)) * w + (zN T t b)).toNat) (iI 0) (iI 99) (mA (mZ (mZ (sf (mK M b s) 19 (iI (nf + 1))) (p1 T t b) (zN T t b)) (p1 T t (p2 T t b)) (zN T t (p2 T t b))) (p2 T t (p2 T t b))) (fun r S => Q r S) → e_X7_takeCell_mod_readFish_37 Q 0 (iI (zN T t b)) 0 (mA (mZ (mZ (sf (mK M b s) 19 (iI (nf + 1))) (p1 T t b) (zN T t b)) (p1 T t (p2 T t b)) (zN T t (p2 T t b))) (p2 T t (p2 T t b))) := by
          intro Q h
          unfold e_X7_takeCell_mod_readFish_37
          refine ⟨fun _ v8 e8 => ?_, fun c => absurd (by decide) c⟩
          rw [e8, ev, cl_nI (by omega), er]
          exact ⟨in_nI j2 (by omega), fun _ => h, fun c => absurd neg c⟩
        by_cases o2 : nOK T t (p2 T t (p2 T t b)) 0 99
        · have z2 : 0 ≤ (zN T t (p2 T t (p2 T t b))) ∧ (zN T t (p2 T t (p2 T t b))) ≤ 99 := o2.2.2
          have mst2 := ok_readFish (i := ((zN T t (p2 T t b)) * w + (zN T t b)).toNat) j2 (m_num ht hM3 hp1.2.2 (lo := 0) (hi := 99) (by decide) (by decide) o2)
          refine oc_e (C2 := (sa (sa (sa (sa C 19 3 (iI (nf + 1))) 18 0 (iI (zN T t b))) 18 1 (iI (zN T t (p2 T t b)))) 18 2 (iI (zN T t (p2 T t (p2 T t b)))))) (N := (sa (mZ (mZ (mZ (sf (mK M b s) 19 (iI (nf + 1))) (p1 T t b) (zN T t b)) (p1 T t (p2 T t b)) (zN T t (p2 T t b))) (p1 T t (p2 T t (p2 T t b))) (zN T t (p2 T t (p2 T t b)))) 14 ((zN T t (p2 T t b)) * w + (zN T t b)).toNat (iI (zN T t (p2 T t (p2 T t b)))))) ht (by decide) (fun X h => cst1 X (r_ok (C := (sa (sa (sa C 19 3 (iI (nf + 1))) 18 0 (iI (zN T t b))) 18 1 (iI (zN T t (p2 T t b))))) ht hC hp1.2.2 h13 (by decide) (by decide) (by decide) (by decide) (fun _ _ h => le32 h) (fun _ h => mo32 h) o2 (cl32 _) h)) (tk3 (fun Q hq => pre _ (go _ (mst2 _ hq)))) hC hM fC4 (frL_sa (frL_Z fM3 _ _) (by decide) (by decide) _ _) h13 hp2.2.2 (by omega) (fun y hy => ⟨sa (sa (cA (sa (sa (sa (sa C 19 3 (iI (nf + 1))) 18 0 (iI (zN T t b))) 18 1 (iI (zN T t (p2 T t b)))) 18 2 (iI (zN T t (p2 T t (p2 T t b))))) y) 13 ((zN T t (p2 T t b)) * w + (zN T t b)).toNat (iI (zN T t (p2 T t (p2 T t b))))) 20 ((zN T t (p2 T t b)) * w + (zN T t b)).toNat 1, fun Q hq => ?_, ?_⟩)
          · unfold e_X3_put e_X2_numberOf_draft
            have ix := ix_at (S := cA (sa (sa (sa (sa C 19 3 (iI (nf + 1))) 18 0 (iI (zN T t b))) 18 1 (iI (zN T t (p2 T t b)))) 18 2 (iI (zN T t (p2 T t (p2 T t b))))) y) (w := w) (x := (zN T t b)) (z := (zN T t (p2 T t b))) q1.1 rfl j0 j1
            have f1 : (cA (sa (sa (sa (sa C 19 3 (iI (nf + 1))) 18 0 (iI (zN T t b))) 18 1 (iI (zN T t (p2 T t b)))) 18 2 (iI (zN T t (p2 T t (p2 T t b))))) y).2.1 18 (1 : Int32).toNatClampNeg = iI (zN T t (p2 T t b)) := rfl
            refine ⟨fun c => absurd c (by decide), fun c => absurd c (by decide), fun c => absurd c (by decide), fun c => absurd c (by decide), fun _ => ?_, fun c => absurd c (by decide)⟩
            rw [f1]
            refine ⟨ix.1, ?_⟩
            rw [ix.2]
            exact fun S15 e15 S16 e16 => by rw [e16, e15]; exact hq
          · refine ⟨⟨hC, hM⟩, ⟨frC_sa (frC_sa (frC_A fC4 _) (by decide) (by decide) _ _) (by decide) (by decide) _ _, frL_A (frL_sa (frL_Z fM3 _ _) (by decide) (by decide) _ _) _⟩, ⟨rfl, rfl⟩, h13, ⟨h14, m10⟩, w, d, n, ms, ns, nf + 1, rW_of q1 rfl rfl rfl rfl rfl, rD_of q2 rfl rfl rfl rfl rfl rfl rfl rfl rfl, rS_of q3 rfl rfl rfl rfl, ?_, rM_of q5 rfl rfl rfl rfl rfl rfl rfl, rH_of q6 rfl rfl rfl rfl rfl⟩
            have cb := q4.2.2.1
            refine ⟨rfl, rfl, by omega, fun k hk => ?_⟩
            have r13 : (sa (sa (cA (sa (sa (sa (sa C 19 3 (iI (nf + 1))) 18 0 (iI (zN T t b))) 18 1 (iI (zN T t (p2 T t b)))) 18 2 (iI (zN T t (p2 T t (p2 T t b))))) y) 13 ((zN T t (p2 T t b)) * w + (zN T t b)).toNat (iI (zN T t (p2 T t (p2 T t b))))) 20 ((zN T t (p2 T t b)) * w + (zN T t b)).toNat 1).2.1 13 = upd (C.2.1 13) ((zN T t (p2 T t b)) * w + (zN T t b)).toNat (iI (zN T t (p2 T t (p2 T t b)))) := rfl
            have r20 : (sa (sa (cA (sa (sa (sa (sa C 19 3 (iI (nf + 1))) 18 0 (iI (zN T t b))) 18 1 (iI (zN T t (p2 T t b)))) 18 2 (iI (zN T t (p2 T t (p2 T t b))))) y) 13 ((zN T t (p2 T t b)) * w + (zN T t b)).toNat (iI (zN T t (p2 T t (p2 T t b))))) 20 ((zN T t (p2 T t b)) * w + (zN T t b)).toNat 1).2.1 20 = upd (C.2.1 20) ((zN T t (p2 T t b)) * w + (zN T t b)).toNat 1 := rfl
            have s14 : (mA (sa (mZ (mZ (mZ (sf (mK M b s) 19 (iI (nf + 1))) (p1 T t b) (zN T t b)) (p1 T t (p2 T t b)) (zN T t (p2 T t b))) (p1 T t (p2 T t (p2 T t b))) (zN T t (p2 T t (p2 T t b)))) 14 ((zN T t (p2 T t b)) * w + (zN T t b)).toNat (iI (zN T t (p2 T t (p2 T t b))))) y).2.1 14 = upd (M.2.1 14) ((zN T t (p2 T t b)) * w + (zN T t b)).toNat (iI (zN T t (p2 T t (p2 T t b)))) := rfl
            rw [r13, r20, s14]
            by_cases e : k = ((zN T t (p2 T t b)) * w + (zN T t b)).toNat
            · rw [e]
              exact Or.inr ⟨(zN T t (p2 T t (p2 T t b))), z2.1, z2.2, pk_us, pk_us, pk_us⟩
            · rw [pk_un e, pk_un e, pk_un e]
              exact q4.2.2.2 k hk
        · refine oc_f (cst1 _ (r_no (C := (sa (sa (sa C 19 3 (iI (nf + 1))) 18 0 (iI (zN T t b))) 18 1 (iI (zN T t (p2 T t b))))) ht hC hp1.2.2 h13 (by decide) (by decide) (by decide) (by decide) (fun _ _ h => le32 h) (fun _ h => mo32 h) o2)) (fcx (C := (sa (sa (sa C 19 3 (iI (nf + 1))) 18 0 (iI (zN T t b))) 18 1 (iI (zN T t (p2 T t b))))) hC fC3 hp2.2.2) ?_ ncd14
          obtain ⟨N, n1, n2, n3⟩ := no_readFish (i := ((zN T t (p2 T t b)) * w + (zN T t b)).toNat) j2 (fm_num ht hM3 fM3 hp1.2.2 (lo := 0) (hi := 99) (by decide) (by decide) o2)
          exact ⟨N, n1, n2, tk3 (fun Q hq => pre _ (go _ (n3 _ hq)))⟩
      · have neg : ¬ M.2.1 14 ((zN T t (p2 T t b)) * w + (zN T t b)).toNat < 0 := by
          rcases rs with h | ⟨z, h⟩
          · exact absurd h.2.1 free
          · rw [h.2.2.2.2, L0, iI_lt (sm_of (by omega) (by omega)) (sm_of (by decide) (by decide))]
            omega
        refine oc_f (cst _ (r_cl (C := (sa (sa C 19 3 (iI (nf + 1))) 18 0 (iI (zN T t b)))) ht hC hp0.2.2 h13 (by decide) (by decide) (by decide) bhd (fun _ _ h => le31 h) (fun _ h => mo31 q1.2.2.1 h) o1 (cc.2 (by rcases rs with h | ⟨z, h⟩; exact absurd h.2.1 free; exact h.2.2.2.1)))) (fcx (C := (sa (sa C 19 3 (iI (nf + 1))) 18 0 (iI (zN T t b)))) hC fC2 hp1.2.2) ?_ (by decide)
        refine ⟨sf (mA (mZ (mZ (sf (mK M b s) 19 (iI (nf + 1))) (p1 T t b) (zN T t b)) (p1 T t (p2 T t b)) (zN T t (p2 T t b))) (p2 T t (p2 T t b))) 10 (nI (p1 T t (p2 T t b))), frL_sf (frL_A fM3 _) (by decide) (by decide) _, rfl, tk3 (fun Q hq => pre _ ?_)⟩
        unfold e_X7_takeCell_mod_readFish_37 e_X7_fails
        refine ⟨fun _ v8 e8 => ?_, fun c => absurd (by decide) c⟩
        rw [e8, ev, cl_nI (by omega), er]
        exact ⟨in_nI j2 (by omega), fun c => absurd c neg, fun _ S1 e1 => by rw [e1]; exact hq⟩
    · refine oc_f (cst _ (r_no (C := (sa (sa C 19 3 (iI (nf + 1))) 18 0 (iI (zN T t b)))) ht hC hp0.2.2 h13 (by decide) (by decide) (by decide) bhd (fun _ _ h => le31 h) (fun _ h => mo31 q1.2.2.1 h) o1)) (fcx (C := (sa (sa C 19 3 (iI (nf + 1))) 18 0 (iI (zN T t b)))) hC fC2 hp1.2.2) ?_ ncd14
      obtain ⟨N, n1, n2, n3⟩ := fm_num ht hM2 fM2 hp0.2.2 (lo := 0) (hi := d - 1) (by decide) bhd o1
      refine ⟨N, n1, n2, tk3 (fun Q hq => fish_pre h15 hcn (mst _ ?_))⟩
      intro v3 e3
      rw [e16]
      refine ⟨fun _ => n3 _ ?_, fun c => absurd (by decide) c⟩
      unfold e_X7_takeCell_mod_readFish_37
      exact ⟨fun c => absurd c (nle ncd14), fun _ => hq⟩
  · refine oc_f (r_no (C := (sa C 19 3 (iI (nf + 1)))) ht hC hb h13 (by decide) (by decide) (by decide) bhi (fun _ _ h => le30 h) (fun _ h => mo30 q1.1 h) o0) (fcx (C := (sa C 19 3 (iI (nf + 1)))) hC fC1 hp0.2.2) ?_ ncd14
    obtain ⟨N, n1, n2, n3⟩ := fm_num ht hM1 fM1 hb (lo := 0) (hi := w - 1) (by decide) bhi o0
    refine ⟨N, n1, n2, tk3 (fun Q hq => fish_pre h15 hcn (n3 _ ?_))⟩
    intro v3 e3
    refine ⟨fun c => absurd c (nle ncd14), fun _ => ?_⟩
    unfold e_X7_takeCell_mod_readFish_37
    exact ⟨fun c => absurd c (nle ncd14), fun _ => hq⟩
end TT
