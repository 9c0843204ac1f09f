/-! ===== lake: a clause on both sides ===== -/
theorem vl4 : ∀ k, k < 6 → 4 ≤ vlen k := by decide
section TT
variable {C M C0 M0 X : vS} {T : Nat → Int} {t a : Nat}
theorem oc_lift {b : Nat} {e1 e1' : (vS → Prop) → Prop} {e2 e2' : (Int32 → vS → Prop) → Prop} (hC : ∀ X, runU e1 X → runU e1' X) (hM : ∀ r N, runV e2 r N → runV e2' r N) (h : OC T t C0 M0 b e1 e2) : OC T t C0 M0 b e1' e2' := by
  rcases h with ⟨C, M, a, h1, h2, h3, h4, h5⟩ | ⟨C, M, k, h1, h2, h3⟩
  · exact Or.inl ⟨C, M, a, h1, h2, hC _ h3, hM _ _ h4, h5⟩
  · exact Or.inr ⟨C, M, k, hC _ h1, hM _ _ h2, h3⟩
theorem oc_ff {b : Nat} {e1 : (vS → Prop) → Prop} {e2 : (Int32 → vS → Prop) → Prop} {z : Int} {f : Nat} (cR : runU e1 X) (fx : FCx T t C0 X z f) (mR : FM M0 e2 z f) (hz : 1 ≤ z ∧ z ≤ 4) : OC T t C0 M0 b e1 e2 := by
  obtain ⟨N, n1, n2, n3⟩ := mR
  exact Or.inr ⟨X, N, z, cR, n3, fx.1, ⟨fx.2.1, n1⟩, fx.2.2.1, hz, ⟨f, fx.2.2.2.1, n2⟩, fx.2.2.2.2⟩
theorem kd_bd {b : Nat} {k : Int} (hk : kd T a b k) : -1 ≤ k ∧ k < 6 := by
  rcases hk with ⟨k1, k2, -⟩ | ⟨k1, -⟩ <;> omega
theorem c_none (ht : okT T t) (hC : txC T t C) (ha : a ≤ t) {k : Int} (hk : kd T a (lr T t a) k) (h : k = -1 ∨ (0 < k ∧ C.2.1 19 0 = 0)) : runU (e_X3_readStatement (cA C a)) (cF (cA C (lr T t a)) 1 a) := by
  intro Q hq
  unfold e_X3_readStatement
  intro v1 e1
  have e1' : v1 = nI a := e1
  refine pC_kind ht hC ha hk _ ?_
  rw [e1']
  have fl : e_X3_fail 1 (nI a) (cA C (lr T t a)) (fun S => Q S) := by
    unfold e_X3_fail
    intro S1 f1 S2 f2
    rw [f2, f1]
    exact hq
  have kb := kd_bd hk
  have em : iI k = -1 ↔ k = -1 := by rw [show (-1 : Int32) = iI (-1) from rfl, iI_eq (sm_of (by omega) (by omega)) (sm_of (by decide) (by decide))]
  have e0 : iI k = 0 ↔ k = 0 := by rw [L0, iI_eq (sm_of (by omega) (by omega)) (sm_of (by decide) (by decide))]
  rw [em, e0]
  rcases h with h | ⟨h1, h2⟩
  · exact ⟨fun _ => fl, fun c => absurd h c⟩
  · exact ⟨fun c => absurd c (by omega), fun _ => ⟨fun c => absurd c (by omega), fun _ => ⟨fun c => absurd h2 c, fun _ => fl⟩⟩⟩
theorem c_35 (ht : okT T t) (hC : txC T t C) (ha : a ≤ t) {k : Nat} (hk : kd T a (lr T t a) (k : Int)) (h0 : k = 0 ∨ ¬ C.2.1 19 0 = 0) {Q : vS → Prop} (h : e_X3_readStatement_35 Q (nI a) (nI k) (cA C (lr T t a))) : e_X3_readStatement (cA C a) Q := by
  unfold e_X3_readStatement
  intro v1 e1
  have e1' : v1 = nI a := e1
  refine pC_kind ht hC ha hk _ ?_
  have kb := kd_bd hk
  have em : iI (k : Int) = -1 ↔ (k : Int) = -1 := by rw [show (-1 : Int32) = iI (-1) from rfl, iI_eq (sm_of (by omega) (by omega)) (sm_of (by decide) (by decide))]
  have e0 : iI (k : Int) = 0 ↔ (k : Int) = 0 := by rw [L0, iI_eq (sm_of (by omega) (by omega)) (sm_of (by decide) (by decide))]
  rw [e1', em, e0, ← iI_nat]
  refine ⟨fun c => absurd c (by omega), fun _ => ⟨fun _ => h, fun c => ⟨fun _ => h, fun c2 => ?_⟩⟩⟩
  rcases h0 with h0 | h0
  · exact absurd (by omega) c
  · exact absurd c2 h0
theorem c_full (ht : okT T t) (hC : txC T t C) (ha : a ≤ t) {k : Nat} (hk : kd T a (lr T t a) (k : Int)) (h0 : k = 0 ∨ ¬ C.2.1 19 0 = 0) {c : Int} (hc : C.2.1 19 k = iI c) (cb : 0 ≤ c ∧ c ≤ 100) (hf : ¬ c < tms k) : runU (e_X3_readStatement (cA C a)) (cF (cA C (lr T t a)) 3 a) := by
  intro Q hq
  have kb := kd_bd hk
  refine c_35 ht hC ha hk h0 ?_
  unfold e_X3_readStatement_35
  have tb : 0 ≤ tms k ∧ tms k ≤ 100 := by unfold tms; split <;> (try split) <;> (try split) <;> (try split) <;> decide
  refine ⟨in_nI (by omega) (by omega), tim (by omega) ?_⟩
  have e1 : (cA C (lr T t a)).2.1 19 k = iI c := hc
  rw [cl_nI (by omega), e1, iI_lt (sm_of (by omega) (by omega)) (sm_of (by omega) (by omega))]
  refine ⟨fun c => absurd c hf, fun _ => ?_⟩
  unfold e_X3_fail
  intro S1 f1 S2 f2
  rw [f2, f1]
  exact hq
theorem c_go (ht : okT T t) (hC : txC T t C) (ha : a ≤ t) {k : Nat} (hk : kd T a (lr T t a) (k : Int)) (h0 : k = 0 ∨ ¬ C.2.1 19 0 = 0) {c : Int} (hc : C.2.1 19 k = iI c) (cb : 0 ≤ c ∧ c ≤ 100) (hf : c < tms k) (h : runU (eC k (pts k) (cA (sa C 19 k (iI (c + 1))) (lr T t a))) X) : runU (e_X3_readStatement (cA C a)) X := by
  intro Q hq
  have kb := kd_bd hk
  refine c_35 ht hC ha hk h0 ?_
  unfold e_X3_readStatement_35
  have tb : 0 ≤ tms k ∧ tms k ≤ 100 := by unfold tms; split <;> (try split) <;> (try split) <;> (try split) <;> decide
  refine ⟨in_nI (by omega) (by omega), tim (by omega) ?_⟩
  have e1 : (cA C (lr T t a)).2.1 19 k = iI c := hc
  rw [cl_nI (by omega), e1, iI_lt (sm_of (by omega) (by omega)) (sm_of (by omega) (by omega))]
  refine ⟨fun _ S15 e15 => par (by omega) ⟨pts k + 1, ?_⟩, fun c => absurd hf c⟩
  rw [L1, iI_add, cA_sa] at e15
  rw [e15]
  exact h Q hq
theorem m_168 (ht : okT T t) (hM : txM T t M) (ha : a ≤ t) (hb : sk T t a = a) {k : Int} (hk : kd T a (lr T t a) k) (h : k = -1 ∨ (0 < k ∧ M.1 15 = 0)) (fM : frL M0 M) : FM M0 (e_X7_takeClause (mA M a)) 1 a := by
  refine ⟨sf (mW M a (lr T t a) (sayF T a (lr T t a - a))) 10 (nI a), frL_sf (by rw [mW_A]; exact frL_A (frL_K fM _ _) _) (by decide) (by decide) _, rfl, fun Q hq => pM_kind ht hM ha hb hk ?_⟩
  have kb := kd_bd hk
  unfold e_X7_takeClause_168 e_X7_fails
  have el : iI k < 0 ↔ k < 0 := by rw [L0, iI_lt (sm_of (by omega) (by omega)) (sm_of (by decide) (by decide))]
  have ee : iI k ≤ 0 ↔ k ≤ 0 := by rw [L0, iI_le (sm_of (by omega) (by omega)) (sm_of (by decide) (by decide))]
  rw [el, ee]
  rcases h with h | ⟨h1, h2⟩
  · exact ⟨fun _ S1 e1 => by rw [e1]; exact hq, fun c => absurd (by omega) c⟩
  · exact ⟨fun c => absurd c (by omega), fun _ => ⟨fun c => absurd c (by omega), fun _ => ⟨fun c => absurd h2 c, fun _ S1 e1 => by rw [e1]; exact hq⟩⟩⟩
theorem m_194 (ht : okT T t) (hM : txM T t M) (ha : a ≤ t) (hb : sk T t a = a) {k : Nat} (hk : kd T a (lr T t a) (k : Int)) (h0 : k = 0 ∨ ¬ M.1 15 = 0) {Q : Int32 → vS → Prop} (h : e_X7_takeClause_194 Q (nI k) (mW M a (lr T t a) (sayF T a (lr T t a - a)))) : e_X7_takeClause (mA M a) Q := by
  refine pM_kind ht hM ha hb hk ?_
  have kb := kd_bd hk
  unfold e_X7_takeClause_168
  have el : iI (k : Int) < 0 ↔ (k : Int) < 0 := by rw [L0, iI_lt (sm_of (by omega) (by omega)) (sm_of (by decide) (by decide))]
  have ee : iI (k : Int) ≤ 0 ↔ (k : Int) ≤ 0 := by rw [L0, iI_le (sm_of (by omega) (by omega)) (sm_of (by decide) (by decide))]
  rw [el, ee, ← iI_nat]
  refine ⟨fun c => absurd c (by omega), fun _ => ⟨fun _ => h, fun c => ⟨fun _ => h, fun c2 => ?_⟩⟩⟩
  rcases h0 with h0 | h0
  · exact absurd (by omega) c
  · exact absurd c2 h0
theorem m_full (ht : okT T t) (hM : txM T t M) (ha : a ≤ t) (hb : sk T t a = a) {k : Nat} (hk : kd T a (lr T t a) (k : Int)) (h0 : k = 0 ∨ ¬ M.1 15 = 0) (fM : frL M0 M) (h : ∀ Q : Int32 → vS → Prop, e_X7_takeClause_313 Q (nI k) 1 (mW M a (lr T t a) (sayF T a (lr T t a - a))) → e_X7_takeClause_194 Q (nI k) (mW M a (lr T t a) (sayF T a (lr T t a - a)))) : FM M0 (e_X7_takeClause (mA M a)) 3 a := by
  refine ⟨sf (mW M a (lr T t a) (sayF T a (lr T t a - a))) 10 (nI a), frL_sf (by rw [mW_A]; exact frL_A (frL_K fM _ _) _) (by decide) (by decide) _, rfl, fun Q hq => m_194 ht hM ha hb hk h0 (h Q ?_)⟩
  unfold e_X7_takeClause_313 e_X7_fails
  exact ⟨fun c => absurd c (by decide), fun _ S1 e1 => by rw [e1]; exact hq⟩
theorem lr_gt {k : Nat} (hk : kd T a (lr T t a) (k : Int)) : a < lr T t a := by
  have kb := kd_bd hk
  rcases hk with ⟨-, -, m, -⟩ | ⟨k1, -⟩
  · have h1 := m.1
    have h2 := vl4 k (by omega)
    have e : (k : Int).toNat = k := by omega
    rw [e] at h1
    omega
  · omega
theorem m194_0 {S : vS} {Q : Int32 → vS → Prop} (h0 : S.1 15 ≤ 0 → e_X7_takeClause_313 Q (nI 0) 0 S) (h1 : ¬ S.1 15 ≤ 0 → e_X7_takeClause_313 Q (nI 0) 1 S) : e_X7_takeClause_194 Q (nI 0) S := by
  unfold e_X7_takeClause_194
  exact ⟨fun c => absurd rfl c, fun _ => ⟨h0, h1⟩⟩
theorem m194_1 {S : vS} {Q : Int32 → vS → Prop} (h0 : ¬ S.1 17 = 6 → e_X7_takeClause_313 Q (nI 1) 0 S) (h1 : S.1 17 = 6 → e_X7_takeClause_313 Q (nI 1) 1 S) : e_X7_takeClause_194 Q (nI 1) S := by
  unfold e_X7_takeClause_194
  exact ⟨fun _ => ⟨fun c => absurd rfl c, fun _ => ⟨h0, h1⟩⟩, fun c => absurd c (by decide)⟩
theorem m194_2 {S : vS} {Q : Int32 → vS → Prop} (h0 : ¬ S.1 18 = 30 → e_X7_takeClause_313 Q (nI 2) 0 S) (h1 : S.1 18 = 30 → e_X7_takeClause_313 Q (nI 2) 1 S) : e_X7_takeClause_194 Q (nI 2) S := by
  unfold e_X7_takeClause_194
  exact ⟨fun _ => ⟨fun _ => ⟨fun c => absurd rfl c, fun _ => ⟨h0, h1⟩⟩, fun c => absurd c (by decide)⟩, fun c => absurd c (by decide)⟩
theorem m194_3 {S : vS} {Q : Int32 → vS → Prop} (h0 : ¬ S.1 19 = 30 → e_X7_takeClause_313 Q (nI 3) 0 S) (h1 : S.1 19 = 30 → e_X7_takeClause_313 Q (nI 3) 1 S) : e_X7_takeClause_194 Q (nI 3) S := by
  unfold e_X7_takeClause_194
  exact ⟨fun _ => ⟨fun _ => ⟨fun _ => ⟨fun c => absurd rfl c, fun _ => ⟨h0, h1⟩⟩, fun c => absurd c (by decide)⟩, fun c => absurd c (by decide)⟩, fun c => absurd c (by decide)⟩
theorem m194_4 {S : vS} {Q : Int32 → vS → Prop} (h0 : ¬ S.1 20 = 10 → e_X7_takeClause_313 Q (nI 4) 0 S) (h1 : S.1 20 = 10 → e_X7_takeClause_313 Q (nI 4) 1 S) : e_X7_takeClause_194 Q (nI 4) S := by
  unfold e_X7_takeClause_194
  exact ⟨fun _ => ⟨fun _ => ⟨fun _ => ⟨fun _ => ⟨fun c => absurd rfl c, fun _ => ⟨h0, h1⟩⟩, fun c => absurd c (by decide)⟩, fun c => absurd c (by decide)⟩, fun c => absurd c (by decide)⟩, fun c => absurd c (by decide)⟩
theorem m194_5 {S : vS} {Q : Int32 → vS → Prop} (h0 : S.1 21 ≤ 0 → e_X7_takeClause_313 Q (nI 5) 0 S) (h1 : ¬ S.1 21 ≤ 0 → e_X7_takeClause_313 Q (nI 5) 1 S) : e_X7_takeClause_194 Q (nI 5) S := by
  unfold e_X7_takeClause_194
  exact ⟨fun _ => ⟨fun _ => ⟨fun _ => ⟨fun _ => ⟨fun _ => ⟨h0, h1⟩, fun c => absurd c (by decide)⟩, fun c => absurd c (by decide)⟩, fun c => absurd c (by decide)⟩, fun c => absurd c (by decide)⟩, fun c => absurd c (by decide)⟩
theorem cla1 (ht : okT T t) (hC : txC T t C) (hM : txM T t M) (fC : frC C0 C) (fM : frL M0 M) (h13 : C.1 13 = 0) (h14 : C.1 14 = -1) (m10 : M.1 10 = -1) {w d n ms ns nf : Int} (q1 : rW C M w d) (q2 : rD C M w n) (q3 : rS C M ns) (q4 : rF C M nf) (q5 : rM C M ms) (q6 : rH C M) (ha : a < t) (hb : sk T t a = a) (hk : kd T a (lr T t a) ((1 : Nat) : Int)) (w1 : 0 < w) : OC T t C0 M0 a (e_X3_readStatement (cA C a)) (e_X7_takeClause (mA M a)) := by
  have hl := lr_le (T := T) (Nat.le_of_lt ha)
  have wb := q1.2.2.2.2.2.1
  have bd := q2.2.2.2.1
  have c0 : (1 : Nat) = 0 ∨ ¬ C.2.1 19 0 = 0 := by
    right
    rw [q1.2.2.2.2.1, if_pos w1]
    decide
  have m0 : (1 : Nat) = 0 ∨ ¬ M.1 15 = 0 := by
    right
    rw [q1.2.1]
    exact (ne0 ⟨w1, by omega⟩).1
  have em : (mW M a (lr T t a) (sayF T a (lr T t a - a))).1 17 = 6 ↔ n = 6 := by
    have e : (mW M a (lr T t a) (sayF T a (lr T t a - a))).1 17 = iI n := q2.2.1
    rw [e, show (6 : Int32) = iI 6 from rfl, iI_eq (sm_of (by omega) (by omega)) (sm_of (by decide) (by decide))]
  have tk : tms 1 = 6 := rfl
  by_cases n6 : n < 6
  · refine oc_lift (fun X h => c_go ht hC (by omega) hk c0 q2.2.2.1 (by omega) (by rw [tk]; exact n6) h) (fun r N h Q hq => m_194 ht hM (by omega) hb hk m0 (m194_1 (fun _ => h Q hq) (fun c => absurd (em.mp c) (by omega)))) (k_door ht hC hM fC fM h13 h14 m10 q1 q2 q3 q4 q5 q6 (lr_gt hk) hl.2 _ w1 n6)
  · refine oc_ff (c_full ht hC (by omega) hk c0 q2.2.2.1 (by omega) (by rw [tk]; exact n6)) (fcx hC fC hl.2) (m_full ht hM (by omega) hb hk m0 fM (fun Q h => m194_1 (fun c => absurd (em.mpr (by omega)) c) (fun _ => h))) (by decide)
theorem cla2 (ht : okT T t) (hC : txC T t C) (hM : txM T t M) (fC : frC C0 C) (fM : frL M0 M) (h13 : C.1 13 = 0) (h14 : C.1 14 = -1) (m10 : M.1 10 = -1) {w d n ms ns nf : Int} (q1 : rW C M w d) (q2 : rD C M w n) (q3 : rS C M ns) (q4 : rF C M nf) (q5 : rM C M ms) (q6 : rH C M) (ha : a < t) (hb : sk T t a = a) (hk : kd T a (lr T t a) ((2 : Nat) : Int)) (w1 : 0 < w) : OC T t C0 M0 a (e_X3_readStatement (cA C a)) (e_X7_takeClause (mA M a)) := by
  have hl := lr_le (T := T) (Nat.le_of_lt ha)
  have wb := q1.2.2.2.2.2.1
  have bd := q3.2.2.1
  have c0 : (2 : Nat) = 0 ∨ ¬ C.2.1 19 0 = 0 := by
    right
    rw [q1.2.2.2.2.1, if_pos w1]
    decide
  have m0 : (2 : Nat) = 0 ∨ ¬ M.1 15 = 0 := by
    right
    rw [q1.2.1]
    exact (ne0 ⟨w1, by omega⟩).1
  have em : (mW M a (lr T t a) (sayF T a (lr T t a - a))).1 18 = 30 ↔ ns = 30 := by
    have e : (mW M a (lr T t a) (sayF T a (lr T t a - a))).1 18 = iI ns := q3.2.1
    rw [e, show (30 : Int32) = iI 30 from rfl, iI_eq (sm_of (by omega) (by omega)) (sm_of (by decide) (by decide))]
  have tk : tms 2 = 30 := rfl
  by_cases n6 : ns < 30
  · refine oc_lift (fun X h => c_go ht hC (by omega) hk c0 q3.1 (by omega) (by rw [tk]; exact n6) h) (fun r N h Q hq => m_194 ht hM (by omega) hb hk m0 (m194_2 (fun _ => h Q hq) (fun c => absurd (em.mp c) (by omega)))) (k_stand ht hC hM fC fM h13 h14 m10 q1 q2 q3 q4 q5 q6 (lr_gt hk) hl.2 _ w1 n6)
  · refine oc_ff (c_full ht hC (by omega) hk c0 q3.1 (by omega) (by rw [tk]; exact n6)) (fcx hC fC hl.2) (m_full ht hM (by omega) hb hk m0 fM (fun Q h => m194_2 (fun c => absurd (em.mpr (by omega)) c) (fun _ => h))) (by decide)
theorem cla3 (ht : okT T t) (hC : txC T t C) (hM : txM T t M) (fC : frC C0 C) (fM : frL M0 M) (h13 : C.1 13 = 0) (h14 : C.1 14 = -1) (m10 : M.1 10 = -1) {w d n ms ns nf : Int} (q1 : rW C M w d) (q2 : rD C M w n) (q3 : rS C M ns) (q4 : rF C M nf) (q5 : rM C M ms) (q6 : rH C M) (ha : a < t) (hb : sk T t a = a) (hk : kd T a (lr T t a) ((3 : Nat) : Int)) (w1 : 0 < w) : OC T t C0 M0 a (e_X3_readStatement (cA C a)) (e_X7_takeClause (mA M a)) := by
  have hl := lr_le (T := T) (Nat.le_of_lt ha)
  have wb := q1.2.2.2.2.2.1
  have bd := q4.2.2.1
  have c0 : (3 : Nat) = 0 ∨ ¬ C.2.1 19 0 = 0 := by
    right
    rw [q1.2.2.2.2.1, if_pos w1]
    decide
  have m0 : (3 : Nat) = 0 ∨ ¬ M.1 15 = 0 := by
    right
    rw [q1.2.1]
    exact (ne0 ⟨w1, by omega⟩).1
  have em : (mW M a (lr T t a) (sayF T a (lr T t a - a))).1 19 = 30 ↔ nf = 30 := by
    have e : (mW M a (lr T t a) (sayF T a (lr T t a - a))).1 19 = iI nf := q4.2.1
    rw [e, show (30 : Int32) = iI 30 from rfl, iI_eq (sm_of (by omega) (by omega)) (sm_of (by decide) (by decide))]
  have tk : tms 3 = 30 := rfl
  by_cases n6 : nf < 30
  · refine oc_lift (fun X h => c_go ht hC (by omega) hk c0 q4.1 (by omega) (by rw [tk]; exact n6) h) (fun r N h Q hq => m_194 ht hM (by omega) hb hk m0 (m194_3 (fun _ => h Q hq) (fun c => absurd (em.mp c) (by omega)))) (k_fish ht hC hM fC fM h13 h14 m10 q1 q2 q3 q4 q5 q6 (lr_gt hk) hl.2 _ w1 n6)
  · refine oc_ff (c_full ht hC (by omega) hk c0 q4.1 (by omega) (by rw [tk]; exact n6)) (fcx hC fC hl.2) (m_full ht hM (by omega) hb hk m0 fM (fun Q h => m194_3 (fun c => absurd (em.mpr (by omega)) c) (fun _ => h))) (by decide)
theorem cla4 (ht : okT T t) (hC : txC T t C) (hM : txM T t M) (fC : frC C0 C) (fM : frL M0 M) (h13 : C.1 13 = 0) (h14 : C.1 14 = -1) (m10 : M.1 10 = -1) {w d n ms ns nf : Int} (q1 : rW C M w d) (q2 : rD C M w n) (q3 : rS C M ns) (q4 : rF C M nf) (q5 : rM C M ms) (q6 : rH C M) (ha : a < t) (hb : sk T t a = a) (hk : kd T a (lr T t a) ((4 : Nat) : Int)) (w1 : 0 < w) : OC T t C0 M0 a (e_X3_readStatement (cA C a)) (e_X7_takeClause (mA M a)) := by
  have hl := lr_le (T := T) (Nat.le_of_lt ha)
  have wb := q1.2.2.2.2.2.1
  have bd := q5.2.2.2.1
  have c0 : (4 : Nat) = 0 ∨ ¬ C.2.1 19 0 = 0 := by
    right
    rw [q1.2.2.2.2.1, if_pos w1]
    decide
  have m0 : (4 : Nat) = 0 ∨ ¬ M.1 15 = 0 := by
    right
    rw [q1.2.1]
    exact (ne0 ⟨w1, by omega⟩).1
  have em : (mW M a (lr T t a) (sayF T a (lr T t a - a))).1 20 = 10 ↔ ms = 10 := by
    have e : (mW M a (lr T t a) (sayF T a (lr T t a - a))).1 20 = iI ms := q5.2.1
    rw [e, show (10 : Int32) = iI 10 from rfl, iI_eq (sm_of (by omega) (by omega)) (sm_of (by decide) (by decide))]
  have tk : tms 4 = 10 := rfl
  by_cases n6 : ms < 10
  · refine oc_lift (fun X h => c_go ht hC (by omega) hk c0 q5.2.2.1 (by omega) (by rw [tk]; exact n6) h) (fun r N h Q hq => m_194 ht hM (by omega) hb hk m0 (m194_4 (fun _ => h Q hq) (fun c => absurd (em.mp c) (by omega)))) (k_mist ht hC hM fC fM h13 h14 m10 q1 q2 q3 q4 q5 q6 (lr_gt hk) hl.2 _ n6)
  · refine oc_ff (c_full ht hC (by omega) hk c0 q5.2.2.1 (by omega) (by rw [tk]; exact n6)) (fcx hC fC hl.2) (m_full ht hM (by omega) hb hk m0 fM (fun Q h => m194_4 (fun c => absurd (em.mpr (by omega)) c) (fun _ => h))) (by decide)
theorem cla0 (ht : okT T t) (hC : txC T t C) (hM : txM T t M) (fC : frC C0 C) (fM : frL M0 M) (h13 : C.1 13 = 0) (h14 : C.1 14 = -1) (m10 : M.1 10 = -1) {w d n ms ns nf : Int} (q1 : rW C M w d) (q2 : rD C M w n) (q3 : rS C M ns) (q4 : rF C M nf) (q5 : rM C M ms) (q6 : rH C M) (ha : a < t) (hb : sk T t a = a) (hk : kd T a (lr T t a) ((0 : Nat) : Int)) : OC T t C0 M0 a (e_X3_readStatement (cA C a)) (e_X7_takeClause (mA M a)) := by
  have hl := lr_le (T := T) (Nat.le_of_lt ha)
  have wb := q1.2.2.2.2.2.1
  have em : (mW M a (lr T t a) (sayF T a (lr T t a - a))).1 15 ≤ 0 ↔ w ≤ 0 := by
    have e : (mW M a (lr T t a) (sayF T a (lr T t a - a))).1 15 = iI w := q1.2.1
    rw [e, L0, iI_le (sm_of (by omega) (by omega)) (sm_of (by decide) (by decide))]
  have tk : tms 0 = 1 := rfl
  by_cases w0 : w = 0
  · have hc : C.2.1 19 0 = iI 0 := by
      rw [q1.2.2.2.2.1, if_neg (by omega)]
    refine oc_lift (fun X h => c_go ht hC (by omega) hk (Or.inl rfl) hc (by decide) (by rw [tk]; decide) h) (fun r N h Q hq => m_194 ht hM (by omega) hb hk (Or.inl rfl) (m194_0 (fun _ => h Q hq) (fun c => absurd (em.mpr (by omega)) c))) (k_lake ht hC hM fC fM h13 h14 m10 q1 q2 q3 q4 q5 q6 (lr_gt hk) hl.2 _ w0)
  · have hc : C.2.1 19 0 = iI 1 := by
      rw [q1.2.2.2.2.1, if_pos (by omega)]
    refine oc_ff (c_full ht hC (by omega) hk (Or.inl rfl) hc (by decide) (by rw [tk]; decide)) (fcx hC fC hl.2) (m_full ht hM (by omega) hb hk (Or.inl rfl) fM (fun Q h => m194_0 (fun c => absurd (em.mp c) (by omega)) (fun _ => h))) (by decide)
theorem cla5 (ht : okT T t) (hC : txC T t C) (hM : txM T t M) (fC : frC C0 C) (fM : frL M0 M) (h13 : C.1 13 = 0) (h14 : C.1 14 = -1) (m10 : M.1 10 = -1) {w d n ms ns nf : Int} (q1 : rW C M w d) (q2 : rD C M w n) (q3 : rS C M ns) (q4 : rF C M nf) (q5 : rM C M ms) (q6 : rH C M) (ha : a < t) (hb : sk T t a = a) (hk : kd T a (lr T t a) ((5 : Nat) : Int)) (w1 : 0 < w) : OC T t C0 M0 a (e_X3_readStatement (cA C a)) (e_X7_takeClause (mA M a)) := by
  have hl := lr_le (T := T) (Nat.le_of_lt ha)
  have wb := q1.2.2.2.2.2.1
  have c0 : (5 : Nat) = 0 ∨ ¬ C.2.1 19 0 = 0 := by
    right
    rw [q1.2.2.2.2.1, if_pos w1]
    decide
  have m0 : (5 : Nat) = 0 ∨ ¬ M.1 15 = 0 := by
    right
    rw [q1.2.1]
    exact (ne0 ⟨w1, by omega⟩).1
  have tk : tms 5 = 1 := rfl
  rcases id q6 with ⟨g1, g2, g3, g4⟩ | ⟨g1, h, c, hh1, hh2, hc1, hc2, g2, g3, g4, g5⟩
  · have hc : C.2.1 19 5 = iI 0 := g1
    have em : (mW M a (lr T t a) (sayF T a (lr T t a - a))).1 21 ≤ 0 := by
      have e : (mW M a (lr T t a) (sayF T a (lr T t a - a))).1 21 = 0 := g4
      rw [e]
      decide
    refine oc_lift (fun X h => c_go ht hC (by omega) hk c0 hc (by decide) (by rw [tk]; decide) h) (fun r N h Q hq => m_194 ht hM (by omega) hb hk m0 (m194_5 (fun _ => h Q hq) (fun c => absurd em c))) (k_storey ht hC hM fC fM h13 h14 m10 q1 q2 q3 q4 q5 q6 (lr_gt hk) hl.2 _)
  · have hc : C.2.1 19 5 = iI 1 := g1
    have em : ¬ (mW M a (lr T t a) (sayF T a (lr T t a - a))).1 21 ≤ 0 := by
      have e : (mW M a (lr T t a) (sayF T a (lr T t a - a))).1 21 = iI h := g3
      rw [e]
      exact (ne0 ⟨hh1, by omega⟩).2.1
    refine oc_ff (c_full ht hC (by omega) hk c0 hc (by decide) (by rw [tk]; decide)) (fcx hC fC hl.2) (m_full ht hM (by omega) hb hk m0 fM (fun Q h => m194_5 (fun c => absurd c em) (fun _ => h))) (by decide)
theorem clause (ht : okT T t) (ha : a < t) (hb : sk T t a = a) (h : PR T t C0 M0 a C M) : OC T t C0 M0 a (e_X3_readStatement C) (e_X7_takeClause M) := by
  obtain ⟨⟨h1, h2⟩, ⟨h3, h4⟩, ⟨h5, h6⟩, h7, h8, w, d, n, ms, ns, nf, q1, q2, q3, q4, q5, q6⟩ := h
  have e1 : C = cA C a := (sf_self h5).symm
  have e2 : M = mA M a := (sf_self h6).symm
  have hl := lr_le (T := T) (Nat.le_of_lt ha)
  have wb := q1.2.2.2.2.2.1
  rw [e1, e2]
  obtain ⟨k, hk⟩ := kd_ex T a (lr T t a)
  have kb := kd_bd hk
  have none : (k = -1 ∨ (0 < k ∧ w = 0)) → OC T t C0 M0 a (e_X3_readStatement (cA C a)) (e_X7_takeClause (mA M a)) := by
    intro hn
    have c1 : k = -1 ∨ (0 < k ∧ C.2.1 19 0 = 0) := by
      rcases hn with hn | ⟨hn, hw⟩
      · exact Or.inl hn
      · refine Or.inr ⟨hn, ?_⟩
        rw [q1.2.2.2.2.1, if_neg (by omega)]
        rfl
    have m1 : k = -1 ∨ (0 < k ∧ M.1 15 = 0) := by
      rcases hn with hn | ⟨hn, hw⟩
      · exact Or.inl hn
      · refine Or.inr ⟨hn, ?_⟩
        rw [q1.2.1, hw]
        rfl
    exact oc_ff (c_none ht h1 (by omega) hk c1) (fcx h1 h3 hl.2) (m_168 ht h2 (by omega) hb hk m1 h4) (by decide)
  by_cases k1 : k = -1
  · exact none (Or.inl k1)
  · by_cases k0 : k = 0
    · rw [k0] at hk
      exact cla0 ht h1 h2 h3 h4 h7 h8.1 h8.2 q1 q2 q3 q4 q5 q6 ha hb hk
    · by_cases w0 : w = 0
      · exact none (Or.inr ⟨by omega, w0⟩)
      · have w1 : 0 < w := by omega
        have : k = 1 ∨ k = 2 ∨ k = 3 ∨ k = 4 ∨ k = 5 := by omega
        rcases this with e | e | e | e | e <;> rw [e] at hk
        · exact cla1 ht h1 h2 h3 h4 h7 h8.1 h8.2 q1 q2 q3 q4 q5 q6 ha hb hk w1
        · exact cla2 ht h1 h2 h3 h4 h7 h8.1 h8.2 q1 q2 q3 q4 q5 q6 ha hb hk w1
        · exact cla3 ht h1 h2 h3 h4 h7 h8.1 h8.2 q1 q2 q3 q4 q5 q6 ha hb hk w1
        · exact cla4 ht h1 h2 h3 h4 h7 h8.1 h8.2 q1 q2 q3 q4 q5 q6 ha hb hk w1
        · exact cla5 ht h1 h2 h3 h4 h7 h8.1 h8.2 q1 q2 q3 q4 q5 q6 ha hb hk w1
end TT
