/-! ===== lake: both in the midst of reading ===== -/
def frC (C0 C : vS) : Prop := (∀ j, (j < 6 ∨ 15 < j) → C.1 j = C0.1 j) ∧ ∀ a, (a < 9 ∨ 20 < a) → C.2.1 a = C0.2.1 a
def frL (M0 M : vS) : Prop := (∀ j, (j < 9 ∨ 22 < j) → M.1 j = M0.1 j) ∧ ∀ a, (a < 9 ∨ 15 < a) → M.2.1 a = M0.2.1 a
theorem frC_sf {C0 C : vS} (h : frC C0 C) {k : Nat} (h1 : 6 ≤ k) (h2 : k ≤ 15) (x : Int32) : frC C0 (sf C k x) := by
  refine ⟨fun j hj => ?_, h.2⟩
  simp only [sf]
  rw [if_neg (by omega)]
  exact h.1 j hj
theorem frC_sa {C0 C : vS} (h : frC C0 C) {k : Nat} (h1 : 9 ≤ k) (h2 : k ≤ 20) (i : Nat) (x : Int32) : frC C0 (sa C k i x) := by
  refine ⟨h.1, fun a ha => ?_⟩
  rw [sa_ne _ (by omega)]
  exact h.2 a ha
theorem frL_sf {C0 C : vS} (h : frL C0 C) {k : Nat} (h1 : 9 ≤ k) (h2 : k ≤ 22) (x : Int32) : frL C0 (sf C k x) := by
  refine ⟨fun j hj => ?_, h.2⟩
  simp only [sf]
  rw [if_neg (by omega)]
  exact h.1 j hj
theorem frL_sa {C0 C : vS} (h : frL C0 C) {k : Nat} (h1 : 9 ≤ k) (h2 : k ≤ 15) (i : Nat) (x : Int32) : frL C0 (sa C k i x) := by
  refine ⟨h.1, fun a ha => ?_⟩
  rw [sa_ne _ (by omega)]
  exact h.2 a ha
theorem frL_fr {C0 C N : vS} (h : frL C0 C) (h2 : frM C N) : frL C0 N := by
  refine ⟨fun j hj => ?_, fun a ha => ?_⟩
  · rw [h2.2 j (by omega) (by omega) (by omega) (by omega)]
    exact h.1 j hj
  · rw [h2.1]
    exact h.2 a ha
theorem frL_K {C0 C : vS} (h : frL C0 C) (b : Nat) (s : Int) : frL C0 (mK C b s) := frL_sf (C := sg C 0 (iL s)) h (by decide) (by decide) _
theorem frL_Z {C0 C : vS} (h : frL C0 C) (b : Nat) (s : Int) : frL C0 (mZ C b s) := frL_sf (frL_sf h (by decide) (by decide) _) (by decide) (by decide) _
theorem frL_A {C0 C : vS} (h : frL C0 C) (b : Nat) : frL C0 (mA C b) := frL_sf h (by decide) (by decide) _
theorem frC_A {C0 C : vS} (h : frC C0 C) (b : Nat) : frC C0 (cA C b) := frC_sf h (by decide) (by decide) _
theorem frC_F {C0 C : vS} (h : frC C0 C) (k : Int) (f : Nat) : frC C0 (cF C k f) := frC_sf (frC_sf h (by decide) (by decide) _) (by decide) (by decide) _
def rW (C M : vS) (w d : Int) : Prop := C.1 6 = iI w ∧ M.1 15 = iI w ∧ C.1 7 = iI d ∧ M.1 16 = iI d ∧ C.2.1 19 0 = iI (if 0 < w then 1 else 0) ∧ (0 ≤ w ∧ w ≤ 12) ∧ (0 ≤ d ∧ d ≤ 12) ∧ w * d ≤ 60 ∧ (0 < w ↔ 0 < d)
def rD (C M : vS) (w n : Int) : Prop := C.1 8 = iI n ∧ M.1 17 = iI n ∧ C.2.1 19 1 = iI n ∧ (0 ≤ n ∧ n ≤ 6) ∧ (0 < n → 0 < w) ∧ ∀ f : Nat, (f : Int) < n → ∃ x g s : Int, (C.2.1 9 f = iI x ∧ M.2.1 10 f = iI x ∧ 0 ≤ x ∧ x < w) ∧ (C.2.1 10 f = iI g ∧ M.2.1 11 f = iI g ∧ 0 ≤ g ∧ g ≤ 99) ∧ (C.2.1 11 f = iI s ∧ M.2.1 12 f = iI s ∧ 0 ≤ s ∧ s ≤ 9)
def rS (C M : vS) (n : Int) : Prop := C.2.1 19 2 = iI n ∧ M.1 18 = iI n ∧ (0 ≤ n ∧ n ≤ 30) ∧ ∀ k, k < 60 → (C.2.1 12 k = 0 ∧ M.2.1 13 k = -1) ∨ ∃ z : Int, 1 ≤ z ∧ z ≤ 99 ∧ C.2.1 12 k = iI z ∧ M.2.1 13 k = iI z
def rF (C M : vS) (n : Int) : Prop := C.2.1 19 3 = iI n ∧ M.1 19 = iI n ∧ (0 ≤ n ∧ n ≤ 30) ∧ ∀ k, k < 60 → (C.2.1 13 k = 1 ∧ C.2.1 20 k = 0 ∧ M.2.1 14 k = -1) ∨ ∃ z : Int, 0 ≤ z ∧ z ≤ 99 ∧ C.2.1 13 k = iI z ∧ C.2.1 20 k = 1 ∧ M.2.1 14 k = iI z
def rM (C M : vS) (n : Int) : Prop := C.1 9 = iI n ∧ M.1 20 = iI n ∧ C.2.1 19 4 = iI n ∧ (0 ≤ n ∧ n ≤ 10) ∧ ∀ j : Nat, (j : Int) < n → ∃ x y z : Int, (C.2.1 14 j = iI x ∧ M.2.1 15 (3 * j) = iI x ∧ 0 ≤ x ∧ x ≤ 999) ∧ (C.2.1 15 j = iI y ∧ M.2.1 15 (3 * j + 1) = iI y ∧ 0 ≤ y ∧ y ≤ 999) ∧ (C.2.1 16 j = iI z ∧ M.2.1 15 (3 * j + 2) = iI z ∧ 0 ≤ z ∧ z ≤ 20)
def rH (C M : vS) : Prop := (C.2.1 19 5 = 0 ∧ C.1 10 = 3 ∧ C.1 11 = 100 ∧ M.1 21 = 0) ∨ (C.2.1 19 5 = 1 ∧ ∃ h c : Int, 1 ≤ h ∧ h ≤ 20 ∧ 0 ≤ c ∧ c ≤ 999 ∧ C.1 10 = iI h ∧ M.1 21 = iI h ∧ C.1 11 = iI c ∧ M.1 22 = iI c)
section RR
variable {C M X Y : vS} {w d n : Int}
theorem rW_of (h : rW C M w d) (c6 : X.1 6 = C.1 6) (c7 : X.1 7 = C.1 7) (r19 : X.2.1 19 0 = C.2.1 19 0) (m15 : Y.1 15 = M.1 15) (m16 : Y.1 16 = M.1 16) : rW X Y w d := by
  unfold rW; rw [c6, c7, r19, m15, m16]; exact h
theorem rD_of (h : rD C M w n) (c8 : X.1 8 = C.1 8) (r19 : X.2.1 19 1 = C.2.1 19 1) (r9 : X.2.1 9 = C.2.1 9) (r10 : X.2.1 10 = C.2.1 10) (r11 : X.2.1 11 = C.2.1 11) (m17 : Y.1 17 = M.1 17) (s10 : Y.2.1 10 = M.2.1 10) (s11 : Y.2.1 11 = M.2.1 11) (s12 : Y.2.1 12 = M.2.1 12) : rD X Y w n := by
  unfold rD; rw [c8, r19, r9, r10, r11, m17, s10, s11, s12]; exact h
theorem rS_of (h : rS C M n) (r19 : X.2.1 19 2 = C.2.1 19 2) (r12 : X.2.1 12 = C.2.1 12) (m18 : Y.1 18 = M.1 18) (s13 : Y.2.1 13 = M.2.1 13) : rS X Y n := by
  unfold rS; rw [r19, r12, m18, s13]; exact h
theorem rF_of (h : rF C M n) (r19 : X.2.1 19 3 = C.2.1 19 3) (r13 : X.2.1 13 = C.2.1 13) (r20 : X.2.1 20 = C.2.1 20) (m19 : Y.1 19 = M.1 19) (s14 : Y.2.1 14 = M.2.1 14) : rF X Y n := by
  unfold rF; rw [r19, r13, r20, m19, s14]; exact h
theorem rM_of (h : rM C M n) (c9 : X.1 9 = C.1 9) (r19 : X.2.1 19 4 = C.2.1 19 4) (r14 : X.2.1 14 = C.2.1 14) (r15 : X.2.1 15 = C.2.1 15) (r16 : X.2.1 16 = C.2.1 16) (m20 : Y.1 20 = M.1 20) (s15 : Y.2.1 15 = M.2.1 15) : rM X Y n := by
  unfold rM; rw [c9, r19, r14, r15, r16, m20, s15]; exact h
theorem rH_of (h : rH C M) (r19 : X.2.1 19 5 = C.2.1 19 5) (c10 : X.1 10 = C.1 10) (c11 : X.1 11 = C.1 11) (m21 : Y.1 21 = M.1 21) (m22 : Y.1 22 = M.1 22) : rH X Y := by
  unfold rH; rw [r19, c10, c11, m21, m22]; exact h
end RR
def rdr (C M : vS) : Prop := ∃ w d n ms ns nf : Int, rW C M w d ∧ rD C M w n ∧ rS C M ns ∧ rF C M nf ∧ rM C M ms ∧ rH C M
def PR (T : Nat → Int) (t : Nat) (C0 M0 : vS) (a : Nat) (C M : vS) : Prop := (txC T t C ∧ txM T t M) ∧ (frC C0 C ∧ frL M0 M) ∧ (C.1 15 = nI a ∧ M.1 11 = nI a) ∧ C.1 13 = 0 ∧ (C.1 14 = -1 ∧ M.1 10 = -1) ∧ rdr C M
def FL (T : Nat → Int) (t : Nat) (C0 M0 : vS) (k : Int) (C M : vS) : Prop := txC T t C ∧ (frC C0 C ∧ frL M0 M) ∧ C.1 13 = iI k ∧ (1 ≤ k ∧ k ≤ 4) ∧ (∃ f : Nat, C.1 14 = nI f ∧ M.1 10 = nI f) ∧ ∃ a, a ≤ t ∧ C.1 15 = nI a
/-- how a clause may come out -/
def OC (T : Nat → Int) (t : Nat) (C0 M0 : vS) (b : Nat) (eC : (vS → Prop) → Prop) (eM : (Int32 → vS → Prop) → Prop) : Prop := (∃ C M a, b < a ∧ a ≤ t ∧ runU eC C ∧ runV eM 0 M ∧ PR T t C0 M0 a C M) ∨ (∃ C M k, runU eC C ∧ runV eM (iI k) M ∧ FL T t C0 M0 k C M)
section TT
variable {C M : vS} {T : Nat → Int} {t a : Nat} {k : Int32} {n : Nat} {Q : vS → Prop}
theorem c99_fail (h : ¬ C.1 13 = 0) (hq : Q C) : e_X3_readStatement_99 Q k C := by
  unfold e_X3_readStatement_99
  exact ⟨fun _ => ⟨fun _ => hq, fun c => absurd c h⟩, fun c => absurd c h⟩
theorem c73_fail {x y : Int32} (h : ¬ C.1 13 = 0) (hq : Q C) : e_X3_readStatement_73 Q (n + 1) k x y C := by
  unfold e_X3_readStatement_73
  exact ⟨fun _ => c99_fail h hq, fun _ => ⟨fun _ => c99_fail h hq, fun c => absurd c h⟩⟩
theorem c73_step {C1 : vS} {m p : Nat} (hm : m ≤ 3) (hp : p < m) (h : C.1 13 = 0) (r : runU (e_X3_readNumber k (nI p) C) C1) (nx : e_X3_readStatement_73 Q n k (nI m) (nI (p + 1)) C1) : e_X3_readStatement_73 Q (n + 1) k (nI m) (nI p) C := by
  unfold e_X3_readStatement_73
  rw [nI_leI (by omega) (by omega)]
  refine ⟨fun c => absurd c (by omega), fun _ => ⟨fun c => absurd h c, fun _ => r _ ?_⟩⟩
  intro v24 e24
  rw [e24, nI_1]
  exact nx
theorem c73_end {C1 : vS} {m : Nat} (hm : m ≤ 3) (h : C.1 13 = 0) (r : runU (e_X3_readEnd C) C1) (nx : (¬ C1.1 13 = 0 → Q C1) ∧ (C1.1 13 = 0 → e_X3_put k C1 Q)) : e_X3_readStatement_73 Q (n + 1) k (nI m) (nI m) C := by
  unfold e_X3_readStatement_73
  rw [nI_leI (by omega) (by omega)]
  refine ⟨fun _ => ?_, fun c => absurd (by omega) c⟩
  unfold e_X3_readStatement_99
  exact ⟨fun c => absurd h c, fun _ => r _ nx⟩
theorem nCd_bd : nCd T t a = 1 ∨ nCd T t a = 2 := by unfold nCd; split <;> simp
theorem ne0 {z : Int} (h : 1 ≤ z ∧ z ≤ 100) : ¬ iI z = 0 ∧ ¬ iI z ≤ 0 ∧ iI z ≠ 0 := by
  have e : iI z = 0 ↔ z = 0 := by rw [L0, iI_eq (sm_of (by omega) (by omega)) (sm_of (by decide) (by decide))]
  have e2 : iI z ≤ 0 ↔ z ≤ 0 := by rw [L0, iI_le (sm_of (by omega) (by omega)) (sm_of (by decide) (by decide))]
  rw [e, e2]
  exact ⟨by omega, by omega, by rw [Ne, e]; omega⟩
theorem pr_skip {C0 M0 : vS} (ht : okT T t) (ha : a ≤ t) (h : PR T t C0 M0 a C M) : runU (e_X3_skipBlanks C) (cA C (sk T t a)) ∧ runV (e_X7_here M) (if sk T t a < t then iI (T (sk T t a)) else -1) (mA M (sk T t a)) ∧ PR T t C0 M0 (sk T t a) (cA C (sk T t a)) (mA M (sk T t a)) := by
  obtain ⟨⟨h1, h2⟩, ⟨h3, h4⟩, ⟨h5, h6⟩, h7, h8, w, d, n, ms, ns, nf, q1, q2, q3, q4, q5, q6⟩ := h
  have e1 : C = cA C a := (sf_self h5).symm
  have e2 : M = mA M a := (sf_self h6).symm
  have r1 := pC_skip ht h1 ha
  have r2 := pM_here ht h2 ha
  rw [← e1] at r1
  rw [← e2] at r2
  refine ⟨r1, r2, ⟨h1, h2⟩, ⟨frC_A h3 _, frL_A h4 _⟩, ⟨sf_at _ _ _, sf_at _ _ _⟩, h7, h8, w, d, n, ms, ns, nf, rW_of q1 rfl rfl rfl rfl rfl, rD_of q2 rfl rfl rfl rfl rfl rfl rfl rfl rfl, rS_of q3 rfl rfl rfl rfl, rF_of q4 rfl rfl rfl rfl rfl, rM_of q5 rfl rfl rfl rfl rfl rfl rfl, rH_of q6 rfl rfl rfl rfl rfl⟩
end TT
