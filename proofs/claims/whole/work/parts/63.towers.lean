/-! ===== towers: the class's side ===== -/
def v2 (v : vV) (a b : Nat) (p q : Int) : vV := vu (vu v 2 a p) 2 b q
theorem vu_ext {x y : vV} (h1 : x.1 = y.1) (h2 : ∀ r j, x.2 r j = y.2 r j) : x = y := Prod.ext h1 (funext fun r => funext fun j => h2 r j)
theorem v2_a {v : vV} {a b : Nat} (h : a ≠ b) (p q z : Int) : vu (v2 v a b p q) 2 a z = v2 v a b z q := by
  refine vu_ext rfl (fun r j => ?_)
  simp only [v2, vu]
  by_cases h1 : r = 2
  · by_cases h2 : j = a
    · have h3 : ¬ j = b := fun c => h (h2.symm.trans c)
      simp [h1, h2, h]
    · by_cases h3 : j = b
      · have h4 : ¬ b = a := fun c => h c.symm
        simp [h1, h3, h4]
      · simp [h1, h2, h3]
  · simp [h1]
theorem v2_b {v : vV} {a b : Nat} (p q z : Int) : vu (v2 v a b p q) 2 b z = v2 v a b p z := by
  refine vu_ext rfl (fun r j => ?_)
  simp only [v2, vu]
  by_cases h1 : r = 2
  · by_cases h3 : j = b <;> simp [h1, h3]
  · simp [h1]
theorem v2_self {v : vV} {a b : Nat} : v2 v a b (v.2 2 a) (v.2 2 b) = v := by
  refine vu_ext rfl (fun r j => ?_)
  simp only [v2, vu]
  by_cases h1 : r = 2
  · by_cases h3 : j = b
    · simp [h1, h3]
    · by_cases h2 : j = a
      · rw [h2] at h3
        simp [h1, h2, h3]
      · simp [h1, h2, h3]
  · simp [h1]
theorem upd_id {f : Nat → Int32} {i : Nat} {x : Int32} (h : f i = x) : upd f i x = f := by
  funext j
  by_cases e : j = i
  · rw [e, pk_us, h]
  · rw [pk_un e]
theorem okV_two {v : vV} (hv : okV v) {a b : Nat} {p q : Int} (h1 : 0 ≤ p) (h2 : p ≤ 9) (h3 : 0 ≤ q) (h4 : q ≤ 9) : okV (v2 v a b p q) := okV_stor (okV_stor hv h1 h2) h3 h4
/-- the class's state in the midst of counting -/
def cR (C : vS) (a b : Nat) (p q : Int) : Nat → Int32 := upd (upd (C.2.1 21) a (iI p)) b (iI q)
def cS (C : vS) (a b : Nat) (p q : Int) (e : Nat → Int32) : vS := sr (sr C 21 (cR C a b p q)) 0 e
theorem cR_a {C : vS} {a b : Nat} (h : a ≠ b) (p q z : Int) : upd (cR C a b p q) a (iI z) = cR C a b z q := by
  funext j
  unfold cR
  by_cases h2 : j = a
  · rw [h2, pk_us, pk_un h, pk_us]
  · rw [pk_un h2]
    by_cases h3 : j = b
    · rw [h3, pk_us, pk_us]
    · rw [pk_un h3, pk_un h3, pk_un h2, pk_un h2]
theorem cR_b {C : vS} {a b : Nat} (p q z : Int) : upd (cR C a b p q) b (iI z) = cR C a b p z := by
  funext j
  unfold cR
  by_cases h3 : j = b
  · rw [h3, pk_us, pk_us]
  · rw [pk_un h3, pk_un h3, pk_un h3]
theorem cR_self {C : vS} {a b : Nat} {p q : Int} (h1 : C.2.1 21 a = iI p) (h2 : C.2.1 21 b = iI q) : cR C a b p q = C.2.1 21 := by
  unfold cR
  rw [upd_id h1, upd_id h2]
theorem cS_u {C : vS} {a b k : Nat} {p q z p2 q2 : Int} {e g : Nat → Int32} (h : upd (cR C a b p q) k (iI z) = cR C a b p2 q2) : sa (sr (cS C a b p q e) 30 g) 21 k (iI z) = sr (cS C a b p2 q2 e) 30 g := by
  rw [sa_comm _ (by decide)]
  have : sa (cS C a b p q e) 21 k (iI z) = cS C a b p2 q2 e := by
    unfold cS
    rw [sa_comm _ (by decide), sa_sr, h]
  rw [this]
theorem cS_e {C : vS} {a b k : Nat} {p q : Int} {e g : Nat → Int32} {x : Int32} : sa (sr (cS C a b p q e) 30 g) 0 k x = sr (cS C a b p q (upd e k x)) 30 g := by
  rw [sa_comm _ (by decide)]
  unfold cS
  rw [sa_sr]
theorem shC_two {C : vS} {v : vV} (h : shC C v) (a b : Nat) (p q : Int) (e : Nat → Int32) : shC (cS C a b p q e) (v2 v a b p q) := by
  have h1 := shC_stor (shC_stor h a p) b q
  have e1 : sa (sa C 21 a (iI p)) 21 b (iI q) = sr C 21 (cR C a b p q) := by
    show sa (sr C 21 _) 21 b _ = _
    rw [sa_sr]; rfl
  rw [e1] at h1
  exact h1
/-- what an end is worth -/
def tE (v : vV) (far : Int) (cost d : Int32) (a b i j : Nat) : Int32 := (iI (sShare (v2 v a b (v.2 2 a + i) (v.2 2 b + j)) far a) - iI (sShare (v2 v a b (v.2 2 a + i) (v.2 2 b + j)) far b)) * d - (iI i - iI j) * cost
def tOk (E : Nat → Nat → Int32) (rA rB i j : Nat) (e : Nat → Int32) : Prop := ∀ i' j', i' ≤ rA → j' ≤ rB → (i' < i ∨ (i' = i ∧ j' < j)) → e (4 * i' + j') = E i' j'
section TT
variable {C M : vS} {v : vV}
theorem sFarN_v2 {a b : Nat} {p q day : Int} : sFarN (v2 v a b p q) day = sFarN v day := by unfold v2; rw [sFarN_2, sFarN_2]
theorem pC_ends_64 (hC : shC C v) (hfC : shFC C v) (hv : okV v) (hw : okF v) {a b rA rB i : Nat} (hab : a ≠ b) (ha : (a : Int) < v.1 2) (hb : (b : Int) < v.1 2) (rA3 : rA ≤ 3) (rB3 : rB ≤ 3) (hA : v.2 2 a + rA ≤ 9) (hB : v.2 2 b + rB ≤ 9) (hi : i ≤ rA) {d : Int32} {Q : vS → Prop} {K : Int32 → Int32 → Int32 → Int32 → Int32 → Int32 → Int32 → Int32 → vS → Prop}
    (hK : ∀ (q : Int) (e g : Nat → Int32), 0 ≤ q → q ≤ 9 → seesK g (v2 v a b (v.2 2 a + i) q) (sFarN v (C.1 16).toInt) → tOk (tE v (sFarN v (C.1 16).toInt) (C.1 5) d a b) rA rB (i + 1) 0 e → K (iI a) (iI b) d (iI rA) (iI rB) (iI (v.2 2 a)) (iI (v.2 2 b)) (iI ((i + 1 : Nat) : Int)) (sr (cS C a b (v.2 2 a + i) q e) 30 g)) :
    ∀ (r j : Nat), j + r = rB + 1 → ∀ (q : Int) (e g : Nat → Int32), 0 ≤ q → q ≤ 9 → seesK g (v2 v a b (v.2 2 a + i) q) (sFarN v (C.1 16).toInt) → tOk (tE v (sFarN v (C.1 16).toInt) (C.1 5) d a b) rA rB i j e → e_X6_countEnds_64 K Q (r + 1) (iI a) (iI b) d (iI rA) (iI rB) (iI (v.2 2 a)) (iI (v.2 2 b)) (iI i) (iI j) (sr (cS C a b (v.2 2 a + i) q e) 30 g) := by
  have hn := hv.2.2.2.1
  have ba := (hv.2.2.2.2.2.2.1 a ha).2.2
  have bb := (hv.2.2.2.2.2.2.1 b hb).2.2
  intro r
  induction r with
  | zero =>
    intro j hj q e g q1 q2 hg he
    unfold e_X6_countEnds_64
    rw [iI_lt (sm_of (by omega) (by omega)) (sm_of (by omega) (by omega)), L1, iI_add]
    refine ⟨fun _ v17 e17 => ?_, fun c => absurd (by omega) c⟩
    rw [e17]
    refine hK q e g q1 q2 hg (fun i' j' a1 a2 a3 => he i' j' a1 a2 ?_)
    omega
  | succ r ih =>
    intro j hj q e g q1 q2 hg he
    unfold e_X6_countEnds_64
    rw [iI_lt (sm_of (by omega) (by omega)) (sm_of (by omega) (by omega)), L1, cl_nat (by omega)]
    refine ⟨fun c => absurd c (by omega), fun _ => ⟨in6 (by omega), fun S19 e19 => ?_⟩⟩
    rw [iI_add, cS_u (cR_b _ _ _)] at e19
    rw [e19]
    have hv1 : okV (v2 v a b (v.2 2 a + i) (v.2 2 b + j)) := okV_two hv (by omega) (by omega) (by omega) (by omega)
    have hC1 := shC_two hC a b (v.2 2 a + i) (v.2 2 b + j) e
    refine pC_lookBy1 (v0 := v2 v a b (v.2 2 a + i) q) hC1 hfC hv1 hw hb (v2_b _ _ _).symm (by rw [sFarN_v2]; exact hg) (fun g2 hg2 => ?_)
    rw [sFarN_v2] at hg2
    have hg3 : seesK g2 (v2 v a b (v.2 2 a + i) (v.2 2 b + j)) (sFarN v (C.1 16).toInt) := hg2
    refine pC_share (far := sFarN v (C.1 16).toInt) (shC30 hC1) hv1 (by rw [sr_at]; exact hg3) ha ?_
    refine pC_share (far := sFarN v (C.1 16).toInt) (shC30 hC1) hv1 (by rw [sr_at]; exact hg3) hb ?_
    intro v26 e26
    have ei : iI (i : Int) * (4 : Int32) + iI (j : Int) = iI ((4 * i + j : Nat) : Int) := by
      rw [show (4 : Int32) = iI 4 from rfl, iI_mul, iI_add]
      congr 1
      omega
    rw [ei, cl_nat (by omega)]
    refine ⟨in_nat (by omega) (by omega) (by omega), fun S28 e28 v29 e29 => ?_⟩
    rw [cS_e] at e28
    rw [e28, e29, iI_add]
    refine ih (j + 1) (by omega) _ _ _ (by omega) (by omega) hg3 (fun i' j' a1 a2 a3 => ?_)
    by_cases h : i' = i ∧ j' = j
    · rw [h.1, h.2, pk_us, e26]; rfl
    · rw [pk_un (by omega)]
      exact he i' j' a1 a2 (by omega)
theorem pC_ends_32 (hC : shC C v) (hfC : shFC C v) (hv : okV v) (hw : okF v) {a b rA rB : Nat} (hab : a ≠ b) (ha : (a : Int) < v.1 2) (hb : (b : Int) < v.1 2) (rA3 : rA ≤ 3) (rB3 : rB ≤ 3) (hA : v.2 2 a + rA ≤ 9) (hB : v.2 2 b + rB ≤ 9) {d : Int32} {Q : vS → Prop}
    (hq : ∀ (e g : Nat → Int32), tOk (tE v (sFarN v (C.1 16).toInt) (C.1 5) d a b) rA rB (rA + 1) 0 e → Q (sr (sr C 0 e) 30 g)) :
    ∀ (r i : Nat), i + r = rA + 1 → ∀ (p q : Int) (e g : Nat → Int32), 0 ≤ p → p ≤ 9 → 0 ≤ q → q ≤ 9 → seesK g (v2 v a b p q) (sFarN v (C.1 16).toInt) → tOk (tE v (sFarN v (C.1 16).toInt) (C.1 5) d a b) rA rB i 0 e → e_X6_countEnds_32 Q (r + 1) (iI a) (iI b) d (iI rA) (iI rB) (iI (v.2 2 a)) (iI (v.2 2 b)) (iI i) (sr (cS C a b p q e) 30 g) := by
  have hn := hv.2.2.2.1
  have ba := (hv.2.2.2.2.2.2.1 a ha).2.2
  have bb := (hv.2.2.2.2.2.2.1 b hb).2.2
  have ca := (hC.2.2.2.2.2.1 a ha).2.2
  have cb := (hC.2.2.2.2.2.1 b hb).2.2
  intro r
  induction r with
  | zero =>
    intro i hi p q e g p1 p2 q1 q2 hg he
    unfold e_X6_countEnds_32
    rw [iI_lt (sm_of (by omega) (by omega)) (sm_of (by omega) (by omega)), cl_nat (by omega), cl_nat (by omega)]
    refine ⟨fun _ => ⟨in6 (by omega), fun S9 e9 => ⟨in6 (by omega), fun S11 e11 => ?_⟩⟩, fun c => absurd (by omega) c⟩
    rw [cS_u (cR_a hab _ _ _)] at e9
    rw [e9, cS_u (cR_b _ _ _)] at e11
    unfold cS at e11
    rw [cR_self ca cb, sr_self] at e11
    rw [e11]
    refine hq e g ?_
    have : rA + 1 = i := by omega
    rw [this]
    exact he
  | succ r ih =>
    intro i hi p q e g p1 p2 q1 q2 hg he
    unfold e_X6_countEnds_32
    rw [iI_lt (sm_of (by omega) (by omega)) (sm_of (by omega) (by omega)), cl_nat (by omega), cl_nat (by omega)]
    refine ⟨fun c => absurd c (by omega), fun _ => ⟨in6 (by omega), fun S13 e13 => ?_⟩⟩
    rw [iI_add, cS_u (cR_a hab _ _ _)] at e13
    rw [e13]
    have hv1 : okV (v2 v a b (v.2 2 a + i) q) := okV_two hv (by omega) (by omega) (by omega) (by omega)
    have hC1 := shC_two hC a b (v.2 2 a + i) q e
    refine pC_lookBy1 (v0 := v2 v a b p q) hC1 hfC hv1 hw ha (v2_a hab _ _ _).symm (by rw [sFarN_v2]; exact hg) (fun g2 hg2 => ?_)
    rw [sFarN_v2] at hg2
    refine ⟨rB + 1 + 1, pC_ends_64 hC hfC hv hw hab ha hb rA3 rB3 hA hB (by omega) (fun q' e' g' a1 a2 a3 a4 => ?_) (rB + 1) 0 (by omega) q e g2 q1 q2 hg2 he⟩
    exact ih (i + 1) (by omega) _ _ _ _ (by omega) (by omega) a1 a2 a3 a4
theorem pC_ends (hC : shC C v) (hfC : shFC C v) (hv : okV v) (hw : okF v) {a b rA rB : Nat} (hab : a ≠ b) (ha : (a : Int) < v.1 2) (hb : (b : Int) < v.1 2) (rA3 : rA ≤ 3) (rB3 : rB ≤ 3) (hA : v.2 2 a + rA ≤ 9) (hB : v.2 2 b + rB ≤ 9) {d : Int32} {Q : vS → Prop}
    (hq : ∀ (e g : Nat → Int32), (∀ i j, i ≤ rA → j ≤ rB → e (4 * i + j) = tE v (sFarN v (C.1 16).toInt) (C.1 5) d a b i j) → Q (sr (sr C 0 e) 30 g)) : e_X6_countEnds (iI a) (iI b) d (iI rA) (iI rB) C Q := by
  have hn := hv.2.2.2.1
  have ba := (hv.2.2.2.2.2.2.1 a ha).2.2
  have bb := (hv.2.2.2.2.2.2.1 b hb).2.2
  have ca := (hC.2.2.2.2.2.1 a ha).2.2
  have cb := (hC.2.2.2.2.2.1 b hb).2.2
  unfold e_X6_countEnds
  rw [cl_nat (by omega), cl_nat (by omega), ca, cb]
  refine ⟨in6 (by omega), fun v2' e2 => ⟨in6 (by omega), fun v4 e4 => ?_⟩⟩
  rw [e2, e4]
  refine pC_lookAll hC hfC hv hw (fun g hg => ?_)
  have := pC_ends_32 hC hfC hv hw hab ha hb rA3 rB3 hA hB (d := d) (Q := Q) (fun e g he => hq e g (fun i j h1 h2 => he i j h1 h2 (by omega))) (rA + 1) 0 (by omega) (v.2 2 a) (v.2 2 b) (C.2.1 0) g (by omega) (by omega) (by omega) (by omega) (by rw [v2_self]; exact hg) (fun i' j' _ _ h => by omega)
  unfold cS at this
  rw [cR_self ca cb, sr_self, sr_self] at this
  exact ⟨_, this⟩
end TT
