/-! ===== lake: numbers on both sides ===== -/
abbrev p1 (T : Nat → Int) (t a : Nat) : Nat := sk T t a
abbrev p2 (T : Nat → Int) (t a : Nat) : Nat := dg T t (sk T t a)
def zN (T : Nat → Int) (t a : Nat) : Int := dv T (p1 T t a) (p2 T t a - p1 T t a)
def nOK (T : Nat → Int) (t a : Nat) (lo hi : Int) : Prop := p1 T t a < p2 T t a ∧ p2 T t a - p1 T t a ≤ 3 ∧ lo ≤ zN T t a ∧ zN T t a ≤ hi
def nCd (T : Nat → Int) (t a : Nat) : Int := if p2 T t a = p1 T t a then 1 else 2
def cF (C : vS) (k : Int) (f : Nat) : vS := sf (sf C 13 (iI k)) 14 (nI f)
def mN (M : vS) (x a1 : Nat) (n : Int) : vS := sf (sf (sf M 11 (nI x)) 14 (nI a1)) 13 (iI n)
def frM (M N : vS) : Prop := N.2 = M.2 ∧ ∀ j, j ≠ 10 → j ≠ 11 → j ≠ 13 → j ≠ 14 → N.1 j = M.1 j
def nm (T : Nat → Int) (a : Nat) : Nat → Int
  | 0 => 0
  | k + 1 => if 10000 < nm T a k then nm T a k else 10 * nm T a k + T (a + k) - 48
section TT
variable {C M : vS} {T : Nat → Int} {t a : Nat}
theorem pp (ha : a ≤ t) : a ≤ p1 T t a ∧ p1 T t a ≤ p2 T t a ∧ p2 T t a ≤ t := by
  have h1 := sk_le (T := T) ha
  have h2 := dg_le (T := T) h1.2
  exact ⟨h1.1, h2.1, h2.2⟩
theorem zN_bd (ha : a ≤ t) (h : p2 T t a - p1 T t a ≤ 3) : 0 ≤ zN T t a ∧ zN T t a ≤ 999 := by
  have := dv_bd (T := T) (a := p1 T t a) (p2 T t a - p1 T t a) (fun j hj => dg_in (a := p1 T t a) (t := t) (by omega) (by have := pp (T := T) ha; show _ < p2 T t a; omega))
  exact ⟨this.1, this.2.2.2 h⟩
theorem dvm_bd {i : Nat} (h : ∀ j, j < i → 48 ≤ T (a + j) ∧ T (a + j) ≤ 57) : 0 ≤ dv T a (min i 3) ∧ dv T a (min i 3) ≤ 999 := by
  have := dv_bd (T := T) (a := a) (min i 3) (fun j hj => h j (by omega))
  exact ⟨this.1, this.2.2.2 (by omega)⟩
theorem sub_nI (x i : Nat) : nI (x + i) - nI x = iI i := by
  rw [iI_nat, iI_nat, iI_sub]
  congr 1
  omega
theorem pC_dig (ht : okT T t) (hC : txC T t C) {k p : Int32} {a1 : Nat} {Q : vS → Prop} : ∀ (m i : Nat), a1 + i + m = t → (∀ j, j < i → 48 ≤ T (a1 + j) ∧ T (a1 + j) ≤ 57) → e_X3_readNumber_94 Q k p (nI a1) (iI (dv T a1 (min (rn pD T m (a1 + i) - a1) 3))) (cA C (rn pD T m (a1 + i))) → e_X3_readNumber_12 Q (m + 1) k p (nI a1) (iI (dv T a1 (min i 3))) (cA C (a1 + i)) := by
  intro m
  induction m with
  | zero =>
    intro i hi hd hq
    unfold e_X3_readNumber_12
    have e12 : (cA C (a1 + i)).1 12 = nI t := hC.1
    have e15 : (cA C (a1 + i)).1 15 = nI (a1 + i) := sf_at _ _ _
    have := ht.1
    rw [e12, e15, nI_leI (by omega) (by omega)]
    refine ⟨fun _ => ?_, fun c => absurd (by omega) c⟩
    have e : rn pD T 0 (a1 + i) - a1 = i := by show a1 + i - a1 = i; omega
    rw [e] at hq
    exact hq
  | succ m ih =>
    intro i hi hd hq
    unfold e_X3_readNumber_12
    have e12 : (cA C (a1 + i)).1 12 = nI t := hC.1
    have e15 : (cA C (a1 + i)).1 15 = nI (a1 + i) := sf_at _ _ _
    have t5 := ht.1
    have eb : (cA C (a1 + i)).2.1 17 (a1 + i) = iI (sg8 (T (a1 + i))) := hC.2 _ (by omega)
    have bt := ht.2 (a1 + i) (by omega)
    have bd := sg8_bd bt
    have vb := dvm_bd hd
    have stop : ¬ (48 ≤ T (a1 + i) ∧ T (a1 + i) ≤ 57) → e_X3_readNumber_94 Q k p (nI a1) (iI (dv T a1 (min i 3))) (cA C (a1 + i)) := by
      intro c
      rw [rn_f (by simpa [pD] using c)] at hq
      have e : a1 + i - a1 = i := by omega
      rw [e] at hq
      exact hq
    rw [e12, e15, nI_leI (by omega) (by omega), cl_nI (by omega), eb, show (48 : Int32) = iI 48 from rfl, show (57 : Int32) = iI 57 from rfl, iI_lt (sm_of (by omega) (by omega)) (sm_of (by decide) (by decide)), iI_lt (sm_of (by decide) (by decide)) (sm_of (by omega) (by omega)), sub_nI, L3, iI_le (sm_of (by decide) (by decide)) (sm_of (by omega) (by omega)), nI_1]
    refine ⟨fun c => absurd c (by omega), fun _ => ⟨in_nI (by omega) (by omega), fun c => stop ?_, fun c => ⟨fun c2 => stop ?_, fun c2 => ?_⟩⟩⟩
    · unfold sg8 at c
      split at c <;> omega
    · unfold sg8 at c2
      split at c2 <;> omega
    · have dgt : 48 ≤ T (a1 + i) ∧ T (a1 + i) ≤ 57 := by
        unfold sg8 at c c2
        split at c <;> omega
      have es : sg8 (T (a1 + i)) = T (a1 + i) := by
        unfold sg8
        rw [if_pos (by omega)]
      rw [rn_t (by simpa [pD] using dgt)] at hq
      have hd2 : ∀ j, j < i + 1 → 48 ≤ T (a1 + j) ∧ T (a1 + j) ≤ 57 := by
        intro j hj
        by_cases e : j = i
        · rw [e]; exact dgt
        · exact hd j (by omega)
      have nx := ih (i + 1) (by omega) hd2 hq
      refine ⟨fun c3 S9 e9 => ?_, fun c3 v10 e10 S11 e11 => ?_⟩
      · have e : S9 = cA C (a1 + (i + 1)) := by rw [e9]; exact sf_sf _ _ _ _
        have em : min (i + 1) 3 = min i 3 := by omega
        rw [em] at nx
        rw [e]
        exact nx
      · have e : S11 = cA C (a1 + (i + 1)) := by rw [e11]; exact sf_sf _ _ _ _
        have em : min (i + 1) 3 = i + 1 := by omega
        have em2 : min i 3 = i := by omega
        rw [em] at nx
        rw [es, em2, show (10 : Int32) = iI 10 from rfl, iI_mul, iI_add, iI_sub] at e10
        rw [e, e10]
        exact nx
theorem pC_rn (ht : okT T t) (hC : txC T t C) (ha : a ≤ t) {k p : Int32} {Q : vS → Prop} (hq : e_X3_readNumber_94 Q k p (nI (p1 T t a)) (iI (dv T (p1 T t a) (min (p2 T t a - p1 T t a) 3))) (cA C (p2 T t a))) : e_X3_readNumber k p (cA C a) Q := by
  unfold e_X3_readNumber
  refine pC_skip ht hC ha _ ?_
  intro v3 e3
  have e15 : (cA C (sk T t a)).1 15 = nI (sk T t a) := sf_at _ _ _
  rw [e3, e15]
  have h1 := sk_le (T := T) ha
  have := pC_dig ht hC (k := k) (p := p) (a1 := sk T t a) (Q := Q) (t - sk T t a) 0 (by omega) (fun j hj => by omega) hq
  exact ⟨_, this⟩
section NN
variable {lo hi : Int} {k p : Int32} {pn : Nat}
theorem pC_94 (ht : okT T t) (ha : a ≤ t) (hp : pn < 3) (ep : p = nI pn) (blo : -1000 ≤ lo ∧ lo ≤ 1000) (bhi : -1000 ≤ hi ∧ hi ≤ 1000) (hlo : ∀ (S : vS) (Q : Int32 → vS → Prop), Q (iI lo) S → e_X3_leastOf k p S Q) (hhi : ∀ Q : Int32 → vS → Prop, Q (iI hi) (cA C (p2 T t a)) → e_X3_mostOf k p (cA C (p2 T t a)) Q) {Q : vS → Prop} (hno : ¬ nOK T t a lo hi → Q (cF (cA C (p2 T t a)) (nCd T t a) (p1 T t a))) (hok : nOK T t a lo hi → e_X3_clashes k p (iI (zN T t a)) (cA C (p2 T t a)) (fun (r25 : Int32) (S24 : vS) => ((r25 = 0 → (vp_in p 3 ∧ (∀ S28 : vS, S28 = sa S24 18 (p).toNatClampNeg (iI (zN T t a)) → Q S28))) ∧ (¬ r25 = 0 → (e_X3_fail (4 : Int32) (nI (p1 T t a)) S24 (fun (S29 : vS) => Q S29)))))) : e_X3_readNumber_94 Q k p (nI (p1 T t a)) (iI (dv T (p1 T t a) (min (p2 T t a - p1 T t a) 3))) (cA C (p2 T t a)) := by
  have h := pp (T := T) ha
  have t5 := ht.1
  have e15 : (cA C (p2 T t a)).1 15 = nI (p2 T t a) := sf_at _ _ _
  have fl : ∀ k : Int, Q (cF (cA C (p2 T t a)) k (p1 T t a)) → e_X3_fail (iI k) (nI (p1 T t a)) (cA C (p2 T t a)) (fun S => Q S) := by
    intro k hk
    unfold e_X3_fail
    intro S1 e1 S2 e2
    rw [e2, e1]
    exact hk
  unfold e_X3_readNumber_94
  have es : nI (p2 T t a) - nI (p1 T t a) = iI ((p2 T t a - p1 T t a : Nat) : Int) := by
    rw [iI_nat, iI_nat, iI_sub]
    congr 1
    omega
  rw [e15, nI_eq (by omega) (by omega), es, L3, iI_lt (sm_of (by decide) (by decide)) (sm_of (by omega) (by omega))]
  refine ⟨fun c => ⟨fun c2 => fl 2 ?_, fun c2 => ?_⟩, fun c => fl 1 ?_⟩
  · have := hno (fun q => by have := q.2.1; omega)
    unfold nCd at this
    rw [if_neg c] at this
    exact this
  · have em : min (p2 T t a - p1 T t a) 3 = p2 T t a - p1 T t a := by omega
    rw [em]
    have zb := zN_bd (T := T) ha (by omega)
    have zb2 : 0 ≤ dv T (p1 T t a) (p2 T t a - p1 T t a) ∧ dv T (p1 T t a) (p2 T t a - p1 T t a) ≤ 999 := zb
    refine hlo _ _ ?_
    rw [iI_lt (sm_of (by omega) (by omega)) (sm_of (by omega) (by omega))]
    refine ⟨fun c3 => fl 2 ?_, fun c3 => hhi _ ?_⟩
    · have := hno (fun q => by have : lo ≤ dv T (p1 T t a) (p2 T t a - p1 T t a) := q.2.2.1; omega)
      unfold nCd at this
      rw [if_neg c] at this
      exact this
    · rw [iI_le (sm_of (by omega) (by omega)) (sm_of (by omega) (by omega))]
      refine ⟨fun c4 => hok ⟨by omega, by omega, by show lo ≤ dv _ _ _; omega, c4⟩, fun c4 => fl 2 ?_⟩
      have := hno (fun q => c4 q.2.2.2)
      unfold nCd at this
      rw [if_neg c] at this
      exact this
  · have := hno (fun q => by have := q.1; omega)
    unfold nCd at this
    rw [if_pos c] at this
    exact this
theorem pC_num_no (ht : okT T t) (hC : txC T t C) (ha : a ≤ t) (hp : pn < 3) (ep : p = nI pn) (blo : -1000 ≤ lo ∧ lo ≤ 1000) (bhi : -1000 ≤ hi ∧ hi ≤ 1000) (hlo : ∀ (S : vS) (Q : Int32 → vS → Prop), Q (iI lo) S → e_X3_leastOf k p S Q) (hhi : ∀ Q : Int32 → vS → Prop, Q (iI hi) (cA C (p2 T t a)) → e_X3_mostOf k p (cA C (p2 T t a)) Q) (h : ¬ nOK T t a lo hi) : runU (e_X3_readNumber k p (cA C a)) (cF (cA C (p2 T t a)) (nCd T t a) (p1 T t a)) :=
  fun _ hq => pC_rn ht hC ha (pC_94 ht ha hp ep blo bhi hlo hhi (fun _ => hq) (fun c => absurd c h))
theorem pC_num_ok (ht : okT T t) (hC : txC T t C) (ha : a ≤ t) (hp : pn < 3) (ep : p = nI pn) (blo : -1000 ≤ lo ∧ lo ≤ 1000) (bhi : -1000 ≤ hi ∧ hi ≤ 1000) (hlo : ∀ (S : vS) (Q : Int32 → vS → Prop), Q (iI lo) S → e_X3_leastOf k p S Q) (hhi : ∀ Q : Int32 → vS → Prop, Q (iI hi) (cA C (p2 T t a)) → e_X3_mostOf k p (cA C (p2 T t a)) Q) (h : nOK T t a lo hi) (hcl : runV (e_X3_clashes k p (iI (zN T t a)) (cA C (p2 T t a))) 0 (cA C (p2 T t a))) : runU (e_X3_readNumber k p (cA C a)) (sa (cA C (p2 T t a)) 18 pn (iI (zN T t a))) := by
  intro Q hq
  refine pC_rn ht hC ha (pC_94 ht ha hp ep blo bhi hlo hhi (fun c => absurd h c) (fun _ => hcl _ ⟨fun _ => ?_, fun c => absurd rfl c⟩))
  rw [ep, cl_nI (by omega)]
  refine ⟨in_nI (by omega) (by omega), fun S28 e28 => ?_⟩
  rw [e28]
  exact hq
theorem pC_num_cl (ht : okT T t) (hC : txC T t C) (ha : a ≤ t) (hp : pn < 3) (ep : p = nI pn) (blo : -1000 ≤ lo ∧ lo ≤ 1000) (bhi : -1000 ≤ hi ∧ hi ≤ 1000) (hlo : ∀ (S : vS) (Q : Int32 → vS → Prop), Q (iI lo) S → e_X3_leastOf k p S Q) (hhi : ∀ Q : Int32 → vS → Prop, Q (iI hi) (cA C (p2 T t a)) → e_X3_mostOf k p (cA C (p2 T t a)) Q) (h : nOK T t a lo hi) (hcl : runV (e_X3_clashes k p (iI (zN T t a)) (cA C (p2 T t a))) 1 (cA C (p2 T t a))) : runU (e_X3_readNumber k p (cA C a)) (cF (cA C (p2 T t a)) 4 (p1 T t a)) := by
  intro Q hq
  refine pC_rn ht hC ha (pC_94 ht ha hp ep blo bhi hlo hhi (fun c => absurd h c) (fun _ => hcl _ ⟨fun c => absurd c (by decide), fun _ => ?_⟩))
  unfold e_X3_fail
  intro S1 e1 S2 e2
  rw [e2, e1]
  exact hq
end NN
/-- the reference's number -/
theorem nm_bd : ∀ k, (∀ j, j < k → 48 ≤ T (a + j) ∧ T (a + j) ≤ 57) → 0 ≤ nm T a k ∧ nm T a k ≤ 100009 := by
  intro k
  induction k with
  | zero => intro _; exact ⟨by show (0 : Int) ≤ 0; omega, by show (0 : Int) ≤ 100009; omega⟩
  | succ k ih =>
    intro h
    have h1 := ih (fun j hj => h j (by omega))
    have h2 := h k (by omega)
    unfold nm
    split <;> omega
theorem nm_dv : ∀ k, k ≤ 3 → (∀ j, j < k → 48 ≤ T (a + j) ∧ T (a + j) ≤ 57) → nm T a k = dv T a k := by
  intro k
  induction k with
  | zero => intro _ _; rfl
  | succ k ih =>
    intro hk h
    have h1 := ih (by omega) (fun j hj => h j (by omega))
    have h2 := dv_bd k (fun j hj => h j (by omega))
    have h3 := h2.2.2.2 (by omega)
    unfold nm dv
    rw [h1, if_neg (by omega)]
    omega
theorem sfe {f g : Nat → Int32} {r : (Nat → Nat → Int32) × (Nat → Int64)} (h : ∀ j, f j = g j) : ((f, r) : vS) = (g, r) := by
  rw [funext h]
theorem pM_hereP (ht : okT T t) (hM : txM T t M) (ha : a ≤ t) : runV (e_X7_here (mA M a)) (if p1 T t a < t then iI (T (p1 T t a)) else -1) (mA M (p1 T t a)) := pM_here ht hM ha
theorem pM_dig (ht : okT T t) (hM : txM T t M) {lo hi : Int32} {a1 : Nat} {Q : Int32 → vS → Prop} : ∀ (m i : Nat), a1 + i + m = t → (∀ j, j < i → 48 ≤ T (a1 + j) ∧ T (a1 + j) ≤ 57) → e_X7_takeNumber_129 Q lo hi (mN M (rn pD T m (a1 + i)) a1 (nm T a1 (rn pD T m (a1 + i) - a1))) → e_X7_takeNumber_42 Q (m + 1) lo hi (mN M (a1 + i) a1 (nm T a1 i)) := by
  have z48 : (48 : Int64).toInt = 48 := rfl
  have z57 : (57 : Int64).toInt = 57 := rfl
  intro m
  induction m with
  | zero =>
    intro i hi0 hd hq
    unfold e_X7_takeNumber_42
    have e9 : (mN M (a1 + i) a1 (nm T a1 i)).1 9 = nI t := hM.1
    have e11 : (mN M (a1 + i) a1 (nm T a1 i)).1 11 = nI (a1 + i) := rfl
    have := ht.1
    rw [e9, e11, nI_leI (by omega) (by omega)]
    refine ⟨fun _ => ?_, fun c => absurd (by omega) c⟩
    have e : rn pD T 0 (a1 + i) - a1 = i := by show a1 + i - a1 = i; omega
    rw [e] at hq
    exact hq
  | succ m ih =>
    intro i hi0 hd hq
    unfold e_X7_takeNumber_42
    have e9 : (mN M (a1 + i) a1 (nm T a1 i)).1 9 = nI t := hM.1
    have e11 : (mN M (a1 + i) a1 (nm T a1 i)).1 11 = nI (a1 + i) := rfl
    have e13 : (mN M (a1 + i) a1 (nm T a1 i)).1 13 = iI (nm T a1 i) := rfl
    have t5 := ht.1
    have eb : (mN M (a1 + i) a1 (nm T a1 i)).2.1 9 (a1 + i) = iI (T (a1 + i)) := hM.2 _ (by omega)
    have bt := ht.2 (a1 + i) (by omega)
    have nb := nm_bd i hd
    rw [e9, e11, nI_leI (by omega) (by omega), cl_nI (by omega), eb]
    refine ⟨fun c => absurd c (by omega), fun _ => ⟨in_nI (by omega) (by omega), ?_⟩⟩
    refine p_in (fun b1 b2 => ⟨fun c => absurd c (by decide), fun _ => ?_⟩) (fun b1 => ⟨fun _ => ?_, fun c => absurd rfl c⟩)
    · rw [iI_L, iI_T (sm_of (by omega) (by omega)), z48] at b1
      rw [iI_L, iI_T (sm_of (by omega) (by omega)), z57] at b2
      rw [rn_t (by simpa [pD] using And.intro b1 b2)] at hq
      have hd2 : ∀ j, j < i + 1 → 48 ≤ T (a1 + j) ∧ T (a1 + j) ≤ 57 := by
        intro j hj
        by_cases e : j = i
        · rw [e]; exact ⟨b1, b2⟩
        · exact hd j (by omega)
      have nx := ih (i + 1) (by omega) hd2 hq
      have step : ∀ z : Int, e_X7_takeNumber_42 Q (m + 1) lo hi (mN M (a1 + (i + 1)) a1 z) → e_X7_takeNumber_113 (e_X7_takeNumber_42 Q (m + 1)) Q lo hi (iI z) (mN M (a1 + i) a1 (nm T a1 i)) := by
        intro z hz
        unfold e_X7_takeNumber_113
        intro S25 e25 S26 e26
        have f : S25.1 11 = nI (a1 + i) := by rw [e25]; rfl
        rw [f, nI_1] at e26
        have : S26 = mN M (a1 + (i + 1)) a1 z := by
          rw [e26, e25]
          refine sfe (fun j => ?_)
          simp only [mN, sf]
          by_cases j1 : j = 11
          · subst j1; rfl
          · by_cases j2 : j = 13
            · subst j2; rfl
            · simp [j1, j2]
        rw [this]
        exact hz
      rw [e13, show (10000 : Int32) = iI 10000 from rfl, iI_le (sm_of (by omega) (by omega)) (sm_of (by decide) (by decide)), e11, cl_nI (by omega), eb]
      refine ⟨fun c => ⟨in_nI (by omega) (by omega), ?_⟩, fun c => ?_⟩
      · rw [show (10 : Int32) = iI 10 from rfl, show (48 : Int32) = iI 48 from rfl, iI_mul, iI_add, iI_sub]
        refine step _ ?_
        have : nm T a1 (i + 1) = 10 * nm T a1 i + T (a1 + i) - 48 := if_neg (by omega)
        rw [this] at nx
        exact nx
      · refine step _ ?_
        have : nm T a1 (i + 1) = nm T a1 i := if_pos (by omega)
        rw [this] at nx
        exact nx
    · rw [iI_L, iI_T (sm_of (by omega) (by omega)), z48, z57] at b1
      rw [rn_f (by simp [pD]; omega)] at hq
      have e : a1 + i - a1 = i := by omega
      rw [e] at hq
      exact hq
theorem pM_take {lo hi : Int} (ht : okT T t) (hM : txM T t M) (ha : a ≤ t) (blo : -1000 ≤ lo ∧ lo ≤ 1000) (bhi : -1000 ≤ hi ∧ hi ≤ 1000) : (nOK T t a lo hi → runV (e_X7_takeNumber (iI lo) (iI hi) (mA M a)) 0 (mN M (p2 T t a) (p1 T t a) (zN T t a))) ∧ (¬ nOK T t a lo hi → ∃ N, frM M N ∧ N.1 10 = nI (p1 T t a) ∧ runV (e_X7_takeNumber (iI lo) (iI hi) (mA M a)) (iI (nCd T t a)) N) := by
  have z48 : (48 : Int64).toInt = 48 := rfl
  have z57 : (57 : Int64).toInt = 57 := rfl
  have t5 := ht.1
  have h := pp (T := T) ha
  have h1 : p1 T t a ≤ t := by omega
  have e11 : (mA M (p1 T t a)).1 11 = nI (p1 T t a) := sf_at _ _ _
  by_cases dgt : p1 T t a < t ∧ (48 ≤ T (p1 T t a) ∧ T (p1 T t a) ≤ 57)
  · have hlt : p1 T t a < p2 T t a := by
      have em : t - p1 T t a = (t - p1 T t a - 1) + 1 := by omega
      have e1 : p2 T t a = rn pD T (t - p1 T t a - 1) (p1 T t a + 1) := by
        show rn pD T (t - p1 T t a) (p1 T t a) = _
        rw [em, rn_t (by simpa [pD] using dgt.2)]
        congr 1
      have := rn_ge (P := pD) (T := T) (t - p1 T t a - 1) (p1 T t a + 1)
      rw [← e1] at this
      omega
    have gd : ∀ j, j < p2 T t a - p1 T t a → 48 ≤ T (p1 T t a + j) ∧ T (p1 T t a + j) ≤ 57 := fun j hj => dg_in (a := p1 T t a) (t := t) (by omega) (by show _ < p2 T t a; omega)
    have nb := nm_bd _ gd
    have go : ∀ Q : Int32 → vS → Prop, e_X7_takeNumber_129 Q (iI lo) (iI hi) (mN M (p2 T t a) (p1 T t a) (nm T (p1 T t a) (p2 T t a - p1 T t a))) → e_X7_takeNumber (iI lo) (iI hi) (mA M a) Q := by
      intro Q hq
      unfold e_X7_takeNumber
      refine pM_hereP ht hM ha _ ?_
      rw [if_pos dgt.1]
      have tb := ht.2 _ dgt.1
      refine p_in (fun b1 b2 => ⟨fun _ S6 e6 S7 e7 => ?_, fun c => absurd c (by decide)⟩) (fun b1 => ?_)
      · rw [e11] at e6
        have eS : S7 = mN M (p1 T t a + 0) (p1 T t a) (nm T (p1 T t a) 0) := by rw [e7, e6]; rfl
        rw [eS]
        have := pM_dig ht hM (lo := iI lo) (hi := iI hi) (a1 := p1 T t a) (Q := Q) (t - p1 T t a) 0 (by omega) (fun j hj => by omega) hq
        exact ⟨_, this⟩
      · rw [iI_L, iI_T (sm_of (by omega) (by omega)), z48, z57] at b1
        omega
    have n11 : ∀ z, (mN M (p2 T t a) (p1 T t a) z).1 11 = nI (p2 T t a) := fun _ => rfl
    have n13 : ∀ z, (mN M (p2 T t a) (p1 T t a) z).1 13 = iI z := fun _ => rfl
    have n14 : ∀ z, (mN M (p2 T t a) (p1 T t a) z).1 14 = nI (p1 T t a) := fun _ => rfl
    have es : nI (p2 T t a) - nI (p1 T t a) = iI ((p2 T t a - p1 T t a : Nat) : Int) := by
      rw [iI_nat, iI_nat, iI_sub]
      congr 1
      omega
    have cd : nCd T t a = 2 := if_neg (by omega)
    refine ⟨fun ok Q hq => go Q ?_, fun no => ⟨sf (mN M (p2 T t a) (p1 T t a) (nm T (p1 T t a) (p2 T t a - p1 T t a))) 10 (nI (p1 T t a)), ⟨rfl, fun j j1 j2 j3 j4 => ?_⟩, rfl, fun Q hq => go Q ?_⟩⟩
    · obtain ⟨o1, o2, o3, o4⟩ := ok
      have zb := zN_bd (T := T) ha o2
      have ez : nm T (p1 T t a) (p2 T t a - p1 T t a) = zN T t a := nm_dv _ o2 gd
      unfold e_X7_takeNumber_129
      rw [ez, n11, n13, n14, es, L3, iI_lt (sm_of (by decide) (by decide)) (sm_of (by omega) (by omega))]
      refine ⟨fun c => absurd c (by omega), fun _ => p_in (fun b1 b2 => ⟨fun _ => hq, fun c => absurd c (by decide)⟩) (fun b1 => ?_)⟩
      rw [iI_L, iI_L, iI_L, iI_T (sm_of (by omega) (by omega)), iI_T (sm_of (by omega) (by omega)), iI_T (sm_of (by omega) (by omega))] at b1
      omega
    · simp only [sf, mN, j1, j2, j3, j4, if_false]
    · rw [cd] at hq
      unfold e_X7_takeNumber_129
      rw [n11, n13, n14, es, L3, iI_lt (sm_of (by decide) (by decide)) (sm_of (by omega) (by omega))]
      have fl : e_X7_fails (2 : Int32) (nI (p1 T t a)) (mN M (p2 T t a) (p1 T t a) (nm T (p1 T t a) (p2 T t a - p1 T t a))) (fun r S => Q r S) := by
        unfold e_X7_fails
        intro S1 e1
        rw [e1]
        exact hq
      refine ⟨fun _ => fl, fun c => p_in (fun b1 b2 => absurd ⟨hlt, by omega, ?_, ?_⟩ no) (fun b1 => ⟨fun c => absurd rfl c, fun _ => fl⟩)⟩
      · rw [iI_L, iI_L, iI_T (sm_of (by omega) (by omega)), iI_T (sm_of (by omega) (by omega)), nm_dv _ (by omega) gd] at b1
        exact b1
      · rw [iI_L, iI_L, iI_T (sm_of (by omega) (by omega)), iI_T (sm_of (by omega) (by omega)), nm_dv _ (by omega) gd] at b2
        exact b2
  · have he : p2 T t a = p1 T t a := by
      show rn pD T (t - p1 T t a) (p1 T t a) = _
      by_cases c : p1 T t a < t
      · have em : t - p1 T t a = (t - p1 T t a - 1) + 1 := by omega
        rw [em, rn_f (by simp [pD]; omega)]
      · have em : t - p1 T t a = 0 := by omega
        rw [em]; rfl
    have cd : nCd T t a = 1 := if_pos he
    refine ⟨fun ok => by have := ok.1; omega, fun no => ⟨sf (mA M (p1 T t a)) 10 (nI (p1 T t a)), ⟨rfl, fun j j1 j2 j3 j4 => ?_⟩, rfl, fun Q hq => ?_⟩⟩
    · simp only [sf, mA, j1, j2, if_false]
    · rw [cd] at hq
      unfold e_X7_takeNumber
      refine pM_hereP ht hM ha _ ?_
      refine p_in (fun b1 b2 => ?_) (fun b1 => ⟨fun c => absurd rfl c, fun _ => ?_⟩)
      · by_cases c : p1 T t a < t
        · have tb := ht.2 _ c
          rw [if_pos c, iI_L, iI_T (sm_of (by omega) (by omega)), z48] at b1
          rw [if_pos c, iI_L, iI_T (sm_of (by omega) (by omega)), z57] at b2
          omega
        · rw [if_neg c, iI_L, z48] at b1
          exact absurd b1 (by decide)
      · rw [e11]
        unfold e_X7_fails
        intro S1 e1
        rw [e1]
        exact hq
end TT
