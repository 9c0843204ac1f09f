/-! ===== lake: the reference's clause, up to its kind; ends on both sides ===== -/
theorem sf_comm (S : vS) {j k : Nat} (h : j ≠ k) (x y : Int32) : sf (sf S j x) k y = sf (sf S k y) j x := by
  refine sfe (fun i => ?_)
  simp only [sf]
  by_cases i1 : i = j
  · subst i1
    simp [h]
  · simp [i1]
def mZ (M : vS) (a1 : Nat) (n : Int) : vS := sf (sf M 14 (nI a1)) 13 (iI n)
theorem mN_A (M : vS) (x a1 : Nat) (n : Int) : mN M x a1 n = mA (mZ M a1 n) x := by
  unfold mN mA mZ
  rw [sf_comm M (by decide), sf_comm (sf M 14 (nI a1)) (by decide)]
def mK (M : vS) (b : Nat) (s : Int) : vS := sf (sg M 0 (iL s)) 12 (nI b)
def mW (M : vS) (a x : Nat) (z : Int) : vS := sf (sg (mA M a) 0 (iL z)) 12 (nI x)
theorem mW_A (M : vS) (a x : Nat) (z : Int) : mW M a x z = mA (mK M x z) a := by
  unfold mW mA mK
  exact sf_comm (sg M 0 (iL z)) (by decide) _ _
theorem mW_s (M : vS) (a x y : Nat) (z : Int) (u : Int) : sf (sg (mW M a x z) 0 (iL u)) 12 (nI y) = mW M a y u := by
  refine Prod.ext ?_ (Prod.ext rfl ?_)
  · funext j
    simp only [mW, sf, sg]
    by_cases h : j = 12 <;> simp [h]
  · funext j
    simp only [mW, sf, sg]
    by_cases h : j = 0 <;> simp [h]
section TT
variable {C M : vS} {T : Nat → Int} {t a : Nat}
theorem pM_word (ht : okT T t) (hM : txM T t M) (ha : a ≤ t) (hb : sk T t a = a) : runU (e_X7_readWord (mA M a)) (mW M a (lr T t a) (sayF T a (lr T t a - a))) := by
  have t5 := ht.1
  have z97 : (97 : Int64).toInt = 97 := rfl
  have z122 : (122 : Int64).toInt = 122 := rfl
  intro Q hq
  have loop : ∀ (m i : Nat), a + i + m = t → rn pL T m (a + i) = lr T t a → (∀ j, j < i → 97 ≤ T (a + j) ∧ T (a + j) ≤ 122) → e_X7_readWord_18 Q (m + 1) (mW M a (a + i) (sayF T a i)) := by
    intro m
    induction m with
    | zero =>
      intro i hi he hd
      unfold e_X7_readWord_18
      have e9 : (mW M a (a + i) (sayF T a i)).1 9 = nI t := hM.1
      have e12 : (mW M a (a + i) (sayF T a i)).1 12 = nI (a + i) := sf_at _ _ _
      rw [e9, e12, nI_leI (by omega) (by omega)]
      refine ⟨fun _ => ?_, fun c => absurd (by omega) c⟩
      have ex : a + i = lr T t a := he
      have ei : lr T t a - a = i := by omega
      rw [ei, ← ex] at hq
      exact hq
    | succ m ih =>
      intro i hi he hd
      unfold e_X7_readWord_18
      have e9 : (mW M a (a + i) (sayF T a i)).1 9 = nI t := hM.1
      have e12 : (mW M a (a + i) (sayF T a i)).1 12 = nI (a + i) := sf_at _ _ _
      have eb : (mW M a (a + i) (sayF T a i)).2.1 9 (a + i) = iI (T (a + i)) := hM.2 _ (by omega)
      have es : (mW M a (a + i) (sayF T a i)).2.2 0 = iL (sayF T a i) := rfl
      have bt := ht.2 (a + i) (by omega)
      have sb := sayF_bd i hd
      rw [e9, e12, nI_leI (by omega) (by omega), cl_nI (by omega), eb]
      refine ⟨fun c => absurd c (by omega), fun _ => ⟨in_nI (by omega) (by omega), ?_⟩⟩
      refine p_in (fun b1 b2 => ⟨fun c => absurd c (by decide), fun _ => ?_⟩) (fun b1 => ⟨fun _ => ?_, fun c => absurd rfl c⟩)
      · rw [iI_L, iI_T (sm_of (by omega) (by omega)), z97] at b1
        rw [iI_L, iI_T (sm_of (by omega) (by omega)), z122] at b2
        rw [rn_t (by simpa [pL] using And.intro b1 b2)] at he
        have hd2 : ∀ j, j < i + 1 → 97 ≤ T (a + j) ∧ T (a + j) ≤ 122 := by
          intro j hj
          by_cases e : j = i
          · rw [e]; exact ⟨b1, b2⟩
          · exact hd j (by omega)
        have nx := ih (i + 1) (by omega) he hd2
        have step : ∀ z : Int, e_X7_readWord_18 Q (m + 1) (mW M a (a + (i + 1)) z) → e_X7_readWord_92 (e_X7_readWord_18 Q (m + 1)) Q (iL z) (mW M a (a + i) (sayF T a i)) := by
          intro z hz
          unfold e_X7_readWord_92
          intro S12 f12 S13 f13
          have f : S12.1 12 = nI (a + i) := by rw [f12]; rfl
          rw [f, nI_1, f12, mW_s] at f13
          rw [f13]
          exact hz
        rw [es, lg_cmp_le, show (10000000000000 : Int64) = iL 10000000000000 from rfl, iL_le ⟨by omega, by omega⟩ ⟨by decide, by decide⟩, e12, cl_nI (by omega), eb, iI_iL (sm_of (by omega) (by omega))]
        refine ⟨fun c => ⟨in_nI (by omega) (by omega), ?_⟩, fun c => ?_⟩
        · rw [show (27 : Int64) = iL 27 from rfl, show (96 : Int64) = iL 96 from rfl, iL_mul, iL_add, iL_sub]
          refine step _ ?_
          have : sayF T a (i + 1) = 27 * sayF T a i + T (a + i) - 96 := if_neg (by omega)
          rw [this] at nx
          exact nx
        · refine step 20000000000000 ?_
          have : sayF T a (i + 1) = 20000000000000 := if_pos (by omega)
          rw [this] at nx
          exact nx
      · rw [iI_L, iI_T (sm_of (by omega) (by omega)), z97, z122] at b1
        rw [rn_f (by simp [pL]; omega)] at he
        have ei : lr T t a - a = i := by omega
        rw [ei, ← he] at hq
        exact hq
  unfold e_X7_readWord
  refine pM_here ht hM ha _ ?_
  rw [hb]
  intro S3 e3 S4 e4
  have f : S3.1 11 = nI a := by rw [e3]; rfl
  rw [f, e3] at e4
  have : S4 = mW M a (a + 0) (sayF T a 0) := e4
  rw [this]
  exact ⟨_, loop (t - a) 0 (by omega) rfl (fun j hj => by omega)⟩
theorem cd0 : (((27 : Int64) * ((((27 : Int64) * ((((27 : Int64) * (((108 : Int32)).toInt64 - (96 : Int64))) + ((97 : Int32)).toInt64) - (96 : Int64))) + ((107 : Int32)).toInt64) - (96 : Int64))) + ((101 : Int32)).toInt64) - (96 : Int64) = iL (sayC (fun i => (vch 0 i).toInt) (vlen 0)) := by decide +kernel
theorem cd1 : (((27 : Int64) * ((((27 : Int64) * ((((27 : Int64) * (((100 : Int32)).toInt64 - (96 : Int64))) + ((111 : Int32)).toInt64) - (96 : Int64))) + ((111 : Int32)).toInt64) - (96 : Int64))) + ((114 : Int32)).toInt64) - (96 : Int64) = iL (sayC (fun i => (vch 1 i).toInt) (vlen 1)) := by decide +kernel
theorem cd2 : ((27 : Int64) * ((((27 : Int64) * ((((27 : Int64) * ((((27 : Int64) * (((115 : Int32)).toInt64 - (96 : Int64))) + ((116 : Int32)).toInt64) - (96 : Int64))) + ((97 : Int32)).toInt64) - (96 : Int64))) + ((110 : Int32)).toInt64) - (96 : Int64)) + ((100 : Int32)).toInt64) - (96 : Int64) = iL (sayC (fun i => (vch 2 i).toInt) (vlen 2)) := by decide +kernel
theorem cd3 : (((27 : Int64) * ((((27 : Int64) * ((((27 : Int64) * (((102 : Int32)).toInt64 - (96 : Int64))) + ((105 : Int32)).toInt64) - (96 : Int64))) + ((115 : Int32)).toInt64) - (96 : Int64))) + ((104 : Int32)).toInt64) - (96 : Int64) = iL (sayC (fun i => (vch 3 i).toInt) (vlen 3)) := by decide +kernel
theorem cd4 : (((27 : Int64) * ((((27 : Int64) * ((((27 : Int64) * (((109 : Int32)).toInt64 - (96 : Int64))) + ((105 : Int32)).toInt64) - (96 : Int64))) + ((115 : Int32)).toInt64) - (96 : Int64))) + ((116 : Int32)).toInt64) - (96 : Int64) = iL (sayC (fun i => (vch 4 i).toInt) (vlen 4)) := by decide +kernel
theorem cd5 : ((27 : Int64) * (((27 : Int64) * ((((27 : Int64) * ((((27 : Int64) * ((((27 : Int64) * (((115 : Int32)).toInt64 - (96 : Int64))) + ((116 : Int32)).toInt64) - (96 : Int64))) + ((111 : Int32)).toInt64) - (96 : Int64))) + ((114 : Int32)).toInt64) - (96 : Int64)) + ((101 : Int32)).toInt64) - (96 : Int64)) + ((121 : Int32)).toInt64) - (96 : Int64) = iL (sayC (fun i => (vch 5 i).toInt) (vlen 5)) := by decide +kernel
theorem cw_eq {b k : Nat} (hk : k < 6) (hn : ∀ j, j < b - a → 97 ≤ T (a + j) ∧ T (a + j) ≤ 122) : lg_cmp (iL (sayF T a (b - a))) (iL (sayC (fun i => (vch k i).toInt) (vlen k))) = 0 ↔ mtc T a b k := by
  have h1 := sayF_bd _ hn
  obtain ⟨w1, w2, -⟩ := wrd_ok k hk
  have h2 := (say_is (T := T) (a := a) (c := fun i => (vch k i).toInt) (vlen k) w1 w2).1
  rw [lg_cmp_eq, iL_eq ⟨by omega, by omega⟩ ⟨by omega, by omega⟩]
  exact say_w hk hn
theorem kd_is {b j : Nat} {k : Int} (hk : kd T a b k) (hj : j < 6) (h1 : mtc T a b j) (h0 : ∀ i, i < j → ¬ mtc T a b i) : k = j := by
  rcases hk with ⟨k1, k2, k3, k4⟩ | ⟨-, k4⟩
  · rcases Int.lt_trichotomy k j with q | q | q
    · exact absurd k3 (h0 _ (by omega))
    · exact q
    · exact absurd h1 (k4 j q)
  · exact absurd h1 (k4 j hj)
theorem kd_no {b : Nat} {k : Int} (hk : kd T a b k) (h0 : ∀ i, i < 6 → ¬ mtc T a b i) : k = -1 := by
  rcases hk with ⟨k1, k2, k3, k4⟩ | ⟨k1, -⟩
  · exact absurd k3 (h0 _ (by omega))
  · exact k1
theorem pM_kind (ht : okT T t) (hM : txM T t M) (ha : a ≤ t) (hb : sk T t a = a) {k : Int} (hk : kd T a (lr T t a) k) {Q : Int32 → vS → Prop} (hq : e_X7_takeClause_168 Q (iI k) (mW M a (lr T t a) (sayF T a (lr T t a - a)))) : e_X7_takeClause (mA M a) Q := by
  unfold e_X7_takeClause
  refine pM_word ht hM ha hb _ ?_
  have hl := lr_le (T := T) ha
  have hn : ∀ j, j < lr T t a - a → 97 ≤ T (a + j) ∧ T (a + j) ≤ 122 := fun j hj => lr_in (t := t) (a := a) (by omega) (by omega)
  have es : (mW M a (lr T t a) (sayF T a (lr T t a - a))).2.2 0 = iL (sayF T a (lr T t a - a)) := rfl
  have hcode : ∀ (x0 x1 x2 x3 : Int32) (S : vS) (Q : Int64 → vS → Prop), e_X7_code x0 x1 x2 x3 S Q = Q ((((27 : Int64) * ((((27 : Int64) * ((((27 : Int64) * ((x0).toInt64 - (96 : Int64))) + (x1).toInt64) - (96 : Int64))) + (x2).toInt64) - (96 : Int64))) + (x3).toInt64) - (96 : Int64)) S := fun _ _ _ _ _ _ => rfl
  have hlong : ∀ (x0 : Int64) (x2 : Int32) (S : vS) (Q : Int64 → vS → Prop), e_X7_longer x0 x2 S Q = Q ((((27 : Int64) * x0) + (x2).toInt64) - (96 : Int64)) S := fun _ _ _ _ => rfl
  have up79 : ∀ z : Int, 0 ≤ z → z < 100 → z = k → e_X7_takeClause_79 Q (iI z) (mW M a (lr T t a) (sayF T a (lr T t a - a))) := by
    intro z z0 z1 ez
    unfold e_X7_takeClause_79
    have l0 : iI z < 0 ↔ z < 0 := by rw [L0, iI_lt (sm_of (by omega) (by omega)) (sm_of (by decide) (by decide))]
    rw [l0]
    refine ⟨fun c => absurd c (by omega), fun _ => ?_⟩
    rw [ez]; exact hq
  rw [hcode, cd0]
  try rw [es]
  rw [cw_eq (by decide) hn]
  refine ⟨fun n0 => ?_, fun y => up79 0 (by omega) (by omega) (kd_is hk (by decide) y (fun i hi => by omega)).symm⟩
  rw [hcode, cd1]
  try rw [es]
  rw [cw_eq (by decide) hn]
  have z0 : ∀ i, i < 1 → ¬ mtc T a (lr T t a) i := fun i hi => by
    have : i = 0 := by omega
    rw [this]
    exact n0
  refine ⟨fun n1 => ?_, fun y => up79 1 (by omega) (by omega) (kd_is hk (by decide) y z0).symm⟩
  rw [hcode, hlong, cd2]
  try rw [es]
  rw [cw_eq (by decide) hn]
  refine ⟨fun n2 => ?_, fun y => up79 2 (by omega) (by omega) (kd_is hk (by decide) y (fun i hi => ?_)).symm⟩
  · unfold e_X7_takeClause_79
    refine ⟨fun _ => ?_, fun c => absurd (by decide) c⟩
    rw [hcode, cd3]
    try rw [es]
    rw [cw_eq (by decide) hn]
    refine ⟨fun n3 => ?_, fun y => ?_⟩
    · rw [hcode, cd4]
      try rw [es]
      rw [cw_eq (by decide) hn]
      refine ⟨fun n4 => ?_, fun y => ?_⟩
      · rw [hcode, hlong, hlong, cd5]
        try rw [es]
        rw [cw_eq (by decide) hn]
        refine ⟨fun n5 => ?_, fun y => ?_⟩
        · have : k = -1 := kd_no hk (fun i hi => by
            have : i = 0 ∨ i = 1 ∨ i = 2 ∨ i = 3 ∨ i = 4 ∨ i = 5 := by omega
            rcases this with e | e | e | e | e | e <;> rw [e] <;> assumption)
          rw [this] at hq
          exact hq
        · have : k = (5 : Nat) := kd_is hk (by decide) y (fun i hi => by
            have : i = 0 ∨ i = 1 ∨ i = 2 ∨ i = 3 ∨ i = 4 := by omega
            rcases this with e | e | e | e | e <;> rw [e] <;> assumption)
          rw [this] at hq
          exact hq
      · have : k = (4 : Nat) := kd_is hk (by decide) y (fun i hi => by
          have : i = 0 ∨ i = 1 ∨ i = 2 ∨ i = 3 := by omega
          rcases this with e | e | e | e <;> rw [e] <;> assumption)
        rw [this] at hq
        exact hq
    · have : k = (3 : Nat) := kd_is hk (by decide) y (fun i hi => by
        have : i = 0 ∨ i = 1 ∨ i = 2 := by omega
        rcases this with e | e | e <;> rw [e] <;> assumption)
      rw [this] at hq
      exact hq
  · have : i = 0 ∨ i = 1 := by omega
    rcases this with e | e <;> rw [e] <;> assumption
/-- the semicolon -/
def eOK (T : Nat → Int) (t a : Nat) : Prop := sk T t a < t ∧ T (sk T t a) = 59
theorem pC_end (ht : okT T t) (hC : txC T t C) (ha : a ≤ t) : (eOK T t a → runU (e_X3_readEnd (cA C a)) (cA C (sk T t a + 1))) ∧ (¬ eOK T t a → runU (e_X3_readEnd (cA C a)) (cF (cA C (sk T t a)) 1 (sk T t a))) := by
  have hl := sk_le (T := T) ha
  have t5 := ht.1
  have e12 : (cA C (sk T t a)).1 12 = nI t := hC.1
  have e15 : (cA C (sk T t a)).1 15 = nI (sk T t a) := sf_at _ _ _
  have key : ∀ Q : vS → Prop, (eOK T t a → Q (cA C (sk T t a + 1))) → (¬ eOK T t a → Q (cF (cA C (sk T t a)) 1 (sk T t a))) → e_X3_readEnd (cA C a) Q := by
    intro Q h1 h0
    unfold e_X3_readEnd
    refine pC_skip ht hC ha _ ?_
    have fl : ¬ eOK T t a → e_X3_fail (1 : Int32) (nI (sk T t a)) (cA C (sk T t a)) (fun S => Q S) := by
      intro n
      unfold e_X3_fail
      intro S1 f1 S2 f2
      rw [f2, f1]
      exact h0 n
    rw [e12, e15, nI_leI (by omega) (by omega), cl_nI (by omega)]
    refine ⟨fun c => fl (fun k => by have := k.1; omega), fun c => ⟨in_nI (by omega) (by omega), ?_⟩⟩
    have eb : (cA C (sk T t a)).2.1 17 (sk T t a) = iI (sg8 (T (sk T t a))) := hC.2 _ (by omega)
    have bt := ht.2 (sk T t a) (by omega)
    have bd := sg8_bd bt
    have e59 : iI (sg8 (T (sk T t a))) = 59 ↔ T (sk T t a) = 59 := by
      rw [show (59 : Int32) = iI 59 from rfl, iI_eq (sm_of (by omega) (by omega)) (sm_of (by decide) (by decide))]
      unfold sg8
      split <;> omega
    rw [eb, e59, nI_1]
    refine ⟨fun c2 => fl (fun k => c2 k.2), fun c2 S10 e10 => ?_⟩
    have : S10 = cA C (sk T t a + 1) := by rw [e10]; exact sf_sf _ _ _ _
    rw [this]
    exact h1 ⟨by omega, c2⟩
  exact ⟨fun y Q hq => key Q (fun _ => hq) (fun n => absurd y n), fun n Q hq => key Q (fun y => absurd y n) (fun _ => hq)⟩
/-- the reference's clause behind its kind -/
def fin313 (Q : Int32 → vS → Prop) (r49 : Int32) (S48 : vS) : Prop := ((¬ r49 = 0 → (∀ S51 : vS, S51 = sf S48 11 ((S48.1 11) + (1 : Int32)) → Q r49 S51)) ∧ (r49 = 0 → (e_X7_here S48 (fun (r53 : Int32) (S52 : vS) => ((r53 = (59 : Int32) → (∀ S55 : vS, S55 = sf S52 11 ((S52.1 11) + (1 : Int32)) → Q r49 S55)) ∧ (¬ r53 = (59 : Int32) → (e_X7_fails (1 : Int32) (S52.1 11) S52 (fun (r57 : Int32) (S56 : vS) => Q r57 S56))))))))
theorem pM_semi {Q : Int32 → vS → Prop} (ht : okT T t) (hM : txM T t M) (ha : a ≤ t) (h1 : eOK T t a → Q 0 (mA M (sk T t a + 1))) (h0 : ¬ eOK T t a → Q 1 (sf (mA M (sk T t a)) 10 (nI (sk T t a)))) : fin313 Q 0 (mA M a) := by
  have hl := sk_le (T := T) ha
  have t5 := ht.1
  refine ⟨fun c => absurd rfl c, fun _ => pM_here ht hM ha _ ?_⟩
  have e11 : (mA M (sk T t a)).1 11 = nI (sk T t a) := sf_at _ _ _
  rw [e11, nI_1]
  have fl : ¬ eOK T t a → e_X7_fails (1 : Int32) (nI (sk T t a)) (mA M (sk T t a)) (fun r S => Q r S) := by
    intro n
    unfold e_X7_fails
    intro S1 f1
    rw [f1]
    exact h0 n
  by_cases c : sk T t a < t
  · have bt := ht.2 _ c
    rw [if_pos c]
    have e59 : iI (T (sk T t a)) = 59 ↔ T (sk T t a) = 59 := by
      rw [show (59 : Int32) = iI 59 from rfl, iI_eq (sm_of (by omega) (by omega)) (sm_of (by decide) (by decide))]
    rw [e59]
    refine ⟨fun y S55 e55 => ?_, fun n => fl (fun k => n k.2)⟩
    have : S55 = mA M (sk T t a + 1) := by rw [e55]; exact sf_sf _ _ _ _
    rw [this]
    exact h1 ⟨c, y⟩
  · rw [if_neg c]
    exact ⟨fun y => absurd y (by decide), fun _ => fl (fun k => c k.1)⟩
end TT
