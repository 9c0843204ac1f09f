/-! ===== lake: runs of bytes, tokens on both sides ===== -/
def rn (P : Int → Bool) (T : Nat → Int) : Nat → Nat → Nat
  | 0, a => a
  | m + 1, a => if P (T a) then rn P T m (a + 1) else a
theorem rn_ge {P : Int → Bool} {T : Nat → Int} : ∀ m a, a ≤ rn P T m a ∧ rn P T m a ≤ a + m := by
  intro m
  induction m with
  | zero => intro a; exact ⟨Nat.le_refl _, Nat.le_refl _⟩
  | succ m ih =>
    intro a
    unfold rn
    have := ih (a + 1)
    split <;> omega
theorem rn_all {P : Int → Bool} {T : Nat → Int} : ∀ m a j, a ≤ j → j < rn P T m a → P (T j) = true := by
  intro m
  induction m with
  | zero => intro a j h1 h2; have : j < a := h2; omega
  | succ m ih =>
    intro a j h1 h2
    unfold rn at h2
    split at h2
    · rename_i c
      by_cases e : j = a
      · rw [e]; exact c
      · exact ih (a + 1) j (by omega) h2
    · omega
theorem rn_stop {P : Int → Bool} {T : Nat → Int} : ∀ m a, rn P T m a < a + m → P (T (rn P T m a)) = false := by
  intro m
  induction m with
  | zero => intro a h; have : a < a + 0 := h; omega
  | succ m ih =>
    intro a h
    unfold rn at h ⊢
    split at h
    · rename_i c
      rw [if_pos c]
      exact ih (a + 1) (by omega)
    · rename_i c
      rw [if_neg c]
      simpa using c
theorem rn_t {P : Int → Bool} {T : Nat → Int} {m a : Nat} (h : P (T a) = true) : rn P T (m + 1) a = rn P T m (a + 1) := by
  rw [rn, if_pos h]
theorem rn_f {P : Int → Bool} {T : Nat → Int} {m a : Nat} (h : P (T a) = false) : rn P T (m + 1) a = a := by
  rw [rn, if_neg (by rw [h]; decide)]
def pB (z : Int) : Bool := decide (z = 32)
def pD (z : Int) : Bool := decide (48 ≤ z ∧ z ≤ 57)
def pL (z : Int) : Bool := decide (97 ≤ z ∧ z ≤ 122)
abbrev sk (T : Nat → Int) (t a : Nat) : Nat := rn pB T (t - a) a
abbrev dg (T : Nat → Int) (t a : Nat) : Nat := rn pD T (t - a) a
abbrev lr (T : Nat → Int) (t a : Nat) : Nat := rn pL T (t - a) a
def dv (T : Nat → Int) (a : Nat) : Nat → Int
  | 0 => 0
  | k + 1 => dv T a k * 10 + T (a + k) - 48
def sg8 (z : Int) : Int := if z < 128 then z else z - 256
theorem sg8_bd {z : Int} (h : 0 ≤ z ∧ z < 256) : -128 ≤ sg8 z ∧ sg8 z < 128 := by unfold sg8; split <;> omega
def txC (T : Nat → Int) (t : Nat) (C : vS) : Prop := C.1 12 = nI t ∧ ∀ j, j < t → C.2.1 17 j = iI (sg8 (T j))
def txM (T : Nat → Int) (t : Nat) (M : vS) : Prop := M.1 9 = nI t ∧ ∀ j, j < t → M.2.1 9 j = iI (T j)
def okT (T : Nat → Int) (t : Nat) : Prop := t ≤ 500 ∧ ∀ j, j < t → 0 ≤ T j ∧ T j < 256
def cA (C : vS) (a : Nat) : vS := sf C 15 (nI a)
def mA (M : vS) (a : Nat) : vS := sf M 11 (nI a)
def runU (e : (vS → Prop) → Prop) (S : vS) : Prop := ∀ Q, Q S → e Q
def runV (e : (Int32 → vS → Prop) → Prop) (r : Int32) (S : vS) : Prop := ∀ Q, Q r S → e Q
theorem cA_A (C : vS) (a b : Nat) : cA (cA C a) b = cA C b := sf_sf _ _ _ _
theorem mA_A (M : vS) (a b : Nat) : mA (mA M a) b = mA M b := sf_sf _ _ _ _
section TT
variable {C M : vS} {T : Nat → Int} {t a : Nat}
theorem nI_500 : (500 : Int32) = nI 500 := rfl
/-- blanks -/
theorem pC_skip0 (ht : okT T t) (hC : txC T t C) {Q : vS → Prop} : ∀ (m a : Nat), a + m = t → Q (cA C (rn pB T m a)) → e_X3_skipBlanks_0 Q (m + 1) (cA C a) := by
  intro m
  induction m with
  | zero =>
    intro a ha hq
    unfold e_X3_skipBlanks_0
    have e12 : (cA C a).1 12 = nI t := hC.1
    have e15 : (cA C a).1 15 = nI a := sf_at _ _ _
    have := ht.1
    rw [e12, e15, nI_leI (by omega) (by omega)]
    exact ⟨fun _ => hq, fun c => absurd (by omega) c⟩
  | succ m ih =>
    intro a ha hq
    unfold e_X3_skipBlanks_0
    have e12 : (cA C a).1 12 = nI t := hC.1
    have e15 : (cA C a).1 15 = nI a := sf_at _ _ _
    have t5 := ht.1
    have eb : (cA C a).2.1 17 a = iI (sg8 (T a)) := hC.2 a (by omega)
    have bd := sg8_bd (ht.2 a (by omega))
    have bt := ht.2 a (by omega)
    have e32 : iI (sg8 (T a)) = 32 ↔ T a = 32 := by
      rw [show (32 : Int32) = iI 32 from rfl, iI_eq (sm_of (by omega) (by omega)) (sm_of (by decide) (by decide))]
      unfold sg8
      split <;> omega
    rw [e12, e15, nI_leI (by omega) (by omega), cl_nI (by omega), eb, e32]
    refine ⟨fun c => absurd c (by omega), fun _ => ⟨in_nI (by omega) (by omega), fun c => ?_, fun c S8 e8 => ?_⟩⟩
    · rw [rn_f (by simpa [pB] using c)] at hq
      exact hq
    · rw [rn_t (by simpa [pB] using c)] at hq
      rw [nI_1] at e8
      have e9 : S8 = cA C (a + 1) := by rw [e8]; exact sf_sf _ _ _ _
      rw [e9]
      exact ih (a + 1) (by omega) hq
theorem pC_skip (ht : okT T t) (hC : txC T t C) (ha : a ≤ t) : runU (e_X3_skipBlanks (cA C a)) (cA C (sk T t a)) := by
  intro Q hq
  have h := pC_skip0 ht hC (Q := Q) (t - a) a (by omega) hq
  unfold e_X3_skipBlanks_0 at h
  unfold e_X3_skipBlanks
  refine ⟨h.1, fun c => ⟨(h.2 c).1, (h.2 c).2.1, fun c2 S4 e4 => ⟨_, (h.2 c).2.2 c2 S4 e4⟩⟩⟩
theorem pM_here0 (ht : okT T t) (hM : txM T t M) {Q : Int32 → vS → Prop} : ∀ (m a : Nat), a + m = t → Q (if rn pB T m a < t then iI (T (rn pB T m a)) else -1) (mA M (rn pB T m a)) → e_X7_here_0 Q (m + 1) (mA M a) := by
  have fin : ∀ a, a ≤ t → Q (if a < t then iI (T a) else -1) (mA M a) → e_X7_here_38 Q (mA M a) := by
    intro a ha hq
    unfold e_X7_here_38
    have e12 : (mA M a).1 9 = nI t := hM.1
    have e15 : (mA M a).1 11 = nI a := sf_at _ _ _
    have t5 := ht.1
    rw [e12, e15, nI_leI (by omega) (by omega), cl_nI (by omega)]
    refine ⟨fun c => ?_, fun c => ⟨in_nI (by omega) (by omega), ?_⟩⟩
    · rw [if_neg (by omega)] at hq
      exact hq
    · have eb : (mA M a).2.1 9 a = iI (T a) := hM.2 a (by omega)
      rw [if_pos (by omega)] at hq
      rw [eb]
      exact hq
  intro m
  induction m with
  | zero =>
    intro a ha hq
    unfold e_X7_here_0
    have e12 : (mA M a).1 9 = nI t := hM.1
    have e15 : (mA M a).1 11 = nI a := sf_at _ _ _
    have := ht.1
    rw [e12, e15, nI_leI (by omega) (by omega)]
    exact ⟨fun _ => fin a (by omega) hq, fun c => absurd (by omega) c⟩
  | succ m ih =>
    intro a ha hq
    unfold e_X7_here_0
    have e12 : (mA M a).1 9 = nI t := hM.1
    have e15 : (mA M a).1 11 = nI a := sf_at _ _ _
    have t5 := ht.1
    have eb : (mA M a).2.1 9 a = iI (T a) := hM.2 a (by omega)
    have bt := ht.2 a (by omega)
    have e32 : iI (T a) = 32 ↔ T a = 32 := by
      rw [show (32 : Int32) = iI 32 from rfl, iI_eq (sm_of (by omega) (by omega)) (sm_of (by decide) (by decide))]
    rw [e12, e15, nI_leI (by omega) (by omega), cl_nI (by omega), eb, e32]
    refine ⟨fun c => absurd c (by omega), fun _ => ⟨in_nI (by omega) (by omega), fun c => ?_, fun c S8 e8 => ?_⟩⟩
    · rw [rn_f (by simpa [pB] using c)] at hq
      exact fin a (by omega) hq
    · rw [rn_t (by simpa [pB] using c)] at hq
      rw [nI_1] at e8
      have e9 : S8 = mA M (a + 1) := by rw [e8]; exact sf_sf _ _ _ _
      rw [e9]
      exact ih (a + 1) (by omega) hq
theorem pM_here (ht : okT T t) (hM : txM T t M) (ha : a ≤ t) : runV (e_X7_here (mA M a)) (if sk T t a < t then iI (T (sk T t a)) else -1) (mA M (sk T t a)) := by
  intro Q hq
  have h := pM_here0 ht hM (Q := Q) (t - a) a (by omega) hq
  unfold e_X7_here_0 at h
  unfold e_X7_here
  refine ⟨h.1, fun c => ⟨(h.2 c).1, (h.2 c).2.1, fun c2 S4 e4 => ⟨_, (h.2 c).2.2 c2 S4 e4⟩⟩⟩
theorem sk_le (ha : a ≤ t) : a ≤ sk T t a ∧ sk T t a ≤ t := by
  show a ≤ rn pB T (t - a) a ∧ rn pB T (t - a) a ≤ t
  have := rn_ge (P := pB) (T := T) (t - a) a
  omega
theorem dg_le (ha : a ≤ t) : a ≤ dg T t a ∧ dg T t a ≤ t := by
  show a ≤ rn pD T (t - a) a ∧ rn pD T (t - a) a ≤ t
  have := rn_ge (P := pD) (T := T) (t - a) a
  omega
theorem lr_le (ha : a ≤ t) : a ≤ lr T t a ∧ lr T t a ≤ t := by
  show a ≤ rn pL T (t - a) a ∧ rn pL T (t - a) a ≤ t
  have := rn_ge (P := pL) (T := T) (t - a) a
  omega
theorem dg_in {j : Nat} (h1 : a ≤ j) (h2 : j < dg T t a) : 48 ≤ T j ∧ T j ≤ 57 := by
  have := rn_all (P := pD) (T := T) (t - a) a j h1 h2
  simpa [pD] using this
theorem dg_out (ha : a ≤ t) (h : dg T t a < t) : ¬ (48 ≤ T (dg T t a) ∧ T (dg T t a) ≤ 57) := by
  have h' : rn pD T (t - a) a < t := h
  have := rn_stop (P := pD) (T := T) (t - a) a (by omega)
  simpa [pD] using this
theorem dv_bd : ∀ k, (∀ j, j < k → 48 ≤ T (a + j) ∧ T (a + j) ≤ 57) → 0 ≤ dv T a k ∧ (k ≤ 1 → dv T a k ≤ 9) ∧ (k ≤ 2 → dv T a k ≤ 99) ∧ (k ≤ 3 → dv T a k ≤ 999) := by
  intro k
  induction k with
  | zero => intro _; refine ⟨?_, fun _ => ?_, fun _ => ?_, fun _ => ?_⟩ <;> (show _ ≤ _; unfold dv; omega)
  | succ k ih =>
    intro h
    have h1 := ih (fun j hj => h j (by omega))
    have h2 := h k (by omega)
    have k0 : k = 0 → dv T a k = 0 := fun e => by rw [e]; rfl
    unfold dv
    refine ⟨by omega, fun c => ?_, fun c => ?_, fun c => ?_⟩
    · have := k0 (by omega); omega
    · have := h1.2.1 (by omega); omega
    · have := h1.2.2.1 (by omega); omega
end TT
