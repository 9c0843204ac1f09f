/-! ===== lake: words on both sides ===== -/
def mtc (T : Nat → Int) (a b k : Nat) : Prop := b - a = vlen k ∧ ∀ i, i < vlen k → T (a + i) = (vch k i).toInt
theorem nmtc (p : Prop) : p ∨ ¬ p := Classical.em p
def sayF (T : Nat → Int) (a : Nat) : Nat → Int
  | 0 => 0
  | k + 1 => if 10000000000000 < sayF T a k then 20000000000000 else 27 * sayF T a k + T (a + k) - 96
def sayC (c : Nat → Int) : Nat → Int
  | 0 => 0
  | k + 1 => 27 * sayC c k + c k - 96
def iL (z : Int) : Int64 := Int64.ofInt z
theorem iL_add (a b : Int) : iL a + iL b = iL (a + b) := (Int64.ofInt_add a b).symm
theorem iL_sub (a b : Int) : iL a - iL b = iL (a - b) := (Int64.ofInt_sub a b).symm
theorem iL_mul (a b : Int) : iL a * iL b = iL (a * b) := (Int64.ofInt_mul a b).symm
def smL (z : Int) : Prop := -9000000000000000000 ≤ z ∧ z ≤ 9000000000000000000
theorem iL_T {a : Int} (ha : smL a) : (iL a).toInt = a := Int64.toInt_ofInt_of_le (by have := ha.1; omega) (by have := ha.2; omega)
theorem iL_le {a b : Int} (ha : smL a) (hb : smL b) : iL a ≤ iL b ↔ a ≤ b := by rw [Int64.le_iff_toInt_le, iL_T ha, iL_T hb]
theorem iL_eq {a b : Int} (ha : smL a) (hb : smL b) : iL a = iL b ↔ a = b := by
  constructor
  · intro h
    have h1 := congrArg Int64.toInt h
    rwa [iL_T ha, iL_T hb] at h1
  · intro h; rw [h]
theorem iI_iL {z : Int} (h : sm z) : (iI z).toInt64 = iL z := by
  have e : (iI z).toInt64.toInt = (iL z).toInt := by
    rw [iI_L, iI_T h, iL_T ⟨by have := h.1; omega, by have := h.2; omega⟩]
  exact Int64.toInt_inj.mp e
section TT
variable {C M : vS} {T : Nat → Int} {t a : Nat}
theorem sayF_bd : ∀ k, (∀ j, j < k → 97 ≤ T (a + j) ∧ T (a + j) ≤ 122) → 0 ≤ sayF T a k ∧ sayF T a k ≤ 300000000000000 ∧ (0 < k → 1 ≤ sayF T a k) := by
  intro k
  induction k with
  | zero => intro _; exact ⟨by show (0 : Int) ≤ 0; omega, by show (0 : Int) ≤ _; omega, fun c => by omega⟩
  | succ k ih =>
    intro h
    have h1 := ih (fun j hj => h j (by omega))
    have h2 := h k (by omega)
    unfold sayF
    split <;> omega
theorem say_is {c : Nat → Int} : ∀ L, (∀ i, i < L → 97 ≤ c i ∧ c i ≤ 122) → sayC c L ≤ 10000000000000 → 0 ≤ sayC c L ∧ ∀ n, (∀ j, j < n → 97 ≤ T (a + j) ∧ T (a + j) ≤ 122) → (sayF T a n = sayC c L ↔ n = L ∧ ∀ i, i < L → T (a + i) = c i) := by
  intro L
  induction L with
  | zero =>
    intro hc hb
    refine ⟨by show (0 : Int) ≤ 0; omega, fun n hn => ⟨fun h => ⟨?_, fun i hi => by omega⟩, fun h => by rw [h.1]; rfl⟩⟩
    have := (sayF_bd n hn).2.2
    have e : sayC c 0 = 0 := rfl
    omega
  | succ L ih =>
    intro hc hb
    have h1 := hc L (by omega)
    have e : sayC c (L + 1) = 27 * sayC c L + c L - 96 := rfl
    have h2 : 0 ≤ sayC c L ∧ sayC c L ≤ 10000000000000 := by
      by_cases q : sayC c L ≤ 10000000000000
      · exact ⟨(ih (fun i hi => hc i (by omega)) q).1, q⟩
      · omega
    obtain ⟨-, ih2⟩ := ih (fun i hi => hc i (by omega)) h2.2
    refine ⟨by omega, fun n hn => ?_⟩
    cases n with
    | zero =>
      have e0 : sayF T a 0 = 0 := rfl
      exact ⟨fun h => by omega, fun h => by omega⟩
    | succ m =>
      have d := hn m (by omega)
      have ihm := ih2 m (fun j hj => hn j (by omega))
      have ef : sayF T a (m + 1) = if 10000000000000 < sayF T a m then 20000000000000 else 27 * sayF T a m + T (a + m) - 96 := rfl
      have key : sayF T a (m + 1) = sayC c (L + 1) ↔ sayF T a m = sayC c L ∧ T (a + m) = c L := by
        rw [ef, e]
        split
        · exact ⟨fun h => by omega, fun h => by omega⟩
        · exact ⟨fun h => ⟨by omega, by omega⟩, fun h => by omega⟩
      rw [key, ihm]
      constructor
      · intro ⟨⟨h3, h4⟩, h5⟩
        refine ⟨by omega, fun i hi => ?_⟩
        by_cases q : i = L
        · rw [q]
          rw [h3] at h5
          exact h5
        · exact h4 i (by omega)
      · intro ⟨h3, h4⟩
        have h6 : m = L := by omega
        refine ⟨⟨h6, fun i hi => h4 i (by omega)⟩, ?_⟩
        rw [h6]
        exact h4 L (by omega)
theorem wrd_ok : ∀ k, k < 6 → (∀ i, i < vlen k → 97 ≤ (vch k i).toInt ∧ (vch k i).toInt ≤ 122) ∧ sayC (fun i => (vch k i).toInt) (vlen k) ≤ 10000000000000 ∧ vlen k ≤ 6 := by decide +kernel
theorem say_w {b k : Nat} (hk : k < 6) (hn : ∀ j, j < b - a → 97 ≤ T (a + j) ∧ T (a + j) ≤ 122) : sayF T a (b - a) = sayC (fun i => (vch k i).toInt) (vlen k) ↔ mtc T a b k := by
  obtain ⟨w1, w2, -⟩ := wrd_ok k hk
  exact (say_is (T := T) (a := a) (c := fun i => (vch k i).toInt) (vlen k) w1 w2).2 (b - a) hn
theorem lr_in {j : Nat} (h1 : a ≤ j) (h2 : j < lr T t a) : 97 ≤ T j ∧ T j ≤ 122 := by
  have := rn_all (P := pL) (T := T) (t - a) a j h1 h2
  simpa [pL] using this
/-- the class reads a kind -/
theorem pC_isWord (ht : okT T t) (hC : txC T t C) (ha : a ≤ t) {k : Nat} (hk : k < 6) {x : Nat} {Q : Int32 → vS → Prop} (h1 : mtc T a (lr T t a) k → Q 1 (cA C x)) (h0 : ¬ mtc T a (lr T t a) k → Q 0 (cA C x)) : e_X3_isWord k (nI a) (nI (lr T t a)) (cA C x) Q := by
  have hl := lr_le (T := T) ha
  have t5 := ht.1
  obtain ⟨w1, w2, w3⟩ := wrd_ok k hk
  unfold e_X3_isWord
  have es : nI (lr T t a) - nI a = nI (lr T t a - a) := by
    rw [iI_nat, iI_nat, iI_nat, iI_sub]
    congr 1
    omega
  rw [es, nI_eq (by omega) (by omega)]
  refine ⟨fun c => ⟨vlen k + 1, ?_⟩, fun c => h0 (fun m => c m.1)⟩
  have loop : ∀ (m j : Nat), j + m = vlen k → (∀ i, i < j → T (a + i) = (vch k i).toInt) → e_X3_isWord_15 k Q (m + 1) (nI a) j (cA C x) := by
    intro m
    induction m with
    | zero =>
      intro j hj hp
      unfold e_X3_isWord_15
      refine ⟨fun _ => h1 ⟨c, fun i hi => hp i (by omega)⟩, fun q => by omega⟩
    | succ m ih =>
      intro j hj hp
      unfold e_X3_isWord_15
      refine ⟨fun q => by omega, fun q => ?_⟩
      have ex : nI a + nI j = nI (a + j) := by
        rw [iI_nat, iI_nat, iI_nat, iI_add]; rfl
      have lt : a + j < lr T t a := by omega
      have dl := lr_in (T := T) (t := t) (a := a) (j := a + j) (by omega) lt
      have eb : (cA C x).2.1 17 (a + j) = iI (T (a + j)) := by
        have : (cA C x).2.1 17 (a + j) = iI (sg8 (T (a + j))) := hC.2 _ (by omega)
        rw [this]
        congr 1
        unfold sg8
        rw [if_pos (by omega)]
      have ev : iI (T (a + j)) = vch k j ↔ T (a + j) = (vch k j).toInt := by
        constructor
        · intro h
          rw [← h, iI_T (sm_of (by omega) (by omega))]
        · intro h
          rw [h, ← iI_of]
      rw [ex, cl_nI (by omega), eb, ev]
      refine ⟨in_nI (by omega) (by omega), fun e => ih (j + 1) (by omega) (fun i hi => ?_), fun e => h0 (fun m => e (m.2 j (by omega)))⟩
      by_cases q2 : i = j
      · rw [q2]; exact e
      · exact hp i (by omega)
  exact loop (vlen k) 0 (by omega) (fun i hi => by omega)
def kd (T : Nat → Int) (a b : Nat) (k : Int) : Prop := (0 ≤ k ∧ k < 6 ∧ mtc T a b k.toNat ∧ ∀ j : Nat, (j : Int) < k → ¬ mtc T a b j) ∨ (k = -1 ∧ ∀ j, j < 6 → ¬ mtc T a b j)
theorem kd_ex (T : Nat → Int) (a b : Nat) : ∃ k, kd T a b k := by
  have : ∀ m, m ≤ 6 → (∃ k : Nat, k < m ∧ mtc T a b k ∧ ∀ j, j < k → ¬ mtc T a b j) ∨ ∀ j, j < m → ¬ mtc T a b j := by
    intro m
    induction m with
    | zero => intro _; right; intro j hj; omega
    | succ m ih =>
      intro hm
      rcases ih (by omega) with ⟨k, h1, h2, h3⟩ | h
      · exact Or.inl ⟨k, by omega, h2, h3⟩
      · rcases nmtc (mtc T a b m) with c | c
        · exact Or.inl ⟨m, by omega, c, h⟩
        · right
          intro j hj
          by_cases q : j = m
          · rw [q]; exact c
          · exact h j (by omega)
  rcases this 6 (by omega) with ⟨k, h1, h2, h3⟩ | h
  · exact ⟨k, Or.inl ⟨by omega, by omega, h2, fun j hj => h3 j (by omega)⟩⟩
  · exact ⟨-1, Or.inr ⟨rfl, h⟩⟩
theorem kix_nI : ∀ k, k < 6 → kix (nI k) = k := by decide
theorem pC_kind (ht : okT T t) (hC : txC T t C) (ha : a ≤ t) {k : Int} (hk : kd T a (lr T t a) k) : runV (e_X3_readKind (cA C a)) (iI k) (cA C (lr T t a)) := by
  have hl := lr_le (T := T) ha
  have t5 := ht.1
  intro Q hq
  have l59 : ∀ (m j : Nat), j + m = 6 → (∀ i, i < j → ¬ mtc T a (lr T t a) i) → e_X3_readKind_59 Q (m + 1) (nI a) (nI j) (cA C (lr T t a)) := by
    intro m
    induction m with
    | zero =>
      intro j hj hn
      unfold e_X3_readKind_59
      rw [show (6 : Int32) = nI 6 from rfl, nI_leI (by omega) (by omega)]
      refine ⟨fun _ => ?_, fun c => absurd (by omega) c⟩
      have : k = -1 := by
        rcases hk with ⟨k1, k2, k3, -⟩ | ⟨k1, -⟩
        · exact absurd k3 (hn _ (by omega))
        · exact k1
      rw [this] at hq
      exact hq
    | succ m ih =>
      intro j hj hn
      unfold e_X3_readKind_59
      rw [show (6 : Int32) = nI 6 from rfl, nI_leI (by omega) (by omega), kix_nI j (by omega)]
      have e15 : (cA C (lr T t a)).1 15 = nI (lr T t a) := sf_at _ _ _
      rw [e15, nI_1]
      refine ⟨fun c => absurd c (by omega), fun _ => ?_⟩
      show e_X3_isWord j _ _ _ _
      refine pC_isWord ht hC ha (by omega) (fun hm => ⟨fun c => absurd c (by decide), fun _ => ?_⟩) (fun hm => ⟨fun _ v12 e12 => ?_, fun c => absurd rfl c⟩)
      · have : k = j := by
          rcases hk with ⟨k1, k2, k3, k4⟩ | ⟨-, k4⟩
          · rcases Int.lt_trichotomy k j with q | q | q
            · exact absurd k3 (hn _ (by omega))
            · exact q
            · exact absurd hm (k4 j q)
          · exact absurd hm (k4 j (by omega))
        rw [this, ← iI_nat] at hq
        exact hq
      · rw [e12]
        refine ih (j + 1) (by omega) (fun i hi => ?_)
        by_cases q : i = j
        · rw [q]; exact hm
        · exact hn i (by omega)
  have l5 : ∀ (m x : Nat), x + m = t → rn pL T m x = lr T t a → e_X3_readKind_5 Q (m + 1) (nI a) (cA C x) := by
    intro m
    induction m with
    | zero =>
      intro x hx he
      unfold e_X3_readKind_5
      have e12 : (cA C x).1 12 = nI t := hC.1
      have e15 : (cA C x).1 15 = nI x := sf_at _ _ _
      rw [e12, e15, nI_leI (by omega) (by omega)]
      have ex : x = lr T t a := he
      refine ⟨fun _ => ⟨7, ?_⟩, fun c => absurd (by omega) c⟩
      rw [ex]
      exact l59 6 0 (by omega) (fun i hi => by omega)
    | succ m ih =>
      intro x hx he
      unfold e_X3_readKind_5
      have e12 : (cA C x).1 12 = nI t := hC.1
      have e15 : (cA C x).1 15 = nI x := sf_at _ _ _
      have eb : (cA C x).2.1 17 x = iI (sg8 (T x)) := hC.2 _ (by omega)
      have bt := ht.2 x (by omega)
      have bd := sg8_bd bt
      rw [e12, e15, nI_leI (by omega) (by omega), cl_nI (by omega), eb, show (97 : Int32) = iI 97 from rfl, show (122 : Int32) = iI 122 from rfl, iI_lt (sm_of (by omega) (by omega)) (sm_of (by decide) (by decide)), iI_lt (sm_of (by decide) (by decide)) (sm_of (by omega) (by omega)), nI_1]
      have stop : ¬ (97 ≤ T x ∧ T x ≤ 122) → ∃ j, e_X3_readKind_59 Q j (nI a) (0 : Int32) (cA C x) := by
        intro c
        rw [rn_f (by simpa [pL] using c)] at he
        rw [he]
        exact ⟨7, l59 6 0 (by omega) (fun i hi => by omega)⟩
      refine ⟨fun c => absurd c (by omega), fun _ => ⟨in_nI (by omega) (by omega), fun c => stop ?_, fun c => ⟨fun c2 => stop ?_, fun c2 S6 e6 => ?_⟩⟩⟩
      · unfold sg8 at c
        split at c <;> omega
      · unfold sg8 at c2
        split at c2 <;> omega
      · have dl : 97 ≤ T x ∧ T x ≤ 122 := by
          unfold sg8 at c c2
          split at c <;> omega
        rw [rn_t (by simpa [pL] using dl)] at he
        have e : S6 = cA C (x + 1) := by rw [e6]; exact sf_sf _ _ _ _
        rw [e]
        exact ih (x + 1) (by omega) he
  unfold e_X3_readKind
  intro v1 e1
  have e15 : (cA C a).1 15 = nI a := sf_at _ _ _
  rw [e1, e15]
  exact ⟨_, l5 (t - a) a (by omega) rfl⟩
end TT
