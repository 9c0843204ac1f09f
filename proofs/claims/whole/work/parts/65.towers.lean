/-! ===== towers: the reference's side ===== -/
def tB (c : Nat) : Nat → Nat → Nat
  | 0, _ => 0
  | k + 1, w => tB c k w + if k % 2 = w then c / 2 ^ k % 2 else 0
def blF : Nat → Int32 → Int32 → Int32 → Int32 → Option Int32
  | 0, _, _, _, _ => none
  | n + 1, a0, a1, a3, a4 => if a1 ≤ a4 then some a3 else blF n a0 a1 (a3 + ((a0 >>> (a4 &&& 31)) &&& (1 : Int32))) (a4 + 2)
theorem bl_ok : ∀ c, c < 64 → ∀ k, k < 7 → ∀ w, w < 2 → blF 4 (nI c) (nI k) 0 (nI w) = some (nI (tB c k w)) := by decide +kernel
theorem tB_up : ∀ k, k < 6 → ∀ c, c < 64 → c < 2 ^ k → ∀ w, w < 2 → tB (c + 2 ^ k) (k + 1) w = tB c k w + (if k % 2 = w then 1 else 0) := by decide +kernel
theorem tB_hi : ∀ k, k < 6 → ∀ c, c < 64 → c < 2 ^ k → ∀ w, w < 2 → tB c (k + 1) w = tB c k w := by decide +kernel
theorem tB_le : ∀ k, k < 7 → ∀ c, c < 64 → tB c k 0 ≤ (k + 1) / 2 ∧ tB c k 1 ≤ k / 2 := by decide +kernel
theorem sh1 : ∀ k : Nat, k < 7 → (1 : Int32) <<< (nI k &&& 31) = nI (2 ^ k) := by decide +kernel
theorem or1 : ∀ k : Nat, k < 6 → ∀ c, c < 64 → c < 2 ^ k → nI c ||| nI (2 ^ k) = nI (c + 2 ^ k) := by decide +kernel
theorem pw6 : ∀ k, k < 7 → 2 ^ k ≤ 64 ∧ 1 ≤ 2 ^ k := by decide
theorem pw5 : ∀ k, k < 6 → 2 ^ (k + 1) = 2 ^ k + 2 ^ k ∧ 2 ^ k ≤ 32 := by decide
section TT
variable {M : vS} {v : vV}
theorem bl_go {S : vS} {Q : Int32 → vS → Prop} {r : Int32} (hq : Q r S) : ∀ (n : Nat) (a0 a1 a3 a4 : Int32), blF n a0 a1 a3 a4 = some r → e_X7_builds_5 Q n a0 a1 a3 a4 S := by
  intro n
  induction n with
  | zero => intro a0 a1 a3 a4 h; exact absurd h (by simp [blF])
  | succ n ih =>
    intro a0 a1 a3 a4 h
    unfold blF at h
    unfold e_X7_builds_5
    refine ⟨fun c => ?_, fun c v2 e2 v3 e3 => ?_⟩
    · rw [if_pos c] at h
      have := Option.some.inj h
      rw [this]; exact hq
    · rw [if_neg c] at h
      rw [e2, e3]
      exact ih _ _ _ _ h
theorem pM_builds {c k w : Nat} (hc : c < 64) (hk : k < 7) (hw : w < 2) {S : vS} {Q : Int32 → vS → Prop} (hq : Q (nI (tB c k w)) S) : e_X7_builds (nI c) (nI k) (nI w) S Q := ⟨4, bl_go hq 4 _ _ _ _ (bl_ok c hc k hk w hw)⟩
def mE (v : vV) (far : Int) (cost d : Int32) (a b n c : Nat) : Int32 := if 9 < v.2 2 a + tB c n 0 ∨ 9 < v.2 2 b + tB c n 1 then 0 else tE v far cost d a b (tB c n 0) (tB c n 1)
theorem sa6 {S : vS} {a b : Nat} (hab : a ≠ b) {p q x y : Int32} (h1 : S.2.1 6 a = p) (h2 : S.2.1 6 b = q) : sa (sa (sa (sa S 6 a x) 6 b y) 6 a p) 6 b q = S := by
  have e : sa (sa (sa (sa S 6 a x) 6 b y) 6 a p) 6 b q = sr S 6 (upd (upd (upd (upd (S.2.1 6) a x) b y) a p) b q) := by
    show sa (sa (sa (sr S 6 _) 6 b y) 6 a p) 6 b q = _
    rw [sa_sr, sa_sr, sa_sr]
  have e2 : upd (upd (upd (upd (S.2.1 6) a x) b y) a p) b q = S.2.1 6 := by
    funext j
    by_cases j1 : j = b
    · rw [j1, pk_us, h2]
    · rw [pk_un j1]
      by_cases j2 : j = a
      · rw [j2, pk_us, h1]
      · rw [pk_un j2, pk_un j1, pk_un j2]
  rw [e, e2, sr_self]
theorem pM_end (h : shM M v) (hf : shFM M v) (hv : okV v) (hw : okF v) {a b n c : Nat} (hab : a ≠ b) (ha : (a : Int) < v.1 2) (hb : (b : Int) < v.1 2) (hn : n < 7) (hc : c < 64) {d : Int32} {Q : Int32 → vS → Prop} (hq : Q (mE v (sFarN v (M.1 7).toInt) (M.1 5) d a b n c) M) : e_X7_endOf (iI a) (iI b) (nI n) d (nI c) M Q := by
  have hn6 := hv.2.2.2.1
  have ba := (hv.2.2.2.2.2.2.1 a ha).2.2
  have bb := (hv.2.2.2.2.2.2.1 b hb).2.2
  have ca := (h.2.2.2.2.2.1 a ha).2.2
  have cb := (h.2.2.2.2.2.1 b hb).2.2
  have tl := tB_le n hn c hc
  have L9 : (9 : Int32) = iI 9 := rfl
  unfold e_X7_endOf
  refine pM_builds hc hn (w := 0) (by omega) ?_
  refine pM_builds hc hn (w := 1) (by omega) ?_
  rw [cl_nat (by omega), cl_nat (by omega), ca, cb, iI_nat (tB c n 0), iI_nat (tB c n 1), iI_add, iI_add, L9, iI_lt (sm_of (by decide) (by decide)) (sm_of (by omega) (by omega)), iI_le (sm_of (by omega) (by omega)) (sm_of (by decide) (by decide))]
  refine ⟨in6 (by omega), fun q => ?_, fun q => ⟨in6 (by omega), fun q2 => ?_, fun q2 => ?_⟩⟩
  · unfold mE at hq
    rw [if_pos (by omega)] at hq
    exact hq
  · intro S9 e9 S10 e10
    have f9 : S9.2.1 6 b = iI (v.2 2 b) := by
      rw [e9, sa_at, pk_un (fun c => hab c.symm), cb]
    rw [f9, iI_add] at e10
    have hM2 := shM_stor (shM_stor h a (v.2 2 a + tB c n 0)) b (v.2 2 b + tB c n 1)
    rw [← e9, ← e10] at hM2
    have hv2 : okV (v2 v a b (v.2 2 a + tB c n 0) (v.2 2 b + tB c n 1)) := okV_two hv (by omega) (by omega) (by omega) (by omega)
    have f7 : S10.1 7 = M.1 7 := by rw [e10, e9]; rfl
    have f5 : S10.1 5 = M.1 5 := by rw [e10, e9]; rfl
    have hf2 : shFM S10 (v2 v a b (v.2 2 a + tB c n 0) (v.2 2 b + tB c n 1)) := by rw [e10, e9]; exact hf
    refine pM_share hM2 hf2 hv2 hw ha ?_
    refine pM_share hM2 hf2 hv2 hw hb ?_
    intro v15 e15 S16 e16 S17 e17
    have g1 : S10.2.1 6 a = iI (v.2 2 a + tB c n 0) := by
      rw [e10, sa_at, pk_un hab, e9, sa_at, pk_us]
    have g2 : S10.2.1 6 b = iI (v.2 2 b + tB c n 1) := by
      rw [e10, sa_at, pk_us]
    rw [g1, iI_sub] at e16
    have g3 : S16.2.1 6 b = iI (v.2 2 b + tB c n 1) := by
      rw [e16, sa_at, pk_un (fun c => hab c.symm), g2]
    rw [g3, iI_sub, e16, e10, e9, show v.2 2 a + (tB c n 0 : Int) - (tB c n 0 : Int) = v.2 2 a by omega, show v.2 2 b + (tB c n 1 : Int) - (tB c n 1 : Int) = v.2 2 b by omega, sa6 hab ca cb] at e17
    rw [e17, e15, f5, f7]
    unfold mE at hq
    rw [if_neg (by omega)] at hq
    have e0 : sFarN (vu (vu v 2 a (v.2 2 a + tB c n 0)) 2 b (v.2 2 b + tB c n 1)) (M.1 7).toInt = sFarN v (M.1 7).toInt := sFarN_v2
    rw [e0]
    exact hq
  · unfold mE at hq
    rw [if_pos (by omega)] at hq
    exact hq
theorem pM_codes (h : shM M v) (hf : shFM M v) (hv : okV v) (hw : okF v) {a b n : Nat} (hab : a ≠ b) (ha : (a : Int) < v.1 2) (hb : (b : Int) < v.1 2) (hn : n < 7) {d x5 : Int32} {Q : Int32 → vS → Prop} (hq : ∀ g : Nat → Int32, (∀ c, c < 2 ^ n → g c = mE v (sFarN v (M.1 7).toInt) (M.1 5) d a b n c) → ∃ j, e_X7_towers_107 Q j (iI a) (iI b) x5 (-1) (iI ((n : Int) - 1)) (sr M 16 g)) :
    ∀ (r c : Nat), c + r = 2 ^ n → ∀ g : Nat → Int32, (∀ c', c' < c → g c' = mE v (sFarN v (M.1 7).toInt) (M.1 5) d a b n c') → e_X7_towers_67 Q (r + 1) (iI a) (iI b) (nI n) d x5 (nI c) (sr M 16 g) := by
  have p6 := pw6 n hn
  intro r
  induction r with
  | zero =>
    intro c hc g hg
    unfold e_X7_towers_67
    rw [sh1 n hn, nI_leI (by omega) (by omega)]
    refine ⟨fun _ v18 e18 => ?_, fun q => absurd (by omega) q⟩
    rw [e18, iI_nat n, L1, iI_sub]
    have : c = 2 ^ n := by omega
    rw [this] at hg
    exact hq g hg
  | succ r ih =>
    intro c hc g hg
    unfold e_X7_towers_67
    rw [sh1 n hn, nI_leI (by omega) (by omega)]
    refine ⟨fun q => absurd q (by omega), fun _ => ?_⟩
    refine pM_end (M := sr M 16 g) h hf hv hw hab ha hb hn (by omega) ?_
    refine ⟨in_nI (by omega) (by omega), fun S22 e22 v23 e23 => ?_⟩
    rw [cl_nI (by omega), sa_sr] at e22
    rw [e22, e23, nI_1]
    refine ih (c + 1) (by omega) _ (fun c' hc' => ?_)
    by_cases k : c' = c
    · rw [k, pk_us]; rfl
    · rw [pk_un k]; exact hg c' (by omega)
end TT
