/-! ===== feed: bytes out of a long, both ways ===== -/
def bM (x : Int64) (k : Nat) : Int32 := ((x >>> (((8 : Int32) * iI k).toInt64 &&& 63)) &&& (255 : Int64)).toInt32
theorem nar_b (x : Int32) : vp_nar .byte x = x.toInt8.toInt32 := rfl
theorem b255 (i : Nat) (h : i < 8) : (255#64).getLsbD i = true := by
  have : ∀ i, i < 8 → (255#64).getLsbD i = true := by decide
  exact this i h
theorem byte_eq (x : Int64) {k : Nat} (hk : k < 8) : (((x.toUInt64 >>> ((((8 : Int32) * iI k)).toInt64.toUInt64 &&& Int64.toUInt64 63)).toInt64).toInt32).toInt8 = (bM x k).toInt8 := by
  have e1 : (((8 : Int32) * iI k).toInt64.toUInt64 &&& Int64.toUInt64 63).toBitVec = BitVec.ofNat 64 (8 * k) := by
    have : ∀ k : Nat, k < 8 → (((8 : Int32) * iI k).toInt64.toUInt64 &&& Int64.toUInt64 63).toBitVec = BitVec.ofNat 64 (8 * k) := by decide
    exact this k hk
  have e2 : ((((8 : Int32) * iI k).toInt64 &&& 63).toBitVec.smod 64) = BitVec.ofNat 64 (8 * k) := by
    have : ∀ k : Nat, k < 8 → ((((8 : Int32) * iI k).toInt64 &&& 63).toBitVec.smod 64) = BitVec.ofNat 64 (8 * k) := by decide
    exact this k hk
  apply Int8.toBitVec_inj.mp
  unfold bM
  rw [Int32.toBitVec_toInt8, Int32.toBitVec_toInt8, Int64.toBitVec_toInt32, Int64.toBitVec_toInt32, UInt64.toBitVec_toInt64, UInt64.toBitVec_shiftRight, Int64.toBitVec_and, Int64.toBitVec_shiftRight, e1, e2]
  apply BitVec.eq_of_getLsbD_eq
  intro i hi
  have h8 : 8 * k < 64 := by omega
  have h9 : (BitVec.ofNat 64 (8 * k)).toNat = 8 * k := by rw [BitVec.toNat_ofNat]; omega
  have h10 : 8 * k % 64 = 8 * k := by omega
  have h11 : i < 32 := by omega
  have h12 : i < 64 := by omega
  have h13 : 8 * k + i < 64 := by omega
  have h14 : (255#8).getLsbD i = true := by
    have : ∀ i, i < 8 → (255#8).getLsbD i = true := by decide
    exact this i hi
  have h15 : (255#64).getLsbD i = true := b255 i hi
  have h16 : (Int64.toBitVec 255).getLsbD i = true := h15
  simp only [BitVec.getLsbD_signExtend, BitVec.getLsbD_and, BitVec.ushiftRight_eq', BitVec.sshiftRight_eq', BitVec.getLsbD_ushiftRight, BitVec.getLsbD_sshiftRight, h9, h10, h11, h12, h13, hi, if_true, h16, Bool.and_true, decide_true, Bool.true_and]
  simp [BitVec.toNat_umod, h9, h10, h13]
  omega
theorem bM_in (x : Int64) {k : Nat} : 0 ≤ (bM x k).toInt ∧ (bM x k).toInt < 256 := by
  unfold bM
  generalize (x >>> (((8 : Int32) * iI k).toInt64 &&& 63)) = y
  have e : (y &&& (255 : Int64)).toBitVec.toNat = y.toBitVec.toNat % 256 := by
    rw [Int64.toBitVec_and, BitVec.toNat_and]
    exact Nat.and_two_pow_sub_one_eq_mod y.toBitVec.toNat 8
  have e2 : (y &&& (255 : Int64)).toInt = ((y.toBitVec.toNat % 256 : Nat) : Int) := by
    rw [← Int64.toInt_toBitVec, BitVec.toInt_eq_toNat_of_lt (by omega), e]
  have e3 : (y &&& (255 : Int64)).toInt32.toInt = ((y.toBitVec.toNat % 256 : Nat) : Int) := by
    rw [Int64.toInt_toInt32, e2]
    rw [Int.bmod_eq_of_le (by omega) (by omega)]
  omega
theorem sf_sa_sf (C : vS) (a n k : Nat) (g : Nat → Int32) (u x y : Int32) : sf (sa (sf (sr C a g) n u) a k x) n y = sf (sr C a (upd g k x)) n y := by
  refine Prod.ext ?_ (Prod.ext ?_ rfl)
  · funext j
    simp only [sf, sa, sr]
    split <;> rfl
  · funext b
    simp only [sf, sa, sr]
    by_cases h : b = a
    · simp [h]
    · simp [h]
theorem sf_self {C : vS} {k : Nat} {z : Int32} (h : C.1 k = z) : sf C k z = C := by
  refine Prod.ext ?_ rfl
  funext j
  simp only [sf]
  split
  · rename_i e; rw [e, h]
  · rfl
section TT
variable {C M : vS}
theorem pC_feed {t n : Nat} (ht : t + n ≤ 500) (hn : n ≤ 8) (x : Int64) {Q : Int32 → vS → Prop} (hq : ∀ g : Nat → Int32, (∀ j, j < t → g j = C.2.1 17 j) → (∀ j, j < n → g (t + j) = (bM x (n - 1 - j)).toInt8.toInt32) → Q (nI (t + n)) (sf (sr C 17 g) 12 (nI (t + n)))) : ∀ (m i : Nat) (g : Nat → Int32), i + m = n → (∀ j, j < t → g j = C.2.1 17 j) → (∀ j, j < i → g (t + j) = (bM x (n - 1 - j)).toInt8.toInt32) → e_X6_feed_37 Q (m + 1) x (iI ((m : Int) - 1)) (sf (sr C 17 g) 12 (nI (t + i))) := by
  intro m
  induction m with
  | zero =>
    intro i g hi g1 g2
    unfold e_X6_feed_37
    have ei : i = n := by omega
    subst ei
    refine ⟨fun _ => hq g g1 g2, fun c => absurd ?_ c⟩
    decide
  | succ m ih =>
    intro i g hi g1 g2
    unfold e_X6_feed_37
    have em : (((m + 1 : Nat) : Int) - 1) = (m : Int) := by omega
    rw [em]
    refine ⟨fun c => absurd c ?_, fun _ => ?_⟩
    · rw [L0, iI_lt (sm_of (by omega) (by omega)) (sm_of (by decide) (by decide))]
      omega
    unfold e_X3_append
    have e12 : (sf (sr C 17 g) 12 (nI (t + i))).1 12 = nI (t + i) := sf_at _ _ _
    rw [e12, cl_nI (by omega), show (500 : Int32) = nI 500 from rfl, nI_leI (by omega) (by omega)]
    refine ⟨fun c => absurd c (by omega), fun _ => ⟨in_nI (by omega) (by omega), fun S3 e3 S4 e4 v8 e8 => ?_⟩⟩
    have f8 : v8 = iI ((m : Int) - 1) := by
      rw [e8, Lm1, iI_add]; rfl
    have hk : m = n - 1 - i := by omega
    have f4 : S4 = sf (sr C 17 (upd g (t + i) (bM x m).toInt8.toInt32)) 12 (nI (t + (i + 1))) := by
      have f3 : S3.1 12 = nI (t + i) := by rw [e3]; rfl
      rw [e4, f3, nI_1, e3, nar_b, Int8.toInt8_toInt32, byte_eq x (by omega), sf_sa_sf]
      rfl
    rw [f8, f4]
    refine ih (i + 1) _ (by omega) (fun j hj => ?_) (fun j hj => ?_)
    · rw [pk_un (by omega)]; exact g1 j hj
    · rcases Nat.lt_or_ge j i with q | q
      · rw [pk_un (by omega)]; exact g2 j q
      · have : j = i := by omega
        rw [this, pk_us, hk]
theorem pM_feed {t n : Nat} (ht : t + n ≤ 500) (hn : n ≤ 8) (x : Int64) {Q : Int32 → vS → Prop} (hq : ∀ g : Nat → Int32, (∀ j, j < t → g j = M.2.1 9 j) → (∀ j, j < n → g (t + j) = bM x (n - 1 - j)) → Q (nI (t + n)) (sf (sr M 9 g) 9 (nI (t + n)))) : ∀ (m i : Nat) (g : Nat → Int32), i + m = n → (∀ j, j < t → g j = M.2.1 9 j) → (∀ j, j < i → g (t + j) = bM x (n - 1 - j)) → e_X7_feed_35 Q (m + 1) x (iI ((m : Int) - 1)) (sf (sr M 9 g) 9 (nI (t + i))) := by
  intro m
  induction m with
  | zero =>
    intro i g hi g1 g2
    unfold e_X7_feed_35
    have ei : i = n := by omega
    subst ei
    refine ⟨fun _ => hq g g1 g2, fun c => absurd ?_ c⟩
    decide
  | succ m ih =>
    intro i g hi g1 g2
    unfold e_X7_feed_35
    have em : (((m + 1 : Nat) : Int) - 1) = (m : Int) := by omega
    rw [em]
    refine ⟨fun c => absurd c ?_, fun _ => ?_⟩
    · rw [L0, iI_lt (sm_of (by omega) (by omega)) (sm_of (by decide) (by decide))]
      omega
    have e12 : (sf (sr M 9 g) 9 (nI (t + i))).1 9 = nI (t + i) := sf_at _ _ _
    rw [e12, cl_nI (by omega)]
    refine ⟨in_nI (by omega) (by omega), fun S3 e3 S4 e4 v8 e8 => ?_⟩
    have f8 : v8 = iI ((m : Int) - 1) := by
      rw [e8, Lm1, iI_add]; rfl
    have hk : m = n - 1 - i := by omega
    have f4 : S4 = sf (sr M 9 (upd g (t + i) (bM x m))) 9 (nI (t + (i + 1))) := by
      have f3 : S3.1 9 = nI (t + i) := by rw [e3]; rfl
      rw [e4, f3, nI_1, e3, sf_sa_sf]
      rfl
    rw [f8, f4]
    refine ih (i + 1) _ (by omega) (fun j hj => ?_) (fun j hj => ?_)
    · rw [pk_un (by omega)]; exact g1 j hj
    · rcases Nat.lt_or_ge j i with q | q
      · rw [pk_un (by omega)]; exact g2 j q
      · have : j = i := by omega
        rw [this, pk_us, hk]
theorem t_feed (hR : Rel C M) (n : Int32) (x : Int64) : e_X6_feed n x C (fun r C1 => e_X7_feed n x M (fun r2 M1 => r = r2 ∧ Rel C1 M1)) := by
  obtain ⟨v, hV, h2, h3, ⟨t, t1, t2, t3, t4, t5⟩, h5, h6, h7⟩ := id hR
  have e1 : n < 1 ↔ n.toInt < 1 := by rw [Int32.lt_iff_toInt_lt]; rfl
  have e8 : n ≤ 8 ↔ n.toInt ≤ 8 := by rw [Int32.le_iff_toInt_le]; rfl
  have z1 : (1 : Int64).toInt = 1 := rfl
  have z8 : (8 : Int64).toInt = 8 := rfl
  have mout : (n.toInt < 1 ∨ 8 < n.toInt) → e_X7_feed n x M (fun r2 M1 => (-1000000002 : Int32) = r2 ∧ Rel C M1) := by
    intro ho
    unfold e_X7_feed
    refine p_in (fun a1 a2 => ?_) (fun _ => ⟨fun c => absurd rfl c, fun _ => ⟨rfl, hR⟩⟩)
    rw [iI_L, z1] at a1
    rw [iI_L, z8] at a2
    omega
  unfold e_X6_feed
  rw [e1, e8]
  refine ⟨fun c => mout (Or.inl c), fun c => ⟨fun c2 => ?_, fun c2 => mout (Or.inr (by omega))⟩⟩
  obtain ⟨N, hN⟩ : ∃ N : Nat, (N : Int) = n.toInt := ⟨n.toInt.toNat, Int.toNat_of_nonneg (by omega)⟩
  have en : n = nI N := by rw [iI_nat, hN]; exact iI_of n
  have es : nI t + nI N = nI (t + N) := by rw [iI_nat, iI_nat, iI_nat, iI_add]; rfl
  have ed : nI N - (1 : Int32) = iI ((N : Int) - 1) := by rw [iI_nat, L1, iI_sub]
  have e500 : (500 : Int32) = nI 500 := rfl
  rw [en] at e1 e8 ⊢
  rw [t2, es, e500, nI_leI (by omega) (by omega)]
  have min : ∀ r C1, ((t + N ≤ 500 → ∃ j, e_X7_feed_35 (fun r2 M1 => r = r2 ∧ Rel C1 M1) j x (iI ((N : Int) - 1)) M) ∧ (¬ t + N ≤ 500 → r = (-1000000004 : Int32) ∧ Rel C1 M)) → e_X7_feed (nI N) x M (fun r2 M1 => r = r2 ∧ Rel C1 M1) := by
    intro r C1 hc
    unfold e_X7_feed
    refine p_in (fun a1 a2 => ⟨fun _ => ?_, fun c => absurd c (by decide)⟩) (fun a1 => ?_)
    · rw [t3, es, e500, nI_leI (by omega) (by omega)]
      refine ⟨fun k v5 e5 => ?_, fun k => hc.2 k⟩
      rw [e5, ed]
      exact hc.1 k
    · rw [iI_L, z1, z8, ← en] at a1
      omega
  refine ⟨fun k v4 e4 => ?_, fun k => min _ _ ⟨fun c => absurd c k, fun _ => ⟨rfl, hR⟩⟩⟩
  rw [e4, ed]
  have sC : sf (sr C 17 (C.2.1 17)) 12 (nI (t + 0)) = C := by
    rw [sr_self]
    exact sf_self t2
  have sM : sf (sr M 9 (M.2.1 9)) 9 (nI (t + 0)) = M := by
    rw [sr_self]
    exact sf_self t3
  refine ⟨N + 1, ?_⟩
  have := pC_feed (C := C) (t := t) (n := N) k (by omega) x (Q := fun r C1 => e_X7_feed (nI N) x M (fun r2 M1 => r = r2 ∧ Rel C1 M1)) (fun g g1 g2 => ?_) N 0 (C.2.1 17) (by omega) (fun j _ => rfl) (fun j hj => by omega)
  · rw [sC] at this
    exact this
  refine min _ _ ⟨fun _ => ?_, fun c => absurd k c⟩
  refine ⟨N + 1, ?_⟩
  have := pM_feed (M := M) (t := t) (n := N) k (by omega) x (Q := fun r2 M1 => nI (t + N) = r2 ∧ Rel (sf (sr C 17 g) 12 (nI (t + N))) M1) (fun g' m1 m2 => ?_) N 0 (M.2.1 9) (by omega) (fun j _ => rfl) (fun j hj => by omega)
  · rw [sM] at this
    exact this
  refine ⟨rfl, v, hV, h2, h3, ⟨t + N, k, rfl, rfl, t4, fun j hj => ?_⟩, h5, h6, h7⟩
  have s1 : (sf (sr M 9 g') 9 (nI (t + N))).2.1 9 j = g' j := rfl
  have s2 : (sf (sr C 17 g) 12 (nI (t + N))).2.1 17 j = g j := rfl
  rw [s1, s2]
  rcases Nat.lt_or_ge j t with q | q
  · rw [g1 j q, m1 j q]
    exact t5 j q
  · obtain ⟨i, hi⟩ : ∃ i, j = t + i := ⟨j - t, by omega⟩
    rw [hi, g2 i (by omega), m2 i (by omega)]
    exact ⟨bM_in x, rfl⟩
end TT
