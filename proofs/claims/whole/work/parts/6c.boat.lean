/-! ===== boat: both together ===== -/
theorem sh4 : ∀ n : Nat, n < 9 → 1 ≤ n → (1 : Int32) <<< (((2 : Int32) * (nI n - (1 : Int32))) &&& 31) = nI (4 ^ (n - 1)) := by decide +kernel
theorem p4 : ∀ n : Nat, n < 9 → 1 ≤ n → 4 ^ (n - 1) ≤ 16384 ∧ 1 ≤ 4 ^ (n - 1) := by decide +kernel
section TT
variable {C M S : vS} {v : vV}
theorem rel_Cn32 {x : Int32} (h : Rel C M) : Rel (sf C 32 x) M := h
theorem rel_Cn33 {x : Int32} (h : Rel C M) : Rel (sf C 33 x) M := h
theorem rel_Cn34 {x : Int32} (h : Rel C M) : Rel (sf C 34 x) M := h
theorem rel_Cn35 {x : Int32} (h : Rel C M) : Rel (sf C 35 x) M := h
theorem rel_C36 {e : Nat → Int32} (h : Rel C M) : Rel (sr C 36 e) M := h
theorem rel_M17 {e : Nat → Int32} (h : Rel C M) : Rel C (sr M 17 e) := h
theorem pM_caught (h : shM S v) (hv : okV v) {G : Nat → Int} (hG : ∀ k, k < cN v → S.2.1 17 k = iI (G k) ∧ -1 ≤ G k ∧ G k ≤ 99) {n code x : Nat} (hn : n ≤ 8) (hn0 : 1 ≤ n) (hc : code < 65536) (hx : (x : Int) < v.1 0) (hd : 0 < v.1 1) (hGx : 0 ≤ G x) {Q : Int32 → vS → Prop} (hq : Q (iI (bCb (v.1 0) (v.1 1) (n - 1) code x 0 (g0 G x) (G x))) S) : e_X7_caughtBy (iI x) (nI n) (nI code) S Q := by
  obtain ⟨i1, i2⟩ := idx_lt hv hx (y := 0) (by omega)
  have e0 : wN v * 0 + x = x := by omega
  rw [e0] at i1 i2
  have i3 : x < cN v := i2
  obtain ⟨q1, q2, q3⟩ := hG x i3
  have hcN := cN_le hv
  unfold e_X7_caughtBy
  intro v1 e1
  rw [cl_nat (by omega), q1]
  refine ⟨in_nat (by omega) (by omega) (by omega), fun v3 e3 => ?_⟩
  rw [e3]
  have := pM_walk h hv hG hn hn0 hc (Q := Q) (n - 1) 0 (by omega) x 0 (g0 G x) (G x) v1 hx (by omega) hGx (by omega) (fun j hj => ?_) (fun j hj hw => ?_) ?_
  · rw [e0, iI_nat x] at this
    exact ⟨_, this⟩
  · rw [e1, wb_one i1 (by omega)]
    unfold g0
    by_cases c : j = x <;> simp [c]
  · rw [e1, wb_one i1 (by omega)] at hw
    have : j = x := by simpa using hw
    rw [this]; exact hGx
  · have : code / 4 ^ 0 = code := by simp
    rw [this]
    exact hq
theorem pM_codes4 (h : shM S v) (hv : okV v) {G : Nat → Int} (hG : ∀ k, k < cN v → S.2.1 17 k = iI (G k) ∧ -1 ≤ G k ∧ G k ≤ 99) {n f x : Nat} (hn : n ≤ 8) (hn0 : 1 ≤ n) (hf : f < 6) (hs : S.2.1 0 f = iI x) (hx : (x : Int) < v.1 0) (hd : 0 < v.1 1) (hGx : 0 ≤ G x) (hlo : ∀ c, bCb (v.1 0) (v.1 1) (n - 1) c x 0 (g0 G x) (G x) ≤ 792 ∧ -1 ≤ bCb (v.1 0) (v.1 1) (n - 1) c x 0 (g0 G x) (G x)) {Q : Int32 → vS → Prop} (hq : Q (iI (fMx (fun c => bCb (v.1 0) (v.1 1) (n - 1) c x 0 (g0 G x) (G x)) (4 ^ (n - 1)))) S) :
    ∀ (r c : Nat), c + r = 4 ^ (n - 1) → e_X7_boat_87 Q (r + 1) (iI f) (nI n) (iI (fMx (fun c => bCb (v.1 0) (v.1 1) (n - 1) c x 0 (g0 G x) (G x)) c)) (nI c) S := by
  obtain ⟨p1, p2⟩ := p4 n (by omega) hn0
  have fb : ∀ c, 0 ≤ fMx (fun c => bCb (v.1 0) (v.1 1) (n - 1) c x 0 (g0 G x) (G x)) c ∧ fMx (fun c => bCb (v.1 0) (v.1 1) (n - 1) c x 0 (g0 G x) (G x)) c ≤ 792 := by
    intro c
    have := (fMx_is (f := fun c => bCb (v.1 0) (v.1 1) (n - 1) c x 0 (g0 G x) (G x)) (V := 792) (by omega) c (fun c _ => (hlo c).1)).1
    omega
  intro r
  induction r with
  | zero =>
    intro c hc
    unfold e_X7_boat_87
    rw [sh4 n (by omega) hn0, iI_nat, iI_nat, iI_le (sm_of (by omega) (by omega)) (sm_of (by omega) (by omega))]
    refine ⟨fun _ => ?_, fun q => absurd (by omega) q⟩
    have : c = 4 ^ (n - 1) := by omega
    rw [this]; exact hq
  | succ r ih =>
    intro c hc
    unfold e_X7_boat_87
    rw [sh4 n (by omega) hn0, iI_nat c, iI_nat (4 ^ (n - 1)), iI_le (sm_of (by omega) (by omega)) (sm_of (by omega) (by omega)), cl_nat (by omega), hs]
    refine ⟨fun q => absurd q (by omega), fun _ => ⟨in6 hf, ?_⟩⟩
    rw [← iI_nat c]
    refine pM_caught h hv hG hn hn0 (by omega) hx hd hGx ?_
    have f1 := fb c
    have f2 := hlo c
    rw [iI_le (sm_of (by omega) (by omega)) (sm_of (by omega) (by omega)), nI_1]
    have nx := ih (c + 1) (by omega)
    refine ⟨fun q v24 e24 => ?_, fun q v24 e24 => ?_⟩
    · rw [e24]
      have e : fMx (fun c => bCb (v.1 0) (v.1 1) (n - 1) c x 0 (g0 G x) (G x)) (c + 1) = fMx (fun c => bCb (v.1 0) (v.1 1) (n - 1) c x 0 (g0 G x) (G x)) c := if_pos q
      rw [e] at nx
      exact nx
    · rw [e24]
      have e : fMx (fun c => bCb (v.1 0) (v.1 1) (n - 1) c x 0 (g0 G x) (G x)) (c + 1) = bCb (v.1 0) (v.1 1) (n - 1) c x 0 (g0 G x) (G x) := if_neg q
      rw [e] at nx
      exact nx
theorem pM_boat (h : shM M v) (hf : shFM M v) (hv : okV v) (hw : okF v) {n f : Nat} (hn : n ≤ 8) (hn0 : 1 ≤ n) (hfn : (f : Int) < v.1 2) {Q : Int32 → vS → Prop} (hq : ∀ e, Q (iI (bMx (v.1 0) (v.1 1) n (v.2 0 f) 0 (fun k => sHas v (sFarN v (M.1 7).toInt) f (k % wN v) (k / wN v)))) (sr M 17 e)) :
    ∀ (r k : Nat), k + r = cN v → ∀ e : Nat → Int32, (∀ j, j < k → e j = iI (sHas v (sFarN v (M.1 7).toInt) f (j % wN v) (j / wN v))) → e_X7_boat_29 Q (r + 1) (iI f) (nI n) (nI k) (sr M 17 e) := by
  have hcN := cN_le hv
  have hn6 := hv.2.2.2.1
  have hwb := hv.1
  have hdb := hv.2.1
  intro r
  induction r with
  | zero =>
    intro k hk e he
    rw [e_X7_boat_29.eq_2]
    refine pM_cells (M := sr M 17 e) h hv ⟨fun _ => ?_, fun c => absurd (nI_le (by omega) (by omega)) c⟩
    have ek : k = cN v := by omega
    rw [ek] at he
    obtain ⟨b0, b1, b2⟩ := hv.2.2.2.2.2.2.1 f hfn
    obtain ⟨x, ex⟩ : ∃ x : Nat, (x : Int) = v.2 0 f := ⟨(v.2 0 f).toNat, Int.toNat_of_nonneg b0.1⟩
    have hd : 0 < v.1 1 := hv.2.2.2.2.2.2.2.2.1 (by omega)
    have hs : (sr M 17 e).2.1 0 f = iI x := by
      rw [ex]; exact (h.2.2.2.2.2.1 f hfn).1
    obtain ⟨i1, i2⟩ := idx_lt hv (x := x) (y := 0) (by omega) (by omega)
    have e0 : wN v * 0 + x = x := by omega
    rw [e0] at i1 i2
    have i3 : x < cN v := i2
    have ew := wN_eq hv
    obtain ⟨mx1, mx2⟩ := mod_ix (w := wN v) (x := x) (y := 0) (by omega)
    rw [e0] at mx1 mx2
    generalize eG : (fun k => sHas v (sFarN v (M.1 7).toInt) f (k % wN v) (k / wN v)) = G at hq
    have hG : ∀ k, k < cN v → (sr M 17 e).2.1 17 k = iI (G k) ∧ -1 ≤ G k ∧ G k ≤ 99 := by
      intro k hk
      obtain ⟨a1, a2, -, -, -⟩ := kxy hv hk
      have := sHas_bd hv (far := sFarN v (M.1 7).toInt) (f := f) (by omega) a1 a2
      rw [← eG]
      refine ⟨?_, this⟩
      rw [sr_at]
      exact he k hk
    obtain ⟨q1, q2, q3⟩ := hG x i3
    have gl : 0 ≤ iI (G x) ↔ 0 ≤ G x := by
      rw [L0, iI_le (sm_of (by decide) (by decide)) (sm_of (by omega) (by omega))]
    rw [cl_nat (by omega), hs, cl_nat (by omega), q1, gl]
    have ebc : bC (v.1 0) (x : Int) 0 = x := by unfold bC; omega
    refine ⟨in6 (by omega), in_nat (by omega) (by omega) (by omega), fun g0' => ?_, fun g0' => ?_⟩
    · have hmx : bMx (v.1 0) (v.1 1) n (v.2 0 f) 0 G = G x + bR (v.1 0) (v.1 1) (n - 1) x 0 (g0 G x) := by
        obtain ⟨m, em⟩ : ∃ m, n = m + 1 := ⟨n - 1, by omega⟩
        subst em
        rw [← ex, bMx_go (by rw [ebc]; exact ⟨⟨by omega, by omega, by omega, by omega⟩, g0'⟩), ebc]
        rfl
      have up : bMx (v.1 0) (v.1 1) n (v.2 0 f) 0 G ≤ (n : Int) * 99 := bMx_le (by omega) n _ _ _ (fun k hk => by
        have hk2 : k < cN v := by
          have ed := dN_eq hv
          unfold cN
          rw [← ew, ← ed, ← Int.natCast_mul] at hk
          omega
        exact (hG k hk2).2.2)
      have rg := bR_ge (v.1 0) (v.1 1) (n - 1) x 0 (g0 G x)
      have hle := fun c => bCb_le (w := v.1 0) (d := v.1 1) (n - 1) c x 0 (g0 G x) (G x)
      have hge : ∀ (m c : Nat) (x y : Int) (g : Nat → Int) (s : Int), s ≤ bCb (v.1 0) (v.1 1) m c x y g s := by
        intro m
        induction m with
        | zero => intro c x y g s; show s ≤ s; omega
        | succ m ih =>
          intro c x y g s
          unfold bCb
          split
          · rename_i hh
            have := ih (c / 4) (x + wX (c % 4)) (y + wY (c % 4)) (g0 g (bC (v.1 0) (x + wX (c % 4)) (y + wY (c % 4)))) (s + g (bC (v.1 0) (x + wX (c % 4)) (y + wY (c % 4))))
            have := hh.2
            omega
          · omega
      have := pM_codes4 (S := sr M 17 e) h hv hG hn hn0 (f := f) (by omega) hs (by omega) hd g0' (fun c => ⟨by have := hle c; omega, by have := hge (n - 1) c x 0 (g0 G x) (G x); omega⟩) (Q := Q) ?_ (4 ^ (n - 1)) 0 (by omega)
      · exact ⟨_, this⟩
      · have hfm := (fMx_is (f := fun c => bCb (v.1 0) (v.1 1) (n - 1) c x 0 (g0 G x) (G x)) (V := G x + bR (v.1 0) (v.1 1) (n - 1) x 0 (g0 G x)) (by omega) (4 ^ (n - 1)) (fun c _ => hle c)).2 (bCb_ex (n - 1) x 0 (g0 G x) (G x))
        rw [hfm, ← hmx]
        exact hq e
    · have hmx : bMx (v.1 0) (v.1 1) n (v.2 0 f) 0 G = -1 := by
        obtain ⟨m, em⟩ : ∃ m, n = m + 1 := ⟨n - 1, by omega⟩
        subst em
        rw [← ex]
        exact bMx_no (by rw [ebc]; exact fun c => g0' c.2)
      have := hq e
      rw [hmx] at this
      exact this
  | succ r ih =>
    intro k hk e he
    have hkc : k < cN v := by omega
    obtain ⟨h1, h2, h0, h6, -⟩ := kxy hv hkc
    obtain ⟨m1, m2, m3⟩ := pM_kx (M := sr M 17 e) h hv hkc
    rw [e_X7_boat_29.eq_2]
    refine pM_cells (M := sr M 17 e) h hv ⟨fun c => absurd c (nI_ge hkc (by omega)), fun _ => ⟨m3, ?_⟩⟩
    rw [m1, m2]
    refine pM_hasOf (M := sr M 17 e) h hf hv hw hfn h1 h2 ?_
    refine ⟨in_nI (by omega) (by omega), fun S17 e17 v18 e18 => ?_⟩
    rw [cl_nI (by omega), sa_sr] at e17
    rw [e17, e18, nI_1]
    refine ih (k + 1) (by omega) _ (fun j hj => ?_)
    by_cases c : j = k
    · rw [c, pk_us]; rfl
    · rw [pk_un c]; exact he j (by omega)
end TT
