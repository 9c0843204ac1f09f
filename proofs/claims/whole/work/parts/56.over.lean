/-! ===== looking again: over a cell, and by one man ===== -/
def sSetP (p : Nat → Bool) : Nat → Nat
  | 0 => 0
  | k + 1 => sSetP p k + (if p k then 2 ^ k else 0)
theorem sSet_P (v : vV) (far : Int) (x y : Nat) : ∀ k, sSet v far x y k = sSetP (fun j => sSee v far j x y) k
  | 0 => rfl
  | k + 1 => by rw [sSet, sSetP, sSet_P v far x y k]
theorem sSetP_lt (p : Nat → Bool) : ∀ k, sSetP p k < 2 ^ k
  | 0 => by simp [sSetP]
  | k + 1 => by
    have ih := sSetP_lt p k
    rw [sSetP, Nat.pow_succ]
    split <;> omega
theorem sSetP_get (p : Nat → Bool) : ∀ k j : Nat, (sSetP p k).testBit j = (decide (j < k) && p j)
  | 0, j => by simp [sSetP]
  | k + 1, j => by
    have ih := sSetP_get p k j
    have hl := sSetP_lt p k
    rw [sSetP]
    cases hb : p k with
    | false =>
      rw [if_neg (by decide), Nat.add_zero, ih]
      rcases Nat.lt_trichotomy j k with q | q | q
      · rw [decide_eq_true q, decide_eq_true (by omega)]
      · rw [q, hb, Bool.and_false, Bool.and_false]
      · rw [decide_eq_false (by omega), decide_eq_false (by omega)]
    | true =>
      rw [if_pos rfl, Nat.add_comm]
      rcases Nat.lt_trichotomy j k with q | q | q
      · rw [Nat.testBit_two_pow_add_gt q, ih, decide_eq_true q, decide_eq_true (by omega)]
      · rw [q, Nat.testBit_two_pow_add_eq, Nat.testBit_lt_two_pow hl, hb, decide_eq_true (by omega)]
        rfl
      · have e1 : 2 ^ k + sSetP p k < 2 ^ (k + 1) := by rw [Nat.pow_succ]; omega
        rw [Nat.testBit_lt_two_pow (Nat.lt_of_lt_of_le e1 (Nat.pow_le_pow_right (by omega) q)), decide_eq_false (by omega), Bool.false_and]
theorem sSetP_cong {p q : Nat → Bool} : ∀ n : Nat, (∀ k, k < n → p k = q k) → sSetP p n = sSetP q n
  | 0, _ => rfl
  | n + 1, h => by rw [sSetP, sSetP, sSetP_cong n (fun k hk => h k (by omega)), h n (by omega)]
theorem sSetP_64 (p : Nat → Bool) {n : Nat} (hn : n ≤ 6) : sSetP p n < 64 := Nat.lt_of_lt_of_le (sSetP_lt p n) (Nat.pow_le_pow_right (n := 2) (by omega) hn)
theorem sSetP_bit {p q : Nat → Bool} {n m : Nat} (hn : n ≤ 6) (hm : m < n) {b : Bool} (hb : q m = b) (ho : ∀ k, k < n → k ≠ m → q k = p k) : sBit (sSetP p n) m b = sSetP q n := by
  refine set_ext (sBit_lt (sSetP_64 p hn) (by omega) _) (sSetP_64 q hn) (fun j hj => ?_)
  rw [sBit_get (sSetP_64 p hn) (by omega) hj, sSetP_get, sSetP_get]
  by_cases e : j = m
  · rw [if_pos e, e, decide_eq_true hm, Bool.true_and, hb]
  · rw [if_neg e]
    rcases Nat.lt_or_ge j n with z | z
    · rw [ho j z e]
    · rw [decide_eq_false (by omega), Bool.false_and, Bool.false_and]
theorem sFst_cong {P P2 : Nat → Bool} {val : Nat → Int} : ∀ (k z : Nat), (∀ j, z ≤ j → j < z + k → P j = P2 j) → sFst P val k z = sFst P2 val k z
  | 0, _, _ => rfl
  | k + 1, z, h => by
    rw [sFst, sFst, h z (by omega) (by omega), sFst_cong k (z + 1) (fun j h1 h2 => h j (by omega) (by omega))]
/-- no view that doesn't go over the cell hangs on what stands there -/
theorem sSee_over {v : vV} (hv : okV v) {ox oy : Nat} {z : Int} (hox : (ox : Int) < v.1 0) {far : Int} {f x y : Nat} (hf : (f : Int) < v.1 2) (hx : (x : Int) < v.1 0) (hy : (y : Int) < v.1 1) (h : ¬ (oy < y ∧ sOver (v.2 0 f) x y oy = ox)) : sSee (vu v 3 (wN v * oy + ox) z) far f x y = sSee v far f x y := by
  have ew := wN_eq hv
  obtain ⟨hp, -⟩ := hv.2.2.2.2.2.2.1 f hf
  have eb : sBlk (vu v 3 (wN v * oy + ox) z) (sEye v f) f x y = sBlk v (sEye v f) f x y := by
    refine sFst_cong y 0 (fun j _ hj => ?_)
    obtain ⟨o1, o2⟩ := sOver_in (a := v.2 0 f) (x := x) (y := y) (z := j) (w := v.1 0) hp.1 hp.2 (by omega) hx (by omega) (by omega)
    have ne : (v.1 0 * j + sOver (v.2 0 f) x y j).toNat ≠ wN v * oy + ox := by
      intro e
      have e1 : ((wN v * j + (sOver (v.2 0 f) x y j).toNat : Nat) : Int) = v.1 0 * j + sOver (v.2 0 f) x y j := by
        rw [Int.natCast_add, Int.natCast_mul, ew, Int.toNat_of_nonneg o1]
      have e2 : wN v * j + (sOver (v.2 0 f) x y j).toNat = wN v * oy + ox := by omega
      obtain ⟨a1, a2⟩ := mod_ix (w := wN v) (x := (sOver (v.2 0 f) x y j).toNat) (y := j) (by omega)
      obtain ⟨b1, b2⟩ := mod_ix (w := wN v) (x := ox) (y := oy) (by omega)
      rw [e2] at a1 a2
      have e3 : oy = j := by rw [← a2, b2]
      have e4 : ox = (sOver (v.2 0 f) x y j).toNat := by rw [← a1, b1]
      rw [← e3] at e4 hj
      apply h
      refine ⟨by omega, ?_⟩
      rw [e4, e3, Int.toNat_of_nonneg o1]
    show sHigh (vu v 3 (wN v * oy + ox) z) (sEye v f) (v.2 0 f) x y j = sHigh v (sEye v f) (v.2 0 f) x y j
    unfold sHigh
    have e5 : (vu v 3 (wN v * oy + ox) z).2 3 ((vu v 3 (wN v * oy + ox) z).1 0 * j + sOver (v.2 0 f) x y j).toNat = v.2 3 (v.1 0 * j + sOver (v.2 0 f) x y j).toNat := by
      show (if (v.1 0 * j + sOver (v.2 0 f) x y j).toNat = wN v * oy + ox then z else v.2 3 (v.1 0 * j + sOver (v.2 0 f) x y j).toNat) = _
      rw [if_neg ne]
    rw [e5]
  have ee : sEye (vu v 3 (wN v * oy + ox) z) f = sEye v f := rfl
  have ec : sClr (vu v 3 (wN v * oy + ox) z) f x y far = sClr v f x y far := rfl
  unfold sSee
  rw [ec, ee, eb]
/-- a storey more or less: only that man's view changes -/
theorem sSee_stor {v : vV} {m : Nat} {z : Int} {far : Int} {f x y : Nat} (h : f ≠ m) : sSee (vu v 2 m z) far f x y = sSee v far f x y := by
  have ee : sEye (vu v 2 m z) f = sEye v f := by
    unfold sEye
    have : (vu v 2 m z).2 2 f = v.2 2 f := by
      show (if f = m then z else v.2 2 f) = _
      rw [if_neg h]
    rw [this]
    rfl
  unfold sSee
  rw [ee]
  rfl
/-- seers by bits: below m the new view, from m on the old -/
def mix (v0 v : vV) (far : Int) (m i : Nat) : Nat := sSetP (fun k => if k < m then sSee v far k (i % wN v) (i / wN v) else sSee v0 far k (i % wN v) (i / wN v)) (v.1 2).toNat
theorem mix_0 (v0 v : vV) (far : Int) (i : Nat) (hn : v0.1 2 = v.1 2) : mix v0 v far 0 i = sSetN v0 far (i % wN v) (i / wN v) := by
  unfold mix sSetN
  rw [sSet_P, hn]
  exact sSetP_cong _ (fun k _ => if_neg (by omega))
theorem mix_n (v0 v : vV) (far : Int) (i : Nat) : mix v0 v far (v.1 2).toNat i = sSetN v far (i % wN v) (i / wN v) := by
  unfold mix sSetN
  rw [sSet_P]
  exact sSetP_cong _ (fun k hk => if_pos hk)
theorem mix_bit {v0 v : vV} {far : Int} {m i : Nat} (hn : (v.1 2).toNat ≤ 6) (hm : m < (v.1 2).toNat) : sBit (mix v0 v far m i) m (sSee v far m (i % wN v) (i / wN v)) = mix v0 v far (m + 1) i := by
  refine sSetP_bit hn hm ?_ (fun k hk hkm => ?_)
  · rw [if_pos (by omega)]
  · rcases Nat.lt_or_ge k m with q | q
    · rw [if_pos q, if_pos (by omega)]
    · rw [if_neg (by omega), if_neg (by omega)]
theorem mix_eq {v0 v : vV} {far : Int} {m i : Nat} (h : m < (v.1 2).toNat → sSee v far m (i % wN v) (i / wN v) = sSee v0 far m (i % wN v) (i / wN v)) : mix v0 v far m i = mix v0 v far (m + 1) i := by
  refine sSetP_cong _ (fun k hk => ?_)
  rcases Nat.lt_trichotomy k m with q | q | q
  · rw [if_pos q, if_pos (by omega)]
  · subst q
    rw [if_neg (by omega), if_pos (by omega)]
    exact (h hk).symm
  · rw [if_neg (by omega), if_neg (by omega)]
theorem mix_64 {v0 v : vV} {far : Int} {m i : Nat} (hn : (v.1 2).toNat ≤ 6) : mix v0 v far m i < 64 := sSetP_64 _ hn
theorem pC_lookOver {C : vS} {v0 v : vV} (h : shC C v) (hf : shFC C v) (hv0 : okV v0) (hv : okV v) (hw : okF v) {ox oy : Nat} {zz : Int} (hox : (ox : Int) < v.1 0) (hoy : (oy : Int) < v.1 1) (evu : v = vu v0 3 (wN v0 * oy + ox) zz) {g : Nat → Int32} (hg : seesK g v0 (sFarN v (C.1 16).toInt)) {Q : vS → Prop} (hq : ∀ g2 : Nat → Int32, seesK g2 v (sFarN v (C.1 16).toInt) → Q (sr C 30 g2)) : e_X4_lookOver (iI ox) (iI oy) (sr C 30 g) Q := by
  have b := sFarN_bd hw (C.1 16).toInt
  have hn := hv.2.2.2.1
  have hwd := hv.1
  have hd := hv.2.1
  have ew := wN_eq hv
  have ed := dN_eq hv
  have h60 := cN_le hv
  have hn6 : (v.1 2).toNat ≤ 6 := by omega
  have e01 : v0.1 2 = v.1 2 := by rw [evu]; rfl
  have e00 : v0.1 0 = v.1 0 := by rw [evu]; rfl
  have e02 : v0.1 1 = v.1 1 := by rw [evu]; rfl
  have ewn : wN v0 = wN v := by show (v0.1 0).toNat = _; rw [e00]
  have ecn : cN v0 = cN v := by show wN v0 * (v0.1 1).toNat = _; rw [ewn, e02]
  have ep : ∀ f, v0.2 0 f = v.2 0 f := by intro f; rw [evu]; rfl
  unfold e_X4_lookOver
  refine pC_far (shFC30 hf) hw ?_
  generalize hfar : sFarN v ((sr C 30 g).1 16).toInt = far
  have hfar2 : sFarN v (C.1 16).toInt = far := hfar
  rw [hfar2] at hg hq b
  have ec0 : ∀ g, (sr C 30 g).1 0 = iI (v.1 0) := fun g => h.1
  have ec1 : ∀ g, (sr C 30 g).1 1 = iI (v.1 1) := fun g => h.2.1
  have ec2 : ∀ g, (sr C 30 g).1 2 = iI (v.1 2) := fun g => h.2.2.1
  have same : ∀ m x y : Nat, (m : Int) < v.1 2 → (x : Int) < v.1 0 → (y : Int) < v.1 1 → ¬ (oy < y ∧ sOver (v.2 0 m) x y oy = ox) → sSee v far m x y = sSee v0 far m x y := by
    intro m x y hm hx hy hno
    rw [← ep m] at hno
    have q := sSee_over hv0 (ox := ox) (oy := oy) (z := zz) (by rw [e00]; exact hox) (far := far) (by rw [e01]; exact hm) (by rw [e00]; exact hx) (by rw [e02]; exact hy) hno
    rw [← evu] at q
    exact q
  have inner : ∀ (m y : Nat), (m : Int) < v.1 2 → (y : Int) < v.1 1 → oy < y → ∀ (K1 : Int32 → Int32 → Int32 → Int32 → vS → Prop) (K : Int32 → Int32 → Int32 → Int32 → Int32 → vS → Prop), (∀ g, (∀ i, i < cN v → g i = nI (if i < wN v * (y + 1) then mix v0 v far (m + 1) i else mix v0 v far m i)) → K (iI ox) (iI oy) (iI far) (iI m) (iI ((y + 1 : Nat) : Int)) (sr C 30 g)) → ∀ (r x : Nat), x + r = wN v → ∀ g, (∀ i, i < cN v → g i = nI (if i < wN v * y + x then mix v0 v far (m + 1) i else mix v0 v far m i)) → e_X4_lookOver_50 K1 K Q (r + 1) (iI ox) (iI oy) (iI far) (iI m) (iI y) (iI (x : Int)) (sr C 30 g) := by
    intro m y hm hy hoy2 K1 K hK r
    induction r with
    | zero =>
      intro x hx g hgi
      rw [e_X4_lookOver_50.eq_2, ec0, iI_le (sm_of (by omega) (by omega)) (sm_of (by omega) (by omega))]
      refine ⟨fun _ u hu => ?_, fun c => absurd (by omega) c⟩
      have e : x = wN v := by omega
      have fu : u = iI ((y + 1 : Nat) : Int) := by rw [hu, L1, iI_add]; rfl
      rw [fu]
      refine hK g (fun i hi => ?_)
      rw [hgi i hi, e, ← Nat.mul_succ]
    | succ r ih =>
      intro x hx g hgi
      have hxw : (x : Int) < v.1 0 := by omega
      obtain ⟨i1, i2⟩ := idx_lt hv hxw hy
      obtain ⟨mx1, mx2⟩ := mod_ix (w := wN v) (x := x) (y := y) (by omega)
      obtain ⟨hp, -⟩ := hv.2.2.2.2.2.2.1 m hm
      obtain ⟨o1, o2⟩ := sOver_in (a := v.2 0 m) (x := x) (y := y) (z := oy) (w := v.1 0) hp.1 hp.2 (by omega) hxw (by omega) (by omega)
      have fx : ∀ u : Int32, u = iI (x : Int) + 1 → u = iI ((x + 1 : Nat) : Int) := fun u hu => by rw [hu, L1, iI_add]; rfl
      rw [e_X4_lookOver_50.eq_2, ec0, iI_le (sm_of (by omega) (by omega)) (sm_of (by omega) (by omega))]
      refine ⟨fun c => absurd c (by omega), fun _ => ?_⟩
      refine pC_line (shC30 h) hv hm hxw hy hoy2 ?_
      rw [iI_eq (sm_of (by omega) (by omega)) (sm_of (by omega) (by omega))]
      refine ⟨fun c u hu => ?_, fun c => ?_⟩
      · rw [fx u hu]
        refine ih (x + 1) (by omega) g (fun i hi => ?_)
        rw [hgi i hi]
        by_cases ei : i = wN v * y + x
        · rw [if_neg (by omega), if_pos (by omega)]
          rw [mix_eq (fun _ => ?_)]
          rw [ei, mx1, mx2]
          exact same m x y hm hxw hy (fun z => c z.2)
        · by_cases e2 : i < wN v * y + x
          · rw [if_pos e2, if_pos (by omega)]
          · rw [if_neg e2, if_neg (by omega)]
      · refine pC_see (shC30 h) hv hm hxw hy b.1 (by omega) ?_
        refine pC_note h hv (by omega) hxw hy (mix_64 (v0 := v0) (v := v) (far := far) (m := m) (i := wN v * y + x) hn6) (by rw [hgi _ i2, if_neg (by omega)]) ?_
        intro u hu
        rw [fx u hu]
        refine ih (x + 1) (by omega) _ (fun i hi => ?_)
        by_cases ei : i = wN v * y + x
        · rw [ei, pk_us, if_pos (by omega)]
          have q := mix_bit (v0 := v0) (v := v) (far := far) (m := m) (i := wN v * y + x) hn6 (by omega)
          rw [mx1, mx2] at q
          rw [q]
        · rw [pk_un ei, hgi i hi]
          by_cases e2 : i < wN v * y + x
          · rw [if_pos e2, if_pos (by omega)]
          · rw [if_neg e2, if_neg (by omega)]
  have middle : ∀ (m : Nat), (m : Int) < v.1 2 → ∀ (K1 : Int32 → Int32 → Int32 → Int32 → vS → Prop), (∀ g, (∀ i, i < cN v → g i = nI (mix v0 v far (m + 1) i)) → K1 (iI ox) (iI oy) (iI far) (iI ((m + 1 : Nat) : Int)) (sr C 30 g)) → ∀ (r y : Nat), y + r = dN v → oy < y → ∀ g, (∀ i, i < cN v → g i = nI (if i < wN v * y then mix v0 v far (m + 1) i else mix v0 v far m i)) → e_X4_lookOver_35 K1 Q (r + 1) (iI ox) (iI oy) (iI far) (iI m) (iI (y : Int)) (sr C 30 g) := by
    intro m hm K1 hK1 r
    induction r with
    | zero =>
      intro y hy hoy2 g hgi
      rw [e_X4_lookOver_35.eq_2, ec1, iI_le (sm_of (by omega) (by omega)) (sm_of (by omega) (by omega))]
      refine ⟨fun _ u hu => ?_, fun c => absurd (by omega) c⟩
      have fu : u = iI ((m + 1 : Nat) : Int) := by rw [hu, L1, iI_add]; rfl
      rw [fu]
      refine hK1 g (fun i hi => ?_)
      have ey : y = dN v := by omega
      rw [hgi i hi, ey, if_pos hi]
    | succ r ih =>
      intro y hy hoy2 g hgi
      rw [e_X4_lookOver_35.eq_2, ec1, iI_le (sm_of (by omega) (by omega)) (sm_of (by omega) (by omega))]
      refine ⟨fun c => absurd c (by omega), fun _ => ⟨wN v + 1, ?_⟩⟩
      exact inner m y hm (by omega) hoy2 K1 _ (fun g2 hg2 => ih (y + 1) (by omega) (by omega) g2 hg2) (wN v) 0 (by omega) g hgi
  have outer : ∀ (r m : Nat), ((m + r : Nat) : Int) = v.1 2 → ∀ g, (∀ i, i < cN v → g i = nI (mix v0 v far m i)) → e_X4_lookOver_18 Q (r + 1) (iI ox) (iI oy) (iI far) (iI (m : Int)) (sr C 30 g) := by
    intro r
    induction r with
    | zero =>
      intro m hm g hgi
      rw [e_X4_lookOver_18.eq_2, ec2, iI_le (sm_of (by omega) (by omega)) (sm_of (by omega) (by omega))]
      refine ⟨fun _ => hq g (fun i hi => ?_), fun c => absurd (by omega) c⟩
      have em : m = (v.1 2).toNat := by omega
      rw [hgi i hi, em, mix_n]
    | succ r ih =>
      intro m hm g hgi
      rw [e_X4_lookOver_18.eq_2, ec2, iI_le (sm_of (by omega) (by omega)) (sm_of (by omega) (by omega))]
      refine ⟨fun c => absurd c (by omega), fun _ v4 e4 => ?_⟩
      have f4 : v4 = iI ((oy + 1 : Nat) : Int) := by rw [e4, L1, iI_add]; rfl
      rw [f4]
      refine ⟨dN v - (oy + 1) + 1, ?_⟩
      refine middle m (by omega) _ (fun g2 hg2 => ih (m + 1) (by omega) g2 hg2) (dN v - (oy + 1)) (oy + 1) (by omega) (by omega) g (fun i hi => ?_)
      rw [hgi i hi]
      by_cases ei : i < wN v * (oy + 1)
      · rw [if_pos ei, mix_eq (fun _ => ?_)]
        obtain ⟨k1, k2, k3, -⟩ := kxy hv hi
        refine same m _ _ (by omega) k1 k2 (fun z => ?_)
        have : i / wN v < oy + 1 := Nat.div_lt_of_lt_mul ei
        omega
      · rw [if_neg ei]
  refine ⟨(v.1 2).toNat + 1, outer (v.1 2).toNat 0 (by omega) g (fun i hi => ?_)⟩
  rw [mix_0 _ _ _ _ e01]
  have q := hg i (by rw [ecn]; exact hi)
  rw [ewn] at q
  exact q
/-- one man's storeys have changed: lookBy him makes the row right again -/
theorem pC_lookBy1 {C : vS} {v0 v : vV} (h : shC C v) (hf : shFC C v) (hv : okV v) (hw : okF v) {m : Nat} {z : Int} (hm : (m : Int) < v.1 2) (evu : v = vu v0 2 m z) {g : Nat → Int32} (hg : seesK g v0 (sFarN v (C.1 16).toInt)) {Q : vS → Prop} (hq : ∀ g2 : Nat → Int32, seesK g2 v (sFarN v (C.1 16).toInt) → Q (sr C 30 g2)) : e_X4_lookBy (iI m) (sr C 30 g) Q := by
  have hn := hv.2.2.2.1
  have e01 : v0.1 2 = v.1 2 := by rw [evu]; rfl
  have e00 : v0.1 0 = v.1 0 := by rw [evu]; rfl
  have e02 : v0.1 1 = v.1 1 := by rw [evu]; rfl
  have ewn : wN v0 = wN v := by show (v0.1 0).toNat = _; rw [e00]
  have ecn : cN v0 = cN v := by show wN v0 * (v0.1 1).toNat = _; rw [ewn, e02]
  refine pC_lookBy h hf hv hw hm (s0 := fun i => sSetN v0 (sFarN v (C.1 16).toInt) (i % wN v) (i / wN v)) (fun i hi => ⟨?_, ?_⟩) (fun g2 hg2 => hq g2 (fun i hi => ?_))
  · unfold sSetN
    rw [sSet_P, e01]
    exact sSetP_64 _ (by omega)
  · have q := hg i (by rw [ecn]; exact hi)
    rw [ewn] at q
    exact q
  · rw [hg2 i hi]
    unfold tBy sSetN
    dsimp only
    rw [sSet_P, sSet_P, e01]
    have q := sSetP_bit (p := fun j => sSee v0 (sFarN v (C.1 16).toInt) j (i % wN v) (i / wN v)) (q := fun j => sSee v (sFarN v (C.1 16).toInt) j (i % wN v) (i / wN v)) (n := (v.1 2).toNat) (m := m) (b := sSee v (sFarN v (C.1 16).toInt) m (i % wN v) (i / wN v)) (by omega) (by omega) rfl (fun k hk hkm => by
      have e := sSee_stor (v := v0) (m := m) (z := z) (far := sFarN v (C.1 16).toInt) (f := k) (x := i % wN v) (y := i / wN v) hkm
      rw [← evu] at e
      exact e)
    rw [q]
