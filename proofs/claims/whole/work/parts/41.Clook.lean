/-! ===== looking: the row of seers ===== -/
theorem sa_sr (C : vS) (a : Nat) (g : Nat → Int32) (k : Nat) (x : Int32) : sa (sr C a g) a k x = sr C a (upd g k x) := by
  unfold sa sr
  refine Prod.ext rfl (Prod.ext ?_ rfl)
  funext b
  by_cases h : b = a
  · simp [h]
  · simp [h]
theorem sr_sr (C : vS) (a : Nat) (g g2 : Nat → Int32) : sr (sr C a g) a g2 = sr C a g2 := by
  unfold sr
  refine Prod.ext rfl (Prod.ext ?_ rfl)
  funext b
  by_cases h : b = a
  · simp [h]
  · simp [h]
theorem sr_self (C : vS) (a : Nat) : sr C a (C.2.1 a) = C := by
  unfold sr
  refine Prod.ext rfl (Prod.ext ?_ rfl)
  funext b
  by_cases h : b = a
  · simp [h]
  · simp [h]
theorem sr_at (C : vS) (a : Nat) (g : Nat → Int32) : (sr C a g).2.1 a = g := by simp [sr]
theorem sr_ne (C : vS) {a b : Nat} (g : Nat → Int32) (h : b ≠ a) : (sr C a g).2.1 b = C.2.1 b := by simp [sr, h]
theorem shC30 {C : vS} {v : vV} {g : Nat → Int32} (h : shC C v) : shC (sr C 30 g) v := h
theorem shFC30 {C : vS} {v : vV} {g : Nat → Int32} (h : shFC C v) : shFC (sr C 30 g) v := h
def sBit (s m : Nat) (b : Bool) : Nat := if b then s ||| 2 ^ m else s &&& (63 ^^^ 2 ^ m)
theorem bit_set : ∀ s, s < 64 → ∀ m, m < 6 → (nI s ||| ((1 : Int32) <<< (nI m &&& 31))) = nI (sBit s m true) ∧ (nI s &&& (((1 : Int32) <<< (nI m &&& 31)) ^^^ (-1))) = nI (sBit s m false) ∧ sBit s m true < 64 ∧ sBit s m false < 64 := by decide +kernel
theorem bit_get : ∀ s, s < 64 → ∀ m, m < 6 → ∀ j, j < 6 → (sBit s m true).testBit j = (decide (j = m) || s.testBit j) ∧ (sBit s m false).testBit j = (!decide (j = m) && s.testBit j) := by decide +kernel
theorem sBit_lt {s m : Nat} (hs : s < 64) (hm : m < 6) (b : Bool) : sBit s m b < 64 := by
  obtain ⟨-, -, h1, h2⟩ := bit_set s hs m hm
  cases b
  · exact h2
  · exact h1
theorem sBit_get {s m j : Nat} (hs : s < 64) (hm : m < 6) (hj : j < 6) (b : Bool) : (sBit s m b).testBit j = if j = m then b else s.testBit j := by
  obtain ⟨h1, h2⟩ := bit_get s hs m hm j hj
  cases b
  · rw [h2]
    by_cases e : j = m <;> simp [e]
  · rw [h1]
    by_cases e : j = m <;> simp [e]
theorem set_ext {s t : Nat} (hs : s < 64) (ht : t < 64) (h : ∀ j, j < 6 → s.testBit j = t.testBit j) : s = t := by
  apply Nat.eq_of_testBit_eq
  intro j
  rcases Nat.lt_or_ge j 6 with q | q
  · exact h j q
  · have e : 64 ≤ 2 ^ j := Nat.pow_le_pow_right (n := 2) (by omega) q
    rw [Nat.testBit_lt_two_pow (Nat.lt_of_lt_of_le hs e), Nat.testBit_lt_two_pow (Nat.lt_of_lt_of_le ht e)]
theorem sSet_get (v : vV) (far : Int) (x y : Nat) : ∀ k j : Nat, (sSet v far x y k).testBit j = (decide (j < k) && sSee v far j x y)
  | 0, j => by simp [sSet]
  | k + 1, j => by
    have ih := sSet_get v far x y k j
    have hl := sSet_lt v far x y k
    rw [sSet]
    cases hb : sSee v far k x y with
    | false =>
      rw [if_neg (by decide), Nat.add_zero, ih]
      rcases Nat.lt_trichotomy j k with q | q | q
      · rw [decide_eq_true q, decide_eq_true (by omega)]
      · rw [q, hb, Bool.and_false, Bool.and_false]
      · rw [decide_eq_false (by omega), decide_eq_false (by omega)]
    | true =>
      rw [if_pos rfl, Nat.add_comm]
      rcases Nat.lt_trichotomy j k with q | q | q
      · rw [Nat.testBit_two_pow_add_gt q, ih, decide_eq_true q, decide_eq_true (by omega)]
      · rw [q, Nat.testBit_two_pow_add_eq, Nat.testBit_lt_two_pow hl, hb, decide_eq_true (by omega)]
        rfl
      · have e1 : 2 ^ k + sSet v far x y k < 2 ^ (k + 1) := by rw [Nat.pow_succ]; omega
        rw [Nat.testBit_lt_two_pow (Nat.lt_of_lt_of_le e1 (Nat.pow_le_pow_right (by omega) q)), decide_eq_false (by omega), Bool.false_and]
theorem sSet_bit {v : vV} {far : Int} {x y m : Nat} (hm : m < 6) : sBit (sSet v far x y m) m (sSee v far m x y) = sSet v far x y (m + 1) := by
  have h1 : sSet v far x y m < 64 := Nat.lt_of_lt_of_le (sSet_lt v far x y m) (Nat.pow_le_pow_right (n := 2) (by omega) (show m ≤ 6 by omega))
  have h2 : sSet v far x y (m + 1) < 64 := Nat.lt_of_lt_of_le (sSet_lt v far x y (m + 1)) (Nat.pow_le_pow_right (n := 2) (by omega) (show m + 1 ≤ 6 by omega))
  refine set_ext (sBit_lt h1 hm _) h2 (fun j hj => ?_)
  rw [sBit_get h1 hm hj, sSet_get, sSet_get]
  by_cases e : j = m
  · rw [if_pos e, e, decide_eq_true (by omega), Bool.true_and]
  · rw [if_neg e]
    rcases Nat.lt_or_ge j m with q | q
    · rw [decide_eq_true q, decide_eq_true (by omega)]
    · rw [decide_eq_false (by omega), decide_eq_false (by omega)]
theorem pC_note {C : vS} {v : vV} (h : shC C v) (hv : okV v) {m x y s : Nat} (hm : m < 6) (hx : (x : Int) < v.1 0) (hy : (y : Int) < v.1 1) (hs : s < 64) {g : Nat → Int32} (hg : g (wN v * y + x) = nI s) {b : Bool} {Q : vS → Prop} (hq : Q (sr C 30 (upd g (wN v * y + x) (nI (sBit s m b))))) : e_X4_note (iI m) (iI x) (iI y) (bI b) (sr C 30 g) Q := by
  obtain ⟨i1, -⟩ := idx_lt hv hx hy
  obtain ⟨b1, b2, -, -⟩ := bit_set s hs m hm
  unfold e_X4_note
  refine pC_num (shC30 h) hv ?_
  rw [cl_nat (by omega), sr_at, hg, ← iI_nat m, b1, b2, sa_sr, sa_sr]
  refine ⟨fun c => ⟨in_nat (by omega) (by omega) (by omega), fun S5 e5 => ?_⟩, fun c => ⟨in_nat (by omega) (by omega) (by omega), fun S5 e5 => ?_⟩⟩
  · rw [e5]
    cases b
    · exact hq
    · exact absurd c (by decide)
  · rw [e5]
    cases b
    · exact absurd rfl c
    · exact hq
/-- the first K places of a row are taken from t -/
def gK (g : Nat → Int32) (t : Nat → Nat) (K : Nat) : Nat → Int32 := fun i => if i < K then nI (t i) else g i
theorem gK_up (g : Nat → Int32) (t : Nat → Nat) (K : Nat) : upd (gK g t K) K (nI (t K)) = gK g t (K + 1) := by
  funext i
  unfold gK
  by_cases e : i = K
  · subst e
    rw [pk_us, if_pos (by omega)]
  · rw [pk_un e]
    by_cases e2 : i < K
    · rw [if_pos e2, if_pos (by omega)]
    · rw [if_neg e2, if_neg (by omega)]
theorem gK_0 (g : Nat → Int32) (t : Nat → Nat) : gK g t 0 = g := by
  funext i
  unfold gK
  rw [if_neg (by omega)]
theorem gK_ge (g : Nat → Int32) (t : Nat → Nat) {K i : Nat} (h : K ≤ i) : gK g t K i = g i := if_neg (by omega)
theorem gK_lt (g : Nat → Int32) (t : Nat → Nat) {K i : Nat} (h : i < K) : gK g t K i = nI (t i) := if_pos h
theorem mod_ix {w x y : Nat} (h : x < w) : (w * y + x) % w = x ∧ (w * y + x) / w = y := by
  constructor
  · rw [Nat.mul_add_mod, Nat.mod_eq_of_lt h]
  · rw [Nat.mul_add_div (by omega), Nat.div_eq_of_lt h, Nat.add_zero]
/-- what lookBy m makes of the sets -/
def tBy (v : vV) (far : Int) (m : Nat) (s0 : Nat → Nat) (i : Nat) : Nat := sBit (s0 i) m (sSee v far m (i % wN v) (i / wN v))
theorem pC_lookBy_in {C : vS} {v : vV} (h : shC C v) (hv : okV v) {m y : Nat} (hm : (m : Int) < v.1 2) (hy : (y : Int) < v.1 1) {far : Int} (h1 : -1 ≤ far) (h2 : far ≤ 1000) {g : Nat → Int32} {s0 : Nat → Nat} (hg : ∀ i, i < cN v → s0 i < 64 ∧ g i = nI (s0 i)) {K : Int32 → Int32 → Int32 → vS → Prop} {Q : vS → Prop} (hK : K (iI m) (iI far) (iI ((y + 1 : Nat) : Int)) (sr C 30 (gK g (tBy v far m s0) (wN v * (y + 1))))) :
    ∀ (r x : Nat), x + r = wN v → e_X4_lookBy_31 K Q (r + 1) (iI m) (iI far) (iI y) (iI (x : Int)) (sr C 30 (gK g (tBy v far m s0) (wN v * y + x))) := by
  have hn := hv.2.2.2.1
  have hw := hv.1
  have hd := hv.2.1
  have ew := wN_eq hv
  have ec : ∀ g, (sr C 30 g).1 0 = iI (v.1 0) := fun g => h.1
  intro r
  induction r with
  | zero =>
    intro x hx
    rw [e_X4_lookBy_31.eq_2, ec, iI_le (sm_of (by omega) (by omega)) (sm_of (by omega) (by omega))]
    refine ⟨fun _ u hu => ?_, fun c => absurd (by omega) c⟩
    have e : x = wN v := by omega
    have fu : u = iI ((y + 1 : Nat) : Int) := by rw [hu, L1, iI_add]; rfl
    rw [fu, e, ← Nat.mul_succ]
    exact hK
  | succ r ih =>
    intro x hx
    have hxw : (x : Int) < v.1 0 := by omega
    obtain ⟨i1, i2⟩ := idx_lt hv hxw hy
    obtain ⟨g1, g2⟩ := hg _ i2
    obtain ⟨mx1, mx2⟩ := mod_ix (w := wN v) (x := x) (y := y) (by omega)
    rw [e_X4_lookBy_31.eq_2, ec, iI_le (sm_of (by omega) (by omega)) (sm_of (by omega) (by omega))]
    refine ⟨fun c => absurd c (by omega), fun _ => ?_⟩
    refine pC_see (shC30 h) hv hm hxw hy h1 h2 ?_
    refine pC_note h hv (by omega) hxw hy g1 (by rw [gK_ge _ _ (Nat.le_refl _)]; exact g2) ?_
    intro u hu
    have fu : u = iI ((x + 1 : Nat) : Int) := by rw [hu, L1, iI_add]; rfl
    have et : sBit (s0 (wN v * y + x)) m (sSee v far m x y) = tBy v far m s0 (wN v * y + x) := by unfold tBy; rw [mx1, mx2]
    rw [fu, et, gK_up]
    exact ih (x + 1) (by omega)
theorem pC_lookBy_out {C : vS} {v : vV} (h : shC C v) (hv : okV v) {m : Nat} (hm : (m : Int) < v.1 2) {far : Int} (h1 : -1 ≤ far) (h2 : far ≤ 1000) {g : Nat → Int32} {s0 : Nat → Nat} (hg : ∀ i, i < cN v → s0 i < 64 ∧ g i = nI (s0 i)) {Q : vS → Prop} (hq : Q (sr C 30 (gK g (tBy v far m s0) (cN v)))) :
    ∀ (r y : Nat), y + r = dN v → e_X4_lookBy_17 Q (r + 1) (iI m) (iI far) (iI (y : Int)) (sr C 30 (gK g (tBy v far m s0) (wN v * y))) := by
  have hd := hv.2.1
  have ed := dN_eq hv
  have ec : ∀ g, (sr C 30 g).1 1 = iI (v.1 1) := fun g => h.2.1
  intro r
  induction r with
  | zero =>
    intro y hy
    rw [e_X4_lookBy_17.eq_2, ec, iI_le (sm_of (by omega) (by omega)) (sm_of (by omega) (by omega))]
    refine ⟨fun _ => ?_, fun c => absurd (by omega) c⟩
    have e : y = dN v := by omega
    rw [e]
    exact hq
  | succ r ih =>
    intro y hy
    rw [e_X4_lookBy_17.eq_2, ec, iI_le (sm_of (by omega) (by omega)) (sm_of (by omega) (by omega))]
    refine ⟨fun c => absurd c (by omega), fun _ => ⟨wN v + 1, ?_⟩⟩
    exact pC_lookBy_in h hv hm (by omega) h1 h2 hg (ih (y + 1) (by omega)) (wN v) 0 (by omega)
theorem pC_lookBy {C : vS} {v : vV} (h : shC C v) (hf : shFC C v) (hv : okV v) (hw : okF v) {m : Nat} (hm : (m : Int) < v.1 2) {g : Nat → Int32} {s0 : Nat → Nat} (hg : ∀ i, i < cN v → s0 i < 64 ∧ g i = nI (s0 i)) {Q : vS → Prop} (hq : ∀ g2 : Nat → Int32, (∀ i, i < cN v → g2 i = nI (tBy v (sFarN v (C.1 16).toInt) m s0 i)) → Q (sr C 30 g2)) : e_X4_lookBy (iI m) (sr C 30 g) Q := by
  have b := sFarN_bd hw (C.1 16).toInt
  unfold e_X4_lookBy
  refine pC_far (shFC30 hf) hw ⟨dN v + 1, ?_⟩
  have e := pC_lookBy_out h hv hm b.1 (by omega : sFarN v (C.1 16).toInt ≤ 1000) hg (hq _ (fun i hi => gK_lt _ _ hi)) (dN v) 0 (by omega)
  rw [Nat.mul_zero, gK_0] at e
  exact e
/-- the row of seers is right -/
def seesK (g : Nat → Int32) (v : vV) (far : Int) : Prop := ∀ i, i < cN v → g i = nI (sSetN v far (i % wN v) (i / wN v))
theorem pC_lookAll_2 {C : vS} {v : vV} (h : shC C v) (hf : shFC C v) (hv : okV v) (hw : okF v) {Q : vS → Prop} (hq : ∀ g2 : Nat → Int32, seesK g2 v (sFarN v (C.1 16).toInt) → Q (sr C 30 g2)) :
    ∀ (r m : Nat), ((m + r : Nat) : Int) = v.1 2 → ∀ g : Nat → Int32, (∀ i, i < cN v → g i = nI (sSet v (sFarN v (C.1 16).toInt) (i % wN v) (i / wN v) m)) → e_X4_lookAll_23 Q (r + 1) (iI (m : Int)) (sr C 30 g) := by
  have hn := hv.2.2.2.1
  have ec : ∀ g, (sr C 30 g).1 2 = iI (v.1 2) := fun g => h.2.2.1
  intro r
  induction r with
  | zero =>
    intro m hm g hg
    rw [e_X4_lookAll_23.eq_2, ec, iI_le (sm_of (by omega) (by omega)) (sm_of (by omega) (by omega))]
    refine ⟨fun _ => hq g (fun i hi => ?_), fun c => absurd (by omega) c⟩
    have e : (v.1 2).toNat = m := by omega
    rw [hg i hi]
    unfold sSetN
    rw [e]
  | succ r ih =>
    intro m hm g hg
    rw [e_X4_lookAll_23.eq_2, ec, iI_le (sm_of (by omega) (by omega)) (sm_of (by omega) (by omega))]
    refine ⟨fun c => absurd c (by omega), fun _ => ?_⟩
    refine pC_lookBy h hf hv hw (by omega) (s0 := fun i => sSet v (sFarN v (C.1 16).toInt) (i % wN v) (i / wN v) m) (fun i hi => ⟨Nat.lt_of_lt_of_le (sSet_lt _ _ _ _ m) (Nat.pow_le_pow_right (n := 2) (by omega) (show m ≤ 6 by omega)), hg i hi⟩) ?_
    intro g2 hg2 u hu
    have fu : u = iI ((m + 1 : Nat) : Int) := by rw [hu, L1, iI_add]; rfl
    rw [fu]
    refine ih (m + 1) (by omega) g2 (fun i hi => ?_)
    rw [hg2 i hi]
    unfold tBy
    rw [sSet_bit (by omega)]
theorem pC_lookAll_1 {C : vS} {v : vV} (h : shC C v) (hf : shFC C v) (hv : okV v) (hw : okF v) {Q : vS → Prop} (hq : ∀ g2 : Nat → Int32, seesK g2 v (sFarN v (C.1 16).toInt) → Q (sr C 30 g2)) :
    ∀ (r k : Nat), k + r = 60 → ∀ g : Nat → Int32, (∀ i, i < k → g i = 0) → e_X4_lookAll_2 Q (r + 1) (iI (k : Int)) (sr C 30 g) := by
  have hn := hv.2.2.2.1
  have h60 := cN_le hv
  intro r
  induction r with
  | zero =>
    intro k hk g hg
    rw [e_X4_lookAll_2.eq_2, L60, iI_le (sm_of (by decide) (by decide)) (sm_of (by omega) (by omega))]
    refine ⟨fun _ => ⟨(v.1 2).toNat + 1, ?_⟩, fun c => absurd (by omega) c⟩
    exact pC_lookAll_2 h hf hv hw hq (v.1 2).toNat 0 (by omega) g (fun i hi => by rw [hg i (by omega)]; rfl)
  | succ r ih =>
    intro k hk g hg
    rw [e_X4_lookAll_2.eq_2, L60, iI_le (sm_of (by decide) (by decide)) (sm_of (by omega) (by omega))]
    refine ⟨fun c => absurd c (by omega), fun _ => ⟨in_nat (by omega) (by omega) (by omega), ?_⟩⟩
    intro S3 e3 u hu
    have fu : u = iI ((k + 1 : Nat) : Int) := by rw [hu, L1, iI_add]; rfl
    rw [fu, e3, cl_nat (by omega), sa_sr]
    refine ih (k + 1) (by omega) _ (fun i hi => ?_)
    by_cases e : i = k
    · rw [e, pk_us]
    · rw [pk_un e]
      exact hg i (by omega)
theorem pC_lookAll {C : vS} {v : vV} (h : shC C v) (hf : shFC C v) (hv : okV v) (hw : okF v) {Q : vS → Prop} (hq : ∀ g2 : Nat → Int32, seesK g2 v (sFarN v (C.1 16).toInt) → Q (sr C 30 g2)) : e_X4_lookAll C Q := by
  have e := pC_lookAll_1 h hf hv hw hq 60 0 (by omega) (C.2.1 30) (fun i hi => by omega)
  rw [sr_self] at e
  exact ⟨61, e⟩
