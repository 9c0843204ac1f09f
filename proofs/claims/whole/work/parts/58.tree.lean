/-! ===== tree ===== -/
/-- the best tree among the first k cells: its place, its share -/
def sTr (v : vV) (far : Int) (f : Nat) (t : Int) : Nat → Int × Int
  | 0 => (-1, 0)
  | k + 1 => if (sTr v far f t k).1 < 0 ∨ (sTr v far f t k).2 < sShare (vu v 3 k t) far f then (k, sShare (vu v 3 k t) far f) else sTr v far f t k
theorem sTr_bd {v : vV} (hv : okV v) {far : Int} {f : Nat} (hf : f < 6) {t : Int} (ht : 0 ≤ t) (ht2 : t ≤ 99) : ∀ k : Nat, -1 ≤ (sTr v far f t k).1 ∧ (sTr v far f t k).1 < k ∧ 0 ≤ (sTr v far f t k).2 ∧ (sTr v far f t k).2 ≤ 5940 ∧ (0 < k → 0 ≤ (sTr v far f t k).1)
  | 0 => by simp [sTr]
  | k + 1 => by
    have ih := sTr_bd hv (far := far) hf ht ht2 k
    have b := sShare_bd (okV_stand hv (k := k) ht ht2) (far := far) hf
    rw [sTr]
    split
    · exact ⟨by show (-1 : Int) ≤ k; omega, by show (k : Int) < ((k + 1 : Nat) : Int); omega, b.1, b.2, fun _ => by show (0 : Int) ≤ k; omega⟩
    · next hc =>
      exact ⟨ih.1, by omega, ih.2.2.1, ih.2.2.2.1, fun _ => by omega⟩
theorem pM_tree_loop {M : vS} {v : vV} (h : shM M v) (hf : shFM M v) (hv : okV v) (hw : okF v) {f : Nat} (hfn : (f : Int) < v.1 2) {t : Int} (ht : 0 ≤ t) (ht2 : t ≤ 99) {x3 : Int32} {Q : Int32 → vS → Prop} (h0 : x3 = 0 → Q (iI ((sTr v (sFarN v (M.1 7).toInt) f t (cN v)).1.toNat % wN v : Nat)) M) (h1 : x3 = 1 → Q (iI ((sTr v (sFarN v (M.1 7).toInt) f t (cN v)).1.toNat / wN v : Nat)) M) (h2 : ¬ x3 = 0 → ¬ x3 = 1 → Q (iI (sTr v (sFarN v (M.1 7).toInt) f t (cN v)).2) M) (hc0 : 0 < cN v) :
    ∀ (r k : Nat), k + r = cN v → e_X7_tree_48 Q (r + 1) (iI f) (iI t) x3 (iI (sTr v (sFarN v (M.1 7).toInt) f t k).1) (iI (sTr v (sFarN v (M.1 7).toInt) f t k).2) (nI k) M := by
  have hn := hv.2.2.2.1
  have h60 := cN_le hv
  intro r
  induction r with
  | zero =>
    intro k hk
    have e : k = cN v := by omega
    subst e
    have b := sTr_bd hv (far := sFarN v (M.1 7).toInt) (f := f) (by omega) ht ht2 (cN v)
    have nn := b.2.2.2.2 hc0
    obtain ⟨m1, m2, m3⟩ := pM_kx h hv (k := (sTr v (sFarN v (M.1 7).toInt) f t (cN v)).1.toNat) (by omega)
    rw [e_X7_tree_48.eq_2]
    refine pM_cells h hv ⟨fun _ => ⟨fun c0 => ⟨fun c1 => h2 c0 c1, fun c1 => ⟨m3, ?_⟩⟩, fun c0 => ⟨m3, ?_⟩⟩, fun c => absurd (nI_le (by omega) (by omega)) c⟩
    · rw [nI_of0 nn, m2]
      exact h1 c1
    · rw [nI_of0 nn, m1]
      exact h0 c0
  | succ r ih =>
    intro k hk
    have hkc : k < cN v := by omega
    obtain ⟨-, -, h00, h6, -⟩ := kxy hv hkc
    have b := sTr_bd hv (far := sFarN v (M.1 7).toInt) (f := f) (by omega) ht ht2 k
    have hv1 : okV (vu v 3 k t) := okV_stand hv ht ht2
    have bs := sShare_bd hv1 (far := sFarN v (M.1 7).toInt) (f := f) (by omega)
    have h3 := ih (k + 1) (by omega)
    rw [sTr] at h3
    rw [e_X7_tree_48.eq_2]
    refine pM_cells h hv ⟨fun c => absurd c (nI_ge hkc (by omega)), fun _ => ⟨in_nI (by omega) (by omega), ?_⟩⟩
    rw [cl_nI (by omega)]
    intro v18 e18 S19 e19
    rw [e19]
    have hM1 : shM (sa M 8 k (iI t)) (vu v 3 k t) := shM_stand h _ _
    refine pM_share hM1 hf hv1 hw hfn ?_
    intro S22 e22
    rw [e18, sa_back] at e22
    rw [e22]
    have ef : sFarN (vu v 3 k t) ((sa M 8 k (iI t)).1 7).toInt = sFarN v (M.1 7).toInt := sFarN_3
    rw [ef]
    have go : ∀ K : Int32 → Int32 → Int32 → Int32 → Int32 → Int32 → vS → Prop, K (iI f) (iI t) x3 (iI (k : Int)) (iI (sShare (vu v 3 k t) (sFarN v (M.1 7).toInt) f)) (nI (k + 1)) M → e_X7_tree_102 K Q (iI f) (iI t) x3 (iI (sTr v (sFarN v (M.1 7).toInt) f t k).1) (iI (sTr v (sFarN v (M.1 7).toInt) f t k).2) (nI k) (iI (sShare (vu v 3 k t) (sFarN v (M.1 7).toInt) f)) M := by
      intro K hK
      refine ⟨fun c => absurd c (by decide), fun _ => ⟨fun c => absurd c (by decide), fun _ u hu => ?_⟩⟩
      rw [hu, nI_1, iI_nat]
      exact hK
    rw [L0, iI_lt (sm_of (by omega) (by omega)) (sm_of (by decide) (by decide)), iI_le (sm_of (by omega) (by omega)) (sm_of (by omega) (by omega))]
    refine ⟨fun c => ?_, fun c => ⟨fun c2 => ⟨fun _ => ⟨fun _ u hu => ?_, fun c => absurd rfl c⟩, fun c => absurd rfl c⟩, fun c2 => ?_⟩⟩
    · rw [if_pos (Or.inl c)] at h3
      exact go _ h3
    · rw [if_neg (by omega)] at h3
      rw [hu, nI_1]
      exact h3
    · rw [if_pos (by omega)] at h3
      exact go _ h3
theorem pC_try73 {Y : vS} {k : Nat} (hk : k < 60) {t was : Int32} (hwas : was = Y.2.1 23 k) {g2 : Nat → Int32} {Q : vS → Prop} (hq : ∀ g : Nat → Int32, (∀ i, i < 60 → g i = Y.2.1 32 i) → Q (sr Y 30 g)) : e_X4_tryTree_73 Q (iI (k : Int)) was (sr (sa Y 23 k t) 30 g2) := by
  unfold e_X4_tryTree_73
  refine ⟨in_nat (by omega) (by omega) (by omega), fun S15 e15 S16 e16 => ?_⟩
  rw [cl_nat (by omega), hwas, sa_comm _ (by decide), sa_back] at e15
  rw [e15, sr_sr] at e16
  rw [e16]
  refine hq _ (fun i hi => ?_)
  rw [cpy0 _ _ _ 60 rfl, if_pos hi]
  rfl
theorem pC_tryTree {X : vS} {v : vV} (h : shC X v) (hf : shFC X v) (hv : okV v) (hw : okF v) {f x y : Nat} {t : Int} (hfn : (f : Int) < v.1 2) (hx : (x : Int) < v.1 0) (hy : (y : Int) < v.1 1) (ht : 0 ≤ t) (ht2 : t ≤ 99) (hg : seesK (X.2.1 30) v (sFarN v (X.1 16).toInt)) {Q : vS → Prop} (hq1 : iI (sShare (vu v 3 (wN v * y + x) t) (sFarN v (X.1 16).toInt) f) ≤ X.1 30 → ∀ g : Nat → Int32, (∀ i, i < 60 → g i = X.2.1 32 i) → Q (sr X 30 g)) (hq2 : ¬ iI (sShare (vu v 3 (wN v * y + x) t) (sFarN v (X.1 16).toInt) f) ≤ X.1 30 → ∀ g : Nat → Int32, (∀ i, i < 60 → g i = X.2.1 32 i) → Q (sr (sf (sf (sf X 30 (iI (sShare (vu v 3 (wN v * y + x) t) (sFarN v (X.1 16).toInt) f))) 28 (iI x)) 29 (iI y)) 30 g)) : e_X4_tryTree (iI f) (iI x) (iI y) (iI t) X Q := by
  obtain ⟨i1, i2⟩ := idx_lt hv hx hy
  unfold e_X4_tryTree
  refine pC_num h hv ⟨in_nat (by omega) (by omega) (by omega), ?_⟩
  rw [cl_nat (by omega)]
  intro v4 e4 S5 e5
  have hC1 : shC (sa X 23 (wN v * y + x) (iI t)) (vu v 3 (wN v * y + x) t) := shC_stand h _ _
  have hv1 : okV (vu v 3 (wN v * y + x) t) := okV_stand hv ht ht2
  have e5b : S5 = sr (sa X 23 (wN v * y + x) (iI t)) 30 (X.2.1 30) := by
    rw [e5]
    have : (sa X 23 (wN v * y + x) (iI t)).2.1 30 = X.2.1 30 := rfl
    rw [← this, sr_self]
  rw [e5b]
  refine pC_lookOver (v0 := v) hC1 hf hv hv1 hw hx hy rfl (by rw [sFarN_3]; exact hg) (fun g2 hg2 => ?_)
  rw [sFarN_3] at hg2
  refine pC_share (far := sFarN v (X.1 16).toInt) (shC30 hC1) hv1 (by rw [sr_at]; exact hg2) hfn ?_
  refine ⟨fun c => ?_, fun c S11 e11 S12 e12 S13 e13 => ?_⟩
  · exact pC_try73 i1 e4 (hq1 c)
  · have e14 : S13 = sr (sa (sf (sf (sf X 30 (iI (sShare (vu v 3 (wN v * y + x) t) (sFarN v (X.1 16).toInt) f))) 28 (iI x)) 29 (iI y)) 23 (wN v * y + x) (iI t)) 30 g2 := by
      rw [e13, e12, e11]
      rfl
    rw [e14]
    exact pC_try73 (Y := sf (sf (sf X 30 (iI (sShare (vu v 3 (wN v * y + x) t) (sFarN v (X.1 16).toInt) f))) 28 (iI x)) 29 (iI y)) i1 e4 (hq2 c)
section TT
variable {C M : vS}
/-- between the trials -/
def trI (X M : vS) (v : vV) (far : Int) (f : Nat) (t : Int) (k : Nat) : Prop := RelV X M v ∧ seesK (X.2.1 30) v far ∧ seesK (X.2.1 32) v far ∧ X.1 30 = (if (sTr v far f t k).1 < 0 then -1 else iI (sTr v far f t k).2) ∧ (0 ≤ (sTr v far f t k).1 → X.1 28 = iI ((sTr v far f t k).1.toNat % wN v : Nat) ∧ X.1 29 = iI ((sTr v far f t k).1.toNat / wN v : Nat))
theorem t_tree (hR : Rel C M) (x1 x2 x3 : Int32) : e_X6_tree x1 x2 x3 C (fun r C1 => e_X7_tree x1 x2 x3 M (fun r2 M1 => r = r2 ∧ Rel C1 M1)) := by
  obtain ⟨v, hV⟩ := id hR
  obtain ⟨⟨hC, hM, hfC, hfM, hv, hw⟩, h2, h3, h4, h5, h6, h7⟩ := id hV
  have hn := hv.2.2.2.1
  have hwd := hv.1
  have hd := hv.2.1
  have ew := wN_eq hv
  have ed := dN_eq hv
  have h60 := cN_le hv
  have q1 : x2 < 1 ↔ x2.toInt < 1 := by rw [Int32.lt_iff_toInt_lt]; rfl
  have q2 : (99 : Int32) < x2 ↔ 99 < x2.toInt := by rw [Int32.lt_iff_toInt_lt]; rfl
  have q3 : x3 < 0 ↔ x3.toInt < 0 := by rw [Int32.lt_iff_toInt_lt]; rfl
  have q4 : x3 ≤ 2 ↔ x3.toInt ≤ 2 := by rw [Int32.le_iff_toInt_le]; rfl
  have z0 : (0 : Int64).toInt = 0 := rfl
  have z1 : (1 : Int64).toInt = 1 := rfl
  have z2 : (2 : Int64).toInt = 2 := rfl
  have z9 : (99 : Int64).toInt = 99 := rfl
  unfold e_X6_tree
  refine pC_hasMan hC hv (fun f ef hf => ⟨fun _ => ?_, fun c => absurd c (by decide)⟩) (fun h0 => ⟨fun c => absurd rfl c, fun _ => ?_⟩)
  · have mout : (x2.toInt < 1 ∨ 99 < x2.toInt ∨ x3.toInt < 0 ∨ 2 < x3.toInt) → e_X7_tree x1 x2 x3 M (fun r2 M1 => (-1000000002 : Int32) = r2 ∧ Rel C M1) := by
      intro ho
      unfold e_X7_tree
      refine pM_isMan hM hv (fun f2 ef2 hf2 => ⟨fun _ => ?_, fun c => absurd c (by decide)⟩) (fun h0 => (man_no hv ef hf h0).elim)
      refine p_in (fun a1 a2 => ⟨fun c => absurd c (by decide), fun _ => ?_⟩) (fun _ => ⟨fun _ => ⟨rfl, hR⟩, fun c => absurd rfl c⟩)
      refine p_in (fun b1 b2 => ?_) (fun _ => ⟨fun c => absurd rfl c, fun _ => ⟨rfl, hR⟩⟩)
      rw [iI_L, z1] at a1
      rw [iI_L, z9] at a2
      rw [iI_L, z0] at b1
      rw [iI_L, z2] at b2
      omega
    rw [q1, q2, q3, q4]
    refine ⟨fun c => mout (by omega), fun c1 => ⟨fun c => mout (by omega), fun c2 => ⟨fun c => mout (by omega), fun c3 => ⟨fun c4 => ?_, fun c => mout (by omega)⟩⟩⟩⟩
    have hc0 : 0 < cN v := by
      have a1 := hv.2.2.2.2.2.2.2.2.1 (by omega)
      have a2 := hv.2.2.2.2.2.2.2.2.2.mpr a1
      exact Nat.mul_pos (by omega) (by omega)
    -- the reference's answer
    have mgo : ∀ (r : Int32) (C1 : vS), Rel C1 M → (x3 = 0 → r = iI ((sTr v (sFarN v (M.1 7).toInt) f x2.toInt (cN v)).1.toNat % wN v : Nat)) → (x3 = 1 → r = iI ((sTr v (sFarN v (M.1 7).toInt) f x2.toInt (cN v)).1.toNat / wN v : Nat)) → (¬ x3 = 0 → ¬ x3 = 1 → r = iI (sTr v (sFarN v (M.1 7).toInt) f x2.toInt (cN v)).2) → e_X7_tree (iI f) x2 x3 M (fun r2 M1 => r = r2 ∧ Rel C1 M1) := by
      intro r C1 hR1 a b c
      unfold e_X7_tree
      refine pM_isMan hM hv (fun f2 ef2 hf2 => ⟨fun _ => ?_, fun c => absurd c (by decide)⟩) (fun h0 => (man_no hv rfl hf h0).elim)
      refine p_in (fun a1 a2 => ⟨fun c => absurd c (by decide), fun _ => ?_⟩) (fun a1 => ?_)
      · refine p_in (fun b1 b2 => ⟨fun _ => ⟨cN v + 1, ?_⟩, fun c => absurd c (by decide)⟩) (fun b1 => ?_)
        · have q := pM_tree_loop hM hfM hv hw hf (t := x2.toInt) (by omega) (by omega) (x3 := x3) (Q := fun r2 M1 => r = r2 ∧ Rel C1 M1) (fun z => ⟨a z, hR1⟩) (fun z => ⟨b z, hR1⟩) (fun z z2 => ⟨c z z2, hR1⟩) hc0 (cN v) 0 (by omega)
          rw [← iI_of x2] at q
          exact q
        · rw [iI_L, z0, z2] at b1
          omega
      · rw [iI_L, z1, z9] at a1
        omega
    rw [ef]
    unfold e_X4_findTree
    refine pC_lookAll hC hfC hv hw (fun g hg => ?_)
    intro S3 e3 S4 e4
    generalize hfar : sFarN v (C.1 16).toInt = far at hg
    have hfarM : sFarN v (M.1 7).toInt = far := by rw [← h2.2.1]; exact hfar
    rw [hfarM] at mgo
    have bk := fun k => sTr_bd hv (far := far) (f := f) (by omega) (t := x2.toInt) (by omega) (by omega) k
    have I0 : trI S4 M v far f x2.toInt 0 := by
      have e5 : S4 = sf (sr (sr C 30 g) 32 (va_cpy g (C.2.1 32) (0 : Int32).toNatClampNeg (0 : Int32).toNatClampNeg (60 : Int32).toNatClampNeg)) 30 (-1) := by
        rw [e4, e3]
        rfl
      rw [e5]
      refine ⟨hV, hg, fun i hi => ?_, rfl, fun z => absurd z (by show ¬ (0 : Int) ≤ -1; decide)⟩
      show va_cpy g (C.2.1 32) _ _ _ i = _
      rw [cpy0 _ _ _ 60 rfl, if_pos (by omega)]
      exact hg i hi
    have step : ∀ (x y : Nat), (x : Int) < v.1 0 → (y : Int) < v.1 1 → ∀ X, trI X M v far f x2.toInt (wN v * y + x) → ∀ Q : vS → Prop, (∀ X2, trI X2 M v far f x2.toInt (wN v * y + (x + 1)) → Q X2) → e_X4_tryTree (iI f) (iI x) (iI y) x2 X Q := by
      intro x y hx hy X hX Q hQ
      obtain ⟨rV, s1, s2, s3, s4⟩ := hX
      obtain ⟨⟨gC, gM, gfC, gfM, -, -⟩, g2, -⟩ := id rV
      have fX : sFarN v (X.1 16).toInt = far := by rw [g2.2.1]; exact hfarM
      have b := bk (wN v * y + x)
      have bs := sShare_bd (okV_stand hv (k := wN v * y + x) (z := x2.toInt) (by omega) (by omega)) (far := far) (f := f) (by omega)
      obtain ⟨mx1, mx2⟩ := mod_ix (w := wN v) (x := x) (y := y) (by omega)
      have en : sTr v far f x2.toInt (wN v * y + (x + 1)) = if (sTr v far f x2.toInt (wN v * y + x)).1 < 0 ∨ (sTr v far f x2.toInt (wN v * y + x)).2 < sShare (vu v 3 (wN v * y + x) x2.toInt) far f then (((wN v * y + x : Nat) : Int), sShare (vu v 3 (wN v * y + x) x2.toInt) far f) else sTr v far f x2.toInt (wN v * y + x) := rfl
      have ecmp : iI (sShare (vu v 3 (wN v * y + x) x2.toInt) far f) ≤ X.1 30 ↔ ¬ ((sTr v far f x2.toInt (wN v * y + x)).1 < 0 ∨ (sTr v far f x2.toInt (wN v * y + x)).2 < sShare (vu v 3 (wN v * y + x) x2.toInt) far f) := by
        rw [s3]
        by_cases c : (sTr v far f x2.toInt (wN v * y + x)).1 < 0
        · rw [if_pos c, Lm1, iI_le (sm_of (by omega) (by omega)) (sm_of (by decide) (by decide))]
          omega
        · rw [if_neg c, iI_le (sm_of (by omega) (by omega)) (sm_of (by omega) (by omega))]
          omega
      have q := pC_tryTree (X := X) (t := x2.toInt) (Q := Q) gC gfC hv hw hf hx hy (by omega) (by omega) (by rw [fX]; exact s1)
      rw [fX, ← iI_of x2] at q
      refine q (fun c g3 hg3 => hQ _ ?_) (fun c g3 hg3 => hQ _ ?_)
      · unfold trI
        rw [en, if_neg (ecmp.mp c)]
        refine ⟨rV, fun i hi => ?_, s2, s3, s4⟩
        rw [sr_at, hg3 i (by omega)]
        exact s2 i hi
      · have c5 : (sTr v far f x2.toInt (wN v * y + x)).1 < 0 ∨ (sTr v far f x2.toInt (wN v * y + x)).2 < sShare (vu v 3 (wN v * y + x) x2.toInt) far f := Decidable.not_not.mp (fun z => c (ecmp.mpr z))
        unfold trI
        rw [en, if_pos c5]
        refine ⟨rV, fun i hi => ?_, s2, ?_, fun _ => ⟨?_, ?_⟩⟩
        · rw [sr_at, hg3 i (by omega)]
          exact s2 i hi
        · rw [if_neg (by show ¬ ((wN v * y + x : Nat) : Int) < 0; omega)]
          rfl
        · show iI (x : Int) = iI ((((wN v * y + x : Nat) : Int).toNat % wN v : Nat) : Int)
          rw [Int.toNat_natCast, mx1]
        · show iI (y : Int) = iI ((((wN v * y + x : Nat) : Int).toNat / wN v : Nat) : Int)
          rw [Int.toNat_natCast, mx2]
    have fin : ∀ X, trI X M v far f x2.toInt (cN v) → ((¬ x3 = 2 → (¬ x3 = 0 → e_X7_tree (iI f) x2 x3 M (fun r2 M1 => X.1 29 = r2 ∧ Rel X M1)) ∧ (x3 = 0 → e_X7_tree (iI f) x2 x3 M (fun r2 M1 => X.1 28 = r2 ∧ Rel X M1))) ∧ (x3 = 2 → e_X7_tree (iI f) x2 x3 M (fun r2 M1 => X.1 30 = r2 ∧ Rel X M1))) := by
      intro X hX
      obtain ⟨rV, s1, s2, s3, s4⟩ := hX
      have b := bk (cN v)
      have nn := b.2.2.2.2 hc0
      obtain ⟨t1, t2⟩ := s4 nn
      rw [if_neg (by omega)] at s3
      have e3 : x3 = 0 ∨ x3 = 1 ∨ x3 = 2 := by
        rcases (show x3.toInt = 0 ∨ x3.toInt = 1 ∨ x3.toInt = 2 by omega) with z | z | z
        · exact Or.inl (Int32.toInt_inj.mp z)
        · exact Or.inr (Or.inl (Int32.toInt_inj.mp z))
        · exact Or.inr (Or.inr (Int32.toInt_inj.mp z))
      refine ⟨fun n2 => ⟨fun n0 => ?_, fun e0 => ?_⟩, fun e2 => ?_⟩
      · have e1 : x3 = 1 := by
          rcases e3 with z | z | z
          · exact absurd z n0
          · exact z
          · exact absurd z n2
        exact mgo _ X ⟨v, rV⟩ (fun z => absurd z n0) (fun _ => t2) (fun _ z => absurd e1 z)
      · exact mgo _ X ⟨v, rV⟩ (fun _ => t1) (fun z => absurd (e0.symm.trans z) (by decide)) (fun z => absurd e0 z)
      · exact mgo _ X ⟨v, rV⟩ (fun z => absurd (e2.symm.trans z) (by decide)) (fun z => absurd (e2.symm.trans z) (by decide)) (fun _ _ => s3)
    generalize hQQ : (fun S8 : vS => (¬ x3 = (2 : Int32) → (¬ x3 = 0 → e_X7_tree (iI f) x2 x3 M (fun r2 M1 => S8.1 29 = r2 ∧ Rel S8 M1)) ∧ (x3 = 0 → e_X7_tree (iI f) x2 x3 M (fun r2 M1 => S8.1 28 = r2 ∧ Rel S8 M1))) ∧ (x3 = (2 : Int32) → e_X7_tree (iI f) x2 x3 M (fun r2 M1 => S8.1 30 = r2 ∧ Rel S8 M1))) = QQ
    have fin2 : ∀ X, trI X M v far f x2.toInt (cN v) → QQ X := by
      intro X hX
      rw [← hQQ]
      exact fin X hX
    have inner : ∀ (y : Nat), (y : Int) < v.1 1 → ∀ K : Int32 → Int32 → Int32 → vS → Prop, (∀ X, trI X M v far f x2.toInt (wN v * (y + 1)) → K (iI f) x2 (iI ((y + 1 : Nat) : Int)) X) → ∀ (r x : Nat), x + r = wN v → ∀ X, trI X M v far f x2.toInt (wN v * y + x) → e_X4_findTree_40 K QQ (r + 1) (iI f) x2 (iI y) (iI (x : Int)) X := by
      intro y hy K hK r
      induction r with
      | zero =>
        intro x hx X hX
        have ec0 : X.1 0 = iI (v.1 0) := hX.1.1.1.1
        rw [e_X4_findTree_40.eq_2, ec0, iI_le (sm_of (by omega) (by omega)) (sm_of (by omega) (by omega))]
        refine ⟨fun _ u hu => ?_, fun c => absurd (by omega) c⟩
        have e : x = wN v := by omega
        have fu : u = iI ((y + 1 : Nat) : Int) := by rw [hu, L1, iI_add]; rfl
        rw [e, ← Nat.mul_succ] at hX
        rw [fu]
        exact hK X hX
      | succ r ih =>
        intro x hx X hX
        have ec0 : X.1 0 = iI (v.1 0) := hX.1.1.1.1
        rw [e_X4_findTree_40.eq_2, ec0, iI_le (sm_of (by omega) (by omega)) (sm_of (by omega) (by omega))]
        refine ⟨fun c => absurd c (by omega), fun _ => ?_⟩
        refine step x y (by omega) hy X hX _ (fun X2 hX2 => ?_)
        intro u hu
        have fu : u = iI ((x + 1 : Nat) : Int) := by rw [hu, L1, iI_add]; rfl
        rw [fu]
        exact ih (x + 1) (by omega) X2 hX2
    have outer : ∀ (r y : Nat), y + r = dN v → ∀ X, trI X M v far f x2.toInt (wN v * y) → e_X4_findTree_26 QQ (r + 1) (iI f) x2 (iI (y : Int)) X := by
      intro r
      induction r with
      | zero =>
        intro y hy X hX
        have ec1 : X.1 1 = iI (v.1 1) := hX.1.1.1.2.1
        rw [e_X4_findTree_26.eq_2, ec1, iI_le (sm_of (by omega) (by omega)) (sm_of (by omega) (by omega))]
        refine ⟨fun _ => ?_, fun c => absurd (by omega) c⟩
        have e : y = dN v := by omega
        rw [e] at hX
        exact fin2 X hX
      | succ r ih =>
        intro y hy X hX
        have ec1 : X.1 1 = iI (v.1 1) := hX.1.1.1.2.1
        rw [e_X4_findTree_26.eq_2, ec1, iI_le (sm_of (by omega) (by omega)) (sm_of (by omega) (by omega))]
        refine ⟨fun c => absurd c (by omega), fun _ => ⟨wN v + 1, ?_⟩⟩
        exact inner y (by omega) _ (fun X2 hX2 => ih (y + 1) (by omega) X2 hX2) (wN v) 0 (by omega) X hX
    exact ⟨dN v + 1, outer (dN v) 0 (by omega) S4 I0⟩
  · unfold e_X7_tree
    exact pM_isMan hM hv (fun f ef hf => (man_no hv ef hf h0).elim) (fun _ => ⟨fun c => absurd rfl c, fun _ => ⟨rfl, hR⟩⟩)
end TT
