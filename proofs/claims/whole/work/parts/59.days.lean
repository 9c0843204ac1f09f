/-! ===== days ===== -/
theorem shC31 {C : vS} {v : vV} {g : Nat → Int32} (h : shC C v) : shC (sr C 31 g) v := h
theorem pC_addParts {Y : vS} {v : vV} (h : shC Y v) (hv : okV v) {s x y : Nat} (hs : s < 64) (hx : (x : Int) < v.1 0) (hy : (y : Int) < v.1 1) {h0 : Nat → Int32} {Q : vS → Prop} (hq : ∀ h1 : Nat → Int32, (∀ f : Nat, f < 6 → h1 f = if (f : Int) < v.1 2 ∧ s.testBit f = true then h0 f + iI (if sCnt s = 0 then 0 else v.2 4 (wN v * y + x) / (sCnt s : Int)) else h0 f) → Q (sr Y 31 h1)) : e_X4_addParts (nI s) (iI x) (iI y) (sr Y 31 h0) Q := by
  have hn := hv.2.2.2.1
  unfold e_X4_addParts
  refine pC_part (shC31 h) hv hs hx hy ⟨(v.1 2).toNat + 1, ?_⟩
  generalize iI (if sCnt s = 0 then 0 else v.2 4 (wN v * y + x) / (sCnt s : Int)) = pt at hq
  have ec : ∀ g, (sr Y 31 g).1 2 = iI (v.1 2) := fun g => h.2.2.1
  have loop : ∀ (r m : Nat), ((m + r : Nat) : Int) = v.1 2 → ∀ h1 : Nat → Int32, (∀ f : Nat, f < 6 → h1 f = if f < m ∧ s.testBit f = true then h0 f + pt else h0 f) → e_X4_addParts_12 Q (r + 1) (nI s) pt (iI (m : Int)) (sr Y 31 h1) := by
    intro r
    induction r with
    | zero =>
      intro m hm h1 hh
      rw [e_X4_addParts_12.eq_2, ec, iI_le (sm_of (by omega) (by omega)) (sm_of (by omega) (by omega))]
      refine ⟨fun _ => hq h1 (fun f hf => ?_), fun c => absurd (by omega) c⟩
      rw [hh f hf]
      have e : (f < m ∧ s.testBit f = true) ↔ ((f : Int) < v.1 2 ∧ s.testBit f = true) := by
        constructor
        · rintro ⟨a, b⟩
          exact ⟨by omega, b⟩
        · rintro ⟨a, b⟩
          exact ⟨by omega, b⟩
      by_cases c : f < m ∧ s.testBit f = true
      · rw [if_pos c, if_pos (e.mp c)]
      · rw [if_neg c, if_neg (fun z => c (e.mpr z))]
    | succ r ih =>
      intro m hm h1 hh
      have fx : ∀ u : Int32, u = iI (m : Int) + 1 → u = iI ((m + 1 : Nat) : Int) := fun u hu => by rw [hu, L1, iI_add]; rfl
      rw [e_X4_addParts_12.eq_2, ec, iI_le (sm_of (by omega) (by omega)) (sm_of (by omega) (by omega))]
      refine ⟨fun c => absurd c (by omega), fun _ => ?_⟩
      refine pC_holds hs (by omega) ?_
      cases ht : s.testBit m with
      | false =>
        refine ⟨fun _ u hu => ?_, fun c => absurd rfl c⟩
        rw [fx u hu]
        refine ih (m + 1) (by omega) h1 (fun f hf => ?_)
        rw [hh f hf]
        by_cases e : f = m
        · subst e
          rw [if_neg (by omega), if_neg (fun z => absurd (ht.symm.trans z.2) (by decide))]
        · by_cases c : f < m ∧ s.testBit f = true
          · rw [if_pos c, if_pos ⟨by omega, c.2⟩]
          · rw [if_neg c, if_neg (fun z => c ⟨by omega, z.2⟩)]
      | true =>
        refine ⟨fun c => absurd c (by decide), fun _ => ⟨in6 (by omega), fun S9 e9 u hu => ?_⟩⟩
        rw [cl_nat (by omega), sa_sr] at e9
        rw [fx u hu, e9]
        refine ih (m + 1) (by omega) _ (fun f hf => ?_)
        by_cases e : f = m
        · subst e
          rw [pk_us, if_pos ⟨by omega, ht⟩]
          show h1 f + pt = _
          rw [hh f hf, if_neg (by omega)]
        · rw [pk_un e, hh f hf]
          by_cases c : f < m ∧ s.testBit f = true
          · rw [if_pos c, if_pos ⟨by omega, c.2⟩]
          · rw [if_neg c, if_neg (fun z => c ⟨by omega, z.2⟩)]
  exact loop (v.1 2).toNat 0 (by omega) h0 (fun f hf => by rw [if_neg (by omega)])
theorem pC_countShares {Y : vS} {v : vV} (h : shC Y v) (hv : okV v) {far : Int} (hg : seesK (Y.2.1 30) v far) {Q : vS → Prop} (hq : ∀ h1 : Nat → Int32, (∀ f : Nat, (f : Int) < v.1 2 → h1 f = iI (sShare v far f)) → Q (sr Y 31 h1)) : e_X4_countShares Y Q := by
  have hn := hv.2.2.2.1
  have hwd := hv.1
  have hd := hv.2.1
  have ew := wN_eq hv
  have ed := dN_eq hv
  have ec0 : ∀ g, (sr Y 31 g).1 0 = iI (v.1 0) := fun g => h.1
  have ec1 : ∀ g, (sr Y 31 g).1 1 = iI (v.1 1) := fun g => h.2.1
  have inner : ∀ (y : Nat), (y : Int) < v.1 1 → ∀ K : Int32 → vS → Prop, (∀ h1 : Nat → Int32, (∀ f : Nat, (f : Int) < v.1 2 → h1 f = iI (fSum (fun k => pos0 (sHas v far f (k % wN v) (k / wN v))) (wN v * (y + 1)))) → K (iI ((y + 1 : Nat) : Int)) (sr Y 31 h1)) → ∀ (r x : Nat), x + r = wN v → ∀ h1 : Nat → Int32, (∀ f : Nat, (f : Int) < v.1 2 → h1 f = iI (fSum (fun k => pos0 (sHas v far f (k % wN v) (k / wN v))) (wN v * y + x))) → e_X4_countShares_36 K Q (r + 1) (iI y) (iI (x : Int)) (sr Y 31 h1) := by
    intro y hy K hK r
    induction r with
    | zero =>
      intro x hx h1 hh
      rw [e_X4_countShares_36.eq_2, ec0, iI_le (sm_of (by omega) (by omega)) (sm_of (by omega) (by omega))]
      refine ⟨fun _ u hu => ?_, fun c => absurd (by omega) c⟩
      have e : x = wN v := by omega
      have fu : u = iI ((y + 1 : Nat) : Int) := by rw [hu, L1, iI_add]; rfl
      rw [fu]
      refine hK h1 (fun f hf => ?_)
      rw [hh f hf, e, ← Nat.mul_succ]
    | succ r ih =>
      intro x hx h1 hh
      have hxw : (x : Int) < v.1 0 := by omega
      obtain ⟨mx1, mx2⟩ := mod_ix (w := wN v) (x := x) (y := y) (by omega)
      rw [e_X4_countShares_36.eq_2, ec0, iI_le (sm_of (by omega) (by omega)) (sm_of (by omega) (by omega))]
      refine ⟨fun c => absurd c (by omega), fun _ => ?_⟩
      refine pC_own (shC31 h) hv (show seesK ((sr Y 31 h1).2.1 30) v far from hg) hxw hy ?_
      refine pC_addParts h hv (lt64 hv (sOwnN_lt hv _ _ _)) hxw hy (fun h2 hh2 => ?_)
      intro u hu
      have fu : u = iI ((x + 1 : Nat) : Int) := by rw [hu, L1, iI_add]; rfl
      rw [fu]
      refine ih (x + 1) (by omega) h2 (fun f hf => ?_)
      rw [hh2 f (by omega)]
      show _ = iI (fSum _ (wN v * y + x + 1))
      rw [fSum, mx1, mx2, hh f hf]
      have b := sHas_bd hv (far := far) (f := f) (by omega) hxw hy
      cases ht : (sOwnN v far x y).testBit f with
      | false =>
        rw [if_neg (fun z => absurd z.2 (by decide))]
        have e1 : sHas v far f x y = -1 := by unfold sHas; rw [ht, if_neg (by decide)]
        rw [e1]
        congr 1
        show _ = _ + pos0 (-1)
        have : pos0 (-1) = 0 := by decide
        rw [this]
        omega
      | true =>
        rw [if_pos ⟨hf, rfl⟩]
        have hc := sCntTo_pos ht 6 (by omega)
        have hc2 : sCnt (sOwnN v far x y) ≠ 0 := by unfold sCnt; omega
        have e1 : sHas v far f x y = v.2 4 (wN v * y + x) / (sCnt (sOwnN v far x y) : Int) := by unfold sHas; rw [ht, if_pos rfl]
        rw [if_neg hc2, iI_add, ← e1]
        congr 2
        have fi := (hv.2.2.2.2.2.2.2.1 (wN v * y + x) (idx_lt hv hxw hy).1).2
        have n1 := Int.ediv_nonneg fi.1 (show (0 : Int) ≤ (sCnt (sOwnN v far x y) : Int) by omega)
        rw [← e1] at n1
        unfold pos0
        rw [if_pos n1]
  have outer : ∀ (r y : Nat), y + r = dN v → ∀ h1 : Nat → Int32, (∀ f : Nat, (f : Int) < v.1 2 → h1 f = iI (fSum (fun k => pos0 (sHas v far f (k % wN v) (k / wN v))) (wN v * y))) → e_X4_countShares_23 Q (r + 1) (iI (y : Int)) (sr Y 31 h1) := by
    intro r
    induction r with
    | zero =>
      intro y hy h1 hh
      rw [e_X4_countShares_23.eq_2, ec1, iI_le (sm_of (by omega) (by omega)) (sm_of (by omega) (by omega))]
      refine ⟨fun _ => hq h1 (fun f hf => ?_), fun c => absurd (by omega) c⟩
      have e : y = dN v := by omega
      rw [hh f hf, e]
      rfl
    | succ r ih =>
      intro y hy h1 hh
      rw [e_X4_countShares_23.eq_2, ec1, iI_le (sm_of (by omega) (by omega)) (sm_of (by omega) (by omega))]
      refine ⟨fun c => absurd c (by omega), fun _ => ⟨wN v + 1, ?_⟩⟩
      exact inner y (by omega) _ (fun h2 hh2 => ih (y + 1) (by omega) h2 hh2) (wN v) 0 (by omega) h1 hh
  have zero : ∀ (r k : Nat), k + r = 6 → ∀ h1 : Nat → Int32, (∀ f, f < k → h1 f = 0) → e_X4_countShares_2 Q (r + 1) (iI (k : Int)) (sr Y 31 h1) := by
    intro r
    induction r with
    | zero =>
      intro k hk h1 hh
      rw [e_X4_countShares_2.eq_2, L6, iI_le (sm_of (by decide) (by decide)) (sm_of (by omega) (by omega))]
      refine ⟨fun _ => ⟨dN v + 1, outer (dN v) 0 (by omega) h1 (fun f hf => ?_)⟩, fun c => absurd (by omega) c⟩
      rw [hh f (by omega), Nat.mul_zero]
      rfl
    | succ r ih =>
      intro k hk h1 hh
      rw [e_X4_countShares_2.eq_2, L6, iI_le (sm_of (by decide) (by decide)) (sm_of (by omega) (by omega))]
      refine ⟨fun c => absurd c (by omega), fun _ => ⟨in6 (by omega), fun S3 e3 u hu => ?_⟩⟩
      have fu : u = iI ((k + 1 : Nat) : Int) := by rw [hu, L1, iI_add]; rfl
      rw [cl_nat (by omega), sa_sr] at e3
      rw [fu, e3]
      refine ih (k + 1) (by omega) _ (fun f hf => ?_)
      by_cases e : f = k
      · rw [e, pk_us]
      · rw [pk_un e]
        exact hh f (by omega)
  have e := zero 6 0 (by omega) (Y.2.1 31) (fun f hf => by omega)
  rw [sr_self] at e
  exact ⟨7, e⟩
theorem pC_earn {Y : vS} {Q : vS → Prop} (hq : ∀ p2 : Nat → Int32, (∀ f : Nat, f < 6 → p2 f = Y.2.1 22 f + Y.2.1 31 f) → Q (sr Y 22 p2)) : e_X5_earn_now_sight_shares Y Q := by
  have loop : ∀ (r k : Nat), k + r = 6 → ∀ p2 : Nat → Int32, (∀ f : Nat, f < k → p2 f = Y.2.1 22 f + Y.2.1 31 f) → (∀ f : Nat, k ≤ f → p2 f = Y.2.1 22 f) → e_X5_earn_now_sight_shares_2 Q (r + 1) (iI (k : Int)) (sr Y 22 p2) := by
    intro r
    induction r with
    | zero =>
      intro k hk p2 h1 h2
      rw [e_X5_earn_now_sight_shares_2.eq_2, L6, iI_le (sm_of (by decide) (by decide)) (sm_of (by omega) (by omega))]
      exact ⟨fun _ => hq p2 (fun f hf => h1 f (by omega)), fun c => absurd (by omega) c⟩
    | succ r ih =>
      intro k hk p2 h1 h2
      rw [e_X5_earn_now_sight_shares_2.eq_2, L6, iI_le (sm_of (by decide) (by decide)) (sm_of (by omega) (by omega))]
      refine ⟨fun c => absurd c (by omega), fun _ => ⟨in6 (by omega), fun S3 e3 u hu => ?_⟩⟩
      have fu : u = iI ((k + 1 : Nat) : Int) := by rw [hu, L1, iI_add]; rfl
      rw [cl_nat (by omega), sa_sr, sr_at] at e3
      rw [fu, e3]
      refine ih (k + 1) (by omega) _ (fun f hf => ?_) (fun f hf => ?_)
      · by_cases e : f = k
        · rw [e, pk_us, h2 k (by omega)]
          rfl
        · rw [pk_un e]
          exact h1 f (by omega)
      · rw [pk_un (by omega)]
        exact h2 f (by omega)
  have e := loop 6 0 (by omega) (Y.2.1 22) (fun f hf => by omega) (fun f _ => rfl)
  rw [sr_self] at e
  exact ⟨7, e⟩
theorem pC_turn {Y : vS} {v : vV} (h : shC Y v) (hf : shFC Y v) (hv : okV v) (hw : okF v) {Q : Int32 → vS → Prop} (h0 : sFarN v (Y.1 16 + 1).toInt = sFarN v (Y.1 16).toInt → Q 0 (sf Y 16 (Y.1 16 + 1))) (h1 : ∀ g2 : Nat → Int32, seesK g2 v (sFarN v (Y.1 16 + 1).toInt) → Q 1 (sr (sf Y 16 (Y.1 16 + 1)) 30 g2)) : e_X6_turnDay Y Q := by
  have b1 := sFarN_bd hw (Y.1 16).toInt
  have b2 := sFarN_bd hw (Y.1 16 + 1).toInt
  unfold e_X6_turnDay
  refine pC_far hf hw ?_
  intro S3 e3
  rw [e3]
  have hC1 : shC (sf Y 16 (Y.1 16 + 1)) v := h
  have hf1 : shFC (sf Y 16 (Y.1 16 + 1)) v := hf
  refine pC_far hf1 hw ?_
  have e16 : (sf Y 16 (Y.1 16 + 1)).1 16 = Y.1 16 + 1 := rfl
  rw [e16, iI_eq (sm_of (by omega) (by omega)) (sm_of (by omega) (by omega))]
  refine ⟨fun c => ?_, fun c => h0 c⟩
  exact pC_lookAll hC1 hf1 hv hw (fun g2 hg2 => h1 g2 hg2)
theorem pM_dayNow {Y : vS} {v : vV} (h : shM Y v) (hf : shFM Y v) (hv : okV v) (hw : okF v) {Q : vS → Prop} (hq : ∀ p2 : Nat → Int32, (∀ f : Nat, (f : Int) < v.1 2 → p2 f = Y.2.1 7 f + iI (sShare v (sFarN v (Y.1 7).toInt) f)) → Q (sf (sr Y 7 p2) 7 (Y.1 7 + 1))) : e_X7_dayNow Y Q := by
  have hn := hv.2.2.2.1
  have loop : ∀ (r k : Nat), ((k + r : Nat) : Int) = v.1 2 → ∀ p2 : Nat → Int32, (∀ f : Nat, f < k → p2 f = Y.2.1 7 f + iI (sShare v (sFarN v (Y.1 7).toInt) f)) → (∀ f : Nat, k ≤ f → p2 f = Y.2.1 7 f) → e_X7_dayNow_2 Q (r + 1) (iI (k : Int)) (sr Y 7 p2) := by
    intro r
    induction r with
    | zero =>
      intro k hk p2 h1 h2
      have ec : (sr Y 7 p2).1 2 = iI (v.1 2) := h.2.2.1
      rw [e_X7_dayNow_2.eq_2, ec, iI_le (sm_of (by omega) (by omega)) (sm_of (by omega) (by omega))]
      refine ⟨fun _ S2 e2 => ?_, fun c => absurd (by omega) c⟩
      rw [e2]
      exact hq p2 (fun f hf => h1 f (by omega))
    | succ r ih =>
      intro k hk p2 h1 h2
      have ec : (sr Y 7 p2).1 2 = iI (v.1 2) := h.2.2.1
      rw [e_X7_dayNow_2.eq_2, ec, iI_le (sm_of (by omega) (by omega)) (sm_of (by omega) (by omega))]
      refine ⟨fun c => absurd c (by omega), fun _ => ?_⟩
      refine pM_share (M := sr Y 7 p2) h hf hv hw (by omega) ⟨in6 (by omega), fun S6 e6 u hu => ?_⟩
      have fu : u = iI ((k + 1 : Nat) : Int) := by rw [hu, L1, iI_add]; rfl
      rw [cl_nat (by omega), sa_sr, sr_at] at e6
      rw [fu, e6]
      refine ih (k + 1) (by omega) _ (fun f hf => ?_) (fun f hf => ?_)
      · by_cases e : f = k
        · rw [e, pk_us, h2 k (by omega)]
          rfl
        · rw [pk_un e]
          exact h1 f (by omega)
      · rw [pk_un (by omega)]
        exact h2 f (by omega)
  have e := loop (v.1 2).toNat 0 (by omega) (Y.2.1 7) (fun f hf => by omega) (fun f _ => rfl)
  rw [sr_self] at e
  exact ⟨_, e⟩
/-- what play touches, and no more -/
def agC (C X : vS) : Prop := (∀ j, j ≠ 16 → j ≠ 18 → X.1 j = C.1 j) ∧ ∀ a, a ≠ 21 → a ≠ 22 → a ≠ 23 → a ≠ 30 → a ≠ 31 → X.2.1 a = C.2.1 a
def agM (M Y : vS) : Prop := (∀ j, j ≠ 7 → j ≠ 8 → Y.1 j = M.1 j) ∧ ∀ a, a ≠ 6 → a ≠ 7 → a ≠ 8 → Y.2.1 a = M.2.1 a
theorem agC_sr {C X : vS} (h : agC C X) {a : Nat} {g : Nat → Int32} (ha : a = 21 ∨ a = 22 ∨ a = 23 ∨ a = 30 ∨ a = 31) : agC C (sr X a g) := by
  refine ⟨h.1, fun b b1 b2 b3 b4 b5 => ?_⟩
  rw [sr_ne _ _ (by omega)]
  exact h.2 b b1 b2 b3 b4 b5
theorem agC_sf {C X : vS} (h : agC C X) {j : Nat} {z : Int32} (hj : j = 16 ∨ j = 18) : agC C (sf X j z) := by
  refine ⟨fun b b1 b2 => ?_, h.2⟩
  show (if b = j then z else X.1 b) = C.1 b
  rw [if_neg (by omega)]
  exact h.1 b b1 b2
theorem agM_sr {M Y : vS} (h : agM M Y) {a : Nat} {g : Nat → Int32} (ha : a = 6 ∨ a = 7 ∨ a = 8) : agM M (sr Y a g) := by
  refine ⟨h.1, fun b b1 b2 b3 => ?_⟩
  rw [sr_ne _ _ (by omega)]
  exact h.2 b b1 b2 b3
theorem agM_sf {M Y : vS} (h : agM M Y) {j : Nat} {z : Int32} (hj : j = 7 ∨ j = 8) : agM M (sf Y j z) := by
  refine ⟨fun b b1 b2 => ?_, h.2⟩
  show (if b = j then z else Y.1 b) = M.1 b
  rw [if_neg (by omega)]
  exact h.1 b b1 b2
def sameV (v v2 : vV) : Prop := v2.1 = v.1 ∧ ∀ a, a ≠ 2 → a ≠ 3 → v2.2 a = v.2 a
/-- behind days of play -/
theorem rel_play {C M X Y : vS} {v v2 : vV} (hV : RelV C M v) (hX : agC C X) (hY : agM M Y) (hs : sameV v v2) (hC : shC X v2) (hM : shM Y v2) (hv2 : okV v2) (hd : X.1 16 = Y.1 7) (hs2 : X.1 18 = Y.1 8) (hs3 : 0 ≤ (Y.1 8).toInt) (hp : ∀ f : Nat, (f : Int) < v2.1 2 → X.2.1 22 f = Y.2.1 7 f) : Rel X Y := by
  obtain ⟨⟨-, -, hfC, hfM, hv, hw⟩, h2, h3, h4, h5, h6, h7⟩ := hV
  obtain ⟨x1, x2⟩ := hX
  obtain ⟨y1, y2⟩ := hY
  obtain ⟨s1, s2⟩ := hs
  refine ⟨v2, ⟨hC, hM, ?_, ?_, hv2, ?_⟩, ⟨?_, hd, hs2, hs3, hp⟩, ?_, ?_, ?_, ?_, ?_⟩
  · unfold shFC
    rw [x1 3 (by decide) (by decide), x2 6 (by decide) (by decide) (by decide) (by decide) (by decide), x2 7 (by decide) (by decide) (by decide) (by decide) (by decide), x2 8 (by decide) (by decide) (by decide) (by decide) (by decide), s1, s2 5 (by decide) (by decide), s2 6 (by decide) (by decide), s2 7 (by decide) (by decide)]
    exact hfC
  · unfold shFM
    rw [y1 3 (by decide) (by decide), y2 5 (by decide) (by decide) (by decide), s1, s2 5 (by decide) (by decide), s2 6 (by decide) (by decide), s2 7 (by decide) (by decide)]
    exact hfM
  · unfold okF
    rw [s1, s2 5 (by decide) (by decide), s2 6 (by decide) (by decide), s2 7 (by decide) (by decide)]
    exact hw
  · rw [x1 5 (by decide) (by decide), y1 5 (by decide) (by decide)]
    exact h2.1
  · unfold Rt
    rw [x2 3 (by decide) (by decide) (by decide) (by decide) (by decide), x2 4 (by decide) (by decide) (by decide) (by decide) (by decide), y2 2 (by decide) (by decide) (by decide), y2 3 (by decide) (by decide) (by decide), s1, s2 8 (by decide) (by decide), s2 9 (by decide) (by decide)]
    exact h3
  · unfold Rx
    rw [x1 12 (by decide) (by decide), x1 14 (by decide) (by decide), x2 17 (by decide) (by decide) (by decide) (by decide) (by decide), y1 9 (by decide) (by decide), y1 10 (by decide) (by decide), y2 9 (by decide) (by decide) (by decide)]
    exact h4
  · unfold Rb
    rw [x1 31 (by decide) (by decide), x2 33 (by decide) (by decide) (by decide) (by decide) (by decide), x2 34 (by decide) (by decide) (by decide) (by decide) (by decide), x2 35 (by decide) (by decide) (by decide) (by decide) (by decide), y1 23 (by decide) (by decide), y2 18 (by decide) (by decide) (by decide), y2 19 (by decide) (by decide) (by decide), y2 20 (by decide) (by decide) (by decide), s1]
    exact h5
  · unfold Rim
    rw [x1 23 (by decide) (by decide), x1 20 (by decide) (by decide), x1 21 (by decide) (by decide), x1 22 (by decide) (by decide), x2 24 (by decide) (by decide) (by decide) (by decide) (by decide), x2 25 (by decide) (by decide) (by decide) (by decide) (by decide), x2 26 (by decide) (by decide) (by decide) (by decide) (by decide), y2 21 (by decide) (by decide) (by decide), y2 22 (by decide) (by decide) (by decide), s1]
    exact h6
  · unfold Rim
    rw [x1 27 (by decide) (by decide), x1 24 (by decide) (by decide), x1 25 (by decide) (by decide), x1 26 (by decide) (by decide), x2 27 (by decide) (by decide) (by decide) (by decide) (by decide), x2 28 (by decide) (by decide) (by decide) (by decide) (by decide), x2 29 (by decide) (by decide) (by decide) (by decide) (by decide), y2 21 (by decide) (by decide) (by decide), y2 22 (by decide) (by decide) (by decide), s1]
    exact h7
/-- purses after k days -/
def pu (v : vV) (d0 : Int32) (p0 : Nat → Int32) : Nat → Nat → Int32
  | 0, f => p0 f
  | k + 1, f => pu v d0 p0 k f + iI (sShare v (sFarN v (d0 + nI k).toInt) f)
theorem dnx (d : Int32) (k : Nat) : d + nI k + 1 = d + nI (k + 1) := by rw [Int32.add_assoc, nI_1]
section TT
variable {C M : vS}
theorem t_day (hR : Rel C M) (x : Int32) : e_X6_day x C (fun r C1 => e_X7_day x M (fun r2 M1 => r = r2 ∧ Rel C1 M1)) := by
  obtain ⟨v, hV⟩ := id hR
  obtain ⟨⟨hC, hM, hfC, hfM, hv, hw⟩, h2, h3, h4, h5, h6, h7⟩ := id hV
  have hn := hv.2.2.2.1
  have h60 := cN_le hv
  have q1 : x < 1 ↔ x.toInt < 1 := by rw [Int32.lt_iff_toInt_lt]; rfl
  have q2 : x ≤ 99 ↔ x.toInt ≤ 99 := by rw [Int32.le_iff_toInt_le]; rfl
  have z1 : (1 : Int64).toInt = 1 := rfl
  have z9 : (99 : Int64).toInt = 99 := rfl
  have mout : (x.toInt < 1 ∨ 99 < x.toInt) → e_X7_day x M (fun r2 M1 => (-1000000002 : Int32) = r2 ∧ Rel C M1) := by
    intro ho
    unfold e_X7_day
    refine p_in (fun a1 a2 => ?_) (fun _ => ⟨fun c => absurd rfl c, fun _ => ⟨rfl, hR⟩⟩)
    rw [iI_L, z1] at a1
    rw [iI_L, z9] at a2
    omega
  unfold e_X6_day
  rw [q1, q2]
  refine ⟨fun c => mout (by omega), fun c1 => ⟨fun c2 => ?_, fun c => mout (by omega)⟩⟩
  have hin : ∀ Q : Int32 → vS → Prop, ((¬ M.1 0 = 0 → ∃ j, e_X7_day_28 Q j x 0 M) ∧ (M.1 0 = 0 → Q (-1000000003) M)) → e_X7_day x M Q := by
    intro Q hQ
    unfold e_X7_day
    refine p_in (fun _ _ => ⟨fun _ => hQ, fun c => absurd c (by decide)⟩) (fun a1 => ?_)
    rw [iI_L, z1, z9] at a1
    omega
  have e0 : M.1 0 = 0 ↔ cN v = 0 := by
    rw [hM.1, L0, iI_eq (sm_of (by have := hv.1; omega) (by have := hv.1; omega)) (sm_of (by decide) (by decide))]
    have a1 := hv.2.2.2.2.2.2.2.2.2
    have ew := wN_eq hv
    have ed := dN_eq hv
    have hd := hv.2.1
    constructor
    · intro z
      have : wN v = 0 := by omega
      show wN v * dN v = 0
      rw [this, Nat.zero_mul]
    · intro z
      have z2 : wN v * dN v = 0 := z
      rcases Nat.mul_eq_zero.mp z2 with q | q
      · omega
      · have := hv.1
        omega
  refine pC_cells hC hv ?_
  rw [nI_z (by omega)]
  refine ⟨fun c => ?_, fun c => hin _ ⟨fun z => absurd (e0.mpr c) z, fun _ => ⟨rfl, hR⟩⟩⟩
  obtain ⟨n, en⟩ : ∃ n : Nat, x = nI n ∧ 1 ≤ n ∧ n ≤ 99 := ⟨x.toInt.toNat, by rw [← nI_of0 (by omega)]; exact iI_of x, by omega, by omega⟩
  obtain ⟨en, n1, n2⟩ := en
  -- the reference's days
  have mday : ∀ (X : vS), agC C X → shC X v → X.1 16 = C.1 16 + nI n → X.1 18 = C.1 18 → (∀ f : Nat, (f : Int) < v.1 2 → X.2.1 22 f = pu v (C.1 16) (C.2.1 22) n f) → e_X7_day x M (fun r2 M1 => X.1 16 = r2 ∧ Rel X M1) := by
    intro X a1 a2 a3 a4 a5
    refine hin _ ⟨fun _ => ⟨n + 1, ?_⟩, fun z => absurd (e0.mp z) c⟩
    rw [en]
    have loop : ∀ (r k : Nat), k + r = n → ∀ Y, agM M Y → shM Y v → shFM Y v → Y.1 7 = C.1 16 + nI k → Y.1 8 = M.1 8 → (∀ f : Nat, (f : Int) < v.1 2 → Y.2.1 7 f = pu v (C.1 16) (C.2.1 22) k f) → e_X7_day_28 (fun r2 M1 => X.1 16 = r2 ∧ Rel X M1) (r + 1) (nI n) (nI k) Y := by
      intro r
      induction r with
      | zero =>
        intro k hk Y b1 b2 b3 b4 b5 b6
        have ek : k = n := by omega
        subst ek
        rw [e_X7_day_28.eq_2, nI_leI (by omega) (by omega)]
        refine ⟨fun _ => ⟨by rw [a3, b4], ?_⟩, fun c => absurd (by omega) c⟩
        exact rel_play hV a1 b1 ⟨rfl, fun _ _ _ => rfl⟩ a2 b2 hv (by rw [a3, b4]) (by rw [a4, b5]; exact h2.2.2.1) (by rw [b5]; exact h2.2.2.2.1) (fun f hf => by rw [a5 f hf, b6 f hf])
      | succ r ih =>
        intro k hk Y b1 b2 b3 b4 b5 b6
        rw [e_X7_day_28.eq_2, nI_leI (by omega) (by omega)]
        refine ⟨fun c => absurd c (by omega), fun _ => ?_⟩
        refine pM_dayNow b2 b3 hv hw (fun p2 hp2 => ?_)
        intro u hu
        rw [hu, nI_1]
        refine ih (k + 1) (by omega) _ (agM_sf (agM_sr b1 (Or.inr (Or.inl rfl))) (Or.inl rfl)) b2 b3 ?_ b5 (fun f hf => ?_)
        · show Y.1 7 + 1 = _
          rw [b4, dnx]
        · show p2 f = _
          rw [hp2 f hf, b6 f hf, b4]
          rfl
    exact loop n 0 (by omega) M ⟨fun _ _ _ => rfl, fun _ _ _ _ => rfl⟩ hM hfM (by rw [nI_0, Int32.add_zero]; exact h2.2.1.symm) rfl (fun f hf => (h2.2.2.2.2 f hf).symm)
  -- the class's days
  refine pC_lookAll hC hfC hv hw (fun g hg => ?_)
  refine pC_countShares (Y := sr C 30 g) (far := sFarN v (C.1 16).toInt) hC hv (by rw [sr_at]; exact hg) (fun h1 hh1 => ⟨n + 1, ?_⟩)
  rw [en]
  rw [en] at mday
  generalize hQ : (fun (r : Int32) (C1 : vS) => e_X7_day (nI n) M (fun r2 M1 => r = r2 ∧ Rel C1 M1)) = QQ
  have fin : ∀ (X : vS), agC C X → shC X v → X.1 16 = C.1 16 + nI n → X.1 18 = C.1 18 → (∀ f : Nat, (f : Int) < v.1 2 → X.2.1 22 f = pu v (C.1 16) (C.2.1 22) n f) → QQ (X.1 16) X := by
    intro X a1 a2 a3 a4 a5
    rw [← hQ]
    exact mday X a1 a2 a3 a4 a5
  have loop : ∀ (r k : Nat), k + r = n → ∀ X, agC C X → shC X v → shFC X v → X.1 16 = C.1 16 + nI k → X.1 18 = C.1 18 → (∀ f : Nat, (f : Int) < v.1 2 → X.2.1 22 f = pu v (C.1 16) (C.2.1 22) k f) → seesK (X.2.1 30) v (sFarN v (C.1 16 + nI k).toInt) → (∀ f : Nat, (f : Int) < v.1 2 → X.2.1 31 f = iI (sShare v (sFarN v (C.1 16 + nI k).toInt) f)) → e_X6_day_43 QQ (r + 1) (nI n) (nI k) X := by
    intro r
    induction r with
    | zero =>
      intro k hk X b1 b2 b3 b4 b5 b6 b7 b8
      have ek : k = n := by omega
      subst ek
      rw [e_X6_day_43.eq_2, nI_leI (by omega) (by omega)]
      exact ⟨fun _ => fin X b1 b2 b4 b5 b6, fun c => absurd (by omega) c⟩
    | succ r ih =>
      intro k hk X b1 b2 b3 b4 b5 b6 b7 b8
      rw [e_X6_day_43.eq_2, nI_leI (by omega) (by omega)]
      refine ⟨fun c => absurd c (by omega), fun _ => ?_⟩
      refine pC_earn (fun p2 hp2 => ?_)
      have e16 : (sr X 22 p2).1 16 = C.1 16 + nI k := b4
      have hpn : ∀ f : Nat, (f : Int) < v.1 2 → p2 f = pu v (C.1 16) (C.2.1 22) (k + 1) f := by
        intro f hf
        rw [hp2 f (by omega), b6 f hf, b8 f hf]
        rfl
      have ag1 : agC C (sf (sr X 22 p2) 16 ((sr X 22 p2).1 16 + 1)) := agC_sf (agC_sr b1 (by omega)) (Or.inl rfl)
      have ed : (sr X 22 p2).1 16 + 1 = C.1 16 + nI (k + 1) := by rw [e16, dnx]
      refine pC_turn (Y := sr X 22 p2) b2 b3 hv hw (fun hsame => ?_) (fun g2 hg2 => ?_)
      · refine ⟨fun _ u hu => ?_, fun c => absurd rfl c⟩
        rw [ed, e16] at hsame
        rw [hu, nI_1]
        refine ih (k + 1) (by omega) _ ag1 b2 b3 ed b5 hpn ?_ (fun f hf => ?_)
        · rw [hsame]
          exact b7
        · rw [hsame]
          exact b8 f hf
      · refine ⟨fun c => absurd c (by decide), fun _ => ?_⟩
        rw [ed] at hg2
        refine pC_countShares (Y := sr (sf (sr X 22 p2) 16 ((sr X 22 p2).1 16 + 1)) 30 g2) (far := sFarN v (C.1 16 + nI (k + 1)).toInt) b2 hv (by rw [sr_at]; exact hg2) (fun h1 hh1 => ?_)
        intro u hu
        rw [hu, nI_1]
        exact ih (k + 1) (by omega) _ (agC_sr (agC_sr ag1 (by omega)) (by omega)) b2 b3 ed b5 hpn hg2 hh1
  have e00 : C.1 16 + nI 0 = C.1 16 := by rw [nI_0, Int32.add_zero]
  refine loop n 0 (by omega) _ (agC_sr (agC_sr ⟨fun _ _ _ => rfl, fun _ _ _ _ _ _ => rfl⟩ (by omega)) (by omega)) hC hfC e00.symm rfl (fun f hf => rfl) ?_ ?_
  · rw [e00]
    exact hg
  · rw [e00]
    exact hh1
end TT
