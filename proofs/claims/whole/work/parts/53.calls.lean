/-! ===== free, judge, begin, keep, goBack ===== -/
/-- the i-th free cell from k on (r are left), c are counted -/
def sFree (v : vV) (far : Int) (i : Int32) : Nat → Nat → Nat → Int32
  | 0, _, _ => -1
  | r + 1, k, c => if sSetN v far (k % wN v) (k / wN v) = 0 then (if nI c = i then iI (100 * ((k % wN v : Nat) : Int) + ((k / wN v : Nat) : Int)) else sFree v far i r (k + 1) (c + 1)) else sFree v far i r (k + 1) c
theorem sub_z (a b : Int32) : a - b = 0 ↔ b = a := by
  constructor
  · intro h
    have e : a = (a - b) + b := (Int32.sub_add_cancel a b).symm
    rw [h, Int32.zero_add] at e
    exact e.symm
  · intro h
    rw [h, Int32.sub_self]
theorem sub_1 (a : Int32) (c : Nat) : a - nI c + (-1) = a - nI (c + 1) := by
  rw [iI_of a, iI_nat, iI_nat, iI_sub, iI_sub, Lm1, iI_add]
  congr 1
  omega
theorem pC_free {C : vS} {v : vV} (h : shC C v) (hf : shFC C v) (hv : okV v) (hw : okF v) (i : Int32) {Q : Int32 → vS → Prop} (hq : ∀ g, Q (sFree v (sFarN v (C.1 16).toInt) i (cN v) 0 0) (sr C 30 g)) : e_X6_free i C Q := by
  have h60 := cN_le hv
  have hwd := hv.1
  have hd := hv.2.1
  have ew := wN_eq hv
  have ed := dN_eq hv
  unfold e_X6_free
  refine pC_lookAll h hf hv hw (fun g hg => ⟨dN v + 1, ?_⟩)
  have ec0 : (sr C 30 g).1 0 = iI (v.1 0) := h.1
  have ec1 : (sr C 30 g).1 1 = iI (v.1 1) := h.2.1
  generalize hfar : sFarN v (C.1 16).toInt = far at hg hq
  have inner : ∀ (K : Int32 → Int32 → vS → Prop) (y : Nat), (y : Int) < v.1 1 → (∀ c : Nat, Q (sFree v far i (cN v - wN v * (y + 1)) (wN v * (y + 1)) c) (sr C 30 g) → K (i - nI c) (iI ((y + 1 : Nat) : Int)) (sr C 30 g)) → ∀ (r x c : Nat), x + r = wN v → Q (sFree v far i (cN v - (wN v * y + x)) (wN v * y + x) c) (sr C 30 g) → e_X6_free_25 K Q (r + 1) (i - nI c) (iI y) (iI (x : Int)) (sr C 30 g) := by
    intro K y hy hK r
    induction r with
    | zero =>
      intro x c hx hQ
      rw [e_X6_free_25.eq_2, ec0, iI_le (sm_of (by omega) (by omega)) (sm_of (by omega) (by omega))]
      refine ⟨fun _ u hu => ?_, fun c => absurd (by omega) c⟩
      have e : x = wN v := by omega
      have fu : u = iI ((y + 1 : Nat) : Int) := by rw [hu, L1, iI_add]; rfl
      rw [e, ← Nat.mul_succ] at hQ
      rw [fu]
      exact hK c hQ
    | succ r ih =>
      intro x c hx hQ
      have hxw : (x : Int) < v.1 0 := by omega
      obtain ⟨i1, i2⟩ := idx_lt hv hxw hy
      obtain ⟨mx1, mx2⟩ := mod_ix (w := wN v) (x := x) (y := y) (by omega)
      have ecn : cN v = wN v * dN v := rfl
      have er : cN v - (wN v * y + x) = (cN v - (wN v * y + (x + 1))) + 1 := by omega
      rw [er, sFree, mx1, mx2] at hQ
      have fx : ∀ u : Int32, u = iI (x : Int) + 1 → u = iI ((x + 1 : Nat) : Int) := fun u hu => by rw [hu, L1, iI_add]; rfl
      rw [e_X6_free_25.eq_2, ec0, iI_le (sm_of (by omega) (by omega)) (sm_of (by omega) (by omega))]
      refine ⟨fun c => absurd c (by omega), fun _ => ?_⟩
      refine pC_num (shC30 h) hv ⟨in_nat (by omega) (by omega) (by omega), ?_⟩
      rw [cl_nat (by omega), sr_at, hg _ i2, mx1, mx2, nI_z (by have := sSetN_lt2 hv far x y; omega), sub_z]
      refine ⟨fun q => ?_, fun q u hu => ?_⟩
      · rw [if_pos q] at hQ
        refine ⟨fun q2 u hu u2 hu2 => ?_, fun q2 => ?_⟩
        · rw [if_neg q2] at hQ
          rw [hu, fx u2 hu2, sub_1]
          exact ih (x + 1) (c + 1) (by omega) hQ
        · rw [if_pos q2] at hQ
          unfold e_X6_placeOf
          rw [L100, iI_mul, iI_add]
          exact hQ
      · rw [if_neg q] at hQ
        rw [fx u hu]
        exact ih (x + 1) c (by omega) hQ
  have outer : ∀ (r y c : Nat), y + r = dN v → Q (sFree v far i (cN v - wN v * y) (wN v * y) c) (sr C 30 g) → e_X6_free_11 Q (r + 1) (i - nI c) (iI (y : Int)) (sr C 30 g) := by
    intro r
    induction r with
    | zero =>
      intro y c hy hQ
      rw [e_X6_free_11.eq_2, ec1, iI_le (sm_of (by omega) (by omega)) (sm_of (by omega) (by omega))]
      refine ⟨fun _ => ?_, fun c => absurd (by omega) c⟩
      have e : cN v - wN v * y = 0 := by
        have : y = dN v := by omega
        rw [this]
        exact Nat.sub_self _
      rw [e] at hQ
      exact hQ
    | succ r ih =>
      intro y c hy hQ
      rw [e_X6_free_11.eq_2, ec1, iI_le (sm_of (by omega) (by omega)) (sm_of (by omega) (by omega))]
      refine ⟨fun c => absurd c (by omega), fun _ => ⟨wN v + 1, ?_⟩⟩
      exact inner _ y (by omega) (fun c2 hc2 => ih (y + 1) c2 (by omega) hc2) (wN v) 0 c (by omega) hQ
  have e := outer (dN v) 0 0 (by omega) (hq g)
  have e0 : i - nI 0 = i := by
    rw [nI_0]
    exact Int32.sub_zero i
  rw [e0] at e
  exact e
theorem pM_free {M : vS} {v : vV} (h : shM M v) (hf : shFM M v) (hv : okV v) (hw : okF v) (i : Int32) {Q : Int32 → vS → Prop} (hq : Q (sFree v (sFarN v (M.1 7).toInt) i (cN v) 0 0) M) : e_X7_free i M Q := by
  have h60 := cN_le hv
  have loop : ∀ (r k c : Nat), k + r = cN v → Q (sFree v (sFarN v (M.1 7).toInt) i r k c) M → e_X7_free_4 Q (r + 1) i (nI c) (nI k) M := by
    intro r
    induction r with
    | zero =>
      intro k c hk hQ
      rw [e_X7_free_4.eq_2]
      exact pM_cells h hv ⟨fun _ => hQ, fun c => absurd (nI_le (by omega) (by omega)) c⟩
    | succ r ih =>
      intro k c hk hQ
      have hkc : k < cN v := by omega
      obtain ⟨h1, h2, h0, h6, -⟩ := kxy hv hkc
      obtain ⟨m1, m2, m3⟩ := pM_kx h hv hkc
      rw [sFree] at hQ
      rw [e_X7_free_4.eq_2]
      refine pM_cells h hv ⟨fun c => absurd c (nI_ge hkc (by omega)), fun _ => ⟨m3, ?_⟩⟩
      rw [m1, m2]
      refine pM_seers h hf hv hw h1 h2 ?_
      rw [nI_z (by have := sSetN_lt2 hv (sFarN v (M.1 7).toInt) (k % wN v) (k / wN v); omega)]
      refine ⟨fun q u hu => ?_, fun q => ⟨fun q2 u hu u2 hu2 => ?_, fun q2 => ⟨m3, ?_⟩⟩⟩
      · rw [if_neg q] at hQ
        rw [hu, nI_1]
        exact ih (k + 1) c (by omega) hQ
      · rw [if_pos q, if_neg q2] at hQ
        rw [hu, hu2, nI_1, nI_1]
        exact ih (k + 1) (c + 1) (by omega) hQ
      · rw [if_pos q, if_pos q2] at hQ
        rw [m1, m2, L100, iI_mul, iI_add]
        exact hQ
  exact ⟨cN v + 1, loop (cN v) 0 0 (by omega) hq⟩
/-- the first wrong claim from k on -/
def sJudge (v : vV) (far : Int) (bf bx bY : Nat → Nat) : Nat → Nat → Int32
  | 0, _ => -1
  | r + 1, k => if (sOwnN v far (bx k) (bY k)).testBit (bf k) then sJudge v far bf bx bY r (k + 1) else nI k
section TT
variable {C M : vS}
theorem t_free (hR : Rel C M) (x : Int32) : e_X6_free x C (fun r C1 => e_X7_free x M (fun r2 M1 => r = r2 ∧ Rel C1 M1)) := by
  obtain ⟨v, ⟨hC, hM, hfC, hfM, hv, hw⟩, h2, h3, h4, h5, h6, h7⟩ := id hR
  refine pC_free hC hfC hv hw x (fun g => ?_)
  refine pM_free hM hfM hv hw x ⟨?_, hR⟩
  rw [h2.2.1]
theorem t_judge (hR : Rel C M) : e_X6_judge C (fun r C1 => e_X7_judge M (fun r2 M1 => r = r2 ∧ Rel C1 M1)) := by
  obtain ⟨v, ⟨hC, hM, hfC, hfM, hv, hw⟩, h2, h3, h4, ⟨b, b1, b2, b3, b4⟩, h6, h7⟩ := id hR
  have hn := hv.2.2.2.1
  unfold e_X6_judge
  refine pC_lookAll hC hfC hv hw (fun g hg => ⟨b + 1, ?_⟩)
  have hg2 : seesK ((sr C 30 g).2.1 30) v (sFarN v (C.1 16).toInt) := by rw [sr_at]; exact hg
  have eb : (sr C 30 g).1 31 = nI b := b2
  have both : ∀ (r k : Nat), k + r = b → ∀ (QM : Int32 → Prop), (∀ X, QM X → ∃ j, e_X7_judge_2 (fun r2 M1 => X = r2 ∧ Rel (sr C 30 g) M1) j 0 M) → (∀ X : Int32, (e_X7_judge_2 (fun r2 M1 => X = r2 ∧ Rel (sr C 30 g) M1) (r + 1) (nI k) M) → QM X) → e_X6_judge_9 (fun r C1 => e_X7_judge M (fun r2 M1 => r = r2 ∧ Rel C1 M1)) (r + 1) (nI k) (sr C 30 g) := by
    intro r
    induction r with
    | zero =>
      intro k hk QM hM1 hM2
      rw [e_X6_judge_9.eq_2, eb, nI_leI (by omega) (by omega)]
      refine ⟨fun _ => ?_, fun c => absurd (by omega) c⟩
      refine hM1 _ (hM2 _ ?_)
      rw [e_X7_judge_2.eq_2, b3, nI_leI (by omega) (by omega)]
      exact ⟨fun _ => ⟨rfl, hR⟩, fun c => absurd (by omega) c⟩
    | succ r ih =>
      intro k hk QM hM1 hM2
      obtain ⟨f, x, y, ⟨hf, hx, hy⟩, ⟨c1, c2, c3⟩, m1, m2, m3⟩ := b4 k (by omega)
      have step : ∀ X : Int32, ((sOwnN v (sFarN v (C.1 16).toInt) x y).testBit f = true → e_X7_judge_2 (fun r2 M1 => X = r2 ∧ Rel (sr C 30 g) M1) (r + 1) (nI (k + 1)) M) → ((sOwnN v (sFarN v (C.1 16).toInt) x y).testBit f = false → X = nI k) → e_X7_judge_2 (fun r2 M1 => X = r2 ∧ Rel (sr C 30 g) M1) (r + 1 + 1) (nI k) M := by
        intro X hX1 hX2
        rw [e_X7_judge_2.eq_2, b3, nI_leI (by omega) (by omega), cl_nI (by omega), m2, m3]
        refine ⟨fun c => absurd c (by omega), fun _ => ⟨in_nI (by omega) (by omega), ?_⟩⟩
        refine pM_seers hM hfM hv hw hx hy ?_
        rw [m2, m3]
        refine pM_own (s := sSetN v (sFarN v (M.1 7).toInt) x y) hM hv hx hy (sSet_lt _ _ _ _ _) ?_
        rw [m1]
        refine pM_has (s := sOwn v (sSetN v (sFarN v (M.1 7).toInt) x y) x y) (lt64 hv (sOwn_lt hv x y (sSet_lt _ _ _ _ _))) (by omega) ?_
        rw [← h2.2.1]
        cases ht : (sOwn v (sSetN v (sFarN v (C.1 16).toInt) x y) x y).testBit f with
        | false => exact ⟨fun c => absurd rfl c, fun _ => ⟨hX2 ht, hR⟩⟩
        | true =>
          refine ⟨fun _ u hu => ?_, fun c => absurd c (by decide)⟩
          rw [hu, nI_1]
          exact hX1 ht
      rw [e_X6_judge_9.eq_2, eb, nI_leI (by omega) (by omega), cl_nI (by omega)]
      refine ⟨fun c => absurd c (by omega), fun _ => ⟨in_nI (by omega) (by omega), ?_⟩⟩
      have d1 : (sr C 30 g).2.1 34 k = iI x := c2
      have d2 : (sr C 30 g).2.1 35 k = iI y := c3
      have d3 : (sr C 30 g).2.1 33 k = iI f := c1
      rw [d1, d2]
      refine pC_own (shC30 hC) hv hg2 hx hy ?_
      rw [d3]
      refine pC_holds (lt64 hv (sOwnN_lt hv _ _ _)) (by omega) ?_
      cases ht : (sOwnN v (sFarN v (C.1 16).toInt) x y).testBit f with
      | false =>
        refine ⟨fun c => absurd rfl c, fun _ => ?_⟩
        exact hM1 _ (hM2 _ (step _ (fun z => absurd (ht.symm.trans z) (by decide)) (fun _ => rfl)))
      | true =>
        refine ⟨fun _ u hu => ?_, fun c => absurd c (by decide)⟩
        rw [hu, nI_1]
        exact ih (k + 1) (by omega) QM hM1 (fun X hX => hM2 X (step X (fun _ => hX) (fun z => absurd (ht.symm.trans z) (by decide))))
  exact both b 0 (by omega) (fun X => e_X7_judge_2 (fun r2 M1 => X = r2 ∧ Rel (sr C 30 g) M1) (b + 1) (nI 0) M) (fun X hX => ⟨b + 1, hX⟩) (fun X hX => hX)
end TT
