/-! ===== counts over the cells; told, cell, man, free ===== -/
def fCnt (p : Nat → Bool) : Nat → Nat
  | 0 => 0
  | n + 1 => fCnt p n + (if p n then 1 else 0)
theorem fCnt_le (p : Nat → Bool) : ∀ n, fCnt p n ≤ n
  | 0 => Nat.le_refl _
  | n + 1 => by
    have := fCnt_le p n
    rw [fCnt]
    split <;> omega
theorem fCnt_t {p : Nat → Bool} {n : Nat} (h : p n = true) : fCnt p (n + 1) = fCnt p n + 1 := by rw [fCnt, if_pos h]
theorem fCnt_f {p : Nat → Bool} {n : Nat} (h : p n = false) : fCnt p (n + 1) = fCnt p n := by rw [fCnt, h, if_neg (by decide), Nat.add_zero]
theorem pC_cells {C : vS} {v : vV} (h : shC C v) (hv : okV v) {Q : Int32 → vS → Prop} (hq : Q (nI (cN v)) C) : e_X2_cells_plan C Q := by
  unfold e_X2_cells_plan
  rw [h.1, h.2.1, nI_of0 hv.1.1, nI_of0 hv.2.1.1, pk_mul]
  exact hq
theorem nI_z {s : Nat} (hs : s < 1000) : nI s = 0 ↔ s = 0 := by
  rw [L0, iI_nat, iI_eq (sm_of (by omega) (by omega)) (sm_of (by decide) (by decide))]
  omega
theorem in_nI {k n : Nat} (h : k < n) (hn : n ≤ 100000) : vp_in (nI k) n := by rw [iI_nat]; exact in_nat (by omega) (by omega) hn
theorem cl_nI {k : Nat} (h : k < 100000) : (nI k).toNatClampNeg = k := by rw [iI_nat]; exact cl_nat h
theorem sSetN_lt2 {v : vV} (hv : okV v) (far : Int) (x y : Nat) : sSetN v far x y < 64 := lt64 hv (sSet_lt _ _ _ _ _)
theorem pC_countFree {C : vS} {v : vV} (h : shC C v) (hf : shFC C v) (hv : okV v) (hw : okF v) {Q : Int32 → vS → Prop} (hq : ∀ g, Q (nI (fCnt (fun k => decide (sSetN v (sFarN v (C.1 16).toInt) (k % wN v) (k / wN v) = 0)) (cN v))) (sr C 30 g)) : e_X6_countFree C Q := by
  have h60 := cN_le hv
  unfold e_X6_countFree
  refine pC_lookAll h hf hv hw (fun g hg => ⟨cN v + 1, ?_⟩)
  have loop : ∀ (r k : Nat), k + r = cN v → e_X6_countFree_11 Q (r + 1) (nI (fCnt (fun k => decide (sSetN v (sFarN v (C.1 16).toInt) (k % wN v) (k / wN v) = 0)) k)) (nI k) (sr C 30 g) := by
    intro r
    induction r with
    | zero =>
      intro k hk
      rw [e_X6_countFree_11.eq_2]
      refine pC_cells (shC30 h) hv ⟨fun _ => ?_, fun c => absurd (nI_le (by omega) (by omega)) c⟩
      have e : k = cN v := by omega
      rw [e]
      exact hq g
    | succ r ih =>
      intro k hk
      have hkc : k < cN v := by omega
      rw [e_X6_countFree_11.eq_2]
      refine pC_cells (shC30 h) hv ⟨fun c => absurd c (nI_ge hkc (by omega)), fun _ => ⟨in_nI (by omega) (by omega), ?_⟩⟩
      rw [cl_nI (by omega), sr_at, hg k hkc, nI_z (by have := sSetN_lt2 hv (sFarN v (C.1 16).toInt) (k % wN v) (k / wN v); omega)]
      have h3 := ih (k + 1) (by omega)
      refine ⟨fun c u hu => ?_, fun c u hu u2 hu2 => ?_⟩
      · rw [fCnt_f (decide_eq_false c)] at h3
        rw [hu, nI_1]
        exact h3
      · rw [fCnt_t (decide_eq_true c)] at h3
        rw [hu, hu2, nI_1, nI_1]
        exact h3
  exact loop (cN v) 0 (by omega)
theorem pM_countFree {M : vS} {v : vV} (h : shM M v) (hf : shFM M v) (hv : okV v) (hw : okF v) {Q : Int32 → vS → Prop} (hq : Q (nI (fCnt (fun k => decide (sSetN v (sFarN v (M.1 7).toInt) (k % wN v) (k / wN v) = 0)) (cN v))) M) : e_X7_countFree M Q := by
  have h60 := cN_le hv
  have loop : ∀ (r k : Nat), k + r = cN v → e_X7_countFree_4 Q (r + 1) (nI (fCnt (fun k => decide (sSetN v (sFarN v (M.1 7).toInt) (k % wN v) (k / wN v) = 0)) k)) (nI k) M := by
    intro r
    induction r with
    | zero =>
      intro k hk
      rw [e_X7_countFree_4.eq_2]
      refine pM_cells h hv ⟨fun _ => ?_, fun c => absurd (nI_le (by omega) (by omega)) c⟩
      have e : k = cN v := by omega
      rw [e]
      exact hq
    | succ r ih =>
      intro k hk
      have hkc : k < cN v := by omega
      obtain ⟨h1, h2, h0, h6, -⟩ := kxy hv hkc
      obtain ⟨m1, m2, m3⟩ := pM_kx h hv hkc
      rw [e_X7_countFree_4.eq_2]
      refine pM_cells h hv ⟨fun c => absurd c (nI_ge hkc (by omega)), fun _ => ⟨m3, ?_⟩⟩
      rw [m1, m2]
      refine pM_seers h hf hv hw h1 h2 ?_
      rw [nI_z (by have := sSetN_lt2 hv (sFarN v (M.1 7).toInt) (k % wN v) (k / wN v); omega)]
      have h3 := ih (k + 1) (by omega)
      refine ⟨fun c u hu u2 hu2 => ?_, fun c u hu u2 hu2 => ?_⟩
      · rw [fCnt_f (decide_eq_false c)] at h3
        rw [hu, hu2, nI_1, ← nI_0, nI_add]
        exact h3
      · rw [fCnt_t (decide_eq_true c)] at h3
        rw [hu, hu2, nI_1, nI_1]
        exact h3
  exact ⟨cN v + 1, loop (cN v) 0 (by omega)⟩
theorem pC_countSeen {C : vS} {v : vV} (h : shC C v) (hf : shFC C v) (hv : okV v) (hw : okF v) {f : Nat} (hfn : (f : Int) < v.1 2) {Q : Int32 → vS → Prop} (hq : ∀ g, Q (nI (fCnt (fun k => (sSetN v (sFarN v (C.1 16).toInt) (k % wN v) (k / wN v)).testBit f) (cN v))) (sr C 30 g)) : e_X6_countSeen (iI f) C Q := by
  have h60 := cN_le hv
  have hn := hv.2.2.2.1
  unfold e_X6_countSeen
  refine pC_lookAll h hf hv hw (fun g hg => ⟨cN v + 1, ?_⟩)
  have loop : ∀ (r k : Nat), k + r = cN v → e_X6_countSeen_11 Q (r + 1) (iI f) (nI (fCnt (fun k => (sSetN v (sFarN v (C.1 16).toInt) (k % wN v) (k / wN v)).testBit f) k)) (nI k) (sr C 30 g) := by
    intro r
    induction r with
    | zero =>
      intro k hk
      rw [e_X6_countSeen_11.eq_2]
      refine pC_cells (shC30 h) hv ⟨fun _ => ?_, fun c => absurd (nI_le (by omega) (by omega)) c⟩
      have e : k = cN v := by omega
      rw [e]
      exact hq g
    | succ r ih =>
      intro k hk
      have hkc : k < cN v := by omega
      rw [e_X6_countSeen_11.eq_2]
      refine pC_cells (shC30 h) hv ⟨fun c => absurd c (nI_ge hkc (by omega)), fun _ => ⟨in_nI (by omega) (by omega), ?_⟩⟩
      rw [cl_nI (by omega), sr_at, hg k hkc]
      refine pC_holds (sSetN_lt2 hv _ _ _) (by omega) ?_
      have h3 := ih (k + 1) (by omega)
      cases ht : (sSetN v (sFarN v (C.1 16).toInt) (k % wN v) (k / wN v)).testBit f with
      | false =>
        rw [fCnt_f (by exact ht)] at h3
        refine ⟨fun c u hu => ?_, fun c => absurd rfl c⟩
        rw [hu, nI_1]
        exact h3
      | true =>
        rw [fCnt_t (by exact ht)] at h3
        refine ⟨fun c => absurd c (by decide), fun c u hu u2 hu2 => ?_⟩
        rw [hu, hu2, nI_1, nI_1]
        exact h3
  exact loop (cN v) 0 (by omega)
theorem pC_countOwned {C : vS} {v : vV} (h : shC C v) (hf : shFC C v) (hv : okV v) (hw : okF v) {f : Nat} (hfn : (f : Int) < v.1 2) {Q : Int32 → vS → Prop} (hq : ∀ g, Q (nI (fCnt (fun k => (sOwnN v (sFarN v (C.1 16).toInt) (k % wN v) (k / wN v)).testBit f) (cN v))) (sr C 30 g)) : e_X6_countOwned (iI f) C Q := by
  have h60 := cN_le hv
  have hn := hv.2.2.2.1
  have hwd := hv.1
  have hd := hv.2.1
  have ew := wN_eq hv
  have ed := dN_eq hv
  unfold e_X6_countOwned
  refine pC_lookAll h hf hv hw (fun g hg => ⟨dN v + 1, ?_⟩)
  have hg2 : seesK ((sr C 30 g).2.1 30) v (sFarN v (C.1 16).toInt) := by rw [sr_at]; exact hg
  have ec0 : (sr C 30 g).1 0 = iI (v.1 0) := h.1
  have ec1 : (sr C 30 g).1 1 = iI (v.1 1) := h.2.1
  have inner : ∀ (K : Int32 → Int32 → Int32 → vS → Prop) (y : Nat), (y : Int) < v.1 1 → K (iI f) (nI (fCnt (fun k => (sOwnN v (sFarN v (C.1 16).toInt) (k % wN v) (k / wN v)).testBit f) (wN v * (y + 1)))) (iI ((y + 1 : Nat) : Int)) (sr C 30 g) → ∀ (r x : Nat), x + r = wN v → e_X6_countOwned_25 K Q (r + 1) (iI f) (nI (fCnt (fun k => (sOwnN v (sFarN v (C.1 16).toInt) (k % wN v) (k / wN v)).testBit f) (wN v * y + x))) (iI y) (iI (x : Int)) (sr C 30 g) := by
    intro K y hy hK r
    induction r with
    | zero =>
      intro x hx
      rw [e_X6_countOwned_25.eq_2, ec0, iI_le (sm_of (by omega) (by omega)) (sm_of (by omega) (by omega))]
      refine ⟨fun _ u hu => ?_, fun c => absurd (by omega) c⟩
      have e : x = wN v := by omega
      have fu : u = iI ((y + 1 : Nat) : Int) := by rw [hu, L1, iI_add]; rfl
      rw [fu, e, ← Nat.mul_succ]
      exact hK
    | succ r ih =>
      intro x hx
      have hxw : (x : Int) < v.1 0 := by omega
      obtain ⟨mx1, mx2⟩ := mod_ix (w := wN v) (x := x) (y := y) (by omega)
      rw [e_X6_countOwned_25.eq_2, ec0, iI_le (sm_of (by omega) (by omega)) (sm_of (by omega) (by omega))]
      refine ⟨fun c => absurd c (by omega), fun _ => ?_⟩
      refine pC_own (shC30 h) hv hg2 hxw hy ?_
      refine pC_holds (lt64 hv (sOwnN_lt hv _ _ _)) (by omega) ?_
      have h3 := ih (x + 1) (by omega)
      have fx : ∀ u : Int32, u = iI (x : Int) + 1 → u = iI ((x + 1 : Nat) : Int) := fun u hu => by rw [hu, L1, iI_add]; rfl
      have ei : wN v * y + (x + 1) = (wN v * y + x) + 1 := rfl
      rw [ei] at h3
      cases ht : (sOwnN v (sFarN v (C.1 16).toInt) x y).testBit f with
      | false =>
        rw [fCnt_f (by rw [mx1, mx2]; exact ht)] at h3
        refine ⟨fun c u hu => ?_, fun c => absurd rfl c⟩
        rw [fx u hu]
        exact h3
      | true =>
        rw [fCnt_t (by rw [mx1, mx2]; exact ht)] at h3
        refine ⟨fun c => absurd c (by decide), fun c u hu u2 hu2 => ?_⟩
        rw [hu, fx u2 hu2, nI_1]
        exact h3
  have outer : ∀ (r y : Nat), y + r = dN v → e_X6_countOwned_11 Q (r + 1) (iI f) (nI (fCnt (fun k => (sOwnN v (sFarN v (C.1 16).toInt) (k % wN v) (k / wN v)).testBit f) (wN v * y))) (iI (y : Int)) (sr C 30 g) := by
    intro r
    induction r with
    | zero =>
      intro y hy
      rw [e_X6_countOwned_11.eq_2, ec1, iI_le (sm_of (by omega) (by omega)) (sm_of (by omega) (by omega))]
      refine ⟨fun _ => ?_, fun c => absurd (by omega) c⟩
      have e : y = dN v := by omega
      rw [e]
      exact hq g
    | succ r ih =>
      intro y hy
      rw [e_X6_countOwned_11.eq_2, ec1, iI_le (sm_of (by omega) (by omega)) (sm_of (by omega) (by omega))]
      refine ⟨fun c => absurd c (by omega), fun _ => ⟨wN v + 1, ?_⟩⟩
      exact inner _ y (by omega) (ih (y + 1) (by omega)) (wN v) 0 (by omega)
  exact outer (dN v) 0 (by omega)
theorem pM_countCells {M : vS} {v : vV} (h : shM M v) (hf : shFM M v) (hv : okV v) (hw : okF v) {f : Nat} (hfn : (f : Int) < v.1 2) (own : Bool) {Q : Int32 → vS → Prop} (hq : Q (nI (fCnt (fun k => (if own then sOwnN v (sFarN v (M.1 7).toInt) (k % wN v) (k / wN v) else sSetN v (sFarN v (M.1 7).toInt) (k % wN v) (k / wN v)).testBit f) (cN v))) M) : e_X7_countCells (iI f) (bI own) M Q := by
  have h60 := cN_le hv
  have hn := hv.2.2.2.1
  have loop : ∀ (r k : Nat), k + r = cN v → e_X7_countCells_5 Q (r + 1) (iI f) (bI own) (nI (fCnt (fun k => (if own then sOwnN v (sFarN v (M.1 7).toInt) (k % wN v) (k / wN v) else sSetN v (sFarN v (M.1 7).toInt) (k % wN v) (k / wN v)).testBit f) k)) (nI k) M := by
    intro r
    induction r with
    | zero =>
      intro k hk
      rw [e_X7_countCells_5.eq_2]
      refine pM_cells h hv ⟨fun _ => ?_, fun c => absurd (nI_le (by omega) (by omega)) c⟩
      have e : k = cN v := by omega
      rw [e]
      exact hq
    | succ r ih =>
      intro k hk
      have hkc : k < cN v := by omega
      obtain ⟨h1, h2, h0, h6, -⟩ := kxy hv hkc
      obtain ⟨m1, m2, m3⟩ := pM_kx h hv hkc
      have h3 := ih (k + 1) (by omega)
      have cut : ∀ s : Nat, s < 64 → s = (if own then sOwnN v (sFarN v (M.1 7).toInt) (k % wN v) (k / wN v) else sSetN v (sFarN v (M.1 7).toInt) (k % wN v) (k / wN v)) → e_X7_countCells_63 (e_X7_countCells_5 Q (r + 1)) Q (iI f) (bI own) (nI (fCnt (fun k => (if own then sOwnN v (sFarN v (M.1 7).toInt) (k % wN v) (k / wN v) else sSetN v (sFarN v (M.1 7).toInt) (k % wN v) (k / wN v)).testBit f) k)) (nI k) (nI s) M := by
        intro s hs es
        unfold e_X7_countCells_63
        refine pM_has hs (by omega) ?_
        cases ht : s.testBit f with
        | false =>
          rw [fCnt_f (by rw [← es]; exact ht)] at h3
          refine ⟨fun c u hu u2 hu2 => ?_, fun c => absurd rfl c⟩
          rw [hu, hu2, nI_1, ← nI_0, nI_add]
          exact h3
        | true =>
          rw [fCnt_t (by rw [← es]; exact ht)] at h3
          refine ⟨fun c => absurd c (by decide), fun c u hu u2 hu2 => ?_⟩
          rw [hu, hu2, nI_1, nI_1]
          exact h3
      rw [e_X7_countCells_5.eq_2]
      refine pM_cells h hv ⟨fun c => absurd c (nI_ge hkc (by omega)), fun _ => ⟨m3, ?_⟩⟩
      rw [m1, m2]
      refine pM_seers h hf hv hw h1 h2 ?_
      cases own with
      | false => exact ⟨fun _ => cut _ (sSetN_lt2 hv _ _ _) rfl, fun c => absurd rfl c⟩
      | true =>
        refine ⟨fun c => absurd c (by decide), fun _ => ⟨m3, ?_⟩⟩
        rw [m1, m2]
        refine pM_own h hv h1 h2 (sSet_lt _ _ _ _ _) ?_
        exact cut _ (lt64 hv (sOwnN_lt hv _ _ _)) rfl
  exact ⟨cN v + 1, loop (cN v) 0 (by omega)⟩
section TT
variable {C M : vS}
theorem t_told (hR : Rel C M) (x : Int32) : e_X6_told x C (fun r C1 => e_X7_told x M (fun r2 M1 => r = r2 ∧ Rel C1 M1)) := by
  obtain ⟨v, ⟨hC, hM, hfC, hfM, hv, hw⟩, h2, h3, ⟨t, t1, t2, t3, t4, t5⟩, ⟨b, b1, b2, b3, b4⟩, h6, h7⟩ := id hR
  have key : ∀ (r : Int32) (C1 : vS) (rm : Nat → Int32), Rel C1 M → (x.toInt < 0 ∨ 10 < x.toInt → r = -1000000002) → (x.toInt = 0 → r = M.1 0) → (x.toInt = 1 → r = M.1 1) → (x.toInt = 2 → r = M.1 2) → (x.toInt = 3 → r = M.1 9) → (x.toInt = 4 → r = M.1 6) → (x.toInt = 5 → r = M.1 7) → (x.toInt = 6 → r = iI (sFarN v (M.1 7).toInt)) → (x.toInt = 7 → r = M.1 23) → (x.toInt = 8 → r = M.1 4) → (x.toInt = 9 → r = M.1 5) → (x.toInt = 10 → r = nI (fCnt (fun k => decide (sSetN v (sFarN v (M.1 7).toInt) (k % wN v) (k / wN v) = 0)) (cN v))) → e_X7_told x M (fun r2 M1 => r = r2 ∧ Rel C1 M1) := by
    intro r C1 rm hR1 a b c d e f g h i j k l
    unfold e_X7_told
    refine ⟨fun z => ⟨a z, hR1⟩, fun z => ⟨b z, hR1⟩, fun z => ⟨c z, hR1⟩, fun z => ⟨d z, hR1⟩, fun z => ⟨e z, hR1⟩, fun z => ⟨f z, hR1⟩, fun z => ⟨g z, hR1⟩, fun z => ?_, fun z => ⟨i z, hR1⟩, fun z => ⟨j z, hR1⟩, fun z => ⟨k z, hR1⟩, fun z => ?_⟩
    · exact pM_far hfM hw ⟨h z, hR1⟩
    · exact pM_countFree hM hfM hv hw ⟨l z, hR1⟩
  unfold e_X6_told
  refine ⟨fun z => ?_, fun z => ?_, fun z => ?_, fun z => ?_, fun z => ?_, fun z => ?_, fun z => ?_, fun z => ?_, fun z => ?_, fun z => ?_, fun z => ?_, fun z => ?_⟩
  · exact key _ C M.1 hR (fun _ => rfl) (fun _ => by omega) (fun _ => by omega) (fun _ => by omega) (fun _ => by omega) (fun _ => by omega) (fun _ => by omega) (fun _ => by omega) (fun _ => by omega) (fun _ => by omega) (fun _ => by omega) (fun _ => by omega)
  · exact key _ C M.1 hR (fun _ => by omega) (fun _ => by rw [hC.1, hM.1]) (fun _ => by omega) (fun _ => by omega) (fun _ => by omega) (fun _ => by omega) (fun _ => by omega) (fun _ => by omega) (fun _ => by omega) (fun _ => by omega) (fun _ => by omega) (fun _ => by omega)
  · exact key _ C M.1 hR (fun _ => by omega) (fun _ => by omega) (fun _ => by rw [hC.2.1, hM.2.1]) (fun _ => by omega) (fun _ => by omega) (fun _ => by omega) (fun _ => by omega) (fun _ => by omega) (fun _ => by omega) (fun _ => by omega) (fun _ => by omega) (fun _ => by omega)
  · exact key _ C M.1 hR (fun _ => by omega) (fun _ => by omega) (fun _ => by omega) (fun _ => by rw [hC.2.2.1, hM.2.2.1]) (fun _ => by omega) (fun _ => by omega) (fun _ => by omega) (fun _ => by omega) (fun _ => by omega) (fun _ => by omega) (fun _ => by omega) (fun _ => by omega)
  · exact key _ C M.1 hR (fun _ => by omega) (fun _ => by omega) (fun _ => by omega) (fun _ => by omega) (fun _ => by rw [t2, t3]) (fun _ => by omega) (fun _ => by omega) (fun _ => by omega) (fun _ => by omega) (fun _ => by omega) (fun _ => by omega) (fun _ => by omega)
  · exact key _ C M.1 hR (fun _ => by omega) (fun _ => by omega) (fun _ => by omega) (fun _ => by omega) (fun _ => by omega) (fun _ => by rw [hC.2.2.2.2.1, hM.2.2.2.2.1]) (fun _ => by omega) (fun _ => by omega) (fun _ => by omega) (fun _ => by omega) (fun _ => by omega) (fun _ => by omega)
  · exact key _ C M.1 hR (fun _ => by omega) (fun _ => by omega) (fun _ => by omega) (fun _ => by omega) (fun _ => by omega) (fun _ => by omega) (fun _ => h2.2.1) (fun _ => by omega) (fun _ => by omega) (fun _ => by omega) (fun _ => by omega) (fun _ => by omega)
  · refine pC_far hfC hw ?_
    exact key _ C M.1 hR (fun _ => by omega) (fun _ => by omega) (fun _ => by omega) (fun _ => by omega) (fun _ => by omega) (fun _ => by omega) (fun _ => by omega) (fun _ => by rw [h2.2.1]) (fun _ => by omega) (fun _ => by omega) (fun _ => by omega) (fun _ => by omega)
  · exact key _ C M.1 hR (fun _ => by omega) (fun _ => by omega) (fun _ => by omega) (fun _ => by omega) (fun _ => by omega) (fun _ => by omega) (fun _ => by omega) (fun _ => by omega) (fun _ => by rw [b2, b3]) (fun _ => by omega) (fun _ => by omega) (fun _ => by omega)
  · exact key _ C M.1 hR (fun _ => by omega) (fun _ => by omega) (fun _ => by omega) (fun _ => by omega) (fun _ => by omega) (fun _ => by omega) (fun _ => by omega) (fun _ => by omega) (fun _ => by omega) (fun _ => by rw [hC.2.2.2.1, hM.2.2.2.1]) (fun _ => by omega) (fun _ => by omega)
  · exact key _ C M.1 hR (fun _ => by omega) (fun _ => by omega) (fun _ => by omega) (fun _ => by omega) (fun _ => by omega) (fun _ => by omega) (fun _ => by omega) (fun _ => by omega) (fun _ => by omega) (fun _ => by omega) (fun _ => h2.1) (fun _ => by omega)
  · refine pC_countFree hC hfC hv hw (fun g => ?_)
    exact key _ (sr C 30 g) M.1 hR (fun _ => by omega) (fun _ => by omega) (fun _ => by omega) (fun _ => by omega) (fun _ => by omega) (fun _ => by omega) (fun _ => by omega) (fun _ => by omega) (fun _ => by omega) (fun _ => by omega) (fun _ => by omega) (fun _ => by rw [h2.2.1])
end TT
