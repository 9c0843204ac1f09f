/-! ===== lake: least, most, clash, put, times, parts by kind ===== -/
section LL
variable {S : vS} {Q : Int32 → vS → Prop}
theorem le00 (h : Q (iI 1) S) : e_X3_leastOf (nI 0) (nI 0) S Q := by
  unfold e_X3_leastOf e_X3_leastOf_9 e_X3_leastOf_20 e_X3_leastOf_34
  exact ⟨fun c => absurd rfl c, fun _ => ⟨fun _ => ⟨fun _ => ⟨fun _ => h, fun c => absurd c (by decide)⟩, fun c => absurd c (by decide)⟩, fun c => absurd c (by decide)⟩⟩
theorem le01 (h : Q (iI 1) S) : e_X3_leastOf (nI 0) (nI 1) S Q := by
  unfold e_X3_leastOf e_X3_leastOf_9 e_X3_leastOf_20 e_X3_leastOf_34
  exact ⟨fun c => absurd rfl c, fun _ => ⟨fun _ => ⟨fun _ => ⟨fun _ => h, fun c => absurd c (by decide)⟩, fun c => absurd c (by decide)⟩, fun c => absurd c (by decide)⟩⟩
theorem le10 (h : Q (iI 0) S) : e_X3_leastOf (nI 1) (nI 0) S Q := by
  unfold e_X3_leastOf e_X3_leastOf_9 e_X3_leastOf_20 e_X3_leastOf_34
  exact ⟨fun _ => ⟨fun _ => ⟨fun _ => ⟨fun c => absurd rfl c, fun _ => ⟨fun _ => h, fun c => absurd rfl c⟩⟩, fun c => absurd c (by decide)⟩, fun c => absurd c (by decide)⟩, fun c => absurd c (by decide)⟩
theorem le11 (h : Q (iI 0) S) : e_X3_leastOf (nI 1) (nI 1) S Q := by
  unfold e_X3_leastOf e_X3_leastOf_9 e_X3_leastOf_20 e_X3_leastOf_34
  exact ⟨fun _ => ⟨fun _ => ⟨fun _ => ⟨fun c => absurd rfl c, fun _ => ⟨fun _ => h, fun c => absurd rfl c⟩⟩, fun c => absurd c (by decide)⟩, fun c => absurd c (by decide)⟩, fun c => absurd c (by decide)⟩
theorem le12 (h : Q (iI 0) S) : e_X3_leastOf (nI 1) (nI 2) S Q := by
  unfold e_X3_leastOf e_X3_leastOf_9 e_X3_leastOf_20 e_X3_leastOf_34
  exact ⟨fun _ => ⟨fun _ => ⟨fun _ => ⟨fun c => absurd rfl c, fun _ => ⟨fun _ => h, fun c => absurd rfl c⟩⟩, fun c => absurd c (by decide)⟩, fun c => absurd c (by decide)⟩, fun c => absurd c (by decide)⟩
theorem le20 (h : Q (iI 0) S) : e_X3_leastOf (nI 2) (nI 0) S Q := by
  unfold e_X3_leastOf e_X3_leastOf_9 e_X3_leastOf_20 e_X3_leastOf_34
  exact ⟨fun _ => ⟨fun c => absurd rfl c, fun _ => ⟨fun c => absurd c (by decide), fun _ => ⟨fun _ => ⟨fun c => absurd rfl c, fun _ => ⟨fun _ => h, fun c => absurd rfl c⟩⟩, fun c => absurd c (by decide)⟩⟩⟩, fun c => absurd c (by decide)⟩
theorem le21 (h : Q (iI 0) S) : e_X3_leastOf (nI 2) (nI 1) S Q := by
  unfold e_X3_leastOf e_X3_leastOf_9 e_X3_leastOf_20 e_X3_leastOf_34
  exact ⟨fun _ => ⟨fun c => absurd rfl c, fun _ => ⟨fun c => absurd c (by decide), fun _ => ⟨fun _ => ⟨fun c => absurd rfl c, fun _ => ⟨fun _ => h, fun c => absurd rfl c⟩⟩, fun c => absurd c (by decide)⟩⟩⟩, fun c => absurd c (by decide)⟩
theorem le22 (h : Q (iI 1) S) : e_X3_leastOf (nI 2) (nI 2) S Q := by
  unfold e_X3_leastOf e_X3_leastOf_9 e_X3_leastOf_20 e_X3_leastOf_34
  exact ⟨fun _ => ⟨fun c => absurd rfl c, fun _ => ⟨fun _ => ⟨fun c => absurd rfl c, fun _ => ⟨fun c => absurd c (by decide), fun _ => h⟩⟩, fun c => absurd rfl c⟩⟩, fun c => absurd c (by decide)⟩
theorem le30 (h : Q (iI 0) S) : e_X3_leastOf (nI 3) (nI 0) S Q := by
  unfold e_X3_leastOf e_X3_leastOf_9 e_X3_leastOf_20 e_X3_leastOf_34
  exact ⟨fun _ => ⟨fun _ => ⟨fun _ => ⟨fun c => absurd rfl c, fun _ => ⟨fun _ => h, fun c => absurd rfl c⟩⟩, fun c => absurd c (by decide)⟩, fun c => absurd c (by decide)⟩, fun c => absurd c (by decide)⟩
theorem le31 (h : Q (iI 0) S) : e_X3_leastOf (nI 3) (nI 1) S Q := by
  unfold e_X3_leastOf e_X3_leastOf_9 e_X3_leastOf_20 e_X3_leastOf_34
  exact ⟨fun _ => ⟨fun _ => ⟨fun _ => ⟨fun c => absurd rfl c, fun _ => ⟨fun _ => h, fun c => absurd rfl c⟩⟩, fun c => absurd c (by decide)⟩, fun c => absurd c (by decide)⟩, fun c => absurd c (by decide)⟩
theorem le32 (h : Q (iI 0) S) : e_X3_leastOf (nI 3) (nI 2) S Q := by
  unfold e_X3_leastOf e_X3_leastOf_9 e_X3_leastOf_20 e_X3_leastOf_34
  exact ⟨fun _ => ⟨fun _ => ⟨fun _ => ⟨fun c => absurd rfl c, fun _ => ⟨fun _ => h, fun c => absurd rfl c⟩⟩, fun c => absurd c (by decide)⟩, fun c => absurd c (by decide)⟩, fun c => absurd c (by decide)⟩
theorem le40 (h : Q (iI 0) S) : e_X3_leastOf (nI 4) (nI 0) S Q := by
  unfold e_X3_leastOf e_X3_leastOf_9 e_X3_leastOf_20 e_X3_leastOf_34
  exact ⟨fun _ => ⟨fun _ => ⟨fun _ => ⟨fun c => absurd rfl c, fun _ => ⟨fun _ => h, fun c => absurd rfl c⟩⟩, fun c => absurd c (by decide)⟩, fun c => absurd c (by decide)⟩, fun c => absurd c (by decide)⟩
theorem le41 (h : Q (iI 0) S) : e_X3_leastOf (nI 4) (nI 1) S Q := by
  unfold e_X3_leastOf e_X3_leastOf_9 e_X3_leastOf_20 e_X3_leastOf_34
  exact ⟨fun _ => ⟨fun _ => ⟨fun _ => ⟨fun c => absurd rfl c, fun _ => ⟨fun _ => h, fun c => absurd rfl c⟩⟩, fun c => absurd c (by decide)⟩, fun c => absurd c (by decide)⟩, fun c => absurd c (by decide)⟩
theorem le42 (h : Q (iI 0) S) : e_X3_leastOf (nI 4) (nI 2) S Q := by
  unfold e_X3_leastOf e_X3_leastOf_9 e_X3_leastOf_20 e_X3_leastOf_34
  exact ⟨fun _ => ⟨fun _ => ⟨fun _ => ⟨fun c => absurd rfl c, fun _ => ⟨fun _ => h, fun c => absurd rfl c⟩⟩, fun c => absurd c (by decide)⟩, fun c => absurd c (by decide)⟩, fun c => absurd c (by decide)⟩
theorem le50 (h : Q (iI 1) S) : e_X3_leastOf (nI 5) (nI 0) S Q := by
  unfold e_X3_leastOf e_X3_leastOf_9 e_X3_leastOf_20 e_X3_leastOf_34
  exact ⟨fun _ => ⟨fun _ => ⟨fun c => absurd rfl c, fun _ => ⟨fun c => absurd rfl c, fun _ => ⟨fun c => absurd rfl c, fun _ => ⟨fun c => absurd c (by decide), fun _ => h⟩⟩⟩⟩, fun c => absurd c (by decide)⟩, fun c => absurd c (by decide)⟩
theorem le51 (h : Q (iI 0) S) : e_X3_leastOf (nI 5) (nI 1) S Q := by
  unfold e_X3_leastOf e_X3_leastOf_9 e_X3_leastOf_20 e_X3_leastOf_34
  exact ⟨fun _ => ⟨fun _ => ⟨fun c => absurd rfl c, fun _ => ⟨fun _ => ⟨fun c => absurd rfl c, fun _ => ⟨fun _ => h, fun c => absurd rfl c⟩⟩, fun c => absurd c (by decide)⟩⟩, fun c => absurd c (by decide)⟩, fun c => absurd c (by decide)⟩
theorem mo00 (h : Q (iI 12) S) : e_X3_mostOf (nI 0) (nI 0) S Q := by
  unfold e_X3_mostOf
  exact ⟨fun c => absurd c (by decide), fun _ => ⟨fun c => absurd rfl c, fun _ => h⟩, fun c => absurd c (by decide), fun c => absurd c (by decide), fun c => absurd c (by decide), fun c => absurd c (by decide), fun c => absurd c (by decide)⟩
theorem mo01 (hn : ¬ (if (1 : Int32) < S.2.1 18 0 then S.2.1 18 0 else 1) = 0) (h : Q (if (60 : Int32) / (if (1 : Int32) < S.2.1 18 0 then S.2.1 18 0 else 1) < 12 then (60 : Int32) / (if (1 : Int32) < S.2.1 18 0 then S.2.1 18 0 else 1) else 12) S) : e_X3_mostOf (nI 0) (nI 1) S Q := by
  unfold e_X3_mostOf
  exact ⟨fun c => absurd c (by decide), fun _ => ⟨fun _ => ⟨hn, h⟩, fun c => absurd c (by decide)⟩, fun c => absurd c (by decide), fun c => absurd c (by decide), fun c => absurd c (by decide), fun c => absurd c (by decide), fun c => absurd c (by decide)⟩
theorem mo10 {w : Int} (hw : S.1 6 = iI w) (h0 : Q (iI (w - 1)) S) : e_X3_mostOf (nI 1) (nI 0) S Q := by
  have h : Q (S.1 6 - 1) S := by rw [hw, L1, iI_sub]; exact h0
  unfold e_X3_mostOf
  exact ⟨fun c => absurd c (by decide), fun c => absurd c (by decide), fun _ => ⟨fun c => absurd rfl c, fun _ => h⟩, fun c => absurd c (by decide), fun c => absurd c (by decide), fun c => absurd c (by decide), fun c => absurd c (by decide)⟩
theorem mo11 (h : Q (iI 99) S) : e_X3_mostOf (nI 1) (nI 1) S Q := by
  unfold e_X3_mostOf
  exact ⟨fun c => absurd c (by decide), fun c => absurd c (by decide), fun _ => ⟨fun _ => ⟨fun c => absurd rfl c, fun _ => h⟩, fun c => absurd c (by decide)⟩, fun c => absurd c (by decide), fun c => absurd c (by decide), fun c => absurd c (by decide), fun c => absurd c (by decide)⟩
theorem mo12 (h : Q (iI 9) S) : e_X3_mostOf (nI 1) (nI 2) S Q := by
  unfold e_X3_mostOf
  exact ⟨fun c => absurd c (by decide), fun c => absurd c (by decide), fun _ => ⟨fun _ => ⟨fun _ => h, fun c => absurd c (by decide)⟩, fun c => absurd c (by decide)⟩, fun c => absurd c (by decide), fun c => absurd c (by decide), fun c => absurd c (by decide), fun c => absurd c (by decide)⟩
theorem mo20 {w : Int} (hw : S.1 6 = iI w) (h0 : Q (iI (w - 1)) S) : e_X3_mostOf (nI 2) (nI 0) S Q := by
  have h : Q (S.1 6 - 1) S := by rw [hw, L1, iI_sub]; exact h0
  unfold e_X3_mostOf
  exact ⟨fun c => absurd c (by decide), fun c => absurd c (by decide), fun c => absurd c (by decide), fun _ => ⟨fun c => absurd rfl c, fun _ => h⟩, fun c => absurd c (by decide), fun c => absurd c (by decide), fun c => absurd c (by decide)⟩
theorem mo21 {w : Int} (hw : S.1 7 = iI w) (h0 : Q (iI (w - 1)) S) : e_X3_mostOf (nI 2) (nI 1) S Q := by
  have h : Q (S.1 7 - 1) S := by rw [hw, L1, iI_sub]; exact h0
  unfold e_X3_mostOf
  exact ⟨fun c => absurd c (by decide), fun c => absurd c (by decide), fun c => absurd c (by decide), fun _ => ⟨fun _ => ⟨fun c => absurd rfl c, fun _ => h⟩, fun c => absurd c (by decide)⟩, fun c => absurd c (by decide), fun c => absurd c (by decide), fun c => absurd c (by decide)⟩
theorem mo22 (h : Q (iI 99) S) : e_X3_mostOf (nI 2) (nI 2) S Q := by
  unfold e_X3_mostOf
  exact ⟨fun c => absurd c (by decide), fun c => absurd c (by decide), fun c => absurd c (by decide), fun _ => ⟨fun _ => ⟨fun _ => h, fun c => absurd c (by decide)⟩, fun c => absurd c (by decide)⟩, fun c => absurd c (by decide), fun c => absurd c (by decide), fun c => absurd c (by decide)⟩
theorem mo30 {w : Int} (hw : S.1 6 = iI w) (h0 : Q (iI (w - 1)) S) : e_X3_mostOf (nI 3) (nI 0) S Q := by
  have h : Q (S.1 6 - 1) S := by rw [hw, L1, iI_sub]; exact h0
  unfold e_X3_mostOf
  exact ⟨fun c => absurd c (by decide), fun c => absurd c (by decide), fun c => absurd c (by decide), fun c => absurd c (by decide), fun _ => ⟨fun c => absurd rfl c, fun _ => h⟩, fun c => absurd c (by decide), fun c => absurd c (by decide)⟩
theorem mo31 {w : Int} (hw : S.1 7 = iI w) (h0 : Q (iI (w - 1)) S) : e_X3_mostOf (nI 3) (nI 1) S Q := by
  have h : Q (S.1 7 - 1) S := by rw [hw, L1, iI_sub]; exact h0
  unfold e_X3_mostOf
  exact ⟨fun c => absurd c (by decide), fun c => absurd c (by decide), fun c => absurd c (by decide), fun c => absurd c (by decide), fun _ => ⟨fun _ => ⟨fun c => absurd rfl c, fun _ => h⟩, fun c => absurd c (by decide)⟩, fun c => absurd c (by decide), fun c => absurd c (by decide)⟩
theorem mo32 (h : Q (iI 99) S) : e_X3_mostOf (nI 3) (nI 2) S Q := by
  unfold e_X3_mostOf
  exact ⟨fun c => absurd c (by decide), fun c => absurd c (by decide), fun c => absurd c (by decide), fun c => absurd c (by decide), fun _ => ⟨fun _ => ⟨fun _ => h, fun c => absurd c (by decide)⟩, fun c => absurd c (by decide)⟩, fun c => absurd c (by decide), fun c => absurd c (by decide)⟩
theorem mo40 (h : Q (iI 999) S) : e_X3_mostOf (nI 4) (nI 0) S Q := by
  unfold e_X3_mostOf
  exact ⟨fun c => absurd c (by decide), fun c => absurd c (by decide), fun c => absurd c (by decide), fun c => absurd c (by decide), fun c => absurd c (by decide), fun _ => ⟨fun _ => h, fun c => absurd c (by decide)⟩, fun c => absurd c (by decide)⟩
theorem mo41 (h : Q (iI 999) S) : e_X3_mostOf (nI 4) (nI 1) S Q := by
  unfold e_X3_mostOf
  exact ⟨fun c => absurd c (by decide), fun c => absurd c (by decide), fun c => absurd c (by decide), fun c => absurd c (by decide), fun c => absurd c (by decide), fun _ => ⟨fun _ => h, fun c => absurd c (by decide)⟩, fun c => absurd c (by decide)⟩
theorem mo42 (h : Q (iI 20) S) : e_X3_mostOf (nI 4) (nI 2) S Q := by
  unfold e_X3_mostOf
  exact ⟨fun c => absurd c (by decide), fun c => absurd c (by decide), fun c => absurd c (by decide), fun c => absurd c (by decide), fun c => absurd c (by decide), fun _ => ⟨fun c => absurd rfl c, fun _ => h⟩, fun c => absurd c (by decide)⟩
theorem mo50 (h : Q (iI 20) S) : e_X3_mostOf (nI 5) (nI 0) S Q := by
  unfold e_X3_mostOf
  exact ⟨fun c => absurd c (by decide), fun c => absurd c (by decide), fun c => absurd c (by decide), fun c => absurd c (by decide), fun c => absurd c (by decide), fun c => absurd c (by decide), fun _ => ⟨fun c => absurd rfl c, fun _ => h⟩⟩
theorem mo51 (h : Q (iI 999) S) : e_X3_mostOf (nI 5) (nI 1) S Q := by
  unfold e_X3_mostOf
  exact ⟨fun c => absurd c (by decide), fun c => absurd c (by decide), fun c => absurd c (by decide), fun c => absurd c (by decide), fun c => absurd c (by decide), fun c => absurd c (by decide), fun _ => ⟨fun _ => h, fun c => absurd c (by decide)⟩⟩
theorem cl00 (z : Int32) : runV (e_X3_clashes (nI 0) (nI 0) z S) 0 S := by
  intro Q h
  unfold e_X3_clashes
  exact ⟨fun c => absurd c (by decide), fun _ => h⟩
theorem cl01 (z : Int32) : runV (e_X3_clashes (nI 0) (nI 1) z S) 0 S := by
  intro Q h
  unfold e_X3_clashes
  exact ⟨fun _ => ⟨fun _ => h, fun c => absurd c (by decide), fun c => absurd c (by decide), fun c => absurd c (by decide)⟩, fun c => absurd rfl c⟩
theorem cl10 (z : Int32) : runV (e_X3_clashes (nI 1) (nI 0) z S) 0 S := by
  intro Q h
  unfold e_X3_clashes
  exact ⟨fun c => absurd c (by decide), fun _ => h⟩
theorem cl11 (z : Int32) : runV (e_X3_clashes (nI 1) (nI 1) z S) 0 S := by
  intro Q h
  unfold e_X3_clashes
  exact ⟨fun _ => ⟨fun _ => h, fun c => absurd c (by decide), fun c => absurd c (by decide), fun c => absurd c (by decide)⟩, fun c => absurd rfl c⟩
theorem cl12 (z : Int32) : runV (e_X3_clashes (nI 1) (nI 2) z S) 0 S := by
  intro Q h
  unfold e_X3_clashes
  exact ⟨fun c => absurd c (by decide), fun _ => h⟩
theorem cl20 (z : Int32) : runV (e_X3_clashes (nI 2) (nI 0) z S) 0 S := by
  intro Q h
  unfold e_X3_clashes
  exact ⟨fun c => absurd c (by decide), fun _ => h⟩
theorem cl22 (z : Int32) : runV (e_X3_clashes (nI 2) (nI 2) z S) 0 S := by
  intro Q h
  unfold e_X3_clashes
  exact ⟨fun c => absurd c (by decide), fun _ => h⟩
theorem cl30 (z : Int32) : runV (e_X3_clashes (nI 3) (nI 0) z S) 0 S := by
  intro Q h
  unfold e_X3_clashes
  exact ⟨fun c => absurd c (by decide), fun _ => h⟩
theorem cl32 (z : Int32) : runV (e_X3_clashes (nI 3) (nI 2) z S) 0 S := by
  intro Q h
  unfold e_X3_clashes
  exact ⟨fun c => absurd c (by decide), fun _ => h⟩
theorem cl40 (z : Int32) : runV (e_X3_clashes (nI 4) (nI 0) z S) 0 S := by
  intro Q h
  unfold e_X3_clashes
  exact ⟨fun c => absurd c (by decide), fun _ => h⟩
theorem cl42 (z : Int32) : runV (e_X3_clashes (nI 4) (nI 2) z S) 0 S := by
  intro Q h
  unfold e_X3_clashes
  exact ⟨fun c => absurd c (by decide), fun _ => h⟩
theorem cl50 (z : Int32) : runV (e_X3_clashes (nI 5) (nI 0) z S) 0 S := by
  intro Q h
  unfold e_X3_clashes
  exact ⟨fun c => absurd c (by decide), fun _ => h⟩
theorem cl51 (z : Int32) : runV (e_X3_clashes (nI 5) (nI 1) z S) 0 S := by
  intro Q h
  unfold e_X3_clashes
  exact ⟨fun _ => ⟨fun _ => h, fun c => absurd c (by decide), fun c => absurd c (by decide), fun c => absurd c (by decide)⟩, fun c => absurd rfl c⟩
theorem mo01z {z : Int} (hz : S.2.1 18 0 = iI z) (bz : 1 ≤ z ∧ z ≤ 12) (h : Q (iI (if 60 / z < 12 then 60 / z else 12)) S) : e_X3_mostOf (nI 0) (nI 1) S Q := by
  have d0 : 0 ≤ 60 / z := Int.ediv_nonneg (by decide) (by omega)
  have d1 : 60 / z ≤ 60 := Int.ediv_le_self _ (by decide)
  have e1 : (if (1 : Int32) < S.2.1 18 0 then S.2.1 18 0 else 1) = iI z := by
    rw [hz, L1]
    have il := iI_lt (a := 1) (b := z) (sm_of (by decide) (by decide)) (sm_of (by omega) (by omega))
    by_cases c : 1 < z
    · rw [if_pos (il.mpr c)]
    · rw [if_neg (fun q => c (il.mp q))]
      have : z = 1 := by omega
      rw [this]
  have e2 : (60 : Int32) / iI z = iI (60 / z) := by
    rw [L60, iI_div (sm_of (by decide) (by decide)) (sm_of (by omega) (by omega)) (by decide)]
  have e3 : (if iI (60 / z) < (12 : Int32) then iI (60 / z) else 12) = iI (if 60 / z < 12 then 60 / z else 12) := by
    rw [show (12 : Int32) = iI 12 from rfl]
    have il := iI_lt (a := 60 / z) (b := 12) (sm_of (by omega) (by omega)) (sm_of (by decide) (by decide))
    by_cases c : 60 / z < 12
    · rw [if_pos (il.mpr c), if_pos c]
    · rw [if_neg (fun q => c (il.mp q)), if_neg c]
  refine mo01 ?_ ?_
  · rw [e1]
    exact (ne0 ⟨bz.1, by omega⟩).1
  · rw [e1, e2, e3]
    exact h
theorem ix_at {w x z : Int} (hw : S.1 6 = iI w) (hx : S.2.1 18 0 = iI x) (b1 : 0 ≤ z * w + x) (b2 : z * w + x < 60) : vp_in (iI z * S.1 6 + S.2.1 18 (0 : Int32).toNatClampNeg) 60 ∧ (iI z * S.1 6 + S.2.1 18 (0 : Int32).toNatClampNeg).toNatClampNeg = (z * w + x).toNat := by
  have e0 : S.2.1 18 (0 : Int32).toNatClampNeg = iI x := hx
  rw [hw, e0, iI_mul, iI_add, iI_in (sm_of (by omega) (by omega)), iI_cl (sm_of (by omega) (by omega)) b1]
  exact ⟨⟨b1, by omega⟩, rfl⟩
theorem cl2 {w x z : Int} (hw : S.1 6 = iI w) (hx : S.2.1 18 0 = iI x) (b1 : 0 ≤ z * w + x) (b2 : z * w + x < 60) : (S.2.1 12 (z * w + x).toNat = 0 → runV (e_X3_clashes (nI 2) (nI 1) (iI z) S) 0 S) ∧ (¬ S.2.1 12 (z * w + x).toNat = 0 → runV (e_X3_clashes (nI 2) (nI 1) (iI z) S) 1 S) := by
  obtain ⟨i1, i2⟩ := ix_at hw hx b1 b2
  have key : ∀ Q : Int32 → vS → Prop, (S.2.1 12 (z * w + x).toNat = 0 → Q 0 S) → (¬ S.2.1 12 (z * w + x).toNat = 0 → Q 1 S) → e_X3_clashes (nI 2) (nI 1) (iI z) S Q := by
    intro Q h0 h1
    unfold e_X3_clashes e_X2_numberOf_draft
    refine ⟨fun _ => ⟨fun c => absurd c (by decide), fun _ => ⟨i1, ?_⟩, fun c => absurd c (by decide), fun c => absurd c (by decide)⟩, fun c => absurd rfl c⟩
    rw [i2]
    exact ⟨h0, h1⟩
  exact ⟨fun y Q h => key Q (fun _ => h) (fun c => absurd y c), fun y Q h => key Q (fun c => absurd c y) (fun _ => h)⟩
theorem cl3 {w x z : Int} (hw : S.1 6 = iI w) (hx : S.2.1 18 0 = iI x) (b1 : 0 ≤ z * w + x) (b2 : z * w + x < 60) : (S.2.1 20 (z * w + x).toNat = 0 → runV (e_X3_clashes (nI 3) (nI 1) (iI z) S) 0 S) ∧ (S.2.1 20 (z * w + x).toNat = 1 → runV (e_X3_clashes (nI 3) (nI 1) (iI z) S) 1 S) := by
  obtain ⟨i1, i2⟩ := ix_at hw hx b1 b2
  have key : ∀ (v : Int32) (Q : Int32 → vS → Prop), S.2.1 20 (z * w + x).toNat = v → narrow .boolean (Value.int v) = Value.int v → Q v S → e_X3_clashes (nI 3) (nI 1) (iI z) S Q := by
    intro v Q hv hn h0
    unfold e_X3_clashes e_X2_numberOf_draft
    refine ⟨fun _ => ⟨fun c => absurd c (by decide), fun c => absurd c (by decide), fun _ => ⟨i1, ?_⟩, fun c => absurd c (by decide)⟩, fun c => absurd rfl c⟩
    rw [i2, hv]
    exact ⟨hn, h0⟩
  exact ⟨fun y Q h => key 0 Q y rfl h, fun y Q h => key 1 Q y rfl h⟩
theorem cl4 {x z : Int} (hx : S.2.1 18 0 = iI x) (sx : sm x) (sz : sm z) : (x ≤ z → runV (e_X3_clashes (nI 4) (nI 1) (iI z) S) 0 S) ∧ (¬ x ≤ z → runV (e_X3_clashes (nI 4) (nI 1) (iI z) S) 1 S) := by
  have key : ∀ Q : Int32 → vS → Prop, (x ≤ z → Q 0 S) → (¬ x ≤ z → Q 1 S) → e_X3_clashes (nI 4) (nI 1) (iI z) S Q := by
    intro Q h0 h1
    unfold e_X3_clashes
    refine ⟨fun _ => ⟨fun c => absurd c (by decide), fun c => absurd c (by decide), fun c => absurd c (by decide), fun _ => ?_⟩, fun c => absurd rfl c⟩
    have e0 : S.2.1 18 (0 : Int32).toNatClampNeg = iI x := hx
    rw [e0, iI_le sx sz]
    exact ⟨h0, h1⟩
  exact ⟨fun y Q h => key Q (fun _ => h) (fun c => absurd y c), fun y Q h => key Q (fun c => absurd c y) (fun _ => h)⟩
end LL
def tms (k : Nat) : Int := if k = 1 then 6 else if k = 2 then 30 else if k = 3 then 30 else if k = 4 then 10 else 1
def pts (k : Nat) : Nat := if k = 0 then 2 else if k = 5 then 2 else 3
section LL
variable {S : vS} {Q : Int32 → vS → Prop}
theorem tim0 (h : Q (iI (tms 0)) S) : e_X3_timesOf (nI 0) S Q := by
  unfold e_X3_timesOf
  exact ⟨fun _ => h, fun c => absurd c (by decide), fun c => absurd c (by decide), fun c => absurd c (by decide), fun c => absurd c (by decide)⟩
theorem par0 (h : Q (nI (pts 0)) S) : e_X3_partsOf (nI 0) S Q := by
  unfold e_X3_partsOf
  exact ⟨fun _ => h, fun c => absurd rfl c⟩
theorem tim1 (h : Q (iI (tms 1)) S) : e_X3_timesOf (nI 1) S Q := by
  unfold e_X3_timesOf
  exact ⟨fun c => absurd c (by decide), fun _ => h, fun c => absurd c (by decide), fun c => absurd c (by decide), fun c => absurd c (by decide)⟩
theorem par1 (h : Q (nI (pts 1)) S) : e_X3_partsOf (nI 1) S Q := by
  unfold e_X3_partsOf
  exact ⟨fun c => absurd c (by decide), fun _ => ⟨fun _ => h, fun c => absurd c (by decide)⟩⟩
theorem tim2 (h : Q (iI (tms 2)) S) : e_X3_timesOf (nI 2) S Q := by
  unfold e_X3_timesOf
  exact ⟨fun c => absurd c (by decide), fun c => absurd c (by decide), fun _ => h, fun c => absurd c (by decide), fun c => absurd c (by decide)⟩
theorem par2 (h : Q (nI (pts 2)) S) : e_X3_partsOf (nI 2) S Q := by
  unfold e_X3_partsOf
  exact ⟨fun c => absurd c (by decide), fun _ => ⟨fun _ => h, fun c => absurd c (by decide)⟩⟩
theorem tim3 (h : Q (iI (tms 3)) S) : e_X3_timesOf (nI 3) S Q := by
  unfold e_X3_timesOf
  exact ⟨fun c => absurd c (by decide), fun c => absurd c (by decide), fun c => absurd c (by decide), fun _ => h, fun c => absurd c (by decide)⟩
theorem par3 (h : Q (nI (pts 3)) S) : e_X3_partsOf (nI 3) S Q := by
  unfold e_X3_partsOf
  exact ⟨fun c => absurd c (by decide), fun _ => ⟨fun _ => h, fun c => absurd c (by decide)⟩⟩
theorem tim4 (h : Q (iI (tms 4)) S) : e_X3_timesOf (nI 4) S Q := by
  unfold e_X3_timesOf
  exact ⟨fun c => absurd c (by decide), fun c => absurd c (by decide), fun c => absurd c (by decide), fun c => absurd c (by decide), fun _ => h⟩
theorem par4 (h : Q (nI (pts 4)) S) : e_X3_partsOf (nI 4) S Q := by
  unfold e_X3_partsOf
  exact ⟨fun c => absurd c (by decide), fun _ => ⟨fun _ => h, fun c => absurd c (by decide)⟩⟩
theorem tim5 (h : Q (iI (tms 5)) S) : e_X3_timesOf (nI 5) S Q := by
  unfold e_X3_timesOf
  exact ⟨fun _ => h, fun c => absurd c (by decide), fun c => absurd c (by decide), fun c => absurd c (by decide), fun c => absurd c (by decide)⟩
theorem par5 (h : Q (nI (pts 5)) S) : e_X3_partsOf (nI 5) S Q := by
  unfold e_X3_partsOf
  exact ⟨fun c => absurd c (by decide), fun _ => ⟨fun c => absurd rfl c, fun _ => h⟩⟩
theorem tim {k : Nat} (hk : k < 6) (h : Q (iI (tms k)) S) : e_X3_timesOf (nI k) S Q := by
  have : k = 0 ∨ k = 1 ∨ k = 2 ∨ k = 3 ∨ k = 4 ∨ k = 5 := by omega
  rcases this with e | e | e | e | e | e <;> subst e
  · exact tim0 h
  · exact tim1 h
  · exact tim2 h
  · exact tim3 h
  · exact tim4 h
  · exact tim5 h
theorem par {k : Nat} (hk : k < 6) (h : Q (nI (pts k)) S) : e_X3_partsOf (nI k) S Q := by
  have : k = 0 ∨ k = 1 ∨ k = 2 ∨ k = 3 ∨ k = 4 ∨ k = 5 := by omega
  rcases this with e | e | e | e | e | e <;> subst e
  · exact par0 h
  · exact par1 h
  · exact par2 h
  · exact par3 h
  · exact par4 h
  · exact par5 h
end LL
