/-! ===== lake: both systems show one value behind it ===== -/
def fC (X F : vS) : Prop := (F.1 0 = X.1 6 ∧ F.1 1 = X.1 7 ∧ F.1 2 = X.1 8 ∧ F.1 3 = X.1 9 ∧ F.1 4 = X.1 10 ∧ F.1 5 = X.1 11) ∧ (F.1 12 = 0 ∧ F.1 14 = X.1 14 ∧ F.1 16 = 0 ∧ F.1 17 = X.1 17 ∧ F.1 18 = X.1 18) ∧ (F.1 23 = 0 ∧ F.1 27 = 0 ∧ F.1 31 = 0) ∧ (∀ j, j < 6 → F.2.1 1 j = X.2.1 9 j ∧ F.2.1 2 j = X.2.1 10 j ∧ F.2.1 3 j = X.2.1 11 j ∧ F.2.1 21 j = X.2.1 11 j ∧ F.2.1 22 j = 0) ∧ (∀ j, j < 60 → F.2.1 4 j = X.2.1 12 j ∧ F.2.1 5 j = X.2.1 13 j ∧ F.2.1 23 j = X.2.1 12 j) ∧ (∀ j, j < 10 → F.2.1 6 j = X.2.1 14 j ∧ F.2.1 7 j = X.2.1 15 j ∧ F.2.1 8 j = X.2.1 16 j)
def fM (N G : vS) (h c : Int32) : Prop := (G.1 0 = N.1 15 ∧ G.1 1 = N.1 16 ∧ G.1 2 = N.1 17 ∧ G.1 3 = N.1 20 ∧ G.1 4 = h ∧ G.1 5 = c) ∧ (G.1 6 = N.1 6 ∧ G.1 7 = 0 ∧ G.1 8 = N.1 8 ∧ G.1 9 = 0 ∧ G.1 10 = N.1 10) ∧ (G.1 23 = 0 ∧ G.2.1 22 0 = 0 ∧ G.2.1 22 1 = 0) ∧ (∀ j, j < 6 → G.2.1 0 j = N.2.1 10 j ∧ G.2.1 1 j = N.2.1 11 j ∧ G.2.1 2 j = N.2.1 12 j ∧ G.2.1 6 j = N.2.1 12 j ∧ G.2.1 7 j = 0) ∧ (∀ j, j < 60 → (G.2.1 3 j = if 0 ≤ N.2.1 13 j then N.2.1 13 j else 0) ∧ (G.2.1 4 j = if 0 ≤ N.2.1 14 j then N.2.1 14 j else 1) ∧ (G.2.1 8 j = if 0 ≤ N.2.1 13 j then N.2.1 13 j else 0)) ∧ (∀ j, j < 30 → G.2.1 5 j = N.2.1 15 j)
def nR (b : Nat) : Nat := if b = 0 then 1 else if b = 1 then 2 else if b = 2 then 21 else if b = 3 then 23 else if b = 4 then 5 else if b = 5 then 6 else if b = 6 then 7 else if b = 7 then 8 else if b = 8 then 3 else 4
def nV (F : vS) (w d n h l ms : Int) : vV := (fun j => if j = 0 then w else if j = 1 then d else if j = 2 then n else if j = 3 then h else if j = 4 then l else ms, fun b j => (F.2.1 (nR b) j).toInt)
section TT
variable {C M X N F G : vS} {v : vV}
theorem rel_fr (hV : RelV C M v) (hC : frC C X) (hM : frL M N) (he : X.1 14 = N.1 10) : RelV (sf X 12 0) (sf N 9 0) v := by
  have c : ∀ j, (j < 6 ∨ 15 < j) → (sf X 12 0).1 j = C.1 j := by
    intro j hj
    have : j ≠ 12 := by omega
    simp only [sf, this, if_false]
    exact hC.1 j hj
  have m : ∀ j, (j < 9 ∨ 22 < j) → (sf N 9 0).1 j = M.1 j := by
    intro j hj
    have : j ≠ 9 := by omega
    simp only [sf, this, if_false]
    exact hM.1 j hj
  have cr : ∀ a, (a < 9 ∨ 20 < a) → (sf X 12 0).2.1 a = C.2.1 a := hC.2
  have mr : ∀ a, (a < 9 ∨ 15 < a) → (sf N 9 0).2.1 a = M.2.1 a := hM.2
  obtain ⟨⟨a1, a2, a3, a4, a5, a6⟩, b1, b2, b3, b4, b5, b6⟩ := hV
  refine ⟨⟨?_, ?_, ?_, ?_, a5, a6⟩, ?_, ?_, ⟨0, by omega, rfl, rfl, he, fun j hj => by omega⟩, ?_, ?_, ?_⟩
  · unfold shC sh
    rw [c 0 (by decide), c 1 (by decide), c 2 (by decide), c 4 (by decide), c 17 (by decide), cr 1 (by decide), cr 2 (by decide), cr 21 (by decide), cr 23 (by decide), cr 5 (by decide)]
    exact a1
  · unfold shM sh
    rw [m 0 (by decide), m 1 (by decide), m 2 (by decide), m 4 (by decide), m 6 (by decide), mr 0 (by decide), mr 1 (by decide), mr 6 (by decide), mr 8 (by decide), mr 4 (by decide)]
    exact a2
  · unfold shFC
    rw [c 3 (by decide), cr 6 (by decide), cr 7 (by decide), cr 8 (by decide)]
    exact a3
  · unfold shFM
    rw [m 3 (by decide), mr 5 (by decide)]
    exact a4
  · unfold Rp
    rw [c 5 (by decide), c 16 (by decide), c 18 (by decide), cr 22 (by decide), m 5 (by decide), m 7 (by decide), m 8 (by decide), mr 7 (by decide)]
    exact b1
  · unfold Rt
    rw [cr 3 (by decide), cr 4 (by decide), mr 2 (by decide), mr 3 (by decide)]
    exact b2
  · unfold Rb
    rw [c 31 (by decide), m 23 (by decide), cr 33 (by decide), cr 34 (by decide), cr 35 (by decide), mr 18 (by decide), mr 19 (by decide), mr 20 (by decide)]
    exact b4
  · unfold Rim
    rw [c 23 (by decide), c 20 (by decide), c 21 (by decide), c 22 (by decide), cr 24 (by decide), cr 25 (by decide), cr 26 (by decide), mr 21 (by decide), mr 22 (by decide)]
    exact b5
  · unfold Rim
    rw [c 27 (by decide), c 24 (by decide), c 25 (by decide), c 26 (by decide), cr 27 (by decide), cr 28 (by decide), cr 29 (by decide), mr 21 (by decide), mr 22 (by decide)]
    exact b6
theorem rel_new {w d n ms ns nf h cst l : Int} (q1 : rW X N w d) (q2 : rD X N w n) (q3 : rS X N ns) (q4 : rF X N nf) (q5 : rM X N ms) (hh : X.1 10 = iI h ∧ X.1 11 = iI cst ∧ 1 ≤ h ∧ h ≤ 20) (hl : X.1 17 = iI l ∧ N.1 6 = iI l ∧ 0 ≤ l ∧ l ≤ 2) (hs : X.1 18 = N.1 8 ∧ 0 ≤ (N.1 8).toInt) (he : X.1 14 = N.1 10) (hF : fC X F) (hG : fM N G (iI h) (iI cst)) : Rel F G := by
  obtain ⟨⟨c0, c1, c2, c3, c4, c5⟩, ⟨c12, c14, c16, c17, c18⟩, ⟨c23, c27, c31⟩, r6, r60, r10⟩ := hF
  obtain ⟨⟨m0, m1, m2, m3, m4, m5⟩, ⟨m6, m7, m8, m9, m10⟩, ⟨m23, k0, k1⟩, s6, s60, s30⟩ := hG
  have wb := q1.2.2.2.2.2.1
  have db := q1.2.2.2.2.2.2.1
  have nb := q2.2.2.2.1
  have msb := q5.2.2.2.1
  have n0 : ∀ f : Nat, (f : Int) < n → f < 6 := fun f hf => by omega
  have it : ∀ r j, F.2.1 r j = iI (F.2.1 r j).toInt := fun r j => iI_of _
  -- rows of men
  have dm : ∀ f : Nat, (f : Int) < n → (G.2.1 0 f = F.2.1 1 f ∧ G.2.1 1 f = F.2.1 2 f ∧ G.2.1 2 f = F.2.1 3 f ∧ G.2.1 6 f = F.2.1 21 f) ∧ (0 ≤ (F.2.1 1 f).toInt ∧ (F.2.1 1 f).toInt < w) ∧ (0 ≤ (F.2.1 2 f).toInt ∧ (F.2.1 2 f).toInt ≤ 99) ∧ (0 ≤ (F.2.1 3 f).toInt ∧ (F.2.1 3 f).toInt ≤ 9) ∧ (0 ≤ (F.2.1 21 f).toInt ∧ (F.2.1 21 f).toInt ≤ 9) := by
    intro f hf
    obtain ⟨x, g, s, ⟨x1, x2, x3, x4⟩, ⟨g1, g2, g3, g4⟩, ⟨s1, s2, s3, s4⟩⟩ := q2.2.2.2.2.2 f hf
    obtain ⟨a1, a2, a3, a4, a5⟩ := r6 f (n0 f hf)
    obtain ⟨b1, b2, b3, b4, b5⟩ := s6 f (n0 f hf)
    rw [a1, a2, a3, a4, b1, b2, b3, b4, x1, x2, g1, g2, s1, s2, iI_T (sm_of (by omega) (by omega)), iI_T (sm_of (by omega) (by omega)), iI_T (sm_of (by omega) (by omega))]
    exact ⟨⟨rfl, rfl, rfl, rfl⟩, ⟨x3, x4⟩, ⟨g3, g4⟩, ⟨s3, s4⟩, ⟨s3, s4⟩⟩
  -- rows of cells
  have dc : ∀ k, k < 60 → (G.2.1 3 k = F.2.1 4 k ∧ G.2.1 8 k = F.2.1 23 k ∧ G.2.1 4 k = F.2.1 5 k) ∧ (0 ≤ (F.2.1 4 k).toInt ∧ (F.2.1 4 k).toInt ≤ 99) ∧ (0 ≤ (F.2.1 23 k).toInt ∧ (F.2.1 23 k).toInt ≤ 99) ∧ (0 ≤ (F.2.1 5 k).toInt ∧ (F.2.1 5 k).toInt ≤ 99) := by
    intro k hk
    obtain ⟨a1, a2, a3⟩ := r60 k hk
    obtain ⟨b1, b2, b3⟩ := s60 k hk
    have st : ∃ z : Int, 0 ≤ z ∧ z ≤ 99 ∧ X.2.1 12 k = iI z ∧ (if 0 ≤ N.2.1 13 k then N.2.1 13 k else 0) = iI z := by
      rcases q3.2.2.2 k hk with ⟨h1, h2⟩ | ⟨z, z1, z2, h1, h2⟩
      · exact ⟨0, by decide, by decide, h1, by rw [h2]; rfl⟩
      · refine ⟨z, by omega, z2, h1, ?_⟩
        rw [h2, if_pos]
        rw [L0, iI_le (sm_of (by decide) (by decide)) (sm_of (by omega) (by omega))]
        omega
    have fi : ∃ z : Int, 0 ≤ z ∧ z ≤ 99 ∧ X.2.1 13 k = iI z ∧ (if 0 ≤ N.2.1 14 k then N.2.1 14 k else 1) = iI z := by
      rcases q4.2.2.2 k hk with ⟨h1, h2, h3⟩ | ⟨z, z1, z2, h1, h2, h3⟩
      · exact ⟨1, by decide, by decide, h1, by rw [h3]; rfl⟩
      · refine ⟨z, by omega, z2, h1, ?_⟩
        rw [h3, if_pos]
        rw [L0, iI_le (sm_of (by decide) (by decide)) (sm_of (by omega) (by omega))]
        omega
    obtain ⟨z, z1, z2, z3, z4⟩ := st
    obtain ⟨u, u1, u2, u3, u4⟩ := fi
    rw [a1, a2, a3, b1, b2, b3, z3, z4, u3, u4, iI_T (sm_of (by omega) (by omega)), iI_T (sm_of (by omega) (by omega))]
    exact ⟨⟨rfl, rfl, rfl⟩, ⟨z1, z2⟩, ⟨z1, z2⟩, ⟨u1, u2⟩⟩
  have dj : ∀ j : Nat, (j : Int) < ms → (G.2.1 5 (3 * j) = F.2.1 6 j ∧ G.2.1 5 (3 * j + 1) = F.2.1 7 j ∧ G.2.1 5 (3 * j + 2) = F.2.1 8 j) ∧ (0 ≤ (F.2.1 6 j).toInt ∧ (F.2.1 6 j).toInt ≤ 999) ∧ (0 ≤ (F.2.1 7 j).toInt ∧ (F.2.1 7 j).toInt ≤ 999) ∧ (0 ≤ (F.2.1 8 j).toInt ∧ (F.2.1 8 j).toInt ≤ 20) := by
    intro j hj
    obtain ⟨x, y, z, ⟨x1, x2, x3, x4⟩, ⟨y1, y2, y3, y4⟩, ⟨z1, z2, z3, z4⟩⟩ := q5.2.2.2.2 j hj
    obtain ⟨a1, a2, a3⟩ := r10 j (by omega)
    rw [a1, a2, a3, s30 (3 * j) (by omega), s30 (3 * j + 1) (by omega), s30 (3 * j + 2) (by omega), x1, x2, y1, y2, z1, z2, iI_T (sm_of (by omega) (by omega)), iI_T (sm_of (by omega) (by omega)), iI_T (sm_of (by omega) (by omega))]
    exact ⟨⟨rfl, rfl, rfl⟩, ⟨x3, x4⟩, ⟨y3, y4⟩, ⟨z3, z4⟩⟩
  refine ⟨nV F w d n h l ms, ⟨⟨?_, ?_, ?_, ?_, ?_, ?_, ?_⟩, ⟨?_, ?_, ?_, ?_, ?_, ?_, ?_⟩, ⟨?_, ?_⟩, ⟨?_, ?_⟩, ?_, ⟨?_, ?_⟩⟩, ?_, ⟨?_, ?_⟩, ⟨0, by omega, ?_, ?_, ?_, fun j hj => by omega⟩, ⟨0, by omega, ?_, ?_, fun j hj => by omega⟩, Or.inl ⟨?_, ?_⟩, Or.inl ⟨?_, ?_⟩⟩
  · rw [c0]; exact q1.1
  · rw [c1]; exact q1.2.2.1
  · rw [c2]; exact q2.1
  · rw [c4]; exact hh.1
  · rw [c17]; exact hl.1
  · exact fun f hf => ⟨it 1 f, it 2 f, it 21 f⟩
  · exact fun k hk => ⟨it 23 k, fun _ => it 5 k⟩
  · rw [m0]; exact q1.2.1
  · rw [m1]; exact q1.2.2.2.1
  · rw [m2]; exact q2.2.1
  · exact m4
  · rw [m6]; exact hl.2.1
  · intro f hf
    obtain ⟨⟨e1, e2, e3, e4⟩, -⟩ := dm f hf
    rw [e1, e2, e4]
    exact ⟨it 1 f, it 2 f, it 21 f⟩
  · intro k hk
    obtain ⟨⟨e1, e2, e3⟩, -⟩ := dc k hk
    rw [e2, e3]
    exact ⟨it 23 k, fun _ => it 5 k⟩
  · rw [c3]; exact q5.1
  · exact fun j hj => ⟨it 6 j, it 7 j, it 8 j⟩
  · rw [m3]; exact q5.2.1
  · intro j hj
    obtain ⟨⟨e1, e2, e3⟩, -⟩ := dj j hj
    rw [e1, e2, e3]
    exact ⟨it 6 j, it 7 j, it 8 j⟩
  · refine ⟨wb, db, q1.2.2.2.2.2.2.2.1, nb, ⟨hh.2.2.1, hh.2.2.2⟩, ⟨hl.2.2.1, hl.2.2.2⟩, fun f hf => ?_, fun k hk => ?_, fun hn => ?_, q1.2.2.2.2.2.2.2.2⟩
    · obtain ⟨-, e1, e2, e3, e4⟩ := dm f hf
      exact ⟨e1, e2, e4⟩
    · obtain ⟨-, e1, e2, e3⟩ := dc k hk
      exact ⟨e2, e3⟩
    · exact q1.2.2.2.2.2.2.2.2.mp (q2.2.2.2.2.1 hn)
  · exact msb
  · intro j hj
    obtain ⟨-, e1, e2, e3⟩ := dj j hj
    exact ⟨e1, e2, e3⟩
  · refine ⟨?_, ?_, ?_, ?_, fun f hf => ?_⟩
    · rw [c5, m5]; exact hh.2.1
    · rw [c16, m7]
    · rw [c18, m8]; exact hs.1
    · rw [m8]; exact hs.2
    · rw [(r6 f (n0 f hf)).2.2.2.2, (s6 f (n0 f hf)).2.2.2.2]
  · intro f hf
    obtain ⟨⟨-, -, e3, -⟩, -, -, e5, -⟩ := dm f hf
    rw [e3]
    exact ⟨it 3 f, it 3 f, e5⟩
  · intro k hk
    obtain ⟨⟨e1, -, -⟩, e2, -, -⟩ := dc k hk
    rw [e1]
    exact ⟨it 4 k, it 4 k, e2⟩
  · rw [c12]; rfl
  · rw [m9]; rfl
  · rw [c14, m10]; exact he
  · rw [c31]; rfl
  · rw [m23]; rfl
  · exact c23
  · exact k0
  · exact c27
  · exact k1
end TT
