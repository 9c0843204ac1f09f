/-! ===== lake: the call ===== -/
theorem i8 {x : Int32} (h : 0 ≤ x.toInt ∧ x.toInt < 256) : x.toInt8.toInt32 = iI (sg8 x.toInt) := by
  have b := sg8_bd h
  refine Int32.toInt_inj.mp ?_
  rw [iI_T (sm_of (by omega) (by omega)), Int8.toInt_toInt32, Int32.toInt_toInt8]
  have e : x.toInt % 256 = x.toInt := Int.emod_eq_of_lt h.1 h.2
  show (if x.toInt % 256 < (256 + 1) / 2 then x.toInt % 256 else x.toInt % 256 - 256) = sg8 x.toInt
  rw [e]
  unfold sg8
  split <;> split <;> omega
def clr (g : Nat → Int32) (k : Nat) : Nat → Int32 := fun j => if j < k then -1 else g j
theorem clr_0 (g : Nat → Int32) : clr g 0 = g := by
  funext j
  exact if_neg (by omega)
theorem clr_s (g : Nat → Int32) (k : Nat) : upd (clr g k) k (-1) = clr g (k + 1) := by
  funext j
  by_cases e : j = k
  · rw [e, pk_us]
    exact (if_pos (by omega)).symm
  · rw [pk_un e]
    unfold clr
    by_cases h : j < k
    · rw [if_pos h, if_pos (by omega)]
    · rw [if_neg h, if_neg (by omega)]
theorem clr_in (g : Nat → Int32) {k j : Nat} (h : j < k) : clr g k j = -1 := if_pos h
section TT
variable {C M : vS}
theorem pM_clearD {Q : vS → Prop} (hq : Q (sr (sr (sf (sf (sf (sf (sf (sf (sf C 15 0) 16 0) 17 0) 18 0) 19 0) 20 0) 21 0) 13 (clr (C.2.1 13) 60)) 14 (clr (C.2.1 14) 60))) : e_X7_clear C Q := by
  unfold e_X7_clear
  intro S1 e1 S2 e2 S3 e3 S4 e4 S5 e5 S6 e6 S7 e7
  rw [e7, e6, e5, e4, e3, e2, e1]
  have b13 : (sf (sf (sf (sf (sf (sf (sf C 15 0) 16 0) 17 0) 18 0) 19 0) 20 0) 21 0).2.1 13 = C.2.1 13 := rfl
  have b14 : (sf (sf (sf (sf (sf (sf (sf C 15 0) 16 0) 17 0) 18 0) 19 0) 20 0) 21 0).2.1 14 = C.2.1 14 := rfl
  generalize sf (sf (sf (sf (sf (sf (sf C 15 0) 16 0) 17 0) 18 0) 19 0) 20 0) 21 0 = B at hq b13 b14
  rw [← b13, ← b14] at hq
  have loop : ∀ (r k : Nat), k + r = 60 → e_X7_clear_37 Q (r + 1) (nI k) (sr (sr B 13 (clr (B.2.1 13) k)) 14 (clr (B.2.1 14) k)) := by
    intro r
    induction r with
    | zero =>
      intro k hk
      rw [e_X7_clear_37.eq_2, show (60 : Int32) = nI 60 from rfl, nI_leI (by omega) (by omega)]
      have : k = 60 := by omega
      subst this
      exact ⟨fun _ => hq, fun c => absurd (by omega) c⟩
    | succ r ih =>
      intro k hk
      rw [e_X7_clear_37.eq_2, show (60 : Int32) = nI 60 from rfl, nI_leI (by omega) (by omega), cl_nI (by omega), nI_1]
      refine ⟨fun c => absurd c (by omega), fun _ => ⟨in_nI (by omega) (by omega), fun S5 e5 S6 e6 u hu => ?_⟩⟩
      have es : S6 = sr (sr B 13 (upd (clr (B.2.1 13) k) k (-1))) 14 (upd (clr (B.2.1 14) k) k (-1)) := by
        rw [e6, e5]
        unfold sa sr
        refine Prod.ext rfl (Prod.ext ?_ rfl)
        funext b
        by_cases e7 : b = 14
        · subst e7; rfl
        · by_cases e8 : b = 13
          · subst e8; rfl
          · simp [e7, e8]
      rw [hu, es, clr_s, clr_s]
      exact ih (k + 1) (by omega)
  have e := loop 60 0 (by omega)
  rw [clr_0, clr_0] at e
  have e2 : sr (sr B 13 (B.2.1 13)) 14 (B.2.1 14) = B := by
    rw [sr_self]
    exact sr_self B 14
  rw [e2] at e
  exact ⟨61, e⟩
theorem c_tail {X : vS} {Q : Int32 → vS → Prop} (h13 : X.1 13 = 0) (hq : ∀ F, fC X F → Q (F.1 0 * F.1 1) F) : e_X3_readAll_49 (fun (r2 : Int32) (S1 : vS) => ((¬ r2 = 0 → (e_X2_copyFrom_plan_draft S1 (fun (S4 : vS) => (e_X5_restart_now_plan S4 (fun (S6 : vS) => (∀ S8 : vS, S8 = sf S6 31 (0 : Int32) → (∃ j, e_X6_lake_56 Q j (0 : Int32) S8))))))) ∧ (r2 = 0 → Q ((-10 : Int32) - (S1.1 13)) S1))) X := by
  unfold e_X3_readAll_49
  intro S13 e13
  have f13 : S13.1 13 = 0 := by rw [e13]; exact h13
  refine ⟨fun c => absurd f13 c, fun _ => ⟨fun _ => ?_, fun c => absurd c (by decide)⟩⟩
  rw [e13]
  refine pC_copy (fun g1 g2 g3 g4 g5 g6 g7 g8 h1 h2 h3 h4 h5 h6 h7 h8 => ?_)
  refine pC_restart (fun g21 g22 g23 a1 a2 a3 => ?_)
  intro S8 e8
  refine ⟨3, ?_⟩
  rw [e_X6_lake_56.eq_2]
  refine ⟨fun c => absurd c (by decide), fun _ => ⟨in_nI (k := 0) (by decide) (by decide), fun _ S14 e14 v15 e15 => ?_, fun c => absurd c (by decide)⟩⟩
  have e15' : v15 = 1 := e15
  rw [e15', e_X6_lake_56.eq_2]
  refine ⟨fun c => absurd c (by decide), fun _ => ⟨in_nI (k := 1) (by decide) (by decide), fun c => absurd c (by decide), fun _ S16 e16 v17 e17 => ?_⟩⟩
  have e17' : v17 = 2 := e17
  rw [e17', e_X6_lake_56.eq_2]
  refine ⟨fun _ => ?_, fun c => absurd (by decide) c⟩
  unfold e_X2_cells_plan
  refine hq S16 ?_
  rw [e16, e14, e8]
  refine ⟨⟨rfl, rfl, rfl, rfl, rfl, rfl⟩, ⟨rfl, rfl, rfl, rfl, rfl⟩, ⟨rfl, rfl, rfl⟩, fun j hj => ⟨?_, ?_, ?_, ?_, ?_⟩, fun j hj => ⟨?_, ?_, ?_⟩, fun j hj => ⟨?_, ?_, ?_⟩⟩
  · exact h1 j hj
  · exact h2 j hj
  · exact h3 j hj
  · exact (a1 j hj).trans (h3 j hj)
  · exact a2 j hj
  · exact h4 j hj
  · exact h5 j hj
  · exact (a3 j hj).trans (h4 j hj)
  · exact h6 j hj
  · exact h7 j hj
  · exact h8 j hj
theorem m_tail {N : vS} {h c : Int32} {Q : Int32 → vS → Prop} (hh : (N.1 21 ≤ 0 ∧ h = 3 ∧ c = 100) ∨ (¬ N.1 21 ≤ 0 ∧ h = N.1 21 ∧ c = N.1 22)) (hq : ∀ G, fM N G h c → Q (G.1 0 * G.1 1) G) : e_X7_lake_35 Q 0 N := by
  refine pM_35 hh (pM_122 (fun g0 g1 g2 h0 h1 h2 => pM_172 (fun g3 g4 h3 h4 => pM_236 (fun g5 h5 => pM_begin (fun g6 g7 g8 b1 b2 b3 => ?_)))))
  unfold e_X7_cells
  refine hq _ ?_
  refine ⟨⟨rfl, rfl, rfl, rfl, rfl, rfl⟩, ⟨rfl, rfl, rfl, rfl, rfl⟩, ⟨rfl, rfl, rfl⟩, fun j hj => ⟨?_, ?_, ?_, ?_, ?_⟩, fun j hj => ⟨?_, ?_, ?_⟩, fun j hj => ?_⟩
  · exact h0 j hj
  · exact h1 j hj
  · exact h2 j hj
  · exact (b1 j hj).trans (h2 j hj)
  · exact b2 j hj
  · exact h3 j hj
  · exact h4 j hj
  · exact (b3 j hj).trans (h3 j hj)
  · exact h5 j hj
theorem t_lake (hR : Rel C M) : e_X6_lake C (fun r C1 => e_X7_lake M (fun r2 M1 => r = r2 ∧ Rel C1 M1)) := by
  obtain ⟨v, hV⟩ := hR
  obtain ⟨⟨hC, hM, hfC, hfM, hv, hw⟩, hp, h3, ⟨t, t5, x1, x2, x3, x4⟩, h5, h6, h7⟩ := id hV
  have ht : okT (fun j => (M.2.1 9 j).toInt) t := ⟨t5, fun j hj => (x4 j hj).1⟩
  unfold e_X6_lake e_X3_readAll
  refine pC_restartR (fun g12 g13 g19 g20 a12 a13 a19 a20 => ?_)
  have mgo : ∀ Q : Int32 → vS → Prop, (∃ j, e_X7_lake_16 Q j 0 (sr (sr (sf (sf (sf (sf (sf (sf (sf (sf (sf M 10 (-1)) 11 0) 15 0) 16 0) 17 0) 18 0) 19 0) 20 0) 21 0) 13 (clr (M.2.1 13) 60)) 14 (clr (M.2.1 14) 60))) → e_X7_lake M Q := by
    intro Q h
    unfold e_X7_lake
    intro S1 e1 S2 e2
    rw [e2, e1]
    exact pM_clearD h
  have hP : PR (fun j => (M.2.1 9 j).toInt) t C M 0 (sr (sr (sf (sf (sf (sr (sr (sf (sf (sf (sf (sf (sf C 6 0) 7 0) 8 0) 9 0) 10 3) 11 100) 12 g12) 13 g13) 15 0) 13 0) 14 (-1)) 19 g19) 20 g20) (sr (sr (sf (sf (sf (sf (sf (sf (sf (sf (sf M 10 (-1)) 11 0) 15 0) 16 0) 17 0) 18 0) 19 0) 20 0) 21 0) 13 (clr (M.2.1 13) 60)) 14 (clr (M.2.1 14) 60)) := by
    have k12 : ∀ j, j < 60 → clr (M.2.1 13) 60 j = -1 := fun j hj => clr_in _ hj
    have k13 : ∀ j, j < 60 → clr (M.2.1 14) 60 j = -1 := fun j hj => clr_in _ hj
    refine ⟨⟨⟨x1, fun j hj => ?_⟩, ⟨x2, fun j hj => iI_of _⟩⟩, ⟨?_, ?_⟩, ⟨rfl, rfl⟩, rfl, ⟨rfl, rfl⟩, 0, 0, 0, 0, 0, 0, ⟨rfl, rfl, rfl, rfl, a19 0 (by decide), by decide, by decide, by decide, by decide⟩, ⟨rfl, rfl, a19 1 (by decide), by decide, by decide, fun f hf => by omega⟩, ⟨a19 2 (by decide), rfl, by decide, fun k hk => Or.inl ⟨a12 k hk, k12 k hk⟩⟩, ⟨a19 3 (by decide), rfl, by decide, fun k hk => Or.inl ⟨a13 k hk, a20 k hk, k13 k hk⟩⟩, ⟨rfl, rfl, a19 4 (by decide), by decide, fun j hj => by omega⟩, Or.inl ⟨a19 5 (by decide), rfl, rfl, rfl⟩⟩
    · exact (x4 j hj).2.trans (i8 (x4 j hj).1)
    · refine ⟨fun j hj => ?_, fun a ha => ?_⟩
      · have e6 : j ≠ 6 := by omega
        have e7 : j ≠ 7 := by omega
        have e8 : j ≠ 8 := by omega
        have e9 : j ≠ 9 := by omega
        have e10 : j ≠ 10 := by omega
        have e11 : j ≠ 11 := by omega
        have e13 : j ≠ 13 := by omega
        have e14 : j ≠ 14 := by omega
        have e15 : j ≠ 15 := by omega
        simp only [sf, sr, e6, e7, e8, e9, e10, e11, e13, e14, e15, if_false]
      · have e12 : a ≠ 12 := by omega
        have e13 : a ≠ 13 := by omega
        have e19 : a ≠ 19 := by omega
        have e20 : a ≠ 20 := by omega
        simp only [sf, sr, e12, e13, e19, e20, if_false]
    · refine ⟨fun j hj => ?_, fun a ha => ?_⟩
      · have e10 : j ≠ 10 := by omega
        have e11 : j ≠ 11 := by omega
        have e15 : j ≠ 15 := by omega
        have e16 : j ≠ 16 := by omega
        have e17 : j ≠ 17 := by omega
        have e18 : j ≠ 18 := by omega
        have e19 : j ≠ 19 := by omega
        have e20 : j ≠ 20 := by omega
        have e21 : j ≠ 21 := by omega
        simp only [sf, sr, e10, e11, e15, e16, e17, e18, e19, e20, e21, if_false]
      · have e13 : a ≠ 13 := by omega
        have e14 : a ≠ 14 := by omega
        simp only [sf, sr, e13, e14, if_false]
  have sk0 := (pr_skip ht (Nat.zero_le t) hP).1
  refine sk0 _ ?_
  have hl := lp ht (t + 1) 0 0 _ _ (by omega) (Nat.zero_le t) (Nat.le_refl 0) hP
  rcases hl with ⟨X, N, a, i1, i2, i3⟩ | ⟨X, N, k, i1, i2, i3⟩
  · obtain ⟨⟨y1, y2⟩, ⟨y3, y4⟩, y5, y6, ⟨y7, y8⟩, w, d, n, ms, ns, nf, q1, q2, q3, q4, q5, q6⟩ := i3
    refine i1 _ (c_tail y6 (fun F hF => mgo _ (i2 _ ?_)))
    have hl : X.1 17 = iI (v.1 4) ∧ N.1 6 = iI (v.1 4) ∧ 0 ≤ v.1 4 ∧ v.1 4 ≤ 2 := by
      rw [y3.1 17 (by decide), y4.1 6 (by decide)]
      exact ⟨hC.2.2.2.2.1, hM.2.2.2.2.1, hv.2.2.2.2.2.1⟩
    have hs : X.1 18 = N.1 8 ∧ 0 ≤ (N.1 8).toInt := by
      rw [y3.1 18 (by decide), y4.1 8 (by decide)]
      exact ⟨hp.2.2.1, hp.2.2.2.1⟩
    have he : X.1 14 = N.1 10 := by rw [y7, y8]
    have pe : ∀ G : vS, G.1 0 = N.1 15 → G.1 1 = N.1 16 → F.1 0 * F.1 1 = G.1 0 * G.1 1 := by
      intro G g0 g1
      rw [hF.1.1, hF.1.2.1, g0, g1, q1.1, q1.2.2.1, q1.2.1, q1.2.2.2.1]
    rcases q6 with ⟨z1, z2, z3, z4⟩ | ⟨z1, h, c, hh1, hh2, hc1, hc2, z2, z3, z4, z5⟩
    · refine m_tail (h := iI 3) (c := iI 100) (Or.inl ⟨by rw [z4]; decide, rfl, rfl⟩) (fun G hG => ⟨pe G hG.1.1 hG.1.2.1, ?_⟩)
      exact rel_new (h := 3) (cst := 100) q1 q2 q3 q4 q5 ⟨z2, z3, by decide, by decide⟩ hl hs he hF hG
    · refine m_tail (h := iI h) (c := iI c) (Or.inr ⟨by rw [z3]; exact (ne0 ⟨hh1, by omega⟩).2.1, z3.symm, z5.symm⟩) (fun G hG => ⟨pe G hG.1.1 hG.1.2.1, ?_⟩)
      exact rel_new q1 q2 q3 q4 q5 ⟨z2, z4, hh1, hh2⟩ hl hs he hF hG
  · obtain ⟨y1, ⟨y2, y3⟩, y4, y5, ⟨f, y6, y7⟩, y8⟩ := i3
    refine i1 _ ?_
    unfold e_X3_readAll_49
    intro S13 e13
    have f13 : S13.1 13 = iI k := by rw [e13]; exact y4
    rw [f13]
    refine ⟨fun _ => ⟨fun c => absurd rfl c, fun _ => mgo _ (i2 _ ?_)⟩, fun c => absurd c (nz y5)⟩
    unfold e_X7_lake_35
    intro S11 e11
    refine ⟨fun c => absurd c (nle y5), fun _ => ?_⟩
    rw [f13, e13, e11]
    exact ⟨rfl, v, rel_fr hV y2 y3 (by rw [y6, y7])⟩
end TT
