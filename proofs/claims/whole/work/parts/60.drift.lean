/-! ===== drift ===== -/
theorem fb_andL (a b : Nat) : lN a &&& lN b = lN (a &&& b) := by
  apply Int64.toBitVec_inj.1
  show BitVec.ofNat 64 a &&& BitVec.ofNat 64 b = BitVec.ofNat 64 (a &&& b)
  apply BitVec.eq_of_getLsbD_eq
  intro i hi
  simp [hi]
theorem fb_maskL (n k : Nat) : lN n &&& lN (2 ^ k - 1) = lN (n % 2 ^ k) := by rw [fb_andL, Nat.and_two_pow_sub_one_eq_mod]
theorem sf_at (S : vS) (k : Nat) (z : Int32) : (sf S k z).1 k = z := by simp [sf]
theorem nxt_ex : ∃ g : Nat → Nat, ∀ s, g s = (s * 1103515245 + 12345) % 2147483648 := ⟨_, fun _ => rfl⟩
noncomputable def nxt : Nat → Nat := Classical.choose nxt_ex
theorem nxt_eq (s : Nat) : nxt s = (s * 1103515245 + 12345) % 2147483648 := Classical.choose_spec nxt_ex s
theorem nxt_lt (s : Nat) : nxt s < 2147483648 := by rw [nxt_eq]; exact Nat.mod_lt _ (by decide)
theorem drC {s : Nat} (hs : s < 2147483648) : ((((nI s).toInt64 * (1103515245 : Int64)) + (12345 : Int64)) &&& (2147483647 : Int64)).toInt32 = nI (nxt s) := by
  have e1 : (1103515245 : Int64) = lN 1103515245 := rfl
  have e2 : (12345 : Int64) = lN 12345 := rfl
  have e3 : (2147483647 : Int64) = lN (2 ^ 31 - 1) := rfl
  rw [nI_l (by omega), e1, e2, e3, lN_mul, lN_add, fb_maskL, lN_i, nxt_eq]
theorem drM {s : Nat} (hs : s < 2147483648) : (((((nI s)).toInt64 * (1103515245 : Int64)) + (12345 : Int64)) - ((((nI s)).toInt64 * (1103515245 : Int64)) + (12345 : Int64)) / (2147483648 : Int64) * (2147483648 : Int64)).toInt32 = nI (nxt s) := by
  have e1 : (1103515245 : Int64) = lN 1103515245 := rfl
  have e2 : (12345 : Int64) = lN 12345 := rfl
  have e3 : (2147483648 : Int64) = lN 2147483648 := rfl
  rw [nI_l (by omega), e1, e2, e3, lN_mul, lN_add, pk_lRem (by omega) (by omega) (by omega), lN_i, nxt_eq]
theorem draw_val {s k : Nat} (hs : s < 2147483648) (hk : 0 < k) (hk2 : k < 100000) : (nI s / (65536 : Int32)) - (nI s / (65536 : Int32)) / nI k * nI k = nI (s / 65536 % k) := by
  have e : (65536 : Int32) = nI 65536 := rfl
  have h1 : s / 65536 < 2 ^ 31 := by
    have := Nat.div_le_self s 65536
    omega
  rw [e, pk_div (by omega) (by omega) (by omega), pk_rem h1 hk (by omega)]
theorem pC_draw {X : vS} {s k : Nat} (h : X.1 18 = nI s) (hs : s < 2147483648) (hk : 0 < k) (hk2 : k < 100000) {Q : Int32 → vS → Prop} (hq : Q (nI (nxt s / 65536 % k)) (sf X 18 (nI (nxt s)))) : e_X5_draw_now (nI k) X Q := by
  unfold e_X5_draw_now
  rw [h, drC hs]
  intro S1 e1
  rw [e1]
  have e2 : (sf X 18 (nI (nxt s))).1 18 = nI (nxt s) := rfl
  have o : (1 : Int32) = nI 1 := rfl
  rw [e2, draw_val (nxt_lt s) hk hk2, o, nI_leI (by omega) (by omega)]
  exact ⟨fun _ => ⟨nI_ne0 hk (by omega), hq⟩, fun c => absurd hk c⟩
theorem pM_draw {Y : vS} {s k : Nat} (h : Y.1 8 = nI s) (hs : s < 2147483648) (hk : 0 < k) (hk2 : k < 100000) {Q : Int32 → vS → Prop} (hq : Q (nI (nxt s / 65536 % k)) (sf Y 8 (nI (nxt s)))) : e_X7_draw (nI k) Y Q := by
  unfold e_X7_draw
  rw [h, drM hs]
  intro S1 e1
  rw [e1]
  have e2 : (sf Y 8 (nI (nxt s))).1 8 = nI (nxt s) := rfl
  rw [e2, draw_val (nxt_lt s) hk hk2]
  exact ⟨nI_ne0 hk (by omega), hq⟩
abbrev dS : Type := vV × Nat × (Nat → Int32)
/-- what is done by draws -/
noncomputable def drA (cost : Int32) (D : dS) : dS :=
  if ¬ D.2.2 (nxt D.2.1 / 65536 % (D.1.1 2).toNat) < cost ∧ D.1.2 2 (nxt D.2.1 / 65536 % (D.1.1 2).toNat) < 9 then
    (vu D.1 2 (nxt D.2.1 / 65536 % (D.1.1 2).toNat) (D.1.2 2 (nxt D.2.1 / 65536 % (D.1.1 2).toNat) + 1), nxt D.2.1, upd D.2.2 (nxt D.2.1 / 65536 % (D.1.1 2).toNat) (D.2.2 (nxt D.2.1 / 65536 % (D.1.1 2).toNat) - cost))
  else (vu D.1 3 (nxt (nxt D.2.1) / 65536 % cN D.1) ((nxt (nxt (nxt D.2.1)) / 65536 % 10 : Nat) : Int), nxt (nxt (nxt D.2.1)), D.2.2)
noncomputable def drS (cost d : Int32) (D : dS) : dS := ((drA cost D).1, (drA cost D).2.1, fun j => (drA cost D).2.2 j + iI (sShare (drA cost D).1 (sFarN (drA cost D).1 d.toInt) j))
noncomputable def drK (cost d0 : Int32) (D0 : dS) : Nat → dS
  | 0 => D0
  | k + 1 => drS cost (d0 + nI k) (drK cost d0 D0 k)
theorem sameV_vu {v v2 : vV} (h : sameV v v2) {a k : Nat} {z : Int} (ha : a = 2 ∨ a = 3) : sameV v (vu v2 a k z) := by
  refine ⟨h.1, fun b b2 b3 => ?_⟩
  rw [← h.2 b b2 b3]
  funext j
  show (if b = a then (if j = k then z else v2.2 b j) else v2.2 b j) = v2.2 b j
  rw [if_neg (by omega)]
theorem okF_same {v v2 : vV} (h : okF v) (hs : sameV v v2) : okF v2 := by
  unfold okF
  rw [hs.1, hs.2 5 (by decide) (by decide), hs.2 6 (by decide) (by decide), hs.2 7 (by decide) (by decide)]
  exact h
/-- the class between two days -/
def dIC (C X : vS) (v : vV) (d : Int32) (D : dS) : Prop := agC C X ∧ sameV v D.1 ∧ okV D.1 ∧ shC X D.1 ∧ shFC X D.1 ∧ X.1 16 = d ∧ X.1 18 = nI D.2.1 ∧ D.2.1 < 2147483648 ∧ (∀ f : Nat, (f : Int) < D.1.1 2 → X.2.1 22 f = D.2.2 f) ∧ seesK (X.2.1 30) D.1 (sFarN D.1 d.toInt)
def dIM (M Y : vS) (v : vV) (d : Int32) (D : dS) : Prop := agM M Y ∧ sameV v D.1 ∧ okV D.1 ∧ shM Y D.1 ∧ shFM Y D.1 ∧ Y.1 7 = d ∧ Y.1 8 = nI D.2.1 ∧ D.2.1 < 2147483648 ∧ ∀ f : Nat, (f : Int) < D.1.1 2 → Y.2.1 7 f = D.2.2 f
theorem pC_act {C X : vS} {v : vV} (hw : okF v) {d : Int32} {D : dS} (hI : dIC C X v d D) (hn0 : 0 < v.1 2) (hc0 : 0 < cN D.1) {Q : vS → Prop} (hq : ∀ X2, dIC C X2 v d (drA (C.1 5) D) → Q X2) : e_X6_actByDraws X Q := by
  obtain ⟨i1, i2, i3, i4, i5, i6, i7, i8, i9, i10⟩ := hI
  have en : D.1.1 2 = v.1 2 := by rw [i2.1]
  have hn := i3.2.2.2.1
  have hwD := okF_same hw i2
  have h60 := cN_le i3
  have hn1 : 0 < (D.1.1 2).toNat := by omega
  have hfl : nxt D.2.1 / 65536 % (D.1.1 2).toNat < (D.1.1 2).toNat := Nat.mod_lt _ hn1
  unfold e_X6_actByDraws
  rw [i4.2.2.1, nI_of0 hn.1]
  refine pC_draw i7 i8 hn1 (by omega) ?_
  have hC5 : X.1 5 = C.1 5 := i1.1 5 (by decide) (by decide)
  have c72 : ¬ (¬ D.2.2 (nxt D.2.1 / 65536 % (D.1.1 2).toNat) < C.1 5 ∧ D.1.2 2 (nxt D.2.1 / 65536 % (D.1.1 2).toNat) < 9) → e_X6_actByDraws_72 Q (sf X 18 (nI (nxt D.2.1))) := by
    intro hno
    have hq2 := hq
    have hcl : nxt (nxt D.2.1) / 65536 % cN D.1 < cN D.1 := Nat.mod_lt _ hc0
    have htl : nxt (nxt (nxt D.2.1)) / 65536 % 10 < 10 := Nat.mod_lt _ (by decide)
    obtain ⟨k1, k2, k3, k4, k5⟩ := kxy i3 hcl
    unfold e_X6_actByDraws_72
    refine pC_cells (C := sf X 18 (nI (nxt D.2.1))) i4 i3 ?_
    refine pC_draw (s := nxt D.2.1) (sf_at _ _ _) (nxt_lt _) hc0 (by omega) ?_
    have e10 : (10 : Int32) = nI 10 := rfl
    rw [e10]
    refine pC_draw (s := nxt (nxt D.2.1)) (sf_at _ _ _) (nxt_lt _) (by omega) (by omega) ?_
    rw [cl_nI (by omega)]
    refine ⟨in_nI (by omega) (by omega), fun S17 e17 v18 e18 => ?_⟩
    generalize hc : nxt (nxt D.2.1) / 65536 % cN D.1 = c at hcl k1 k2 k3 k4 e17
    generalize ht : nxt (nxt (nxt D.2.1)) / 65536 % 10 = t at htl e17
    have f18 : v18 = nI (wN D.1) := by
      rw [e18, e17]
      show (if 1 < X.1 0 then X.1 0 else 1) = _
      rw [i4.1, nI_of0 i3.1.1]
      show (if (1 : Int32) < nI (wN D.1) then nI (wN D.1) else 1) = _
      have o : (1 : Int32) = nI 1 := rfl
      by_cases z : 1 < wN D.1
      · rw [if_pos (by rw [o]; exact (nI_ltI (by omega) (by omega)).mpr z)]
      · rw [if_neg (by rw [o]; exact fun q => z ((nI_ltI (by omega) (by omega)).mp q))]
        have : wN D.1 = 1 := by omega
        rw [this]
        rfl
    rw [f18, pk_rem (by omega) k3 (by omega), pk_div (by omega) k3 (by omega)]
    refine ⟨nI_ne0 k3 (by omega), ?_⟩
    have ecx : wN D.1 * (c / wN D.1) + c % wN D.1 = c := Nat.div_add_mod c (wN D.1)
    have hC1 : shC (sa (sf X 18 (nI (nxt (nxt (nxt D.2.1))))) 23 c (iI (t : Int))) (vu D.1 3 c t) := shC_stand (C := sf X 18 (nI (nxt (nxt (nxt D.2.1))))) i4 _ _
    have hv1 : okV (vu D.1 3 c (t : Int)) := okV_stand i3 (by omega) (by omega)
    have eS : S17 = sr (sa (sf X 18 (nI (nxt (nxt (nxt D.2.1))))) 23 c (iI (t : Int))) 30 (X.2.1 30) := by
      rw [e17]
      have e19 : (sf (sf (sf X 18 (nI (nxt D.2.1))) 18 (nI (nxt (nxt D.2.1)))) 18 (nI (nxt (nxt (nxt D.2.1))))) = sf X 18 (nI (nxt (nxt (nxt D.2.1)))) := by
        refine Prod.ext ?_ rfl
        funext j
        by_cases e : j = 18
        · subst e; rfl
        · simp [sf, e]
      rw [e19, iI_nat t]
      have : (sa (sf X 18 (nI (nxt (nxt (nxt D.2.1))))) 23 c (iI (t : Int))).2.1 30 = X.2.1 30 := rfl
      rw [← this, sr_self]
    rw [eS, iI_nat, iI_nat]
    have e16 : (sa (sf X 18 (nI (nxt (nxt (nxt D.2.1))))) 23 c (iI (t : Int))).1 16 = d := i6
    refine pC_lookOver (v0 := D.1) (zz := (t : Int)) hC1 i5 i3 hv1 hwD k1 k2 (by rw [ecx]) (by rw [e16, sFarN_3]; exact i10) (fun g2 hg2 => hq2 _ ?_)
    rw [e16] at hg2
    have eD : drA (C.1 5) D = (vu D.1 3 c (t : Int), nxt (nxt (nxt D.2.1)), D.2.2) := by
      unfold drA
      rw [if_neg hno, hc, ht]
    rw [eD]
    refine ⟨?_, sameV_vu i2 (Or.inr rfl), hv1, hC1, i5, i6, rfl, nxt_lt _, i9, hg2⟩
    exact agC_sr (agC_sr (agC_sf i1 (Or.inr rfl)) (by omega)) (by omega)
  have efN : (nxt D.2.1 / 65536 % (D.1.1 2).toNat : Nat) = nxt D.2.1 / 65536 % (D.1.1 2).toNat := rfl
  generalize hf : nxt D.2.1 / 65536 % (D.1.1 2).toNat = f at hfl c72
  have hfn : (f : Int) < D.1.1 2 := by omega
  have L9 : (9 : Int32) = iI 9 := rfl
  have b3 := (i3.2.2.2.2.2.2.1 f hfn).2.2
  have p1 : (sf X 18 (nI (nxt D.2.1))).2.1 22 f = D.2.2 f := i9 f hfn
  have p2 : (sf X 18 (nI (nxt D.2.1))).2.1 21 f = iI (D.1.2 2 f) := (i4.2.2.2.2.2.1 f hfn).2.2
  have p3 : (sf X 18 (nI (nxt D.2.1))).1 5 = C.1 5 := hC5
  rw [cl_nI (by omega), p1, p2, p3, L9, iI_le (sm_of (by decide) (by decide)) (sm_of (by omega) (by omega))]
  refine ⟨in_nI (by omega) (by omega), fun c => c72 (fun z => z.1 c), fun c => ⟨fun c2 => c72 (fun z => by omega), fun c2 => ?_⟩⟩
  have hyes : ¬ D.2.2 f < C.1 5 ∧ D.1.2 2 f < 9 := ⟨c, by omega⟩
  unfold e_X5_addStorey_now
  rw [cl_nI (by omega), p2, L1, iI_add]
  refine ⟨in_nI (by omega) (by omega), fun S2 e2 S3 e3 => ?_⟩
  have hC1 : shC (sa (sf X 18 (nI (nxt D.2.1))) 21 f (iI (D.1.2 2 f + 1))) (vu D.1 2 f (D.1.2 2 f + 1)) := shC_stor (C := sf X 18 (nI (nxt D.2.1))) i4 _ _
  have hv1 : okV (vu D.1 2 f (D.1.2 2 f + 1)) := okV_stor i3 (by omega) (by omega)
  have p4 : S2.2.1 22 f = D.2.2 f := by rw [e2]; exact p1
  rw [p4] at e3
  have hC3 : shC S3 (vu D.1 2 f (D.1.2 2 f + 1)) := by rw [e3, e2]; exact hC1
  have eS : S3 = sr S3 30 (X.2.1 30) := by
    have : S3.2.1 30 = X.2.1 30 := by rw [e3, e2]; rfl
    rw [← this, sr_self]
  have e16 : S3.1 16 = d := by rw [e3, e2]; exact i6
  have hf3 : shFC S3 (vu D.1 2 f (D.1.2 2 f + 1)) := by rw [e3, e2]; exact i5
  rw [eS, iI_nat]
  refine pC_lookBy1 (v0 := D.1) hC3 hf3 hv1 hwD hfn rfl (by rw [e16, sFarN_2]; exact i10) (fun g2 hg2 => hq _ ?_)
  rw [e16] at hg2
  have eD : drA (C.1 5) D = (vu D.1 2 f (D.1.2 2 f + 1), nxt D.2.1, upd D.2.2 f (D.2.2 f - C.1 5)) := by
    unfold drA
    rw [hf, if_pos hyes]
  rw [eD]
  refine ⟨?_, sameV_vu i2 (Or.inl rfl), hv1, hC3, hf3, e16, ?_, nxt_lt _, fun j hj => ?_, hg2⟩
  · rw [e3, e2]
    exact agC_sr (agC_sr (agC_sr (agC_sf i1 (Or.inr rfl)) (by omega)) (by omega)) (by omega)
  · rw [e3, e2]
    rfl
  · show S3.2.1 22 j = upd D.2.2 f (D.2.2 f - C.1 5) j
    rw [e3, sa_at]
    by_cases e : j = f
    · rw [e, pk_us, pk_us]
    · rw [pk_un e, pk_un e, e2]
      exact i9 j hj
theorem drA_ok {C M : vS} (cost : Int32) (D : dS) (v : vV) (hs : sameV v D.1) (h : okV D.1) (hn0 : 0 < v.1 2) : (drA cost D).2.1 < 2147483648 := by
  unfold drA
  split
  · exact nxt_lt _
  · exact nxt_lt _
section TT
variable {C M : vS}
theorem cN_same {v v2 : vV} (h : v2.1 = v.1) : cN v2 = cN v := by
  show (v2.1 0).toNat * (v2.1 1).toNat = _
  rw [h]
theorem t_drift (hR : Rel C M) (x : Int32) : e_X6_drift x C (fun r C1 => e_X7_drift x M (fun r2 M1 => r = r2 ∧ Rel C1 M1)) := by
  obtain ⟨v, hV⟩ := id hR
  obtain ⟨⟨hC, hM, hfC, hfM, hv, hw⟩, h2, h3, h4, h5, h6, h7⟩ := id hV
  have hn := hv.2.2.2.1
  have h60 := cN_le hv
  have q1 : x < 1 ↔ x.toInt < 1 := by rw [Int32.lt_iff_toInt_lt]; rfl
  have q2 : x ≤ 99 ↔ x.toInt ≤ 99 := by rw [Int32.le_iff_toInt_le]; rfl
  have z1 : (1 : Int64).toInt = 1 := rfl
  have z9 : (99 : Int64).toInt = 99 := rfl
  have mout : (x.toInt < 1 ∨ 99 < x.toInt) → e_X7_drift x M (fun r2 M1 => (-1000000002 : Int32) = r2 ∧ Rel C M1) := by
    intro ho
    unfold e_X7_drift
    refine p_in (fun a1 a2 => ?_) (fun _ => ⟨fun c => absurd rfl c, fun _ => ⟨rfl, hR⟩⟩)
    rw [iI_L, z1] at a1
    rw [iI_L, z9] at a2
    omega
  have hin : 1 ≤ x.toInt → x.toInt ≤ 99 → ∀ Q : Int32 → vS → Prop, ((¬ M.1 2 = 0 → ∃ j, e_X7_drift_28 Q j x 0 M) ∧ (M.1 2 = 0 → Q (-1000000003) M)) → e_X7_drift x M Q := by
    intro c1 c2 Q hQ
    unfold e_X7_drift
    refine p_in (fun _ _ => ⟨fun _ => hQ, fun c => absurd c (by decide)⟩) (fun a1 => ?_)
    rw [iI_L, z1, z9] at a1
    omega
  have eM : M.1 2 = 0 ↔ v.1 2 = 0 := by rw [hM.2.2.1, L0, iI_eq (sm_of (by omega) (by omega)) (sm_of (by decide) (by decide))]
  have eC : C.1 2 = 0 ↔ v.1 2 = 0 := by rw [hC.2.2.1, L0, iI_eq (sm_of (by omega) (by omega)) (sm_of (by decide) (by decide))]
  have ecc : cN v = 0 → v.1 2 = 0 := by
    intro z
    have z2 : wN v * dN v = 0 := z
    have ew := wN_eq hv
    have ed := dN_eq hv
    have a1 := hv.2.2.2.2.2.2.2.2.1
    have a2 := hv.2.2.2.2.2.2.2.2.2
    rcases Nat.mul_eq_zero.mp z2 with q | q
    · omega
    · omega
  unfold e_X6_drift
  rw [q1, q2]
  refine ⟨fun c => mout (by omega), fun c1 => ⟨fun c2 => ?_, fun c => mout (by omega)⟩⟩
  refine pC_cells hC hv ?_
  rw [nI_z (by omega), eC]
  refine ⟨fun c => hin (by omega) c2 _ ⟨fun z => absurd (eM.mpr (ecc c)) z, fun _ => ⟨rfl, hR⟩⟩, fun c => ⟨fun c3 => ?_, fun c3 => hin (by omega) c2 _ ⟨fun z => absurd (eM.mpr c3) z, fun _ => ⟨rfl, hR⟩⟩⟩⟩
  have hn0 : 0 < v.1 2 := by omega
  have hc0 : 0 < cN v := by omega
  obtain ⟨n, en, n1, n2⟩ : ∃ n : Nat, x = nI n ∧ 1 ≤ n ∧ n ≤ 99 := ⟨x.toInt.toNat, by rw [← nI_of0 (by omega)]; exact iI_of x, by omega, by omega⟩
  obtain ⟨s0, es0, hs0⟩ : ∃ s0 : Nat, M.1 8 = nI s0 ∧ s0 < 2147483648 := ⟨(M.1 8).toInt.toNat, by rw [← nI_of0 h2.2.2.2.1]; exact iI_of _, by have := (iI_sm (M.1 8)).2; omega⟩
  have es1 : C.1 18 = nI s0 := by rw [h2.2.2.1, es0]
  -- the reference
  have mdr : ∀ (X : vS), dIC C X v (C.1 16 + nI n) (drK (C.1 5) (C.1 16) (v, s0, C.2.1 22) n) → e_X7_drift x M (fun r2 M1 => X.1 16 = r2 ∧ Rel X M1) := by
    intro X hX
    obtain ⟨a1, a2, a3, a4, a5, a6, a7, a8, a9, a10⟩ := hX
    refine hin (by omega) c2 _ ⟨fun _ => ⟨n + 1, ?_⟩, fun z => absurd (eM.mp z) c3⟩
    rw [en]
    have loop : ∀ (r k : Nat), k + r = n → ∀ Y, dIM M Y v (C.1 16 + nI k) (drK (C.1 5) (C.1 16) (v, s0, C.2.1 22) k) → e_X7_drift_28 (fun r2 M1 => X.1 16 = r2 ∧ Rel X M1) (r + 1) (nI n) (nI k) Y := by
      intro r
      induction r with
      | zero =>
        intro k hk Y hY
        have ek : k = n := by omega
        subst ek
        obtain ⟨b1, b2, b3, b4, b5, b6, b7, b8, b9⟩ := hY
        rw [e_X7_drift_28.eq_2, nI_leI (by omega) (by omega)]
        refine ⟨fun _ => ⟨by rw [a6, b6], ?_⟩, fun c => absurd (by omega) c⟩
        exact rel_play hV a1 b1 a2 a4 b4 a3 (by rw [a6, b6]) (by rw [a7, b7]) (by rw [b7, iI_nat, iI_T ⟨by omega, by omega⟩]; omega) (fun f hf => by rw [a9 f hf, b9 f hf])
      | succ r ih =>
        intro k hk Y hY
        obtain ⟨b1, b2, b3, b4, b5, b6, b7, b8, b9⟩ := hY
        have hnext := ih (k + 1) (by omega)
        have eK : drK (C.1 5) (C.1 16) (v, s0, C.2.1 22) (k + 1) = drS (C.1 5) (C.1 16 + nI k) (drK (C.1 5) (C.1 16) (v, s0, C.2.1 22) k) := rfl
        rw [eK] at hnext
        generalize hD : drK (C.1 5) (C.1 16) (v, s0, C.2.1 22) k = D at b2 b3 b4 b5 b7 b8 b9 hnext
        have hnD := b3.2.2.2.1
        have enD : D.1.1 2 = v.1 2 := by rw [b2.1]
        have hwD := okF_same hw b2
        have hn1 : 0 < (D.1.1 2).toNat := by omega
        have hcD : 0 < cN D.1 := by rw [cN_same b2.1]; exact hc0
        have h60D := cN_le b3
        have hfl : nxt D.2.1 / 65536 % (D.1.1 2).toNat < (D.1.1 2).toNat := Nat.mod_lt _ hn1
        have hM5 : Y.1 5 = C.1 5 := by rw [b1.1 5 (by decide) (by decide)]; exact h2.1.symm
        rw [e_X7_drift_28.eq_2, nI_leI (by omega) (by omega), b4.2.2.1, nI_of0 hnD.1]
        refine ⟨fun c => absurd c (by omega), fun _ => ?_⟩
        refine pM_draw b7 b8 hn1 (by omega) ?_
        -- a day behind what was done
        have fin : ∀ (Z : vS) (u : Int32), agM M Z → sameV v (drA (C.1 5) D).1 → okV (drA (C.1 5) D).1 → shM Z (drA (C.1 5) D).1 → shFM Z (drA (C.1 5) D).1 → Z.1 7 = C.1 16 + nI k → Z.1 8 = nI (drA (C.1 5) D).2.1 → (drA (C.1 5) D).2.1 < 2147483648 → (∀ f : Nat, (f : Int) < (drA (C.1 5) D).1.1 2 → Z.2.1 7 f = (drA (C.1 5) D).2.2 f) → ∀ K : Int32 → Int32 → vS → Prop, (∀ Y2, dIM M Y2 v (C.1 16 + nI (k + 1)) (drS (C.1 5) (C.1 16 + nI k) D) → K (nI n) (nI (k + 1)) Y2) → e_X7_dayNow Z (fun S24 => ∀ v26 : Int32, v26 = nI k + 1 → K (nI n) v26 S24) := by
          intro Z u g1 g2 g3 g4 g5 g6 g7 g8 g9 K hK
          refine pM_dayNow g4 g5 g3 (okF_same hw g2) (fun p2 hp2 => ?_)
          intro v26 e26
          rw [e26, nI_1]
          refine hK _ ⟨agM_sf (agM_sr g1 (by omega)) (Or.inl rfl), g2, g3, g4, g5, ?_, g7, g8, fun f hf => ?_⟩
          · show Z.1 7 + 1 = _
            rw [g6, dnx]
          · show p2 f = _
            rw [hp2 f hf, g9 f hf, g6]
            rfl
        have c74 : ¬ (¬ D.2.2 (nxt D.2.1 / 65536 % (D.1.1 2).toNat) < C.1 5 ∧ D.1.2 2 (nxt D.2.1 / 65536 % (D.1.1 2).toNat) < 9) → ∀ K : Int32 → Int32 → vS → Prop, (∀ Y2, dIM M Y2 v (C.1 16 + nI (k + 1)) (drS (C.1 5) (C.1 16 + nI k) D) → K (nI n) (nI (k + 1)) Y2) → e_X7_drift_74 K (fun r2 M1 => X.1 16 = r2 ∧ Rel X M1) (nI n) (nI k) (sf Y 8 (nI (nxt D.2.1))) := by
          intro hno K hK
          have hcl : nxt (nxt D.2.1) / 65536 % cN D.1 < cN D.1 := Nat.mod_lt _ hcD
          have htl : nxt (nxt (nxt D.2.1)) / 65536 % 10 < 10 := Nat.mod_lt _ (by decide)
          have eD : drA (C.1 5) D = (vu D.1 3 (nxt (nxt D.2.1) / 65536 % cN D.1) ((nxt (nxt (nxt D.2.1)) / 65536 % 10 : Nat) : Int), nxt (nxt (nxt D.2.1)), D.2.2) := by
            unfold drA
            rw [if_neg hno]
          unfold e_X7_drift_74
          refine pM_cells (M := sf Y 8 (nI (nxt D.2.1))) b4 b3 ?_
          refine pM_draw (s := nxt D.2.1) (sf_at _ _ _) (nxt_lt _) hcD (by omega) ?_
          have e10 : (10 : Int32) = nI 10 := rfl
          rw [e10]
          refine pM_draw (s := nxt (nxt D.2.1)) (sf_at _ _ _) (nxt_lt _) (by omega) (by omega) ?_
          rw [cl_nI (by omega)]
          refine ⟨in_nI (by omega) (by omega), fun S23 e23 => ?_⟩
          have e19 : (sf (sf (sf Y 8 (nI (nxt D.2.1))) 8 (nI (nxt (nxt D.2.1)))) 8 (nI (nxt (nxt (nxt D.2.1))))) = sf Y 8 (nI (nxt (nxt (nxt D.2.1)))) := by
            refine Prod.ext ?_ rfl
            funext j
            by_cases e : j = 8
            · subst e; rfl
            · simp [sf, e]
          rw [e19, iI_nat] at e23
          have hM1 : shM S23 (vu D.1 3 (nxt (nxt D.2.1) / 65536 % cN D.1) ((nxt (nxt (nxt D.2.1)) / 65536 % 10 : Nat) : Int)) := by
            rw [e23]
            exact shM_stand (M := sf Y 8 (nI (nxt (nxt (nxt D.2.1))))) b4 _ _
          refine fin S23 0 ?_ ?_ ?_ ?_ ?_ ?_ ?_ ?_ ?_ K hK
          · rw [e23]
            exact agM_sr (agM_sf b1 (Or.inr rfl)) (by omega)
          · rw [eD]; exact sameV_vu b2 (Or.inr rfl)
          · rw [eD]; exact okV_stand b3 (by omega) (by omega)
          · rw [eD]; exact hM1
          · rw [eD, e23]; exact b5
          · rw [e23]; exact b6
          · rw [eD, e23]; rfl
          · rw [eD]; exact nxt_lt _
          · rw [eD, e23]; exact b9
        generalize hf : nxt D.2.1 / 65536 % (D.1.1 2).toNat = f at hfl c74
        have hfn : (f : Int) < D.1.1 2 := by omega
        have L9 : (9 : Int32) = iI 9 := rfl
        have b33 := (b3.2.2.2.2.2.2.1 f hfn).2.2
        have p1 : (sf Y 8 (nI (nxt D.2.1))).2.1 7 f = D.2.2 f := b9 f hfn
        have p2 : (sf Y 8 (nI (nxt D.2.1))).2.1 6 f = iI (D.1.2 2 f) := (b4.2.2.2.2.2.1 f hfn).2.2
        have p3 : (sf Y 8 (nI (nxt D.2.1))).1 5 = C.1 5 := hM5
        rw [cl_nI (by omega), p1, p2, p3, L9, iI_le (sm_of (by decide) (by decide)) (sm_of (by omega) (by omega))]
        refine ⟨in_nI (by omega) (by omega), fun c => c74 (fun z => z.1 c) _ hnext, fun c => ⟨fun c2 => c74 (fun z => by omega) _ hnext, fun c2 => ?_⟩⟩
        have hyes : ¬ D.2.2 f < C.1 5 ∧ D.1.2 2 f < 9 := ⟨c, by omega⟩
        have eD : drA (C.1 5) D = (vu D.1 2 f (D.1.2 2 f + 1), nxt D.2.1, upd D.2.2 f (D.2.2 f - C.1 5)) := by
          unfold drA
          rw [hf, if_pos hyes]
        unfold e_X7_buildNow
        rw [cl_nI (by omega), p2, L1, iI_add]
        refine ⟨in_nI (by omega) (by omega), fun S2 e2 S3 e3 => ?_⟩
        have p4 : S2.2.1 7 f = D.2.2 f := by rw [e2]; exact p1
        have p5 : S2.1 5 = C.1 5 := by rw [e2]; exact p3
        rw [p4, p5] at e3
        refine fin S3 0 ?_ ?_ ?_ ?_ ?_ ?_ ?_ ?_ ?_ _ hnext
        · rw [e3, e2]
          exact agM_sr (agM_sr (agM_sf b1 (Or.inr rfl)) (by omega)) (by omega)
        · rw [eD]; exact sameV_vu b2 (Or.inl rfl)
        · rw [eD]; exact okV_stor b3 (by omega) (by omega)
        · rw [eD, e3, e2]; exact shM_stor (M := sf Y 8 (nI (nxt D.2.1))) b4 _ _
        · rw [eD, e3, e2]; exact b5
        · rw [e3, e2]; exact b6
        · rw [eD, e3, e2]; rfl
        · rw [eD]; exact nxt_lt _
        · rw [eD]
          intro j hj
          show S3.2.1 7 j = upd D.2.2 f (D.2.2 f - C.1 5) j
          rw [e3, sa_at]
          by_cases e : j = f
          · rw [e, pk_us, pk_us]
          · rw [pk_un e, pk_un e, e2]
            exact b9 j hj
    refine loop n 0 (by omega) M ⟨⟨fun _ _ _ => rfl, fun _ _ _ _ => rfl⟩, ⟨rfl, fun _ _ _ => rfl⟩, hv, hM, hfM, ?_, es0, hs0, fun f hf => (h2.2.2.2.2 f hf).symm⟩
    rw [nI_0, Int32.add_zero]
    exact h2.2.1.symm
  -- the class
  refine pC_lookAll hC hfC hv hw (fun g hg => ⟨n + 1, ?_⟩)
  rw [en]
  rw [en] at mdr
  generalize hQ : (fun (r : Int32) (C1 : vS) => e_X7_drift (nI n) M (fun r2 M1 => r = r2 ∧ Rel C1 M1)) = QQ
  have fin : ∀ (X : vS), dIC C X v (C.1 16 + nI n) (drK (C.1 5) (C.1 16) (v, s0, C.2.1 22) n) → QQ (X.1 16) X := by
    intro X hX
    rw [← hQ]
    exact mdr X hX
  have loop : ∀ (r k : Nat), k + r = n → ∀ X, dIC C X v (C.1 16 + nI k) (drK (C.1 5) (C.1 16) (v, s0, C.2.1 22) k) → e_X6_drift_46 QQ (r + 1) (nI n) (nI k) X := by
    intro r
    induction r with
    | zero =>
      intro k hk X hX
      have ek : k = n := by omega
      subst ek
      rw [e_X6_drift_46.eq_2, nI_leI (by omega) (by omega)]
      exact ⟨fun _ => fin X hX, fun c => absurd (by omega) c⟩
    | succ r ih =>
      intro k hk X hX
      rw [e_X6_drift_46.eq_2, nI_leI (by omega) (by omega)]
      refine ⟨fun c => absurd c (by omega), fun _ => ?_⟩
      have hcD : 0 < cN (drK (C.1 5) (C.1 16) (v, s0, C.2.1 22) k).1 := by rw [cN_same hX.2.1.1]; exact hc0
      refine pC_act hw hX hn0 hcD (fun X2 hX2 => ?_)
      obtain ⟨i1, i2, i3, i4, i5, i6, i7, i8, i9, i10⟩ := hX2
      have hnext := ih (k + 1) (by omega)
      have eK : drK (C.1 5) (C.1 16) (v, s0, C.2.1 22) (k + 1) = drS (C.1 5) (C.1 16 + nI k) (drK (C.1 5) (C.1 16) (v, s0, C.2.1 22) k) := rfl
      rw [eK] at hnext
      generalize hD : drK (C.1 5) (C.1 16) (v, s0, C.2.1 22) k = D at i2 i3 i4 i5 i7 i8 i9 i10 hnext
      have hwE := okF_same hw i2
      have hnE := i3.2.2.2.1
      refine pC_countShares (Y := X2) (far := sFarN (drA (C.1 5) D).1 (C.1 16 + nI k).toInt) i4 i3 i10 (fun h1 hh1 => ?_)
      refine pC_earn (fun p2 hp2 => ?_)
      have e16 : (sr (sr X2 31 h1) 22 p2).1 16 = C.1 16 + nI k := i6
      have ed : (sr (sr X2 31 h1) 22 p2).1 16 + 1 = C.1 16 + nI (k + 1) := by rw [e16, dnx]
      have ag1 : agC C (sf (sr (sr X2 31 h1) 22 p2) 16 ((sr (sr X2 31 h1) 22 p2).1 16 + 1)) := agC_sf (agC_sr (agC_sr i1 (by omega)) (by omega)) (Or.inl rfl)
      have hpn : ∀ f : Nat, (f : Int) < (drA (C.1 5) D).1.1 2 → p2 f = (drS (C.1 5) (C.1 16 + nI k) D).2.2 f := by
        intro f hf
        have q := hp2 f (by omega)
        rw [q]
        show X2.2.1 22 f + h1 f = _
        rw [i9 f hf, hh1 f hf]
        rfl
      refine pC_turn (Y := sr (sr X2 31 h1) 22 p2) i4 i5 i3 hwE (fun hsame => ?_) (fun g2 hg2 => ?_)
      · intro u hu
        rw [hu, nI_1]
        rw [ed, e16] at hsame
        refine hnext _ ⟨ag1, i2, i3, i4, i5, ed, i7, i8, hpn, ?_⟩
        show seesK (X2.2.1 30) (drA (C.1 5) D).1 (sFarN (drA (C.1 5) D).1 (C.1 16 + nI (k + 1)).toInt)
        rw [hsame]
        exact i10
      · intro u hu
        rw [hu, nI_1]
        rw [ed] at hg2
        exact hnext _ ⟨agC_sr ag1 (by omega), i2, i3, i4, i5, ed, i7, i8, hpn, hg2⟩
  have e00 : C.1 16 + nI 0 = C.1 16 := by rw [nI_0, Int32.add_zero]
  refine loop n 0 (by omega) _ ⟨agC_sr ⟨fun _ _ _ => rfl, fun _ _ _ _ _ _ => rfl⟩ (by omega), ⟨rfl, fun _ _ _ => rfl⟩, hv, hC, hfC, e00.symm, es1, hs0, fun f hf => rfl, ?_⟩
  rw [e00]
  exact hg
end TT
