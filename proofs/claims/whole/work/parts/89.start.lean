/-! ===== the law, from its entry ===== -/
def tmS (k : Nat) : Term := .string "SeenWaters$Reader" (([138, 140, 142, 144, 145, 147] : List Nat).getD k 0)
set_option maxRecDepth 100000 in
set_option maxHeartbeats 4000000 in
theorem law_str {s : State} {b : Nat} {A : Nat → Prop} (hgv : (Jvm.Cond.and given_1 narrow_1).before #[Value.ref b] s = true) (hA : ∀ a : Nat, a < s.heap.size → ¬ A a) : ∃ adK adV : Nat → Nat, vk_S 6 vLen vByt adK adV A s s.heap ∧ ∀ k : Nat, k < 6 → (tmS k).eval #[Value.ref b] s none [] s = some (.ref (adK k)) := by
  have hs := flat_of_before _ hgv
  have six : ∀ k : Nat, k < 6 → k = 0 ∨ k = 1 ∨ k = 2 ∨ k = 3 ∨ k = 4 ∨ k = 5 := fun k hk => by omega
  refine vk_Sof (args := #[Value.ref b]) (tm := tmS) (by decide) (fun k hk => ?_) (fun k hk => ?_) (fun k hk => ?_) (fun k hk => ?_) (fun k hk j hj => ?_) (fun k j hk hj hkj => ?_) hA
  · rcases six k hk with rfl | rfl | rfl | rfl | rfl | rfl <;> exact hs _ (by decide +kernel)
  · rcases six k hk with rfl | rfl | rfl | rfl | rfl | rfl <;> exact hs _ (by decide +kernel)
  · rcases six k hk with rfl | rfl | rfl | rfl | rfl | rfl <;> exact hs _ (by decide +kernel)
  · rcases six k hk with rfl | rfl | rfl | rfl | rfl | rfl <;> exact hs _ (by decide +kernel)
  · rcases six k hk with rfl | rfl | rfl | rfl | rfl | rfl
    · have hj : j < 4 := hj
      rcases (show j = 0 ∨ j = 1 ∨ j = 2 ∨ j = 3 by omega) with rfl | rfl | rfl | rfl <;> exact hs _ (by decide +kernel)
    · have hj : j < 4 := hj
      rcases (show j = 0 ∨ j = 1 ∨ j = 2 ∨ j = 3 by omega) with rfl | rfl | rfl | rfl <;> exact hs _ (by decide +kernel)
    · have hj : j < 5 := hj
      rcases (show j = 0 ∨ j = 1 ∨ j = 2 ∨ j = 3 ∨ j = 4 by omega) with rfl | rfl | rfl | rfl | rfl <;> exact hs _ (by decide +kernel)
    · have hj : j < 4 := hj
      rcases (show j = 0 ∨ j = 1 ∨ j = 2 ∨ j = 3 by omega) with rfl | rfl | rfl | rfl <;> exact hs _ (by decide +kernel)
    · have hj : j < 4 := hj
      rcases (show j = 0 ∨ j = 1 ∨ j = 2 ∨ j = 3 by omega) with rfl | rfl | rfl | rfl <;> exact hs _ (by decide +kernel)
    · have hj : j < 6 := hj
      rcases (show j = 0 ∨ j = 1 ∨ j = 2 ∨ j = 3 ∨ j = 4 ∨ j = 5 by omega) with rfl | rfl | rfl | rfl | rfl | rfl <;> exact hs _ (by decide +kernel)
  · have key : ∀ k j : Nat, k < 6 → j < 6 → k < j → (Cond.not (Cond.eq (tmS k) (tmS j))).before #[Value.ref b] s = true := by
      intro k j hk hj h
      rcases six k hk with rfl | rfl | rfl | rfl | rfl | rfl <;> rcases six j hj with rfl | rfl | rfl | rfl | rfl | rfl <;> first | omega | exact hs _ (by decide +kernel)
    rcases Nat.lt_or_gt_of_ne hkj with h | h
    · exact Or.inl (key k j hk hj h)
    · exact Or.inr (key j k hj hk h)
set_option maxRecDepth 100000 in
set_option maxHeartbeats 4000000 in
theorem whole_start {p : Program} {e : Env} {s : State} {m : MethodId} {below : List Frame} {meth : Method} {c : Code} (l : Launch) {b L : Nat} {xs : Nat → Int32} (hL : L ≤ 3072) (C0 : lw_At p s m meth c b L xs) : W p l e room_1 s m #[Value.ref b] below meth c s.heap [] 0 0 (lw_Z below #[Value.ref b] s) (entryFrame m ([Value.ref b] : List Value).toArray 4) := by
  obtain ⟨hx, hb, hr, hml, hown, hts, hX, hbl, hlocks, hgv⟩ := id C0
  have hs := flat_of_before _ hgv
  have hA : ∀ q : Nat, s.heap.size ≤ q → (fun q : Nat => s.heap.size ≤ q) q := fun _ h => h
  have hbA : ¬ (fun q : Nat => s.heap.size ≤ q) b := Nat.not_le.mpr hbl
  have hA2 : ∀ a : Nat, a < s.heap.size → ¬ (fun q : Nat => s.heap.size ≤ q) a := fun a h => Nat.not_le.mpr h
  have wts : ∀ w ∈ wsL_law, w.before #[Value.ref b] s = true := fun w h => hts w (lin_all w h)
  obtain ⟨c0, i0, k0⟩ := u_known (C := RX0) (T := TX0) (N := 5) (n := 5) wts inlX0 (wts (.instantiable RX0 5) (by decide +kernel))
  obtain ⟨c1, i1, k1⟩ := u_known (C := RX1) (T := TX1) (N := 4) (n := 4) wts inlX1 (wts (.instantiable RX1 4) (by decide +kernel))
  obtain ⟨c2, i2, k2⟩ := u_known (C := RX2) (T := TX2) (N := 14) (n := 14) wts inlX2 (wts (.instantiable RX2 14) (by decide +kernel))
  obtain ⟨c3, i3, k3⟩ := u_known (C := RX3) (T := TX3) (N := 9) (n := 9) wts inlX3 (wts (.instantiable RX3 9) (by decide +kernel))
  obtain ⟨c4, i4, k4⟩ := u_known (C := RX4) (T := TX4) (N := 8) (n := 8) wts inlX4 (wts (.instantiable RX4 8) (by decide +kernel))
  obtain ⟨c5, i5, k5⟩ := u_known (C := RX5) (T := TX5) (N := 7) (n := 7) wts inlX5 (wts (.instantiable RX5 7) (by decide +kernel))
  obtain ⟨c6, i6, k6⟩ := u_known (C := RX6) (T := TX6) (N := 8) (n := 8) wts inlX6 (wts (.instantiable RX6 8) (by decide +kernel))
  obtain ⟨c7, i7, k7⟩ := u_known (C := RX7) (T := TX7) (N := 48) (n := 48) wts inlX7 (wts (.instantiable RX7 48) (by decide +kernel))
  obtain ⟨adK, adV, hS6, hev⟩ := law_str (A := fun q : Nat => s.heap.size ≤ q) hgv hA2
  obtain ⟨a0, b0, e0, f0, g0, h0⟩ := Cond.arrayClass_spec (wts (.arrayClass .int) (by decide +kernel))
  obtain ⟨a1, b1, e1, f1, g1, h1⟩ := Cond.arrayClass_spec (wts (.arrayClass .byte) (by decide +kernel))
  obtain ⟨a2, b2, e2, f2, g2, h2⟩ := Cond.arrayClass_spec (wts (.arrayClass .boolean) (by decide +kernel))
  have hAO : va_AO "SeenWaters$State" s := va_AO.of (hts (.arrayOver (.object "SeenWaters$State")) (by decide +kernel))
  obtain ⟨e3, a3, b3, f3, -, g3, h3, r3⟩ := Cond.arrayOver_spec hAO
  obtain ⟨D, hD0⟩ : ∃ D : va_G, D = (fun k => if k = 0 then c0 else if k = 1 then c1 else if k = 2 then c2 else if k = 3 then c3 else if k = 4 then c4 else if k = 5 then c5 else if k = 6 then c6 else c7, fun k => if k = 0 then i0 else if k = 1 then i1 else if k = 2 then i2 else if k = 3 then i3 else if k = 4 then i4 else if k = 5 then i5 else if k = 6 then i6 else if k = 7 then i7 else if k = 100 then adK else adV) := ⟨_, rfl⟩
  obtain ⟨i, hi⟩ : ∃ i : Nat → ClassId, i = fun k => if k = 0 then a0 else if k = 1 then a1 else if k = 2 then a2 else a3 := ⟨_, rfl⟩
  have hK : va_K D vwCl (vT i) s := by
    subst hD0
    subst hi
    refine ⟨fun k q hq => ?_, fun k q hq => ?_⟩
    · match k, hq with
      | 0, hq => cases hq; exact k0
      | 1, hq => cases hq; exact k1
      | 2, hq => cases hq; exact k2
      | 3, hq => cases hq; exact k3
      | 4, hq => cases hq; exact k4
      | 5, hq => cases hq; exact k5
      | 6, hq => cases hq; exact k6
      | 7, hq => cases hq; exact k7
      | k + 8, hq => simp [vwCl] at hq
    · match k, hq with
      | 0, hq => cases hq; exact ⟨fun n z => ⟨fun k h => (by cases h), b0, g0, e0, h0⟩, f0⟩
      | 1, hq => cases hq; exact ⟨fun n z => ⟨fun k h => (by cases h), b1, g1, e1, h1⟩, f1⟩
      | 2, hq => cases hq; exact ⟨fun n z => ⟨fun k h => (by cases h), b2, g2, e2, h2⟩, f2⟩
      | 3, hq => cases hq; exact ⟨fun n z => ⟨fun k h => (by cases h), b3, g3, e3, h3⟩, b3, e3, g3, h3, f3, r3⟩
      | k + 4, hq => simp [vT] at hq
  have hE : vE D (fun q : Nat => s.heap.size ≤ q) s := by
    subst hD0
    refine ⟨⟨vk_R.of (hts (.stringRef RX3 138 "lake") (by decide +kernel)) (hev 0 (by decide)), vk_R.of (hts (.stringRef RX3 140 "door") (by decide +kernel)) (hev 1 (by decide)), vk_R.of (hts (.stringRef RX3 142 "stand") (by decide +kernel)) (hev 2 (by decide)), vk_R.of (hts (.stringRef RX3 144 "fish") (by decide +kernel)) (hev 3 (by decide)), vk_R.of (hts (.stringRef RX3 145 "mist") (by decide +kernel)) (hev 4 (by decide)), vk_R.of (hts (.stringRef RX3 147 "storey") (by decide +kernel)) (hev 5 (by decide))⟩, hS6, ?_, ?_⟩
    · exact va_Zof (hts (.laysStatic "java/lang/String" "COMPACT_STRINGS" "Z") (by decide +kernel)) (hts (.initialized "java/lang/String") (by decide +kernel)) (va_eqi (hs _ (by decide +kernel))) hA2
    · exact va_Zqof (hts (.laysStatic "jdk/internal/util/Preconditions" "SIOOBE_FORMATTER" "Ljava/util/function/BiFunction;") (by decide +kernel)) (hts (.initialized "jdk/internal/util/Preconditions") (by decide +kernel)) (hs _ (by decide +kernel)) hA2
  have n1 : va_Nw nw1 s := va_Nw.of rfl (hts nw1 (by decide +kernel))
  have n2 : va_Nw nw2 s := va_Nw.of rfl (hts nw2 (by decide +kernel))
  have hnx : nx s := ⟨hAO, va_Nw.of rfl (hts (.methodLinkNest RX6 18 yX3_init RX6) (by decide +kernel)), va_Nw.of rfl (hts (.methodLinkNest RX6 25 yX5_init RX6) (by decide +kernel)), va_Nw.of rfl (hts (.methodLinkNest RX6 45 yX1_init RX6) (by decide +kernel)), va_Nw.of rfl (hts (.methodLinkNest RX6 52 yX0_init RX6) (by decide +kernel))⟩
  have X : cX D i (fun q : Nat => s.heap.size ≤ q) p s m #[Value.ref b] meth c cL_law RL 4 wsL_law ret := ⟨hx, hb, hml, hown, wts, hr, hlocks, hK, n1, n2, hE⟩
  have go : cG D (fun q : Nat => s.heap.size ≤ q) p l e room_1 s m #[Value.ref b] below meth c (lw_Z below #[Value.ref b] s) 4 0 0 [] [(0, .ref b)] 0 [] := by
    refine g_new (ci := 6) (fs := [.null, .null, .null, .null, .null, .null, .null, .null]) X hA rfl tyX6 tyX6_ok inlX6 (by decide +kernel) (fun j hj => by rcases (show j = 0 ∨ j = 1 ∨ j = 2 ∨ j = 3 ∨ j = 4 ∨ j = 5 ∨ j = 6 ∨ j = 7 by omega) with rfl | rfl | rfl | rfl | rfl | rfl | rfl | rfl <;> rfl) (Nat.le_of_ble_eq_true rfl) (Nat.le_of_ble_eq_true rfl) dL_law_0 (fun o1 => ?_)
    refine g_dup X rfl dL_law_3 ?_
    refine g_I (st := [.ref o1]) (wr := []) X hA hnx [] [0] [] rfl rfl rfl (by decide) (by decide) (by decide) (n_X6 l D i o1) (cwI 0 X.ts gL_law_X6_init rfl rfl rfl (X.ts _ (by decide +kernel)) (X.ts _ (by decide +kernel)) (X.ts _ (by decide +kernel)) rfl (by decide +kernel) ⟨(Nat.le_of_ble_eq_true rfl), (Nat.le_of_ble_eq_true rfl)⟩) rfl rfl (Nat.le_of_ble_eq_true rfl) dL_law_4 ⟨(Nat.le_of_ble_eq_true rfl), (Nat.le_of_ble_eq_true rfl)⟩ (fun u hu => ?_)
    obtain ⟨qc, S⟩ := u
    obtain ⟨hu0, P, Rr, hP, hRr, hSS⟩ := hu
    have hu0 : qc 0 = o1 := hu0
    have hSS : S = cS0 P Rr := hSS
    subst hu0
    refine g_astore_n (lv' := [(1, .ref (qc 0)), (0, .ref b)]) X rfl (by decide) rfl dL_law_7 ?_
    refine g_new (ci := 7) (fs := [.int 0, .int 0, .int 0, .null, .null, .null, .null, .null, .int 0, .null, .int 0, .int 0, .int 0, .int 0, .null, .null, .null, .int 0, .null, .int 0, .int 0, .int 0, .long 0, .int 0, .int 0, .int 0, .int 0, .int 0, .int 0, .null, .null, .null, .int 0, .null, .int 0, .null, .int 0, .null, .int 0, .int 0, .null, .null, .int 0, .null, .null, .null, .null, .null]) X hA rfl tyX7 tyX7_ok inlX7 (by decide +kernel) (fun j hj => by rcases (show j = 0 ∨ j = 1 ∨ j = 2 ∨ j = 3 ∨ j = 4 ∨ j = 5 ∨ j = 6 ∨ j = 7 ∨ j = 8 ∨ j = 9 ∨ j = 10 ∨ j = 11 ∨ j = 12 ∨ j = 13 ∨ j = 14 ∨ j = 15 ∨ j = 16 ∨ j = 17 ∨ j = 18 ∨ j = 19 ∨ j = 20 ∨ j = 21 ∨ j = 22 ∨ j = 23 ∨ j = 24 ∨ j = 25 ∨ j = 26 ∨ j = 27 ∨ j = 28 ∨ j = 29 ∨ j = 30 ∨ j = 31 ∨ j = 32 ∨ j = 33 ∨ j = 34 ∨ j = 35 ∨ j = 36 ∨ j = 37 ∨ j = 38 ∨ j = 39 ∨ j = 40 ∨ j = 41 ∨ j = 42 ∨ j = 43 ∨ j = 44 ∨ j = 45 ∨ j = 46 ∨ j = 47 by omega) with rfl | rfl | rfl | rfl | rfl | rfl | rfl | rfl | rfl | rfl | rfl | rfl | rfl | rfl | rfl | rfl | rfl | rfl | rfl | rfl | rfl | rfl | rfl | rfl | rfl | rfl | rfl | rfl | rfl | rfl | rfl | rfl | rfl | rfl | rfl | rfl | rfl | rfl | rfl | rfl | rfl | rfl | rfl | rfl | rfl | rfl | rfl | rfl <;> rfl) (Nat.le_of_ble_eq_true rfl) (Nat.le_of_ble_eq_true rfl) dL_law_8 (fun o2 => ?_)
    refine g_dup X rfl dL_law_11 ?_
    refine g_I (st := [.ref o2]) (wr := wC qc i S) X hA hnx [] [48] [0, 1, 2, 3, 4, 5, 6, 7, 8, 9, 10, 11, 12, 13, 14, 15, 16, 17, 18, 19, 20, 21, 22, 23, 24, 25, 26, 27, 28, 29, 30, 31, 32, 33, 34, 35, 36, 37, 38, 39, 40, 41, 42, 43, 44, 45, 46, 47] rfl rfl rfl (by decide) (by decide) (by decide) (n_X7 l D i o2) (cwI 0 X.ts gL_law_X7_init rfl rfl rfl (X.ts _ (by decide +kernel)) (X.ts _ (by decide +kernel)) (X.ts _ (by decide +kernel)) rfl (by decide +kernel) ⟨(Nat.le_of_ble_eq_true rfl), (Nat.le_of_ble_eq_true rfl)⟩) rfl rfl (Nat.le_of_ble_eq_true rfl) dL_law_12 ⟨(Nat.le_of_ble_eq_true rfl), (Nat.le_of_ble_eq_true rfl)⟩ (fun u2 hu2 => ?_)
    subst hu2
    refine g_astore_n (lv' := [(2, .ref (u2 0)), (1, .ref (qc 0)), (0, .ref b)]) X rfl (by decide) rfl dL_law_15 ?_
    refine g_iconst (v := (0 : Int32)) X (by decide) dL_law_16 ?_
    refine g_istore_n (lv' := [(3, .int (nI 0)), (2, .ref (u2 0)), (1, .ref (qc 0)), (0, .ref b)]) X rfl (by decide) rfl dL_law_17 ?_
    exact law_loop X hA (fun _ h => h) ⟨(Nat.le_of_ble_eq_true rfl), (Nat.le_of_ble_eq_true rfl)⟩ hX hbl hbA hL (L + 1) 0 S mS0 (by omega) (Nat.zero_le L) (by rw [hSS]; exact rel0 hP)
  rw [lg_entry_eq]
  exact go s.heap [] _ (fun k q h => by simp at h) ⟨fun i j p q h => by simp at h, fun k q h => by simp at h⟩ va_S.rf (lv_entry [.ref b] (n := 4) (Nat.le_of_ble_eq_true rfl))
