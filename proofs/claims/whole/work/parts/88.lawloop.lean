/-! ===== the law: its loop, its start ===== -/
section LL
variable {D : va_G} {i : Nat → ClassId} {A : Nat → Prop} {p : Program} {l : Launch} {e : Env} {s : State} {m : MethodId} {below : List Frame} {meth : Method} {c : Code} {nc ns b L j : Nat} {xs : Nat → Int32} {q q2 : Nat → Nat} {C M : vS}
set_option maxRecDepth 100000 in
set_option maxHeartbeats 4000000 in
theorem law_loop (X : cX D i A p s m #[Value.ref b] meth c cL_law RL 4 wsL_law ret) (hA : ∀ q : Nat, s.heap.size ≤ q → A q) (hAs : ∀ q : Nat, A q → s.heap.size ≤ q) (hf : nc ≤ room_1.cells ∧ ns ≤ room_1.slots) (hX : va_X b L xs s s.heap) (hbl : b < s.heap.size) (hbA : ¬ A b) (hL : L ≤ 3072) : ∀ (n j : Nat) (C M : vS), L < j + n → j ≤ L → Rel C M → cG D A p l e room_1 s m #[Value.ref b] below meth c (lw_Z below #[Value.ref b] s) 4 nc ns (wC q i C ++ wM q2 i M) [(3, .int (nI j)), (2, .ref (q2 0)), (1, .ref (q 0)), (0, .ref b)] 18 [] := by
  intro n
  induction n with
  | zero => intro j C M h1 h2; omega
  | succ n ih =>
    intro j C M h1 h2 hR
    refine g_iload_n X rfl 0 rfl dL_law_18 ?_
    refine g_aload_n X rfl 3 rfl dL_law_19 ?_
    refine g_slen X hX hbl hbA dL_law_20 ?_
    refine g_bipush (v := (6 : Int32)) X (by decide) dL_law_21 ?_
    refine g_isub X dL_law_23 ?_
    have ey : Int32.ofNat L - (6 : Int32) < nI j ↔ (L : Int) - 6 < j := by
      have e1 : Int32.ofNat L = iI L := iI_nat L
      rw [e1, show (6 : Int32) = iI 6 from rfl, iI_sub, iI_nat, iI_lt (sm_of (by omega) (by omega)) (sm_of (by omega) (by omega))]
    refine g_icmp_gt (tgt := 1000) X dL_law_24 (by decide) (fun c1 => ?_) (fun c1 => ?_)
    · refine g_iconst (v := (1 : Int32)) X (by decide) dL_law_1000 ?_
      intro H locs ls hP hD hS hl
      refine va_forget (fun q hq => hAs _ (hS.2.2 q hq)) ?_
      refine W.widen hf.1 hf.2 ?_
      exact lw_ret X.1 X.2.1 X.2.2.2.2.2.1 X.2.2.2.2.2.2.1 dL_law_1001
    · rw [ey] at c1
      have hj6 : j + 6 ≤ L := by omega
      have h5 : ∀ n : Nat, n ≤ 5 → vp_in (nI j + Int32.ofNat n) L := by
        intro n hn
        have e : nI j + Int32.ofNat n = nI (j + n) := by
          have : Int32.ofNat n = nI n := rfl
          rw [this, iI_nat, iI_nat, iI_nat, iI_add]
          rfl
        rw [e]
        exact in_nI (by omega) (by omega)
      have next : ∀ C1 M1, Rel C1 M1 → cG D A p l e room_1 s m #[Value.ref b] below meth c (lw_Z below #[Value.ref b] s) 4 nc ns (wC q i C1 ++ wM q2 i M1) [(3, .int (nI j)), (2, .ref (q2 0)), (1, .ref (q 0)), (0, .ref b)] 994 [] := by
        intro C1 M1 h
        refine g_iinc (dv := (6 : Int32)) (lv' := fun v => [(3, .int v), (2, .ref (q2 0)), (1, .ref (q 0)), (0, .ref b)]) X dL_law_994 (pl := 0) rfl (by decide) (by decide) (fun _ => rfl) (fun v ev => ?_)
        refine g_goto (tgt := 18) X dL_law_997 (by decide) ?_
        have e6 : v = nI (j + 6) := by
          rw [ev, show (6 : Int32) = nI 6 from rfl, iI_nat, iI_nat, iI_nat, iI_add]
          rfl
        rw [e6]
        exact ih (j + 6) C1 M1 (by omega) hj6 h
      refine g_aload_n X rfl 3 rfl dL_law_27 ?_
      refine g_iload_n X rfl 0 rfl dL_law_28 ?_
      refine g_sld X hX hbl hbA (in_nI (by omega) (by omega)) dL_law_29 ?_
      refine g_bipush (v := (31 : Int32)) X (by decide) dL_law_30 ?_
      refine g_iand X dL_law_32 ?_
      generalize xs (nI j).toNatClampNeg &&& 31 = w
      rcases (show (w.toInt < 0 ∨ 27 < w.toInt) ∨ w.toInt = 0 ∨ w.toInt = 1 ∨ w.toInt = 2 ∨ w.toInt = 3 ∨ w.toInt = 4 ∨ w.toInt = 5 ∨ w.toInt = 6 ∨ w.toInt = 7 ∨ w.toInt = 8 ∨ w.toInt = 9 ∨ w.toInt = 10 ∨ w.toInt = 11 ∨ w.toInt = 12 ∨ w.toInt = 13 ∨ w.toInt = 14 ∨ w.toInt = 15 ∨ w.toInt = 16 ∨ w.toInt = 17 ∨ w.toInt = 18 ∨ w.toInt = 19 ∨ w.toInt = 20 ∨ w.toInt = 21 ∨ w.toInt = 22 ∨ w.toInt = 23 ∨ w.toInt = 24 ∨ w.toInt = 25 ∨ w.toInt = 26 ∨ w.toInt = 27 by omega) with h | h | h | h | h | h | h | h | h | h | h | h | h | h | h | h | h | h | h | h | h | h | h | h | h | h | h | h | h
      · exact g_tabOut (tgt := 994) X dL_law_33 h (by decide) (next C M hR)
      · exact g_tabIn (tgt := 160) X dL_law_33 h (by decide) (by decide) rfl (by decide) (lc_0 X hA hf hX hbl hbA h5 hR next)
      · exact g_tabIn (tgt := 223) X dL_law_33 h (by decide) (by decide) rfl (by decide) (lc_1 X hA hf hX hbl hbA h5 hR next)
      · exact g_tabIn (tgt := 236) X dL_law_33 h (by decide) (by decide) rfl (by decide) (lc_2 X hA hf hX hbl hbA h5 hR next)
      · exact g_tabIn (tgt := 249) X dL_law_33 h (by decide) (by decide) rfl (by decide) (lc_3 X hA hf hX hbl hbA h5 hR next)
      · exact g_tabIn (tgt := 272) X dL_law_33 h (by decide) (by decide) rfl (by decide) (lc_4 X hA hf hX hbl hbA h5 hR next)
      · exact g_tabIn (tgt := 315) X dL_law_33 h (by decide) (by decide) rfl (by decide) (lc_5 X hA hf hX hbl hbA h5 hR next)
      · exact g_tabIn (tgt := 348) X dL_law_33 h (by decide) (by decide) rfl (by decide) (lc_6 X hA hf hX hbl hbA h5 hR next)
      · exact g_tabIn (tgt := 391) X dL_law_33 h (by decide) (by decide) rfl (by decide) (lc_7 X hA hf hX hbl hbA h5 hR next)
      · exact g_tabIn (tgt := 434) X dL_law_33 h (by decide) (by decide) rfl (by decide) (lc_8 X hA hf hX hbl hbA h5 hR next)
      · exact g_tabIn (tgt := 457) X dL_law_33 h (by decide) (by decide) rfl (by decide) (lc_9 X hA hf hX hbl hbA h5 hR next)
      · exact g_tabIn (tgt := 480) X dL_law_33 h (by decide) (by decide) rfl (by decide) (lc_10 X hA hf hX hbl hbA h5 hR next)
      · exact g_tabIn (tgt := 503) X dL_law_33 h (by decide) (by decide) rfl (by decide) (lc_11 X hA hf hX hbl hbA h5 hR next)
      · exact g_tabIn (tgt := 526) X dL_law_33 h (by decide) (by decide) rfl (by decide) (lc_12 X hA hf hX hbl hbA h5 hR next)
      · exact g_tabIn (tgt := 569) X dL_law_33 h (by decide) (by decide) rfl (by decide) (lc_13 X hA hf hX hbl hbA h5 hR next)
      · exact g_tabIn (tgt := 592) X dL_law_33 h (by decide) (by decide) rfl (by decide) (lc_14 X hA hf hX hbl hbA h5 hR next)
      · exact g_tabIn (tgt := 615) X dL_law_33 h (by decide) (by decide) rfl (by decide) (lc_15 X hA hf hX hbl hbA h5 hR next)
      · exact g_tabIn (tgt := 628) X dL_law_33 h (by decide) (by decide) rfl (by decide) (lc_16 X hA hf hX hbl hbA h5 hR next)
      · exact g_tabIn (tgt := 671) X dL_law_33 h (by decide) (by decide) rfl (by decide) (lc_17 X hA hf hX hbl hbA h5 hR next)
      · exact g_tabIn (tgt := 694) X dL_law_33 h (by decide) (by decide) rfl (by decide) (lc_18 X hA hf hX hbl hbA h5 hR next)
      · exact g_tabIn (tgt := 737) X dL_law_33 h (by decide) (by decide) rfl (by decide) (lc_19 X hA hf hX hbl hbA h5 hR next)
      · exact g_tabIn (tgt := 800) X dL_law_33 h (by decide) (by decide) rfl (by decide) (lc_20 X hA hf hX hbl hbA h5 hR next)
      · exact g_tabIn (tgt := 833) X dL_law_33 h (by decide) (by decide) rfl (by decide) (lc_21 X hA hf hX hbl hbA h5 hR next)
      · exact g_tabIn (tgt := 856) X dL_law_33 h (by decide) (by decide) rfl (by decide) (lc_22 X hA hf hX hbl hbA h5 hR next)
      · exact g_tabIn (tgt := 899) X dL_law_33 h (by decide) (by decide) rfl (by decide) (lc_23 X hA hf hX hbl hbA h5 hR next)
      · exact g_tabIn (tgt := 912) X dL_law_33 h (by decide) (by decide) rfl (by decide) (lc_24 X hA hf hX hbl hbA h5 hR next)
      · exact g_tabIn (tgt := 925) X dL_law_33 h (by decide) (by decide) rfl (by decide) (lc_25 X hA hf hX hbl hbA h5 hR next)
      · exact g_tabIn (tgt := 948) X dL_law_33 h (by decide) (by decide) rfl (by decide) (lc_26 X hA hf hX hbl hbA h5 hR next)
      · exact g_tabIn (tgt := 971) X dL_law_33 h (by decide) (by decide) rfl (by decide) (lc_27 X hA hf hX hbl hbA h5 hR next)
theorem rel0 {P R : vS} (hP : pOK P) : Rel (cS0 P R) mS0 := by
  obtain ⟨p0, p1, p2, p3, p4, p5, p6⟩ := hP
  have z : ∀ k : Nat, k < 60 → (cS0 P R).2.1 4 k = iI 0 := fun k hk => p6 k hk
  refine ⟨(fun j => if j = 3 then 3 else 0, fun _ _ => 0), ⟨⟨p0, p1, p2, p4, rfl, fun f hf => absurd hf (by show ¬ (f : Int) < 0; omega), fun k hk => ⟨rfl, fun h => absurd h (by decide)⟩⟩, ⟨rfl, rfl, rfl, rfl, rfl, fun f hf => absurd hf (by show ¬ (f : Int) < 0; omega), fun k hk => ⟨rfl, fun h => absurd h (by decide)⟩⟩, ⟨p3, fun j hj => absurd hj (by show ¬ (j : Int) < 0; omega)⟩, ⟨rfl, fun j hj => absurd hj (by show ¬ (j : Int) < 0; omega)⟩, ⟨by decide, by decide, by decide, by decide, by decide, by decide, fun f hf => absurd hf (by show ¬ (f : Int) < 0; omega), fun k hk => ⟨show (0 : Int) ≤ 0 ∧ (0 : Int) ≤ 99 by decide, show (0 : Int) ≤ 0 ∧ (0 : Int) ≤ 99 by decide⟩, by decide, by decide⟩, ⟨by decide, fun j hj => absurd hj (by show ¬ (j : Int) < 0; omega)⟩⟩, ⟨p5, rfl, rfl, by decide, fun f hf => absurd hf (by show ¬ (f : Int) < 0; omega)⟩, ⟨fun f hf => absurd hf (by show ¬ (f : Int) < 0; omega), fun k hk => ⟨z k hk, rfl, show (0 : Int) ≤ 0 by decide, show (0 : Int) ≤ 99 by decide⟩⟩, ⟨0, by omega, rfl, rfl, rfl, fun j hj => absurd hj (by omega)⟩, ⟨0, by omega, rfl, rfl, fun j hj => absurd hj (by omega)⟩, Or.inl ⟨rfl, rfl⟩, Or.inl ⟨rfl, rfl⟩⟩
end LL
