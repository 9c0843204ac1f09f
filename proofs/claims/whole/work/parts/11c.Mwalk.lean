set_option maxRecDepth 100000 in
theorem i_X7_told_X7 : ∀ w ∈ u_ws RX7 TX7 48, w ∈ wsX7_told := by decide +kernel
abbrev rm_X7_told : Room := { frames := 5, cells := 0, slots := 0, locals := 116 }
set_option maxRecDepth 100000 in
set_option maxHeartbeats 4000000 in
theorem c_X7_told (l : Launch) (D : va_G) (i : Nat → ClassId) (q : Nat → Nat) (A : Nat → Prop) (x1 : Int32) (S : vS) (Q : Int32 → vS → Prop) (h : e_X7_told x1 S Q) : Met l yX7_told wsX7_told rm_X7_told (va_Pc [.ref (q 0), .int x1] (vB D i A (wM q i) S)) (va_Qi Q (vB D i A (wM q i)) A) 0 0 A := by
  refine m_ofJ (own := RX7) (lv := [(0, .ref (q 0)), (1, .int x1)]) rfl (by decide) rfl (Nat.le_of_ble_eq_true rfl) rfl ?_
  intro p e s m below meth c X
  unfold e_X7_told at h
  refine j_iload_n X rfl 1 rfl dX7_told_0 ?_
  rcases (show (x1.toInt < 0 ∨ 10 < x1.toInt) ∨ x1.toInt = 0 ∨ x1.toInt = 1 ∨ x1.toInt = 2 ∨ x1.toInt = 3 ∨ x1.toInt = 4 ∨ x1.toInt = 5 ∨ x1.toInt = 6 ∨ x1.toInt = 7 ∨ x1.toInt = 8 ∨ x1.toInt = 9 ∨ x1.toInt = 10 by omega) with c1 | c1 | c1 | c1 | c1 | c1 | c1 | c1 | c1 | c1 | c1 | c1
  · have h := h.1 c1
    refine j_tabOut (tgt := 115) X dX7_told_1 c1 (by decide) ?_
    refine j_ldc (v := (-1000000002 : Int32)) X (by decide +kernel) dX7_told_115 ?_
    exact j_iret X h dX7_told_117
  · have h := h.2.1 c1
    refine j_tabIn (tgt := 60) X dX7_told_1 c1 (by decide) (by decide) rfl (by decide) ?_
    refine j_aload_n X rfl 0 rfl dX7_told_60 ?_
    refine jgM_mod_wide X i_X7_told_X7 (by decide +kernel) dX7_told_61 ?_
    exact j_iret X h dX7_told_64
  · have h := h.2.2.1 c1
    refine j_tabIn (tgt := 65) X dX7_told_1 c1 (by decide) (by decide) rfl (by decide) ?_
    refine j_aload_n X rfl 0 rfl dX7_told_65 ?_
    refine jgM_mod_deep X i_X7_told_X7 (by decide +kernel) dX7_told_66 ?_
    exact j_iret X h dX7_told_69
  · have h := h.2.2.2.1 c1
    refine j_tabIn (tgt := 70) X dX7_told_1 c1 (by decide) (by decide) rfl (by decide) ?_
    refine j_aload_n X rfl 0 rfl dX7_told_70 ?_
    refine jgM_mod_men X i_X7_told_X7 (by decide +kernel) dX7_told_71 ?_
    exact j_iret X h dX7_told_74
  · have h := h.2.2.2.2.1 c1
    refine j_tabIn (tgt := 75) X dX7_told_1 c1 (by decide) (by decide) rfl (by decide) ?_
    refine j_aload_n X rfl 0 rfl dX7_told_75 ?_
    refine jgM_mod_texted X i_X7_told_X7 (by decide +kernel) dX7_told_76 ?_
    exact j_iret X h dX7_told_79
  · have h := h.2.2.2.2.2.1 c1
    refine j_tabIn (tgt := 80) X dX7_told_1 c1 (by decide) (by decide) rfl (by decide) ?_
    refine j_aload_n X rfl 0 rfl dX7_told_80 ?_
    refine jgM_mod_law X i_X7_told_X7 (by decide +kernel) dX7_told_81 ?_
    exact j_iret X h dX7_told_84
  · have h := h.2.2.2.2.2.2.1 c1
    refine j_tabIn (tgt := 85) X dX7_told_1 c1 (by decide) (by decide) rfl (by decide) ?_
    refine j_aload_n X rfl 0 rfl dX7_told_85 ?_
    refine jgM_mod_day X i_X7_told_X7 (by decide +kernel) dX7_told_86 ?_
    exact j_iret X h dX7_told_89
  · have h := h.2.2.2.2.2.2.2.1 c1
    refine j_tabIn (tgt := 90) X dX7_told_1 c1 (by decide) (by decide) rfl (by decide) ?_
    refine j_aload_n X rfl 0 rfl dX7_told_90 ?_
    refine j_Vi (st := []) X [] 0 (c_X7_farNow l D i q A S _ h) (cwV 0 X.ts gX7_told_X7_farNow rfl rfl rfl (by decide +kernel) ⟨Nat.le_of_ble_eq_true rfl, Nat.le_of_ble_eq_true rfl⟩) rfl rfl rfl rfl (Nat.le_of_ble_eq_true rfl) dX7_told_91 (fun r3 S2 h => ?_)
    exact j_iret X h dX7_told_94
  · have h := h.2.2.2.2.2.2.2.2.1 c1
    refine j_tabIn (tgt := 95) X dX7_told_1 c1 (by decide) (by decide) rfl (by decide) ?_
    refine j_aload_n X rfl 0 rfl dX7_told_95 ?_
    refine jgM_mod_booked X i_X7_told_X7 (by decide +kernel) dX7_told_96 ?_
    exact j_iret X h dX7_told_99
  · have h := h.2.2.2.2.2.2.2.2.2.1 c1
    refine j_tabIn (tgt := 100) X dX7_told_1 c1 (by decide) (by decide) rfl (by decide) ?_
    refine j_aload_n X rfl 0 rfl dX7_told_100 ?_
    refine jgM_mod_storeyHigh X i_X7_told_X7 (by decide +kernel) dX7_told_101 ?_
    exact j_iret X h dX7_told_104
  · have h := h.2.2.2.2.2.2.2.2.2.2.1 c1
    refine j_tabIn (tgt := 105) X dX7_told_1 c1 (by decide) (by decide) rfl (by decide) ?_
    refine j_aload_n X rfl 0 rfl dX7_told_105 ?_
    refine jgM_mod_storeyCost X i_X7_told_X7 (by decide +kernel) dX7_told_106 ?_
    exact j_iret X h dX7_told_109
  · have h := h.2.2.2.2.2.2.2.2.2.2.2 c1
    refine j_tabIn (tgt := 110) X dX7_told_1 c1 (by decide) (by decide) rfl (by decide) ?_
    refine j_aload_n X rfl 0 rfl dX7_told_110 ?_
    refine j_Vi (st := []) X [] 0 (c_X7_countFree l D i q A S _ h) (cwV 0 X.ts gX7_told_X7_countFree rfl rfl rfl (by decide +kernel) ⟨Nat.le_of_ble_eq_true rfl, Nat.le_of_ble_eq_true rfl⟩) rfl rfl rfl rfl (Nat.le_of_ble_eq_true rfl) dX7_told_111 (fun r5 S4 h => ?_)
    exact j_iret X h dX7_told_114
set_option maxRecDepth 100000 in
theorem i_X7_isCell_X7 : ∀ w ∈ u_ws RX7 TX7 48, w ∈ wsX7_isCell := by decide +kernel
abbrev rm_X7_isCell : Room := { frames := 1, cells := 0, slots := 0, locals := 25 }
set_option maxRecDepth 100000 in
set_option maxHeartbeats 4000000 in
theorem c_X7_isCell (l : Launch) (D : va_G) (i : Nat → ClassId) (q : Nat → Nat) (A : Nat → Prop) (x1 : Int32) (x2 : Int32) (S : vS) (Q : Int32 → vS → Prop) (h : e_X7_isCell x1 x2 S Q) : Met l yX7_isCell wsX7_isCell rm_X7_isCell (va_Pc [.ref (q 0), .int x1, .int x2] (vB D i A (wM q i) S)) (va_Qi Q (vB D i A (wM q i)) A) 0 0 A := by
  refine m_ofJ (own := RX7) (lv := [(0, .ref (q 0)), (1, .int x1), (2, .int x2)]) rfl (by decide) rfl (Nat.le_of_ble_eq_true rfl) rfl ?_
  intro p e s m below meth c X
  unfold e_X7_isCell at h
  refine j_iload_n X rfl 1 rfl dX7_isCell_0 ?_
  refine j_i2l X dX7_isCell_1 ?_
  refine j_lconst (v := (0 : Int64)) X (by decide) dX7_isCell_2 ?_
  refine j_aload_n X rfl 0 rfl dX7_isCell_3 ?_
  refine jgM_mod_wide X i_X7_isCell_X7 (by decide +kernel) dX7_isCell_4 ?_
  refine j_iconst (v := (1 : Int32)) X (by decide) dX7_isCell_7 ?_
  refine j_isub X dX7_isCell_8 ?_
  refine j_i2l X dX7_isCell_9 ?_
  refine j_Si (st := []) X [.long (x1).toInt64, .long (0 : Int64), .long (((S.1 0) - (1 : Int32))).toInt64] (c_X7_in l D i q A (x1).toInt64 (0 : Int64) (((S.1 0) - (1 : Int32))).toInt64 S _ h) (va_cwS 3 X.ts gX7_isCell_X7_in rfl rfl rfl (by decide +kernel) ⟨Nat.le_of_ble_eq_true rfl, Nat.le_of_ble_eq_true rfl⟩) rfl rfl (Nat.le_of_ble_eq_true rfl) dX7_isCell_10 (fun r2 S1 h => ?_)
  refine j_if_eq (tgt := 36) X dX7_isCell_13 (by decide) (fun c3 => ?_) (fun c3 => ?_)
  · have h := h.1 c3
    refine j_iconst (v := (0 : Int32)) X (by decide) dX7_isCell_36 ?_
    exact j_zret X rfl h dX7_isCell_37
  · have h := h.2 c3
    refine j_iload_n X rfl 2 rfl dX7_isCell_16 ?_
    refine j_i2l X dX7_isCell_17 ?_
    refine j_lconst (v := (0 : Int64)) X (by decide) dX7_isCell_18 ?_
    refine j_aload_n X rfl 0 rfl dX7_isCell_19 ?_
    refine jgM_mod_deep X i_X7_isCell_X7 (by decide +kernel) dX7_isCell_20 ?_
    refine j_iconst (v := (1 : Int32)) X (by decide) dX7_isCell_23 ?_
    refine j_isub X dX7_isCell_24 ?_
    refine j_i2l X dX7_isCell_25 ?_
    refine j_Si (st := []) X [.long (x2).toInt64, .long (0 : Int64), .long (((S1.1 1) - (1 : Int32))).toInt64] (c_X7_in l D i q A (x2).toInt64 (0 : Int64) (((S1.1 1) - (1 : Int32))).toInt64 S1 _ h) (va_cwS 3 X.ts gX7_isCell_X7_in rfl rfl rfl (by decide +kernel) ⟨Nat.le_of_ble_eq_true rfl, Nat.le_of_ble_eq_true rfl⟩) rfl rfl (Nat.le_of_ble_eq_true rfl) dX7_isCell_26 (fun r5 S4 h => ?_)
    refine j_if_eq (tgt := 36) X dX7_isCell_29 (by decide) (fun c6 => ?_) (fun c6 => ?_)
    · have h := h.1 c6
      refine j_iconst (v := (0 : Int32)) X (by decide) dX7_isCell_36 ?_
      exact j_zret X rfl h dX7_isCell_37
    · have h := h.2 c6
      refine j_iconst (v := (1 : Int32)) X (by decide) dX7_isCell_32 ?_
      refine j_goto (tgt := 37) X dX7_isCell_33 (by decide) ?_
      exact j_zret X rfl h dX7_isCell_37
abbrev rm_X7_has : Room := { frames := 0, cells := 0, slots := 0, locals := 0 }
set_option maxRecDepth 100000 in
set_option maxHeartbeats 4000000 in
theorem c_X7_has (l : Launch) (D : va_G) (i : Nat → ClassId) (q : Nat → Nat) (A : Nat → Prop) (x0 : Int32) (x1 : Int32) (S : vS) (Q : Int32 → vS → Prop) (h : e_X7_has x0 x1 S Q) : Met l yX7_has wsX7_has rm_X7_has (va_Pc [.int x0, .int x1] (vB D i A (wM q i) S)) (va_Qi Q (vB D i A (wM q i)) A) 0 0 A := by
  refine m_ofJ (own := RX7) (lv := [(0, .int x0), (1, .int x1)]) rfl (by decide) rfl (Nat.le_of_ble_eq_true rfl) rfl ?_
  intro p e s m below meth c X
  unfold e_X7_has at h
  refine j_iload_n X rfl 0 rfl dX7_has_0 ?_
  refine j_iload_n X rfl 1 rfl dX7_has_1 ?_
  refine j_ishr X dX7_has_2 ?_
  refine j_iconst (v := (1 : Int32)) X (by decide) dX7_has_3 ?_
  refine j_iand X dX7_has_4 ?_
  refine j_iconst (v := (1 : Int32)) X (by decide) dX7_has_5 ?_
  refine j_icmp_ne (tgt := 13) X dX7_has_6 (by decide) (fun c1 => ?_) (fun c1 => ?_)
  · have h := h.1 c1
    refine j_iconst (v := (0 : Int32)) X (by decide) dX7_has_13 ?_
    exact j_zret X rfl h dX7_has_14
  · have h := h.2 c1
    refine j_iconst (v := (1 : Int32)) X (by decide) dX7_has_9 ?_
    refine j_goto (tgt := 14) X dX7_has_10 (by decide) ?_
    exact j_zret X rfl h dX7_has_14
set_option maxRecDepth 100000 in
theorem i_X7_nearOf_X7 : ∀ w ∈ u_ws RX7 TX7 48, w ∈ wsX7_nearOf := by decide +kernel
abbrev rm_X7_nearOf : Room := { frames := 0, cells := 0, slots := 0, locals := 0 }
set_option maxRecDepth 100000 in
set_option maxHeartbeats 4000000 in
theorem c_X7_nearOf (l : Launch) (D : va_G) (i : Nat → ClassId) (q : Nat → Nat) (A : Nat → Prop) (x1 : Int32) (x2 : Int32) (x3 : Int32) (S : vS) (Q : Int32 → vS → Prop) (h : e_X7_nearOf x1 x2 x3 S Q) : Met l yX7_nearOf wsX7_nearOf rm_X7_nearOf (va_Pc [.ref (q 0), .int x1, .int x2, .int x3] (vB D i A (wM q i) S)) (va_Qi Q (vB D i A (wM q i)) A) 0 0 A := by
  refine m_ofJ (own := RX7) (lv := [(0, .ref (q 0)), (1, .int x1), (2, .int x2), (3, .int x3)]) rfl (by decide) rfl (Nat.le_of_ble_eq_true rfl) rfl ?_
  intro p e s m below meth c X
  unfold e_X7_nearOf at h
  refine j_iload_n X rfl 2 rfl dX7_nearOf_0 ?_
  refine j_aload_n X rfl 0 rfl dX7_nearOf_1 ?_
  refine jgM_mod_shore X i_X7_nearOf_X7 (by decide +kernel) dX7_nearOf_2 ?_
  refine j_iload_n X rfl 1 rfl dX7_nearOf_5 ?_
  obtain ⟨k1, h⟩ := h
  refine jlM_mod_shore X k1 dX7_nearOf_6 ?_
  refine j_isub X dX7_nearOf_7 ?_
  refine j_iload_n X rfl 2 rfl dX7_nearOf_8 ?_
  refine j_aload_n X rfl 0 rfl dX7_nearOf_9 ?_
  refine jgM_mod_shore X i_X7_nearOf_X7 (by decide +kernel) dX7_nearOf_10 ?_
  refine j_iload_n X rfl 1 rfl dX7_nearOf_13 ?_
  refine jlM_mod_shore X k1 dX7_nearOf_14 ?_
  refine j_isub X dX7_nearOf_15 ?_
  refine j_imul X dX7_nearOf_16 ?_
  refine j_iload_n X rfl 3 rfl dX7_nearOf_17 ?_
  refine j_iconst (v := (1 : Int32)) X (by decide) dX7_nearOf_18 ?_
  refine j_iadd X dX7_nearOf_19 ?_
  refine j_iload_n X rfl 3 rfl dX7_nearOf_20 ?_
  refine j_iconst (v := (1 : Int32)) X (by decide) dX7_nearOf_21 ?_
  refine j_iadd X dX7_nearOf_22 ?_
  refine j_imul X dX7_nearOf_23 ?_
  refine j_iadd X dX7_nearOf_24 ?_
  exact j_iret X h dX7_nearOf_25
set_option maxRecDepth 100000 in
theorem i_X7_ownersOf_X7 : ∀ w ∈ u_ws RX7 TX7 48, w ∈ wsX7_ownersOf := by decide +kernel
abbrev rm_X7_ownersOf : Room := { frames := 1, cells := 0, slots := 0, locals := 23 }
set_option maxRecDepth 100000 in
set_option maxHeartbeats 4000000 in
theorem w_X7_ownersOf_92 {D : va_G} {i : Nat → ClassId} {q : Nat → Nat} {A : Nat → Prop} {p : Program} {l : Launch} {e : Env} {s : State} {m : MethodId} {args : Array Value} {below : List Frame} {meth : Method} {c : Code} (X : cX D i A p s m args meth c cX7_ownersOf RX7 7 wsX7_ownersOf (some .int)) {K19 : Int32 → Int32 → Int32 → Int32 → Int32 → vS → Prop} {Q : Int32 → vS → Prop} (hK19 : ∀ (a1 : Int32) (a2 : Int32) (a3 : Int32) (a4 : Int32) (a5 : Int32) (S : vS), K19 a1 a2 a3 a4 a5 S → cJ D A p l e (headSpec wsX7_ownersOf rm_X7_ownersOf).room s m args below meth c (MQ below (va_Qi Q (vB D i A (wM q i)) A) args s 0 0 A) 7 (wM q i S) [(0, .ref (q 0)), (1, .int a1), (2, .int a2), (3, .int a3), (4, .int a4), (5, .int a5)] 19 []) : ∀ (a1 : Int32) (a2 : Int32) (a3 : Int32) (a4 : Int32) (a5 : Int32) (t0 : Int32) (S : vS), e_X7_ownersOf_92 K19 Q a1 a2 a3 a4 a5 t0 S → cJ D A p l e (headSpec wsX7_ownersOf rm_X7_ownersOf).room s m args below meth c (MQ below (va_Qi Q (vB D i A (wM q i)) A) args s 0 0 A) 7 (wM q i S) [(0, .ref (q 0)), (1, .int a1), (2, .int a2), (3, .int a3), (4, .int a4), (5, .int a5)] 92 [.int t0] := by
  intro a1 a2 a3 a4 a5 t0 S h
  unfold e_X7_ownersOf_92 at h
  refine j_istore (lv' := [(6, .int t0), (0, .ref (q 0)), (1, .int a1), (2, .int a2), (3, .int a3), (4, .int a4), (5, .int a5)]) X (by decide) rfl dX7_ownersOf_92 ?_
  refine j_iload X 0 rfl dX7_ownersOf_94 ?_
  refine j_if_eq (tgt := 104) X dX7_ownersOf_96 (by decide) (fun c20 => ?_) (fun c20 => ?_)
  · have h := h.1 c20
    refine j_iload X 5 rfl dX7_ownersOf_104 ?_
    refine j_istore (lv' := [(4, .int a4), (6, .int t0), (0, .ref (q 0)), (1, .int a1), (2, .int a2), (3, .int a3), (5, .int a5)]) X (by decide) rfl dX7_ownersOf_106 ?_
    refine j_iinc (dv := (1 : Int32)) (lv' := fun v21 => [(5, .int v21), (4, .int a4), (6, .int t0), (0, .ref (q 0)), (1, .int a1), (2, .int a2), (3, .int a3)]) X dX7_ownersOf_108 (pl := 6) rfl (by decide) (by decide) (fun _ => rfl) (fun v21 ev21 => ?_)
    have h := h v21 ev21
    refine j_goto (tgt := 19) X dX7_ownersOf_111 (by decide) ?_
    refine j_loc [3, 4, 5, 6, 1, 0] rfl ?_
    exact hK19 a1 a2 a3 a4 v21 S h
  · have h := h.2 c20
    refine j_iload X 6 rfl dX7_ownersOf_99 ?_
    refine j_goto (tgt := 106) X dX7_ownersOf_101 (by decide) ?_
    refine j_istore (lv' := [(4, .int a5), (6, .int t0), (0, .ref (q 0)), (1, .int a1), (2, .int a2), (3, .int a3), (5, .int a5)]) X (by decide) rfl dX7_ownersOf_106 ?_
    refine j_iinc (dv := (1 : Int32)) (lv' := fun v22 => [(5, .int v22), (4, .int a5), (6, .int t0), (0, .ref (q 0)), (1, .int a1), (2, .int a2), (3, .int a3)]) X dX7_ownersOf_108 (pl := 6) rfl (by decide) (by decide) (fun _ => rfl) (fun v22 ev22 => ?_)
    have h := h v22 ev22
    refine j_goto (tgt := 19) X dX7_ownersOf_111 (by decide) ?_
    refine j_loc [3, 4, 5, 6, 1, 0] rfl ?_
    exact hK19 a1 a2 a3 a5 v22 S h
set_option maxRecDepth 100000 in
set_option maxHeartbeats 4000000 in
theorem w_X7_ownersOf_19 {D : va_G} {i : Nat → ClassId} {q : Nat → Nat} {A : Nat → Prop} {p : Program} {l : Launch} {e : Env} {s : State} {m : MethodId} {args : Array Value} {below : List Frame} {meth : Method} {c : Code} (X : cX D i A p s m args meth c cX7_ownersOf RX7 7 wsX7_ownersOf (some .int)) {Q : Int32 → vS → Prop} : ∀ (n : Nat) (a1 : Int32) (a2 : Int32) (a3 : Int32) (a4 : Int32) (a5 : Int32) (S : vS), e_X7_ownersOf_19 Q n a1 a2 a3 a4 a5 S → cJ D A p l e (headSpec wsX7_ownersOf rm_X7_ownersOf).room s m args below meth c (MQ below (va_Qi Q (vB D i A (wM q i)) A) args s 0 0 A) 7 (wM q i S) [(0, .ref (q 0)), (1, .int a1), (2, .int a2), (3, .int a3), (4, .int a4), (5, .int a5)] 19 [] := by
  intro n
  induction n with
  | zero =>
    intro _ _ _ _ _ S h
    rw [e_X7_ownersOf_19.eq_1] at h
    exact h.elim
  | succ n ih =>
    intro a1 a2 a3 a4 a5 S h
    rw [e_X7_ownersOf_19.eq_2] at h
    refine j_iload X 5 rfl dX7_ownersOf_19 ?_
    refine j_aload_n X rfl 0 rfl dX7_ownersOf_21 ?_
    refine jgM_mod_men X i_X7_ownersOf_X7 (by decide +kernel) dX7_ownersOf_22 ?_
    refine j_icmp_ge (tgt := 114) X dX7_ownersOf_25 (by decide) (fun c3 => ?_) (fun c3 => ?_)
    · have h := h.1 c3
      refine j_iconst (v := (1 : Int32)) X (by decide) dX7_ownersOf_114 ?_
      refine j_iload X 4 rfl dX7_ownersOf_115 ?_
      refine j_ishl X dX7_ownersOf_117 ?_
      exact j_iret X h dX7_ownersOf_118
    · have h := h.2 c3
      refine j_iload_n X rfl 1 rfl dX7_ownersOf_28 ?_
      refine j_iload X 5 rfl dX7_ownersOf_29 ?_
      refine j_Si (st := []) X [.int a1, .int a5] (c_X7_has l D i q A a1 a5 S _ h) (va_cwS 2 X.ts gX7_ownersOf_X7_has rfl rfl rfl (by decide +kernel) ⟨Nat.le_of_ble_eq_true rfl, Nat.le_of_ble_eq_true rfl⟩) rfl rfl (Nat.le_of_ble_eq_true rfl) dX7_ownersOf_31 (fun r5 S4 h => ?_)
      refine j_if_eq (tgt := 108) X dX7_ownersOf_34 (by decide) (fun c6 => ?_) (fun c6 => ?_)
      · have h := h.1 c6
        refine j_iinc (dv := (1 : Int32)) (lv' := fun v7 => [(5, .int v7), (0, .ref (q 0)), (1, .int a1), (2, .int a2), (3, .int a3), (4, .int a4)]) X dX7_ownersOf_108 (pl := 5) rfl (by decide) (by decide) (fun _ => rfl) (fun v7 ev7 => ?_)
        have h := h v7 ev7
        refine j_goto (tgt := 19) X dX7_ownersOf_111 (by decide) ?_
        refine j_loc [1, 2, 3, 4, 5, 0] rfl ?_
        exact ih a1 a2 a3 a4 v7 S4 h
      · have h := h.2 c6
        refine j_iload X 4 rfl dX7_ownersOf_37 ?_
        refine j_if_lt (tgt := 87) X dX7_ownersOf_39 (by decide) (fun c8 => ?_) (fun c8 => ?_)
        · have h := h.1 c8
          refine j_iconst (v := (1 : Int32)) X (by decide) dX7_ownersOf_87 ?_
          refine j_goto (tgt := 92) X dX7_ownersOf_88 (by decide) ?_
          exact w_X7_ownersOf_92 X (fun y0 y1 y2 y3 y4 S h => ih y0 y1 y2 y3 y4 S h) a1 a2 a3 a4 a5 (1 : Int32) S4 h
        · have h := h.2 c8
          refine j_aload_n X rfl 0 rfl dX7_ownersOf_42 ?_
          refine jgM_mod_law X i_X7_ownersOf_X7 (by decide +kernel) dX7_ownersOf_43 ?_
          refine j_iconst (v := (1 : Int32)) X (by decide) dX7_ownersOf_46 ?_
          refine j_icmp_ne (tgt := 72) X dX7_ownersOf_47 (by decide) (fun c9 => ?_) (fun c9 => ?_)
          · have h := h.1 c9
            refine j_aload_n X rfl 0 rfl dX7_ownersOf_72 ?_
            refine j_iload X 5 rfl dX7_ownersOf_73 ?_
            refine j_Vi (st := []) X [.int a5] 0 (c_X7_eyeOf l D i q A a5 S4 _ h) (cwV 1 X.ts gX7_ownersOf_X7_eyeOf rfl rfl rfl (by decide +kernel) ⟨Nat.le_of_ble_eq_true rfl, Nat.le_of_ble_eq_true rfl⟩) rfl rfl rfl rfl (Nat.le_of_ble_eq_true rfl) dX7_ownersOf_75 (fun r11 S10 h => ?_)
            refine j_aload_n X rfl 0 rfl dX7_ownersOf_78 ?_
            refine j_iload X 4 rfl dX7_ownersOf_79 ?_
            refine j_Vi (st := [.int r11]) X [.int a4] 0 (c_X7_eyeOf l D i q A a4 S10 _ h) (cwV 1 X.ts gX7_ownersOf_X7_eyeOf rfl rfl rfl (by decide +kernel) ⟨Nat.le_of_ble_eq_true rfl, Nat.le_of_ble_eq_true rfl⟩) rfl rfl rfl rfl (Nat.le_of_ble_eq_true rfl) dX7_ownersOf_81 (fun r13 S12 h => ?_)
            refine j_icmp_le (tgt := 91) X dX7_ownersOf_84 (by decide) (fun c14 => ?_) (fun c14 => ?_)
            · have h := h.1 c14
              refine j_iconst (v := (0 : Int32)) X (by decide) dX7_ownersOf_91 ?_
              exact w_X7_ownersOf_92 X (fun y0 y1 y2 y3 y4 S h => ih y0 y1 y2 y3 y4 S h) a1 a2 a3 a4 a5 (0 : Int32) S12 h
            · have h := h.2 c14
              refine j_iconst (v := (1 : Int32)) X (by decide) dX7_ownersOf_87 ?_
              refine j_goto (tgt := 92) X dX7_ownersOf_88 (by decide) ?_
              exact w_X7_ownersOf_92 X (fun y0 y1 y2 y3 y4 S h => ih y0 y1 y2 y3 y4 S h) a1 a2 a3 a4 a5 (1 : Int32) S12 h
          · have h := h.2 c9
            refine j_aload_n X rfl 0 rfl dX7_ownersOf_50 ?_
            refine j_iload X 5 rfl dX7_ownersOf_51 ?_
            refine j_iload_n X rfl 2 rfl dX7_ownersOf_53 ?_
            refine j_iload_n X rfl 3 rfl dX7_ownersOf_54 ?_
            refine j_Vi (st := []) X [.int a5, .int a2, .int a3] 0 (c_X7_nearOf l D i q A a5 a2 a3 S4 _ h) (cwV 3 X.ts gX7_ownersOf_X7_nearOf rfl rfl rfl (by decide +kernel) ⟨Nat.le_of_ble_eq_true rfl, Nat.le_of_ble_eq_true rfl⟩) rfl rfl rfl rfl (Nat.le_of_ble_eq_true rfl) dX7_ownersOf_55 (fun r16 S15 h => ?_)
            refine j_aload_n X rfl 0 rfl dX7_ownersOf_58 ?_
            refine j_iload X 4 rfl dX7_ownersOf_59 ?_
            refine j_iload_n X rfl 2 rfl dX7_ownersOf_61 ?_
            refine j_iload_n X rfl 3 rfl dX7_ownersOf_62 ?_
            refine j_Vi (st := [.int r16]) X [.int a4, .int a2, .int a3] 0 (c_X7_nearOf l D i q A a4 a2 a3 S15 _ h) (cwV 3 X.ts gX7_ownersOf_X7_nearOf rfl rfl rfl (by decide +kernel) ⟨Nat.le_of_ble_eq_true rfl, Nat.le_of_ble_eq_true rfl⟩) rfl rfl rfl rfl (Nat.le_of_ble_eq_true rfl) dX7_ownersOf_63 (fun r18 S17 h => ?_)
            refine j_icmp_ge (tgt := 91) X dX7_ownersOf_66 (by decide) (fun c19 => ?_) (fun c19 => ?_)
            · have h := h.1 c19
              refine j_iconst (v := (0 : Int32)) X (by decide) dX7_ownersOf_91 ?_
              exact w_X7_ownersOf_92 X (fun y0 y1 y2 y3 y4 S h => ih y0 y1 y2 y3 y4 S h) a1 a2 a3 a4 a5 (0 : Int32) S17 h
            · have h := h.2 c19
              refine j_goto (tgt := 87) X dX7_ownersOf_69 (by decide) ?_
              refine j_iconst (v := (1 : Int32)) X (by decide) dX7_ownersOf_87 ?_
              refine j_goto (tgt := 92) X dX7_ownersOf_88 (by decide) ?_
              exact w_X7_ownersOf_92 X (fun y0 y1 y2 y3 y4 S h => ih y0 y1 y2 y3 y4 S h) a1 a2 a3 a4 a5 (1 : Int32) S17 h
set_option maxRecDepth 100000 in
set_option maxHeartbeats 4000000 in
theorem c_X7_ownersOf (l : Launch) (D : va_G) (i : Nat → ClassId) (q : Nat → Nat) (A : Nat → Prop) (x1 : Int32) (x2 : Int32) (x3 : Int32) (S : vS) (Q : Int32 → vS → Prop) (h : e_X7_ownersOf x1 x2 x3 S Q) : Met l yX7_ownersOf wsX7_ownersOf rm_X7_ownersOf (va_Pc [.ref (q 0), .int x1, .int x2, .int x3] (vB D i A (wM q i) S)) (va_Qi Q (vB D i A (wM q i)) A) 0 0 A := by
  refine m_ofJ (own := RX7) (lv := [(0, .ref (q 0)), (1, .int x1), (2, .int x2), (3, .int x3)]) rfl (by decide) rfl (Nat.le_of_ble_eq_true rfl) rfl ?_
  intro p e s m below meth c X
  unfold e_X7_ownersOf at h
  refine j_aload_n X rfl 0 rfl dX7_ownersOf_0 ?_
  refine jgM_mod_law X i_X7_ownersOf_X7 (by decide +kernel) dX7_ownersOf_1 ?_
  refine j_if_eq (tgt := 11) X dX7_ownersOf_4 (by decide) (fun c1 => ?_) (fun c1 => ?_)
  · have h := h.1 c1
    refine j_iload_n X rfl 1 rfl dX7_ownersOf_11 ?_
    exact j_iret X h dX7_ownersOf_12
  · have h := h.2 c1
    refine j_iload_n X rfl 1 rfl dX7_ownersOf_7 ?_
    refine j_if_ne (tgt := 13) X dX7_ownersOf_8 (by decide) (fun c2 => ?_) (fun c2 => ?_)
    · have h := h.1 c2
      refine j_iconst (v := (-1 : Int32)) X (by decide) dX7_ownersOf_13 ?_
      refine j_istore (lv' := [(4, .int (-1 : Int32)), (0, .ref (q 0)), (1, .int x1), (2, .int x2), (3, .int x3)]) X (by decide) rfl dX7_ownersOf_14 ?_
      refine j_iconst (v := (0 : Int32)) X (by decide) dX7_ownersOf_16 ?_
      refine j_istore (lv' := [(5, .int (0 : Int32)), (4, .int (-1 : Int32)), (0, .ref (q 0)), (1, .int x1), (2, .int x2), (3, .int x3)]) X (by decide) rfl dX7_ownersOf_17 ?_
      refine j_loc [2, 3, 4, 5, 1, 0] rfl ?_
      obtain ⟨j, h⟩ := h
      exact w_X7_ownersOf_19 X j x1 x2 x3 (-1 : Int32) (0 : Int32) S h
    · have h := h.2 c2
      refine j_iload_n X rfl 1 rfl dX7_ownersOf_11 ?_
      exact j_iret X h dX7_ownersOf_12
set_option maxRecDepth 100000 in
theorem i_X7_cell_X7 : ∀ w ∈ u_ws RX7 TX7 48, w ∈ wsX7_cell := by decide +kernel
abbrev rm_X7_cell : Room := { frames := 4, cells := 0, slots := 0, locals := 94 }
set_option maxRecDepth 100000 in
set_option maxHeartbeats 4000000 in
theorem c_X7_cell (l : Launch) (D : va_G) (i : Nat → ClassId) (q : Nat → Nat) (A : Nat → Prop) (x1 : Int32) (x2 : Int32) (x3 : Int32) (S : vS) (Q : Int32 → vS → Prop) (h : e_X7_cell x1 x2 x3 S Q) : Met l yX7_cell wsX7_cell rm_X7_cell (va_Pc [.ref (q 0), .int x1, .int x2, .int x3] (vB D i A (wM q i) S)) (va_Qi Q (vB D i A (wM q i)) A) 0 0 A := by
  refine m_ofJ (own := RX7) (lv := [(0, .ref (q 0)), (1, .int x1), (2, .int x2), (3, .int x3)]) rfl (by decide) rfl (Nat.le_of_ble_eq_true rfl) rfl ?_
  intro p e s m below meth c X
  unfold e_X7_cell at h
  refine j_aload_n X rfl 0 rfl dX7_cell_0 ?_
  refine j_iload_n X rfl 1 rfl dX7_cell_1 ?_
  refine j_iload_n X rfl 2 rfl dX7_cell_2 ?_
  refine j_Vi (st := []) X [.int x1, .int x2] 0 (c_X7_isCell l D i q A x1 x2 S _ h) (cwV 2 X.ts gX7_cell_X7_isCell rfl rfl rfl (by decide +kernel) ⟨Nat.le_of_ble_eq_true rfl, Nat.le_of_ble_eq_true rfl⟩) rfl rfl rfl rfl (Nat.le_of_ble_eq_true rfl) dX7_cell_3 (fun r2 S1 h => ?_)
  refine j_if_ne (tgt := 13) X dX7_cell_6 (by decide) (fun c3 => ?_) (fun c3 => ?_)
  · have h := h.1 c3
    refine j_iload_n X rfl 3 rfl dX7_cell_13 ?_
    rcases (show (x3.toInt < 0 ∨ 3 < x3.toInt) ∨ x3.toInt = 0 ∨ x3.toInt = 1 ∨ x3.toInt = 2 ∨ x3.toInt = 3 by omega) with c4 | c4 | c4 | c4 | c4
    · have h := h.1 c4
      refine j_tabOut (tgt := 92) X dX7_cell_14 c4 (by decide) ?_
      refine j_ldc (v := (-1000000002 : Int32)) X (by decide +kernel) dX7_cell_92 ?_
      exact j_iret X h dX7_cell_94
    · have h := h.2.1 c4
      refine j_tabIn (tgt := 44) X dX7_cell_14 c4 (by decide) (by decide) rfl (by decide) ?_
      refine j_aload_n X rfl 0 rfl dX7_cell_44 ?_
      refine jgM_mod_stand X i_X7_cell_X7 (by decide +kernel) dX7_cell_45 ?_
      refine j_aload_n X rfl 0 rfl dX7_cell_48 ?_
      refine jgM_mod_wide X i_X7_cell_X7 (by decide +kernel) dX7_cell_49 ?_
      refine j_iload_n X rfl 2 rfl dX7_cell_52 ?_
      refine j_imul X dX7_cell_53 ?_
      refine j_iload_n X rfl 1 rfl dX7_cell_54 ?_
      refine j_iadd X dX7_cell_55 ?_
      obtain ⟨k5, h⟩ := h
      refine jlM_mod_stand X k5 dX7_cell_56 ?_
      exact j_iret X h dX7_cell_57
    · have h := h.2.2.1 c4
      refine j_tabIn (tgt := 58) X dX7_cell_14 c4 (by decide) (by decide) rfl (by decide) ?_
      refine j_aload_n X rfl 0 rfl dX7_cell_58 ?_
      refine jgM_mod_fish X i_X7_cell_X7 (by decide +kernel) dX7_cell_59 ?_
      refine j_aload_n X rfl 0 rfl dX7_cell_62 ?_
      refine jgM_mod_wide X i_X7_cell_X7 (by decide +kernel) dX7_cell_63 ?_
      refine j_iload_n X rfl 2 rfl dX7_cell_66 ?_
      refine j_imul X dX7_cell_67 ?_
      refine j_iload_n X rfl 1 rfl dX7_cell_68 ?_
      refine j_iadd X dX7_cell_69 ?_
      obtain ⟨k6, h⟩ := h
      refine jlM_mod_fish X k6 dX7_cell_70 ?_
      exact j_iret X h dX7_cell_71
    · have h := h.2.2.2.1 c4
      refine j_tabIn (tgt := 72) X dX7_cell_14 c4 (by decide) (by decide) rfl (by decide) ?_
      refine j_aload_n X rfl 0 rfl dX7_cell_72 ?_
      refine j_iload_n X rfl 1 rfl dX7_cell_73 ?_
      refine j_iload_n X rfl 2 rfl dX7_cell_74 ?_
      refine j_Vi (st := []) X [.int x1, .int x2] 0 (c_X7_seers l D i q A x1 x2 S1 _ h) (cwV 2 X.ts gX7_cell_X7_seers rfl rfl rfl (by decide +kernel) ⟨Nat.le_of_ble_eq_true rfl, Nat.le_of_ble_eq_true rfl⟩) rfl rfl rfl rfl (Nat.le_of_ble_eq_true rfl) dX7_cell_75 (fun r8 S7 h => ?_)
      exact j_iret X h dX7_cell_78
    · have h := h.2.2.2.2 c4
      refine j_tabIn (tgt := 79) X dX7_cell_14 c4 (by decide) (by decide) rfl (by decide) ?_
      refine j_aload_n X rfl 0 rfl dX7_cell_79 ?_
      refine j_aload_n X rfl 0 rfl dX7_cell_80 ?_
      refine j_iload_n X rfl 1 rfl dX7_cell_81 ?_
      refine j_iload_n X rfl 2 rfl dX7_cell_82 ?_
      refine j_Vi (st := [.ref (q 0)]) X [.int x1, .int x2] 0 (c_X7_seers l D i q A x1 x2 S1 _ h) (cwV 2 X.ts gX7_cell_X7_seers rfl rfl rfl (by decide +kernel) ⟨Nat.le_of_ble_eq_true rfl, Nat.le_of_ble_eq_true rfl⟩) rfl rfl rfl rfl (Nat.le_of_ble_eq_true rfl) dX7_cell_83 (fun r10 S9 h => ?_)
      refine j_iload_n X rfl 1 rfl dX7_cell_86 ?_
      refine j_iload_n X rfl 2 rfl dX7_cell_87 ?_
      refine j_Vi (st := []) X [.int r10, .int x1, .int x2] 0 (c_X7_ownersOf l D i q A r10 x1 x2 S9 _ h) (cwV 3 X.ts gX7_cell_X7_ownersOf rfl rfl rfl (by decide +kernel) ⟨Nat.le_of_ble_eq_true rfl, Nat.le_of_ble_eq_true rfl⟩) rfl rfl rfl rfl (Nat.le_of_ble_eq_true rfl) dX7_cell_88 (fun r12 S11 h => ?_)
      exact j_iret X h dX7_cell_91
  · have h := h.2 c3
    refine j_ldcw (v := (-1000000001 : Int32)) X (by decide +kernel) dX7_cell_9 ?_
    exact j_iret X h dX7_cell_12
set_option maxRecDepth 100000 in
theorem i_X7_isMan_X7 : ∀ w ∈ u_ws RX7 TX7 48, w ∈ wsX7_isMan := by decide +kernel
abbrev rm_X7_isMan : Room := { frames := 1, cells := 0, slots := 0, locals := 25 }
set_option maxRecDepth 100000 in
set_option maxHeartbeats 4000000 in
theorem c_X7_isMan (l : Launch) (D : va_G) (i : Nat → ClassId) (q : Nat → Nat) (A : Nat → Prop) (x1 : Int32) (S : vS) (Q : Int32 → vS → Prop) (h : e_X7_isMan x1 S Q) : Met l yX7_isMan wsX7_isMan rm_X7_isMan (va_Pc [.ref (q 0), .int x1] (vB D i A (wM q i) S)) (va_Qi Q (vB D i A (wM q i)) A) 0 0 A := by
  refine m_ofJ (own := RX7) (lv := [(0, .ref (q 0)), (1, .int x1)]) rfl (by decide) rfl (Nat.le_of_ble_eq_true rfl) rfl ?_
  intro p e s m below meth c X
  unfold e_X7_isMan at h
  refine j_iload_n X rfl 1 rfl dX7_isMan_0 ?_
  refine j_i2l X dX7_isMan_1 ?_
  refine j_lconst (v := (0 : Int64)) X (by decide) dX7_isMan_2 ?_
  refine j_aload_n X rfl 0 rfl dX7_isMan_3 ?_
  refine jgM_mod_men X i_X7_isMan_X7 (by decide +kernel) dX7_isMan_4 ?_
  refine j_iconst (v := (1 : Int32)) X (by decide) dX7_isMan_7 ?_
  refine j_isub X dX7_isMan_8 ?_
  refine j_i2l X dX7_isMan_9 ?_
  refine j_Si (st := []) X [.long (x1).toInt64, .long (0 : Int64), .long (((S.1 2) - (1 : Int32))).toInt64] (c_X7_in l D i q A (x1).toInt64 (0 : Int64) (((S.1 2) - (1 : Int32))).toInt64 S _ h) (va_cwS 3 X.ts gX7_isMan_X7_in rfl rfl rfl (by decide +kernel) ⟨Nat.le_of_ble_eq_true rfl, Nat.le_of_ble_eq_true rfl⟩) rfl rfl (Nat.le_of_ble_eq_true rfl) dX7_isMan_10 (fun r2 S1 h => ?_)
  obtain ⟨kz, h⟩ := h
  exact j_zret X kz h dX7_isMan_13
set_option maxRecDepth 100000 in
theorem i_X7_countCells_X7 : ∀ w ∈ u_ws RX7 TX7 48, w ∈ wsX7_countCells := by decide +kernel
abbrev rm_X7_countCells : Room := { frames := 4, cells := 0, slots := 0, locals := 94 }
set_option maxRecDepth 100000 in
set_option maxHeartbeats 4000000 in
theorem w_X7_countCells_63 {D : va_G} {i : Nat → ClassId} {q : Nat → Nat} {A : Nat → Prop} {p : Program} {l : Launch} {e : Env} {s : State} {m : MethodId} {args : Array Value} {below : List Frame} {meth : Method} {c : Code} (X : cX D i A p s m args meth c cX7_countCells RX7 6 wsX7_countCells (some .int)) {K5 : Int32 → Int32 → Int32 → Int32 → vS → Prop} {Q : Int32 → vS → Prop} (hK5 : ∀ (a1 : Int32) (a2 : Int32) (a3 : Int32) (a4 : Int32) (S : vS), K5 a1 a2 a3 a4 S → cJ D A p l e (headSpec wsX7_countCells rm_X7_countCells).room s m args below meth c (MQ below (va_Qi Q (vB D i A (wM q i)) A) args s 0 0 A) 6 (wM q i S) [(0, .ref (q 0)), (1, .int a1), (2, .int a2), (3, .int a3), (4, .int a4)] 5 []) : ∀ (a1 : Int32) (a2 : Int32) (a3 : Int32) (a4 : Int32) (t0 : Int32) (S : vS), e_X7_countCells_63 K5 Q a1 a2 a3 a4 t0 S → cJ D A p l e (headSpec wsX7_countCells rm_X7_countCells).room s m args below meth c (MQ below (va_Qi Q (vB D i A (wM q i)) A) args s 0 0 A) 6 (wM q i S) [(0, .ref (q 0)), (1, .int a1), (2, .int a2), (3, .int a3), (4, .int a4)] 63 [.int t0] := by
  intro a1 a2 a3 a4 t0 S h
  unfold e_X7_countCells_63 at h
  refine j_istore (lv' := [(5, .int t0), (0, .ref (q 0)), (1, .int a1), (2, .int a2), (3, .int a3), (4, .int a4)]) X (by decide) rfl dX7_countCells_63 ?_
  refine j_iload_n X rfl 4 rfl dX7_countCells_65 ?_
  refine j_iload X 0 rfl dX7_countCells_66 ?_
  refine j_iload_n X rfl 2 rfl dX7_countCells_68 ?_
  refine j_Si (st := [.int a3]) X [.int t0, .int a1] (c_X7_has l D i q A t0 a1 S _ h) (va_cwS 2 X.ts gX7_countCells_X7_has rfl rfl rfl (by decide +kernel) ⟨Nat.le_of_ble_eq_true rfl, Nat.le_of_ble_eq_true rfl⟩) rfl rfl (Nat.le_of_ble_eq_true rfl) dX7_countCells_69 (fun r12 S11 h => ?_)
  refine j_if_eq (tgt := 79) X dX7_countCells_72 (by decide) (fun c13 => ?_) (fun c13 => ?_)
  · have h := h.1 c13
    refine j_iconst (v := (0 : Int32)) X (by decide) dX7_countCells_79 ?_
    refine j_iadd X dX7_countCells_80 ?_
    refine j_topi (fun v14 ev14 => ?_)
    have h := h v14 ev14
    refine j_istore_n (lv' := [(3, .int v14), (5, .int t0), (0, .ref (q 0)), (1, .int a1), (2, .int a2), (4, .int a4)]) X rfl (by decide) rfl dX7_countCells_81 ?_
    refine j_iinc (dv := (1 : Int32)) (lv' := fun v15 => [(4, .int v15), (3, .int v14), (5, .int t0), (0, .ref (q 0)), (1, .int a1), (2, .int a2)]) X dX7_countCells_82 (pl := 5) rfl (by decide) (by decide) (fun _ => rfl) (fun v15 ev15 => ?_)
    have h := h v15 ev15
    refine j_goto (tgt := 5) X dX7_countCells_85 (by decide) ?_
    refine j_loc [3, 4, 5, 1, 0] rfl ?_
    exact hK5 a1 a2 v14 v15 S11 h
  · have h := h.2 c13
    refine j_iconst (v := (1 : Int32)) X (by decide) dX7_countCells_75 ?_
    refine j_goto (tgt := 80) X dX7_countCells_76 (by decide) ?_
    refine j_iadd X dX7_countCells_80 ?_
    refine j_topi (fun v16 ev16 => ?_)
    have h := h v16 ev16
    refine j_istore_n (lv' := [(3, .int v16), (5, .int t0), (0, .ref (q 0)), (1, .int a1), (2, .int a2), (4, .int a4)]) X rfl (by decide) rfl dX7_countCells_81 ?_
    refine j_iinc (dv := (1 : Int32)) (lv' := fun v17 => [(4, .int v17), (3, .int v16), (5, .int t0), (0, .ref (q 0)), (1, .int a1), (2, .int a2)]) X dX7_countCells_82 (pl := 5) rfl (by decide) (by decide) (fun _ => rfl) (fun v17 ev17 => ?_)
    have h := h v17 ev17
    refine j_goto (tgt := 5) X dX7_countCells_85 (by decide) ?_
    refine j_loc [3, 4, 5, 1, 0] rfl ?_
    exact hK5 a1 a2 v16 v17 S11 h
set_option maxRecDepth 100000 in
set_option maxHeartbeats 4000000 in
theorem w_X7_countCells_5 {D : va_G} {i : Nat → ClassId} {q : Nat → Nat} {A : Nat → Prop} {p : Program} {l : Launch} {e : Env} {s : State} {m : MethodId} {args : Array Value} {below : List Frame} {meth : Method} {c : Code} (X : cX D i A p s m args meth c cX7_countCells RX7 6 wsX7_countCells (some .int)) {Q : Int32 → vS → Prop} : ∀ (n : Nat) (a1 : Int32) (a2 : Int32) (a3 : Int32) (a4 : Int32) (S : vS), e_X7_countCells_5 Q n a1 a2 a3 a4 S → cJ D A p l e (headSpec wsX7_countCells rm_X7_countCells).room s m args below meth c (MQ below (va_Qi Q (vB D i A (wM q i)) A) args s 0 0 A) 6 (wM q i S) [(0, .ref (q 0)), (1, .int a1), (2, .int a2), (3, .int a3), (4, .int a4)] 5 [] := by
  intro n
  induction n with
  | zero =>
    intro _ _ _ _ S h
    rw [e_X7_countCells_5.eq_1] at h
    exact h.elim
  | succ n ih =>
    intro a1 a2 a3 a4 S h
    rw [e_X7_countCells_5.eq_2] at h
    refine j_iload X 4 rfl dX7_countCells_5 ?_
    refine j_aload_n X rfl 0 rfl dX7_countCells_7 ?_
    refine j_Vi (st := [.int a4]) X [] 0 (c_X7_cells l D i q A S _ h) (cwV 0 X.ts gX7_countCells_X7_cells rfl rfl rfl (by decide +kernel) ⟨Nat.le_of_ble_eq_true rfl, Nat.le_of_ble_eq_true rfl⟩) rfl rfl rfl rfl (Nat.le_of_ble_eq_true rfl) dX7_countCells_8 (fun r2 S1 h => ?_)
    refine j_icmp_ge (tgt := 88) X dX7_countCells_11 (by decide) (fun c3 => ?_) (fun c3 => ?_)
    · have h := h.1 c3
      refine j_iload_n X rfl 3 rfl dX7_countCells_88 ?_
      exact j_iret X h dX7_countCells_89
    · have h := h.2 c3
      refine j_aload_n X rfl 0 rfl dX7_countCells_14 ?_
      refine j_iload X 4 rfl dX7_countCells_15 ?_
      refine j_aload_n X rfl 0 rfl dX7_countCells_17 ?_
      refine jgM_mod_wide X i_X7_countCells_X7 (by decide +kernel) dX7_countCells_18 ?_
      obtain ⟨k4, h⟩ := h
      refine j_irem X k4 dX7_countCells_21 ?_
      refine j_iload X 4 rfl dX7_countCells_22 ?_
      refine j_aload_n X rfl 0 rfl dX7_countCells_24 ?_
      refine jgM_mod_wide X i_X7_countCells_X7 (by decide +kernel) dX7_countCells_25 ?_
      refine j_idiv X k4 dX7_countCells_28 ?_
      refine j_Vi (st := []) X [.int (a4 - a4 / (S1.1 0) * (S1.1 0)), .int (a4 / (S1.1 0))] 0 (c_X7_seers l D i q A (a4 - a4 / (S1.1 0) * (S1.1 0)) (a4 / (S1.1 0)) S1 _ h) (cwV 2 X.ts gX7_countCells_X7_seers rfl rfl rfl (by decide +kernel) ⟨Nat.le_of_ble_eq_true rfl, Nat.le_of_ble_eq_true rfl⟩) rfl rfl rfl rfl (Nat.le_of_ble_eq_true rfl) dX7_countCells_29 (fun r6 S5 h => ?_)
      refine j_istore (lv' := [(5, .int r6), (0, .ref (q 0)), (1, .int a1), (2, .int a2), (3, .int a3), (4, .int a4)]) X (by decide) rfl dX7_countCells_32 ?_
      refine j_iload_n X rfl 3 rfl dX7_countCells_34 ?_
      refine j_if_eq (tgt := 61) X dX7_countCells_35 (by decide) (fun c7 => ?_) (fun c7 => ?_)
      · have h := h.1 c7
        refine j_iload X 0 rfl dX7_countCells_61 ?_
        refine j_loc [1, 2, 3, 4, 5] rfl ?_
        exact w_X7_countCells_63 X (fun y0 y1 y2 y3 S h => ih y0 y1 y2 y3 S h) a1 a2 a3 a4 r6 S5 h
      · have h := h.2 c7
        refine j_aload_n X rfl 1 rfl dX7_countCells_38 ?_
        refine j_iload X 0 rfl dX7_countCells_39 ?_
        refine j_iload X 5 rfl dX7_countCells_41 ?_
        refine j_aload_n X rfl 1 rfl dX7_countCells_43 ?_
        refine jgM_mod_wide X i_X7_countCells_X7 (by decide +kernel) dX7_countCells_44 ?_
        obtain ⟨k8, h⟩ := h
        refine j_irem X k8 dX7_countCells_47 ?_
        refine j_iload X 5 rfl dX7_countCells_48 ?_
        refine j_aload_n X rfl 1 rfl dX7_countCells_50 ?_
        refine jgM_mod_wide X i_X7_countCells_X7 (by decide +kernel) dX7_countCells_51 ?_
        refine j_idiv X k8 dX7_countCells_54 ?_
        refine j_Vi (st := []) X [.int r6, .int (a4 - a4 / (S5.1 0) * (S5.1 0)), .int (a4 / (S5.1 0))] 0 (c_X7_ownersOf l D i q A r6 (a4 - a4 / (S5.1 0) * (S5.1 0)) (a4 / (S5.1 0)) S5 _ h) (cwV 3 X.ts gX7_countCells_X7_ownersOf rfl rfl rfl (by decide +kernel) ⟨Nat.le_of_ble_eq_true rfl, Nat.le_of_ble_eq_true rfl⟩) rfl rfl rfl rfl (Nat.le_of_ble_eq_true rfl) dX7_countCells_55 (fun r10 S9 h => ?_)
        refine j_goto (tgt := 63) X dX7_countCells_58 (by decide) ?_
        refine j_loc [1, 2, 3, 4, 5] rfl ?_
        exact w_X7_countCells_63 X (fun y0 y1 y2 y3 S h => ih y0 y1 y2 y3 S h) a1 a2 a3 a4 r10 S9 h
set_option maxRecDepth 100000 in
set_option maxHeartbeats 4000000 in
theorem c_X7_countCells (l : Launch) (D : va_G) (i : Nat → ClassId) (q : Nat → Nat) (A : Nat → Prop) (x1 : Int32) (x2 : Int32) (S : vS) (Q : Int32 → vS → Prop) (h : e_X7_countCells x1 x2 S Q) : Met l yX7_countCells wsX7_countCells rm_X7_countCells (va_Pc [.ref (q 0), .int x1, .int x2] (vB D i A (wM q i) S)) (va_Qi Q (vB D i A (wM q i)) A) 0 0 A := by
  refine m_ofJ (own := RX7) (lv := [(0, .ref (q 0)), (1, .int x1), (2, .int x2)]) rfl (by decide) rfl (Nat.le_of_ble_eq_true rfl) rfl ?_
  intro p e s m below meth c X
  unfold e_X7_countCells at h
  refine j_iconst (v := (0 : Int32)) X (by decide) dX7_countCells_0 ?_
  refine j_istore_n (lv' := [(3, .int (0 : Int32)), (0, .ref (q 0)), (1, .int x1), (2, .int x2)]) X rfl (by decide) rfl dX7_countCells_1 ?_
  refine j_iconst (v := (0 : Int32)) X (by decide) dX7_countCells_2 ?_
  refine j_istore (lv' := [(4, .int (0 : Int32)), (3, .int (0 : Int32)), (0, .ref (q 0)), (1, .int x1), (2, .int x2)]) X (by decide) rfl dX7_countCells_3 ?_
  refine j_loc [2, 3, 4, 1, 0] rfl ?_
  obtain ⟨j, h⟩ := h
  exact w_X7_countCells_5 X j x1 x2 (0 : Int32) (0 : Int32) S h
set_option maxRecDepth 100000 in
theorem i_X7_man_X7 : ∀ w ∈ u_ws RX7 TX7 48, w ∈ wsX7_man := by decide +kernel
abbrev rm_X7_man : Room := { frames := 5, cells := 0, slots := 0, locals := 119 }
set_option maxRecDepth 100000 in
set_option maxHeartbeats 4000000 in
theorem c_X7_man (l : Launch) (D : va_G) (i : Nat → ClassId) (q : Nat → Nat) (A : Nat → Prop) (x1 : Int32) (x2 : Int32) (S : vS) (Q : Int32 → vS → Prop) (h : e_X7_man x1 x2 S Q) : Met l yX7_man wsX7_man rm_X7_man (va_Pc [.ref (q 0), .int x1, .int x2] (vB D i A (wM q i) S)) (va_Qi Q (vB D i A (wM q i)) A) 0 0 A := by
  refine m_ofJ (own := RX7) (lv := [(0, .ref (q 0)), (1, .int x1), (2, .int x2)]) rfl (by decide) rfl (Nat.le_of_ble_eq_true rfl) rfl ?_
  intro p e s m below meth c X
  unfold e_X7_man at h
  refine j_aload_n X rfl 0 rfl dX7_man_0 ?_
  refine j_iload_n X rfl 1 rfl dX7_man_1 ?_
  refine j_Vi (st := []) X [.int x1] 0 (c_X7_isMan l D i q A x1 S _ h) (cwV 1 X.ts gX7_man_X7_isMan rfl rfl rfl (by decide +kernel) ⟨Nat.le_of_ble_eq_true rfl, Nat.le_of_ble_eq_true rfl⟩) rfl rfl rfl rfl (Nat.le_of_ble_eq_true rfl) dX7_man_2 (fun r2 S1 h => ?_)
  refine j_if_ne (tgt := 12) X dX7_man_5 (by decide) (fun c3 => ?_) (fun c3 => ?_)
  · have h := h.1 c3
    refine j_iload_n X rfl 2 rfl dX7_man_12 ?_
    rcases (show (x2.toInt < 0 ∨ 6 < x2.toInt) ∨ x2.toInt = 0 ∨ x2.toInt = 1 ∨ x2.toInt = 2 ∨ x2.toInt = 3 ∨ x2.toInt = 4 ∨ x2.toInt = 5 ∨ x2.toInt = 6 by omega) with c4 | c4 | c4 | c4 | c4 | c4 | c4 | c4
    · have h := h.1 c4
      refine j_tabOut (tgt := 104) X dX7_man_13 c4 (by decide) ?_
      refine j_ldc (v := (-1000000002 : Int32)) X (by decide +kernel) dX7_man_104 ?_
      exact j_iret X h dX7_man_106
    · have h := h.2.1 c4
      refine j_tabIn (tgt := 56) X dX7_man_13 c4 (by decide) (by decide) rfl (by decide) ?_
      refine j_aload_n X rfl 0 rfl dX7_man_56 ?_
      refine jgM_mod_shore X i_X7_man_X7 (by decide +kernel) dX7_man_57 ?_
      refine j_iload_n X rfl 1 rfl dX7_man_60 ?_
      obtain ⟨k5, h⟩ := h
      refine jlM_mod_shore X k5 dX7_man_61 ?_
      exact j_iret X h dX7_man_62
    · have h := h.2.2.1 c4
      refine j_tabIn (tgt := 63) X dX7_man_13 c4 (by decide) (by decide) rfl (by decide) ?_
      refine j_aload_n X rfl 0 rfl dX7_man_63 ?_
      refine jgM_mod_ground X i_X7_man_X7 (by decide +kernel) dX7_man_64 ?_
      refine j_iload_n X rfl 1 rfl dX7_man_67 ?_
      obtain ⟨k6, h⟩ := h
      refine jlM_mod_ground X k6 dX7_man_68 ?_
      exact j_iret X h dX7_man_69
    · have h := h.2.2.2.1 c4
      refine j_tabIn (tgt := 70) X dX7_man_13 c4 (by decide) (by decide) rfl (by decide) ?_
      refine j_aload_n X rfl 0 rfl dX7_man_70 ?_
      refine jgM_mod_storeys X i_X7_man_X7 (by decide +kernel) dX7_man_71 ?_
      refine j_iload_n X rfl 1 rfl dX7_man_74 ?_
      obtain ⟨k7, h⟩ := h
      refine jlM_mod_storeys X k7 dX7_man_75 ?_
      exact j_iret X h dX7_man_76
    · have h := h.2.2.2.2.1 c4
      refine j_tabIn (tgt := 77) X dX7_man_13 c4 (by decide) (by decide) rfl (by decide) ?_
      refine j_aload_n X rfl 0 rfl dX7_man_77 ?_
      refine j_iload_n X rfl 1 rfl dX7_man_78 ?_
      refine j_Vi (st := []) X [.int x1] 0 (c_X7_eyeOf l D i q A x1 S1 _ h) (cwV 1 X.ts gX7_man_X7_eyeOf rfl rfl rfl (by decide +kernel) ⟨Nat.le_of_ble_eq_true rfl, Nat.le_of_ble_eq_true rfl⟩) rfl rfl rfl rfl (Nat.le_of_ble_eq_true rfl) dX7_man_79 (fun r9 S8 h => ?_)
      exact j_iret X h dX7_man_82
    · have h := h.2.2.2.2.2.1 c4
      refine j_tabIn (tgt := 83) X dX7_man_13 c4 (by decide) (by decide) rfl (by decide) ?_
      refine j_aload_n X rfl 0 rfl dX7_man_83 ?_
      refine jgM_mod_purse X i_X7_man_X7 (by decide +kernel) dX7_man_84 ?_
      refine j_iload_n X rfl 1 rfl dX7_man_87 ?_
      obtain ⟨k10, h⟩ := h
      refine jlM_mod_purse X k10 dX7_man_88 ?_
      exact j_iret X h dX7_man_89
    · have h := h.2.2.2.2.2.2.1 c4
      refine j_tabIn (tgt := 90) X dX7_man_13 c4 (by decide) (by decide) rfl (by decide) ?_
      refine j_aload_n X rfl 0 rfl dX7_man_90 ?_
      refine j_iload_n X rfl 1 rfl dX7_man_91 ?_
      refine j_iconst (v := (0 : Int32)) X (by decide) dX7_man_92 ?_
      refine j_Vi (st := []) X [.int x1, .int (0 : Int32)] 0 (c_X7_countCells l D i q A x1 (0 : Int32) S1 _ h) (cwV 2 X.ts gX7_man_X7_countCells rfl rfl rfl (by decide +kernel) ⟨Nat.le_of_ble_eq_true rfl, Nat.le_of_ble_eq_true rfl⟩) rfl rfl rfl rfl (Nat.le_of_ble_eq_true rfl) dX7_man_93 (fun r12 S11 h => ?_)
      exact j_iret X h dX7_man_96
    · have h := h.2.2.2.2.2.2.2 c4
      refine j_tabIn (tgt := 97) X dX7_man_13 c4 (by decide) (by decide) rfl (by decide) ?_
      refine j_aload_n X rfl 0 rfl dX7_man_97 ?_
      refine j_iload_n X rfl 1 rfl dX7_man_98 ?_
      refine j_iconst (v := (1 : Int32)) X (by decide) dX7_man_99 ?_
      refine j_Vi (st := []) X [.int x1, .int (1 : Int32)] 0 (c_X7_countCells l D i q A x1 (1 : Int32) S1 _ h) (cwV 2 X.ts gX7_man_X7_countCells rfl rfl rfl (by decide +kernel) ⟨Nat.le_of_ble_eq_true rfl, Nat.le_of_ble_eq_true rfl⟩) rfl rfl rfl rfl (Nat.le_of_ble_eq_true rfl) dX7_man_100 (fun r14 S13 h => ?_)
      exact j_iret X h dX7_man_103
  · have h := h.2 c3
    refine j_ldcw (v := (-1000000001 : Int32)) X (by decide +kernel) dX7_man_8 ?_
    exact j_iret X h dX7_man_11
abbrev rm_X7_sees : Room := { frames := 3, cells := 0, slots := 0, locals := 69 }
set_option maxRecDepth 100000 in
set_option maxHeartbeats 4000000 in
theorem c_X7_sees (l : Launch) (D : va_G) (i : Nat → ClassId) (q : Nat → Nat) (A : Nat → Prop) (x1 : Int32) (x2 : Int32) (x3 : Int32) (S : vS) (Q : Int32 → vS → Prop) (h : e_X7_sees x1 x2 x3 S Q) : Met l yX7_sees wsX7_sees rm_X7_sees (va_Pc [.ref (q 0), .int x1, .int x2, .int x3] (vB D i A (wM q i) S)) (va_Qi Q (vB D i A (wM q i)) A) 0 0 A := by
  refine m_ofJ (own := RX7) (lv := [(0, .ref (q 0)), (1, .int x1), (2, .int x2), (3, .int x3)]) rfl (by decide) rfl (Nat.le_of_ble_eq_true rfl) rfl ?_
  intro p e s m below meth c X
  unfold e_X7_sees at h
  refine j_aload_n X rfl 0 rfl dX7_sees_0 ?_
  refine j_iload_n X rfl 1 rfl dX7_sees_1 ?_
  refine j_Vi (st := []) X [.int x1] 0 (c_X7_isMan l D i q A x1 S _ h) (cwV 1 X.ts gX7_sees_X7_isMan rfl rfl rfl (by decide +kernel) ⟨Nat.le_of_ble_eq_true rfl, Nat.le_of_ble_eq_true rfl⟩) rfl rfl rfl rfl (Nat.le_of_ble_eq_true rfl) dX7_sees_2 (fun r2 S1 h => ?_)
  refine j_if_eq (tgt := 17) X dX7_sees_5 (by decide) (fun c3 => ?_) (fun c3 => ?_)
  · have h := h.1 c3
    refine j_ldcw (v := (-1000000001 : Int32)) X (by decide +kernel) dX7_sees_17 ?_
    exact j_iret X h dX7_sees_20
  · have h := h.2 c3
    refine j_aload_n X rfl 0 rfl dX7_sees_8 ?_
    refine j_iload_n X rfl 2 rfl dX7_sees_9 ?_
    refine j_iload_n X rfl 3 rfl dX7_sees_10 ?_
    refine j_Vi (st := []) X [.int x2, .int x3] 0 (c_X7_isCell l D i q A x2 x3 S1 _ h) (cwV 2 X.ts gX7_sees_X7_isCell rfl rfl rfl (by decide +kernel) ⟨Nat.le_of_ble_eq_true rfl, Nat.le_of_ble_eq_true rfl⟩) rfl rfl rfl rfl (Nat.le_of_ble_eq_true rfl) dX7_sees_11 (fun r5 S4 h => ?_)
    refine j_if_ne (tgt := 21) X dX7_sees_14 (by decide) (fun c6 => ?_) (fun c6 => ?_)
    · have h := h.1 c6
      refine j_aload_n X rfl 0 rfl dX7_sees_21 ?_
      refine j_iload_n X rfl 1 rfl dX7_sees_22 ?_
      refine j_iload_n X rfl 2 rfl dX7_sees_23 ?_
      refine j_iload_n X rfl 3 rfl dX7_sees_24 ?_
      refine j_aload_n X rfl 0 rfl dX7_sees_25 ?_
      refine j_Vi (st := [.int x3, .int x2, .int x1, .ref (q 0)]) X [] 0 (c_X7_farNow l D i q A S4 _ h) (cwV 0 X.ts gX7_sees_X7_farNow rfl rfl rfl (by decide +kernel) ⟨Nat.le_of_ble_eq_true rfl, Nat.le_of_ble_eq_true rfl⟩) rfl rfl rfl rfl (Nat.le_of_ble_eq_true rfl) dX7_sees_26 (fun r8 S7 h => ?_)
      refine j_Vi (st := []) X [.int x1, .int x2, .int x3, .int r8] 0 (c_X7_canSee l D i q A x1 x2 x3 r8 S7 _ h) (cwV 4 X.ts gX7_sees_X7_canSee rfl rfl rfl (by decide +kernel) ⟨Nat.le_of_ble_eq_true rfl, Nat.le_of_ble_eq_true rfl⟩) rfl rfl rfl rfl (Nat.le_of_ble_eq_true rfl) dX7_sees_29 (fun r10 S9 h => ?_)
      refine j_if_eq (tgt := 39) X dX7_sees_32 (by decide) (fun c11 => ?_) (fun c11 => ?_)
      · have h := h.1 c11
        refine j_iconst (v := (0 : Int32)) X (by decide) dX7_sees_39 ?_
        exact j_iret X h dX7_sees_40
      · have h := h.2 c11
        refine j_iconst (v := (1 : Int32)) X (by decide) dX7_sees_35 ?_
        refine j_goto (tgt := 40) X dX7_sees_36 (by decide) ?_
        exact j_iret X h dX7_sees_40
    · have h := h.2 c6
      refine j_ldcw (v := (-1000000001 : Int32)) X (by decide +kernel) dX7_sees_17 ?_
      exact j_iret X h dX7_sees_20
abbrev rm_X7_blocker : Room := { frames := 2, cells := 0, slots := 0, locals := 47 }
set_option maxRecDepth 100000 in
set_option maxHeartbeats 4000000 in
theorem c_X7_blocker (l : Launch) (D : va_G) (i : Nat → ClassId) (q : Nat → Nat) (A : Nat → Prop) (x1 : Int32) (x2 : Int32) (x3 : Int32) (S : vS) (Q : Int32 → vS → Prop) (h : e_X7_blocker x1 x2 x3 S Q) : Met l yX7_blocker wsX7_blocker rm_X7_blocker (va_Pc [.ref (q 0), .int x1, .int x2, .int x3] (vB D i A (wM q i) S)) (va_Qi Q (vB D i A (wM q i)) A) 0 0 A := by
  refine m_ofJ (own := RX7) (lv := [(0, .ref (q 0)), (1, .int x1), (2, .int x2), (3, .int x3)]) rfl (by decide) rfl (Nat.le_of_ble_eq_true rfl) rfl ?_
  intro p e s m below meth c X
  unfold e_X7_blocker at h
  refine j_aload_n X rfl 0 rfl dX7_blocker_0 ?_
  refine j_iload_n X rfl 1 rfl dX7_blocker_1 ?_
  refine j_Vi (st := []) X [.int x1] 0 (c_X7_isMan l D i q A x1 S _ h) (cwV 1 X.ts gX7_blocker_X7_isMan rfl rfl rfl (by decide +kernel) ⟨Nat.le_of_ble_eq_true rfl, Nat.le_of_ble_eq_true rfl⟩) rfl rfl rfl rfl (Nat.le_of_ble_eq_true rfl) dX7_blocker_2 (fun r2 S1 h => ?_)
  refine j_if_eq (tgt := 32) X dX7_blocker_5 (by decide) (fun c3 => ?_) (fun c3 => ?_)
  · have h := h.1 c3
    refine j_ldcw (v := (-1000000001 : Int32)) X (by decide +kernel) dX7_blocker_32 ?_
    exact j_iret X h dX7_blocker_35
  · have h := h.2 c3
    refine j_aload_n X rfl 0 rfl dX7_blocker_8 ?_
    refine j_iload_n X rfl 2 rfl dX7_blocker_9 ?_
    refine j_iload_n X rfl 3 rfl dX7_blocker_10 ?_
    refine j_Vi (st := []) X [.int x2, .int x3] 0 (c_X7_isCell l D i q A x2 x3 S1 _ h) (cwV 2 X.ts gX7_blocker_X7_isCell rfl rfl rfl (by decide +kernel) ⟨Nat.le_of_ble_eq_true rfl, Nat.le_of_ble_eq_true rfl⟩) rfl rfl rfl rfl (Nat.le_of_ble_eq_true rfl) dX7_blocker_11 (fun r5 S4 h => ?_)
    refine j_if_eq (tgt := 32) X dX7_blocker_14 (by decide) (fun c6 => ?_) (fun c6 => ?_)
    · have h := h.1 c6
      refine j_ldcw (v := (-1000000001 : Int32)) X (by decide +kernel) dX7_blocker_32 ?_
      exact j_iret X h dX7_blocker_35
    · have h := h.2 c6
      refine j_aload_n X rfl 0 rfl dX7_blocker_17 ?_
      refine j_iload_n X rfl 1 rfl dX7_blocker_18 ?_
      refine j_aload_n X rfl 0 rfl dX7_blocker_19 ?_
      refine j_iload_n X rfl 1 rfl dX7_blocker_20 ?_
      refine j_Vi (st := [.int x1, .ref (q 0)]) X [.int x1] 0 (c_X7_eyeOf l D i q A x1 S4 _ h) (cwV 1 X.ts gX7_blocker_X7_eyeOf rfl rfl rfl (by decide +kernel) ⟨Nat.le_of_ble_eq_true rfl, Nat.le_of_ble_eq_true rfl⟩) rfl rfl rfl rfl (Nat.le_of_ble_eq_true rfl) dX7_blocker_21 (fun r8 S7 h => ?_)
      refine j_iload_n X rfl 2 rfl dX7_blocker_24 ?_
      refine j_iload_n X rfl 3 rfl dX7_blocker_25 ?_
      refine j_Vi (st := []) X [.int x1, .int r8, .int x2, .int x3] 0 (c_X7_blockerOf l D i q A x1 r8 x2 x3 S7 _ h) (cwV 4 X.ts gX7_blocker_X7_blockerOf rfl rfl rfl (by decide +kernel) ⟨Nat.le_of_ble_eq_true rfl, Nat.le_of_ble_eq_true rfl⟩) rfl rfl rfl rfl (Nat.le_of_ble_eq_true rfl) dX7_blocker_26 (fun r10 S9 h => ?_)
      refine j_goto (tgt := 35) X dX7_blocker_29 (by decide) ?_
      exact j_iret X h dX7_blocker_35
abbrev rm_X7_bits : Room := { frames := 0, cells := 0, slots := 0, locals := 0 }
set_option maxRecDepth 100000 in
set_option maxHeartbeats 4000000 in
theorem w_X7_bits_4 {D : va_G} {i : Nat → ClassId} {q : Nat → Nat} {A : Nat → Prop} {p : Program} {l : Launch} {e : Env} {s : State} {m : MethodId} {args : Array Value} {below : List Frame} {meth : Method} {c : Code} (X : cX D i A p s m args meth c cX7_bits RX7 3 wsX7_bits (some .int)) {Q : Int32 → vS → Prop} : ∀ (n : Nat) (a0 : Int32) (a1 : Int32) (a2 : Int32) (S : vS), e_X7_bits_4 Q n a0 a1 a2 S → cJ D A p l e (headSpec wsX7_bits rm_X7_bits).room s m args below meth c (MQ below (va_Qi Q (vB D i A (wM q i)) A) args s 0 0 A) 3 (wM q i S) [(0, .int a0), (1, .int a1), (2, .int a2)] 4 [] := by
  intro n
  induction n with
  | zero =>
    intro _ _ _ S h
    rw [e_X7_bits_4.eq_1] at h
    exact h.elim
  | succ n ih =>
    intro a0 a1 a2 S h
    rw [e_X7_bits_4.eq_2] at h
    refine j_iload_n X rfl 2 rfl dX7_bits_4 ?_
    refine j_bipush (v := (6 : Int32)) X (by decide) dX7_bits_5 ?_
    refine j_icmp_ge (tgt := 24) X dX7_bits_7 (by decide) (fun c1 => ?_) (fun c1 => ?_)
    · have h := h.1 c1
      refine j_iload_n X rfl 1 rfl dX7_bits_24 ?_
      exact j_iret X h dX7_bits_25
    · have h := h.2 c1
      refine j_iload_n X rfl 1 rfl dX7_bits_10 ?_
      refine j_iload_n X rfl 0 rfl dX7_bits_11 ?_
      refine j_iload_n X rfl 2 rfl dX7_bits_12 ?_
      refine j_ishr X dX7_bits_13 ?_
      refine j_iconst (v := (1 : Int32)) X (by decide) dX7_bits_14 ?_
      refine j_iand X dX7_bits_15 ?_
      refine j_iadd X dX7_bits_16 ?_
      refine j_topi (fun v2 ev2 => ?_)
      have h := h v2 ev2
      refine j_istore_n (lv' := [(1, .int v2), (0, .int a0), (2, .int a2)]) X rfl (by decide) rfl dX7_bits_17 ?_
      refine j_iinc (dv := (1 : Int32)) (lv' := fun v3 => [(2, .int v3), (1, .int v2), (0, .int a0)]) X dX7_bits_18 (pl := 2) rfl (by decide) (by decide) (fun _ => rfl) (fun v3 ev3 => ?_)
      have h := h v3 ev3
      refine j_goto (tgt := 4) X dX7_bits_21 (by decide) ?_
      refine j_loc [2, 1, 0] rfl ?_
      exact ih a0 v2 v3 S h
set_option maxRecDepth 100000 in
set_option maxHeartbeats 4000000 in
theorem c_X7_bits (l : Launch) (D : va_G) (i : Nat → ClassId) (q : Nat → Nat) (A : Nat → Prop) (x0 : Int32) (S : vS) (Q : Int32 → vS → Prop) (h : e_X7_bits x0 S Q) : Met l yX7_bits wsX7_bits rm_X7_bits (va_Pc [.int x0] (vB D i A (wM q i) S)) (va_Qi Q (vB D i A (wM q i)) A) 0 0 A := by
  refine m_ofJ (own := RX7) (lv := [(0, .int x0)]) rfl (by decide) rfl (Nat.le_of_ble_eq_true rfl) rfl ?_
  intro p e s m below meth c X
  unfold e_X7_bits at h
  refine j_iconst (v := (0 : Int32)) X (by decide) dX7_bits_0 ?_
  refine j_istore_n (lv' := [(1, .int (0 : Int32)), (0, .int x0)]) X rfl (by decide) rfl dX7_bits_1 ?_
  refine j_iconst (v := (0 : Int32)) X (by decide) dX7_bits_2 ?_
  refine j_istore_n (lv' := [(2, .int (0 : Int32)), (1, .int (0 : Int32)), (0, .int x0)]) X rfl (by decide) rfl dX7_bits_3 ?_
  refine j_loc [2, 1, 0] rfl ?_
  obtain ⟨j, h⟩ := h
  exact w_X7_bits_4 X j x0 (0 : Int32) (0 : Int32) S h
set_option maxRecDepth 100000 in
theorem i_X7_hasOf_X7 : ∀ w ∈ u_ws RX7 TX7 48, w ∈ wsX7_hasOf := by decide +kernel
abbrev rm_X7_hasOf : Room := { frames := 4, cells := 0, slots := 0, locals := 94 }
set_option maxRecDepth 100000 in
set_option maxHeartbeats 4000000 in
theorem c_X7_hasOf (l : Launch) (D : va_G) (i : Nat → ClassId) (q : Nat → Nat) (A : Nat → Prop) (x1 : Int32) (x2 : Int32) (x3 : Int32) (S : vS) (Q : Int32 → vS → Prop) (h : e_X7_hasOf x1 x2 x3 S Q) : Met l yX7_hasOf wsX7_hasOf rm_X7_hasOf (va_Pc [.ref (q 0), .int x1, .int x2, .int x3] (vB D i A (wM q i) S)) (va_Qi Q (vB D i A (wM q i)) A) 0 0 A := by
  refine m_ofJ (own := RX7) (lv := [(0, .ref (q 0)), (1, .int x1), (2, .int x2), (3, .int x3)]) rfl (by decide) rfl (Nat.le_of_ble_eq_true rfl) rfl ?_
  intro p e s m below meth c X
  unfold e_X7_hasOf at h
  refine j_aload_n X rfl 0 rfl dX7_hasOf_0 ?_
  refine j_aload_n X rfl 0 rfl dX7_hasOf_1 ?_
  refine j_iload_n X rfl 2 rfl dX7_hasOf_2 ?_
  refine j_iload_n X rfl 3 rfl dX7_hasOf_3 ?_
  refine j_Vi (st := [.ref (q 0)]) X [.int x2, .int x3] 0 (c_X7_seers l D i q A x2 x3 S _ h) (cwV 2 X.ts gX7_hasOf_X7_seers rfl rfl rfl (by decide +kernel) ⟨Nat.le_of_ble_eq_true rfl, Nat.le_of_ble_eq_true rfl⟩) rfl rfl rfl rfl (Nat.le_of_ble_eq_true rfl) dX7_hasOf_4 (fun r2 S1 h => ?_)
  refine j_iload_n X rfl 2 rfl dX7_hasOf_7 ?_
  refine j_iload_n X rfl 3 rfl dX7_hasOf_8 ?_
  refine j_Vi (st := []) X [.int r2, .int x2, .int x3] 0 (c_X7_ownersOf l D i q A r2 x2 x3 S1 _ h) (cwV 3 X.ts gX7_hasOf_X7_ownersOf rfl rfl rfl (by decide +kernel) ⟨Nat.le_of_ble_eq_true rfl, Nat.le_of_ble_eq_true rfl⟩) rfl rfl rfl rfl (Nat.le_of_ble_eq_true rfl) dX7_hasOf_9 (fun r4 S3 h => ?_)
  refine j_istore (lv' := [(4, .int r4), (0, .ref (q 0)), (1, .int x1), (2, .int x2), (3, .int x3)]) X (by decide) rfl dX7_hasOf_12 ?_
  refine j_iload X 0 rfl dX7_hasOf_14 ?_
  refine j_iload_n X rfl 2 rfl dX7_hasOf_16 ?_
  refine j_Si (st := []) X [.int r4, .int x1] (c_X7_has l D i q A r4 x1 S3 _ h) (va_cwS 2 X.ts gX7_hasOf_X7_has rfl rfl rfl (by decide +kernel) ⟨Nat.le_of_ble_eq_true rfl, Nat.le_of_ble_eq_true rfl⟩) rfl rfl (Nat.le_of_ble_eq_true rfl) dX7_hasOf_17 (fun r6 S5 h => ?_)
  refine j_if_eq (tgt := 45) X dX7_hasOf_20 (by decide) (fun c7 => ?_) (fun c7 => ?_)
  · have h := h.1 c7
    refine j_iconst (v := (-1 : Int32)) X (by decide) dX7_hasOf_45 ?_
    exact j_iret X h dX7_hasOf_46
  · have h := h.2 c7
    refine j_aload_n X rfl 1 rfl dX7_hasOf_23 ?_
    refine jgM_mod_fish X i_X7_hasOf_X7 (by decide +kernel) dX7_hasOf_24 ?_
    refine j_aload_n X rfl 1 rfl dX7_hasOf_27 ?_
    refine jgM_mod_wide X i_X7_hasOf_X7 (by decide +kernel) dX7_hasOf_28 ?_
    refine j_iload_n X rfl 4 rfl dX7_hasOf_31 ?_
    refine j_imul X dX7_hasOf_32 ?_
    refine j_iload_n X rfl 3 rfl dX7_hasOf_33 ?_
    refine j_iadd X dX7_hasOf_34 ?_
    obtain ⟨k8, h⟩ := h
    refine jlM_mod_fish X k8 dX7_hasOf_35 ?_
    refine j_iload X 0 rfl dX7_hasOf_36 ?_
    refine j_Si (st := [.int (S5.2.1 4 ((((S5.1 0) * x3) + x2)).toNatClampNeg)]) X [.int r4] (c_X7_bits l D i q A r4 S5 _ h) (va_cwS 1 X.ts gX7_hasOf_X7_bits rfl rfl rfl (by decide +kernel) ⟨Nat.le_of_ble_eq_true rfl, Nat.le_of_ble_eq_true rfl⟩) rfl rfl (Nat.le_of_ble_eq_true rfl) dX7_hasOf_38 (fun r10 S9 h => ?_)
    obtain ⟨k11, h⟩ := h
    refine j_idiv X k11 dX7_hasOf_41 ?_
    refine j_goto (tgt := 46) X dX7_hasOf_42 (by decide) ?_
    exact j_iret X h dX7_hasOf_46
set_option maxRecDepth 100000 in
theorem i_X7_shareOf_X7 : ∀ w ∈ u_ws RX7 TX7 48, w ∈ wsX7_shareOf := by decide +kernel
abbrev rm_X7_shareOf : Room := { frames := 5, cells := 0, slots := 0, locals := 118 }
set_option maxRecDepth 100000 in
set_option maxHeartbeats 4000000 in
theorem w_X7_shareOf_4 {D : va_G} {i : Nat → ClassId} {q : Nat → Nat} {A : Nat → Prop} {p : Program} {l : Launch} {e : Env} {s : State} {m : MethodId} {args : Array Value} {below : List Frame} {meth : Method} {c : Code} (X : cX D i A p s m args meth c cX7_shareOf RX7 5 wsX7_shareOf (some .int)) {Q : Int32 → vS → Prop} : ∀ (n : Nat) (a1 : Int32) (a2 : Int32) (a3 : Int32) (S : vS), e_X7_shareOf_4 Q n a1 a2 a3 S → cJ D A p l e (headSpec wsX7_shareOf rm_X7_shareOf).room s m args below meth c (MQ below (va_Qi Q (vB D i A (wM q i)) A) args s 0 0 A) 5 (wM q i S) [(0, .ref (q 0)), (1, .int a1), (2, .int a2), (3, .int a3)] 4 [] := by
  intro n
  induction n with
  | zero =>
    intro _ _ _ S h
    rw [e_X7_shareOf_4.eq_1] at h
    exact h.elim
  | succ n ih =>
    intro a1 a2 a3 S h
    rw [e_X7_shareOf_4.eq_2] at h
    refine j_iload_n X rfl 3 rfl dX7_shareOf_4 ?_
    refine j_aload_n X rfl 0 rfl dX7_shareOf_5 ?_
    refine j_Vi (st := [.int a3]) X [] 0 (c_X7_cells l D i q A S _ h) (cwV 0 X.ts gX7_shareOf_X7_cells rfl rfl rfl (by decide +kernel) ⟨Nat.le_of_ble_eq_true rfl, Nat.le_of_ble_eq_true rfl⟩) rfl rfl rfl rfl (Nat.le_of_ble_eq_true rfl) dX7_shareOf_6 (fun r2 S1 h => ?_)
    refine j_icmp_ge (tgt := 51) X dX7_shareOf_9 (by decide) (fun c3 => ?_) (fun c3 => ?_)
    · have h := h.1 c3
      refine j_iload_n X rfl 2 rfl dX7_shareOf_51 ?_
      exact j_iret X h dX7_shareOf_52
    · have h := h.2 c3
      refine j_aload_n X rfl 0 rfl dX7_shareOf_12 ?_
      refine j_iload_n X rfl 1 rfl dX7_shareOf_13 ?_
      refine j_iload_n X rfl 3 rfl dX7_shareOf_14 ?_
      refine j_aload_n X rfl 0 rfl dX7_shareOf_15 ?_
      refine jgM_mod_wide X i_X7_shareOf_X7 (by decide +kernel) dX7_shareOf_16 ?_
      obtain ⟨k4, h⟩ := h
      refine j_irem X k4 dX7_shareOf_19 ?_
      refine j_iload_n X rfl 3 rfl dX7_shareOf_20 ?_
      refine j_aload_n X rfl 0 rfl dX7_shareOf_21 ?_
      refine jgM_mod_wide X i_X7_shareOf_X7 (by decide +kernel) dX7_shareOf_22 ?_
      refine j_idiv X k4 dX7_shareOf_25 ?_
      refine j_Vi (st := []) X [.int a1, .int (a3 - a3 / (S1.1 0) * (S1.1 0)), .int (a3 / (S1.1 0))] 0 (c_X7_hasOf l D i q A a1 (a3 - a3 / (S1.1 0) * (S1.1 0)) (a3 / (S1.1 0)) S1 _ h) (cwV 3 X.ts gX7_shareOf_X7_hasOf rfl rfl rfl (by decide +kernel) ⟨Nat.le_of_ble_eq_true rfl, Nat.le_of_ble_eq_true rfl⟩) rfl rfl rfl rfl (Nat.le_of_ble_eq_true rfl) dX7_shareOf_26 (fun r6 S5 h => ?_)
      refine j_istore (lv' := [(4, .int r6), (0, .ref (q 0)), (1, .int a1), (2, .int a2), (3, .int a3)]) X (by decide) rfl dX7_shareOf_29 ?_
      refine j_iload_n X rfl 3 rfl dX7_shareOf_31 ?_
      refine j_iload X 0 rfl dX7_shareOf_32 ?_
      refine j_if_ge (tgt := 41) X dX7_shareOf_34 (by decide) (fun c7 => ?_) (fun c7 => ?_)
      · have h := h.1 c7
        refine j_iload X 0 rfl dX7_shareOf_41 ?_
        refine j_iadd X dX7_shareOf_43 ?_
        refine j_topi (fun v8 ev8 => ?_)
        have h := h v8 ev8
        refine j_istore_n (lv' := [(2, .int v8), (4, .int r6), (0, .ref (q 0)), (1, .int a1), (3, .int a3)]) X rfl (by decide) rfl dX7_shareOf_44 ?_
        refine j_iinc (dv := (1 : Int32)) (lv' := fun v9 => [(3, .int v9), (2, .int v8), (4, .int r6), (0, .ref (q 0)), (1, .int a1)]) X dX7_shareOf_45 (pl := 4) rfl (by decide) (by decide) (fun _ => rfl) (fun v9 ev9 => ?_)
        have h := h v9 ev9
        refine j_goto (tgt := 4) X dX7_shareOf_48 (by decide) ?_
        refine j_loc [3, 4, 1, 0] rfl ?_
        exact ih a1 v8 v9 S5 h
      · have h := h.2 c7
        refine j_iconst (v := (0 : Int32)) X (by decide) dX7_shareOf_37 ?_
        refine j_goto (tgt := 43) X dX7_shareOf_38 (by decide) ?_
        refine j_iadd X dX7_shareOf_43 ?_
        refine j_topi (fun v10 ev10 => ?_)
        have h := h v10 ev10
        refine j_istore_n (lv' := [(2, .int v10), (4, .int r6), (0, .ref (q 0)), (1, .int a1), (3, .int a3)]) X rfl (by decide) rfl dX7_shareOf_44 ?_
        refine j_iinc (dv := (1 : Int32)) (lv' := fun v11 => [(3, .int v11), (2, .int v10), (4, .int r6), (0, .ref (q 0)), (1, .int a1)]) X dX7_shareOf_45 (pl := 4) rfl (by decide) (by decide) (fun _ => rfl) (fun v11 ev11 => ?_)
        have h := h v11 ev11
        refine j_goto (tgt := 4) X dX7_shareOf_48 (by decide) ?_
        refine j_loc [3, 4, 1, 0] rfl ?_
        exact ih a1 v10 v11 S5 h
set_option maxRecDepth 100000 in
set_option maxHeartbeats 4000000 in
theorem c_X7_shareOf (l : Launch) (D : va_G) (i : Nat → ClassId) (q : Nat → Nat) (A : Nat → Prop) (x1 : Int32) (S : vS) (Q : Int32 → vS → Prop) (h : e_X7_shareOf x1 S Q) : Met l yX7_shareOf wsX7_shareOf rm_X7_shareOf (va_Pc [.ref (q 0), .int x1] (vB D i A (wM q i) S)) (va_Qi Q (vB D i A (wM q i)) A) 0 0 A := by
  refine m_ofJ (own := RX7) (lv := [(0, .ref (q 0)), (1, .int x1)]) rfl (by decide) rfl (Nat.le_of_ble_eq_true rfl) rfl ?_
  intro p e s m below meth c X
  unfold e_X7_shareOf at h
  refine j_iconst (v := (0 : Int32)) X (by decide) dX7_shareOf_0 ?_
  refine j_istore_n (lv' := [(2, .int (0 : Int32)), (0, .ref (q 0)), (1, .int x1)]) X rfl (by decide) rfl dX7_shareOf_1 ?_
  refine j_iconst (v := (0 : Int32)) X (by decide) dX7_shareOf_2 ?_
  refine j_istore_n (lv' := [(3, .int (0 : Int32)), (2, .int (0 : Int32)), (0, .ref (q 0)), (1, .int x1)]) X rfl (by decide) rfl dX7_shareOf_3 ?_
  refine j_loc [2, 3, 1, 0] rfl ?_
  obtain ⟨j, h⟩ := h
  exact w_X7_shareOf_4 X j x1 (0 : Int32) (0 : Int32) S h
abbrev rm_X7_share : Room := { frames := 6, cells := 0, slots := 0, locals := 142 }
set_option maxRecDepth 100000 in
set_option maxHeartbeats 4000000 in
theorem c_X7_share (l : Launch) (D : va_G) (i : Nat → ClassId) (q : Nat → Nat) (A : Nat → Prop) (x1 : Int32) (S : vS) (Q : Int32 → vS → Prop) (h : e_X7_share x1 S Q) : Met l yX7_share wsX7_share rm_X7_share (va_Pc [.ref (q 0), .int x1] (vB D i A (wM q i) S)) (va_Qi Q (vB D i A (wM q i)) A) 0 0 A := by
  refine m_ofJ (own := RX7) (lv := [(0, .ref (q 0)), (1, .int x1)]) rfl (by decide) rfl (Nat.le_of_ble_eq_true rfl) rfl ?_
  intro p e s m below meth c X
  unfold e_X7_share at h
  refine j_aload_n X rfl 0 rfl dX7_share_0 ?_
  refine j_iload_n X rfl 1 rfl dX7_share_1 ?_
  refine j_Vi (st := []) X [.int x1] 0 (c_X7_isMan l D i q A x1 S _ h) (cwV 1 X.ts gX7_share_X7_isMan rfl rfl rfl (by decide +kernel) ⟨Nat.le_of_ble_eq_true rfl, Nat.le_of_ble_eq_true rfl⟩) rfl rfl rfl rfl (Nat.le_of_ble_eq_true rfl) dX7_share_2 (fun r2 S1 h => ?_)
  refine j_if_eq (tgt := 16) X dX7_share_5 (by decide) (fun c3 => ?_) (fun c3 => ?_)
  · have h := h.1 c3
    refine j_ldcw (v := (-1000000001 : Int32)) X (by decide +kernel) dX7_share_16 ?_
    exact j_iret X h dX7_share_19
  · have h := h.2 c3
    refine j_aload_n X rfl 0 rfl dX7_share_8 ?_
    refine j_iload_n X rfl 1 rfl dX7_share_9 ?_
    refine j_Vi (st := []) X [.int x1] 0 (c_X7_shareOf l D i q A x1 S1 _ h) (cwV 1 X.ts gX7_share_X7_shareOf rfl rfl rfl (by decide +kernel) ⟨Nat.le_of_ble_eq_true rfl, Nat.le_of_ble_eq_true rfl⟩) rfl rfl rfl rfl (Nat.le_of_ble_eq_true rfl) dX7_share_10 (fun r5 S4 h => ?_)
    refine j_goto (tgt := 19) X dX7_share_13 (by decide) ?_
    exact j_iret X h dX7_share_19
set_option maxRecDepth 100000 in
theorem i_X7_free_X7 : ∀ w ∈ u_ws RX7 TX7 48, w ∈ wsX7_free := by decide +kernel
abbrev rm_X7_free : Room := { frames := 4, cells := 0, slots := 0, locals := 94 }
set_option maxRecDepth 100000 in
set_option maxHeartbeats 4000000 in
theorem w_X7_free_4 {D : va_G} {i : Nat → ClassId} {q : Nat → Nat} {A : Nat → Prop} {p : Program} {l : Launch} {e : Env} {s : State} {m : MethodId} {args : Array Value} {below : List Frame} {meth : Method} {c : Code} (X : cX D i A p s m args meth c cX7_free RX7 4 wsX7_free (some .int)) {Q : Int32 → vS → Prop} : ∀ (n : Nat) (a1 : Int32) (a2 : Int32) (a3 : Int32) (S : vS), e_X7_free_4 Q n a1 a2 a3 S → cJ D A p l e (headSpec wsX7_free rm_X7_free).room s m args below meth c (MQ below (va_Qi Q (vB D i A (wM q i)) A) args s 0 0 A) 4 (wM q i S) [(0, .ref (q 0)), (1, .int a1), (2, .int a2), (3, .int a3)] 4 [] := by
  intro n
  induction n with
  | zero =>
    intro _ _ _ S h
    rw [e_X7_free_4.eq_1] at h
    exact h.elim
  | succ n ih =>
    intro a1 a2 a3 S h
    rw [e_X7_free_4.eq_2] at h
    refine j_iload_n X rfl 3 rfl dX7_free_4 ?_
    refine j_aload_n X rfl 0 rfl dX7_free_5 ?_
    refine j_Vi (st := [.int a3]) X [] 0 (c_X7_cells l D i q A S _ h) (cwV 0 X.ts gX7_free_X7_cells rfl rfl rfl (by decide +kernel) ⟨Nat.le_of_ble_eq_true rfl, Nat.le_of_ble_eq_true rfl⟩) rfl rfl rfl rfl (Nat.le_of_ble_eq_true rfl) dX7_free_6 (fun r2 S1 h => ?_)
    refine j_icmp_ge (tgt := 62) X dX7_free_9 (by decide) (fun c3 => ?_) (fun c3 => ?_)
    · have h := h.1 c3
      refine j_iconst (v := (-1 : Int32)) X (by decide) dX7_free_62 ?_
      exact j_iret X h dX7_free_63
    · have h := h.2 c3
      refine j_aload_n X rfl 0 rfl dX7_free_12 ?_
      refine j_iload_n X rfl 3 rfl dX7_free_13 ?_
      refine j_aload_n X rfl 0 rfl dX7_free_14 ?_
      refine jgM_mod_wide X i_X7_free_X7 (by decide +kernel) dX7_free_15 ?_
      obtain ⟨k4, h⟩ := h
      refine j_irem X k4 dX7_free_18 ?_
      refine j_iload_n X rfl 3 rfl dX7_free_19 ?_
      refine j_aload_n X rfl 0 rfl dX7_free_20 ?_
      refine jgM_mod_wide X i_X7_free_X7 (by decide +kernel) dX7_free_21 ?_
      refine j_idiv X k4 dX7_free_24 ?_
      refine j_Vi (st := []) X [.int (a3 - a3 / (S1.1 0) * (S1.1 0)), .int (a3 / (S1.1 0))] 0 (c_X7_seers l D i q A (a3 - a3 / (S1.1 0) * (S1.1 0)) (a3 / (S1.1 0)) S1 _ h) (cwV 2 X.ts gX7_free_X7_seers rfl rfl rfl (by decide +kernel) ⟨Nat.le_of_ble_eq_true rfl, Nat.le_of_ble_eq_true rfl⟩) rfl rfl rfl rfl (Nat.le_of_ble_eq_true rfl) dX7_free_25 (fun r6 S5 h => ?_)
      refine j_if_ne (tgt := 56) X dX7_free_28 (by decide) (fun c7 => ?_) (fun c7 => ?_)
      · have h := h.1 c7
        refine j_iinc (dv := (1 : Int32)) (lv' := fun v8 => [(3, .int v8), (0, .ref (q 0)), (1, .int a1), (2, .int a2)]) X dX7_free_56 (pl := 3) rfl (by decide) (by decide) (fun _ => rfl) (fun v8 ev8 => ?_)
        have h := h v8 ev8
        refine j_goto (tgt := 4) X dX7_free_59 (by decide) ?_
        refine j_loc [1, 2, 3, 0] rfl ?_
        exact ih a1 a2 v8 S5 h
      · have h := h.2 c7
        refine j_iload_n X rfl 2 rfl dX7_free_31 ?_
        refine j_iload_n X rfl 1 rfl dX7_free_32 ?_
        refine j_icmp_ne (tgt := 53) X dX7_free_33 (by decide) (fun c9 => ?_) (fun c9 => ?_)
        · have h := h.1 c9
          refine j_iinc (dv := (1 : Int32)) (lv' := fun v10 => [(2, .int v10), (0, .ref (q 0)), (1, .int a1), (3, .int a3)]) X dX7_free_53 (pl := 2) rfl (by decide) (by decide) (fun _ => rfl) (fun v10 ev10 => ?_)
          have h := h v10 ev10
          refine j_iinc (dv := (1 : Int32)) (lv' := fun v11 => [(3, .int v11), (2, .int v10), (0, .ref (q 0)), (1, .int a1)]) X dX7_free_56 (pl := 3) rfl (by decide) (by decide) (fun _ => rfl) (fun v11 ev11 => ?_)
          have h := h v11 ev11
          refine j_goto (tgt := 4) X dX7_free_59 (by decide) ?_
          refine j_loc [2, 3, 1, 0] rfl ?_
          exact ih a1 v10 v11 S5 h
        · have h := h.2 c9
          refine j_bipush (v := (100 : Int32)) X (by decide) dX7_free_36 ?_
          refine j_iload_n X rfl 3 rfl dX7_free_38 ?_
          refine j_aload_n X rfl 0 rfl dX7_free_39 ?_
          refine jgM_mod_wide X i_X7_free_X7 (by decide +kernel) dX7_free_40 ?_
          obtain ⟨k12, h⟩ := h
          refine j_irem X k12 dX7_free_43 ?_
          refine j_imul X dX7_free_44 ?_
          refine j_iload_n X rfl 3 rfl dX7_free_45 ?_
          refine j_aload_n X rfl 0 rfl dX7_free_46 ?_
          refine jgM_mod_wide X i_X7_free_X7 (by decide +kernel) dX7_free_47 ?_
          refine j_idiv X k12 dX7_free_50 ?_
          refine j_iadd X dX7_free_51 ?_
          exact j_iret X h dX7_free_52
set_option maxRecDepth 100000 in
set_option maxHeartbeats 4000000 in
theorem c_X7_free (l : Launch) (D : va_G) (i : Nat → ClassId) (q : Nat → Nat) (A : Nat → Prop) (x1 : Int32) (S : vS) (Q : Int32 → vS → Prop) (h : e_X7_free x1 S Q) : Met l yX7_free wsX7_free rm_X7_free (va_Pc [.ref (q 0), .int x1] (vB D i A (wM q i) S)) (va_Qi Q (vB D i A (wM q i)) A) 0 0 A := by
  refine m_ofJ (own := RX7) (lv := [(0, .ref (q 0)), (1, .int x1)]) rfl (by decide) rfl (Nat.le_of_ble_eq_true rfl) rfl ?_
  intro p e s m below meth c X
  unfold e_X7_free at h
  refine j_iconst (v := (0 : Int32)) X (by decide) dX7_free_0 ?_
  refine j_istore_n (lv' := [(2, .int (0 : Int32)), (0, .ref (q 0)), (1, .int x1)]) X rfl (by decide) rfl dX7_free_1 ?_
  refine j_iconst (v := (0 : Int32)) X (by decide) dX7_free_2 ?_
  refine j_istore_n (lv' := [(3, .int (0 : Int32)), (2, .int (0 : Int32)), (0, .ref (q 0)), (1, .int x1)]) X rfl (by decide) rfl dX7_free_3 ?_
  refine j_loc [2, 3, 1, 0] rfl ?_
  obtain ⟨j, h⟩ := h
  exact w_X7_free_4 X j x1 (0 : Int32) (0 : Int32) S h
set_option maxRecDepth 100000 in
theorem i_X7_law_X7 : ∀ w ∈ u_ws RX7 TX7 48, w ∈ wsX7_law := by decide +kernel
abbrev rm_X7_law : Room := { frames := 1, cells := 0, slots := 0, locals := 25 }
set_option maxRecDepth 100000 in
set_option maxHeartbeats 4000000 in
theorem c_X7_law (l : Launch) (D : va_G) (i : Nat → ClassId) (q : Nat → Nat) (A : Nat → Prop) (x1 : Int32) (S : vS) (Q : Int32 → vS → Prop) (h : e_X7_law x1 S Q) : Met l yX7_law wsX7_law rm_X7_law (va_Pc [.ref (q 0), .int x1] (vB D i A (wM q i) S)) (va_Qi Q (vB D i A (wM q i)) A) 0 0 A := by
  refine m_ofJ (own := RX7) (lv := [(0, .ref (q 0)), (1, .int x1)]) rfl (by decide) rfl (Nat.le_of_ble_eq_true rfl) rfl ?_
  intro p e s m below meth c X
  unfold e_X7_law at h
  refine j_iload_n X rfl 1 rfl dX7_law_0 ?_
  refine j_i2l X dX7_law_1 ?_
  refine j_lconst (v := (0 : Int64)) X (by decide) dX7_law_2 ?_
  refine j_ldc2 (v := (2 : Int64)) X (by decide +kernel) dX7_law_3 ?_
  refine j_Si (st := []) X [.long (x1).toInt64, .long (0 : Int64), .long (2 : Int64)] (c_X7_in l D i q A (x1).toInt64 (0 : Int64) (2 : Int64) S _ h) (va_cwS 3 X.ts gX7_law_X7_in rfl rfl rfl (by decide +kernel) ⟨Nat.le_of_ble_eq_true rfl, Nat.le_of_ble_eq_true rfl⟩) rfl rfl (Nat.le_of_ble_eq_true rfl) dX7_law_6 (fun r2 S1 h => ?_)
  refine j_if_ne (tgt := 15) X dX7_law_9 (by decide) (fun c3 => ?_) (fun c3 => ?_)
  · have h := h.1 c3
    refine j_aload_n X rfl 0 rfl dX7_law_15 ?_
    refine jgM_mod_law X i_X7_law_X7 (by decide +kernel) dX7_law_16 ?_
    refine j_topi (fun v4 ev4 => ?_)
    have h := h v4 ev4
    refine j_istore_n (lv' := [(2, .int v4), (0, .ref (q 0)), (1, .int x1)]) X rfl (by decide) rfl dX7_law_19 ?_
    refine j_aload_n X rfl 1 rfl dX7_law_20 ?_
    refine j_iload_n X rfl 2 rfl dX7_law_21 ?_
    refine jpM_mod_law X i_X7_law_X7 (by decide +kernel) dX7_law_22 (fun S5 eS5 => ?_)
    have h := h S5 eS5
    refine j_iload_n X rfl 0 rfl dX7_law_25 ?_
    exact j_iret X h dX7_law_26
  · have h := h.2 c3
    refine j_ldc (v := (-1000000002 : Int32)) X (by decide +kernel) dX7_law_12 ?_
    exact j_iret X h dX7_law_14
set_option maxRecDepth 100000 in
theorem i_X7_buildNow_X7 : ∀ w ∈ u_ws RX7 TX7 48, w ∈ wsX7_buildNow := by decide +kernel
abbrev rm_X7_buildNow : Room := { frames := 0, cells := 0, slots := 0, locals := 0 }
set_option maxRecDepth 100000 in
set_option maxHeartbeats 4000000 in
theorem c_X7_buildNow (l : Launch) (D : va_G) (i : Nat → ClassId) (q : Nat → Nat) (A : Nat → Prop) (x1 : Int32) (S : vS) (Q : vS → Prop) (h : e_X7_buildNow x1 S Q) : Met l yX7_buildNow wsX7_buildNow rm_X7_buildNow (va_Pc [.ref (q 0), .int x1] (vB D i A (wM q i) S)) (va_Qv Q (vB D i A (wM q i)) A) 0 0 A := by
  refine m_ofJ (own := RX7) (lv := [(0, .ref (q 0)), (1, .int x1)]) rfl (by decide) rfl (Nat.le_of_ble_eq_true rfl) rfl ?_
  intro p e s m below meth c X
  unfold e_X7_buildNow at h
  refine j_aload_n X rfl 0 rfl dX7_buildNow_0 ?_
  refine jgM_mod_storeys X i_X7_buildNow_X7 (by decide +kernel) dX7_buildNow_1 ?_
  refine j_iload_n X rfl 1 rfl dX7_buildNow_4 ?_
  refine j_dup2 X rfl rfl dX7_buildNow_5 ?_
  obtain ⟨k1, h⟩ := h
  refine jlM_mod_storeys X k1 dX7_buildNow_6 ?_
  refine j_iconst (v := (1 : Int32)) X (by decide) dX7_buildNow_7 ?_
  refine j_iadd X dX7_buildNow_8 ?_
  refine jsM_mod_storeys X k1 dX7_buildNow_9 (fun S2 eS2 => ?_)
  have h := h S2 eS2
  refine j_aload_n X rfl 0 rfl dX7_buildNow_10 ?_
  refine jgM_mod_purse X i_X7_buildNow_X7 (by decide +kernel) dX7_buildNow_11 ?_
  refine j_iload_n X rfl 1 rfl dX7_buildNow_14 ?_
  refine j_dup2 X rfl rfl dX7_buildNow_15 ?_
  refine jlM_mod_purse X k1 dX7_buildNow_16 ?_
  refine j_aload_n X rfl 0 rfl dX7_buildNow_17 ?_
  refine jgM_mod_storeyCost X i_X7_buildNow_X7 (by decide +kernel) dX7_buildNow_18 ?_
  refine j_isub X dX7_buildNow_21 ?_
  refine jsM_mod_purse X k1 dX7_buildNow_22 (fun S3 eS3 => ?_)
  have h := h S3 eS3
  exact j_vret X h dX7_buildNow_23
set_option maxRecDepth 100000 in
theorem i_X7_build_X7 : ∀ w ∈ u_ws RX7 TX7 48, w ∈ wsX7_build := by decide +kernel
abbrev rm_X7_build : Room := { frames := 2, cells := 0, slots := 0, locals := 46 }
set_option maxRecDepth 100000 in
set_option maxHeartbeats 4000000 in
theorem c_X7_build (l : Launch) (D : va_G) (i : Nat → ClassId) (q : Nat → Nat) (A : Nat → Prop) (x1 : Int32) (S : vS) (Q : Int32 → vS → Prop) (h : e_X7_build x1 S Q) : Met l yX7_build wsX7_build rm_X7_build (va_Pc [.ref (q 0), .int x1] (vB D i A (wM q i) S)) (va_Qi Q (vB D i A (wM q i)) A) 0 0 A := by
  refine m_ofJ (own := RX7) (lv := [(0, .ref (q 0)), (1, .int x1)]) rfl (by decide) rfl (Nat.le_of_ble_eq_true rfl) rfl ?_
  intro p e s m below meth c X
  unfold e_X7_build at h
  refine j_aload_n X rfl 0 rfl dX7_build_0 ?_
  refine j_iload_n X rfl 1 rfl dX7_build_1 ?_
  refine j_Vi (st := []) X [.int x1] 0 (c_X7_isMan l D i q A x1 S _ h) (cwV 1 X.ts gX7_build_X7_isMan rfl rfl rfl (by decide +kernel) ⟨Nat.le_of_ble_eq_true rfl, Nat.le_of_ble_eq_true rfl⟩) rfl rfl rfl rfl (Nat.le_of_ble_eq_true rfl) dX7_build_2 (fun r2 S1 h => ?_)
  refine j_if_ne (tgt := 12) X dX7_build_5 (by decide) (fun c3 => ?_) (fun c3 => ?_)
  · have h := h.1 c3
    refine j_aload_n X rfl 0 rfl dX7_build_12 ?_
    refine jgM_mod_storeys X i_X7_build_X7 (by decide +kernel) dX7_build_13 ?_
    refine j_iload_n X rfl 1 rfl dX7_build_16 ?_
    obtain ⟨k4, h⟩ := h
    refine jlM_mod_storeys X k4 dX7_build_17 ?_
    refine j_bipush (v := (9 : Int32)) X (by decide) dX7_build_18 ?_
    refine j_icmp_ne (tgt := 27) X dX7_build_20 (by decide) (fun c5 => ?_) (fun c5 => ?_)
    · have h := h.1 c5
      refine j_aload_n X rfl 0 rfl dX7_build_27 ?_
      refine j_iload_n X rfl 1 rfl dX7_build_28 ?_
      refine j_Vv (st := []) X [.int x1] 0 (c_X7_buildNow l D i q A x1 S1 _ h) (cwV 1 X.ts gX7_build_X7_buildNow rfl rfl rfl (by decide +kernel) ⟨Nat.le_of_ble_eq_true rfl, Nat.le_of_ble_eq_true rfl⟩) rfl rfl rfl rfl (Nat.le_of_ble_eq_true rfl) dX7_build_29 (fun S6 h => ?_)
      refine j_aload_n X rfl 0 rfl dX7_build_32 ?_
      refine jgM_mod_storeys X i_X7_build_X7 (by decide +kernel) dX7_build_33 ?_
      refine j_iload_n X rfl 1 rfl dX7_build_36 ?_
      refine jlM_mod_storeys X k4 dX7_build_37 ?_
      exact j_iret X h dX7_build_38
    · have h := h.2 c5
      refine j_ldcw (v := (-1000000003 : Int32)) X (by decide +kernel) dX7_build_23 ?_
      exact j_iret X h dX7_build_26
  · have h := h.2 c3
    refine j_ldcw (v := (-1000000001 : Int32)) X (by decide +kernel) dX7_build_8 ?_
    exact j_iret X h dX7_build_11
set_option maxRecDepth 100000 in
theorem i_X7_plant_X7 : ∀ w ∈ u_ws RX7 TX7 48, w ∈ wsX7_plant := by decide +kernel
abbrev rm_X7_plant : Room := { frames := 2, cells := 0, slots := 0, locals := 47 }
set_option maxRecDepth 100000 in
set_option maxHeartbeats 4000000 in
theorem c_X7_plant (l : Launch) (D : va_G) (i : Nat → ClassId) (q : Nat → Nat) (A : Nat → Prop) (x1 : Int32) (x2 : Int32) (x3 : Int32) (S : vS) (Q : Int32 → vS → Prop) (h : e_X7_plant x1 x2 x3 S Q) : Met l yX7_plant wsX7_plant rm_X7_plant (va_Pc [.ref (q 0), .int x1, .int x2, .int x3] (vB D i A (wM q i) S)) (va_Qi Q (vB D i A (wM q i)) A) 0 0 A := by
  refine m_ofJ (own := RX7) (lv := [(0, .ref (q 0)), (1, .int x1), (2, .int x2), (3, .int x3)]) rfl (by decide) rfl (Nat.le_of_ble_eq_true rfl) rfl ?_
  intro p e s m below meth c X
  unfold e_X7_plant at h
  refine j_aload_n X rfl 0 rfl dX7_plant_0 ?_
  refine j_iload_n X rfl 1 rfl dX7_plant_1 ?_
  refine j_iload_n X rfl 2 rfl dX7_plant_2 ?_
  refine j_Vi (st := []) X [.int x1, .int x2] 0 (c_X7_isCell l D i q A x1 x2 S _ h) (cwV 2 X.ts gX7_plant_X7_isCell rfl rfl rfl (by decide +kernel) ⟨Nat.le_of_ble_eq_true rfl, Nat.le_of_ble_eq_true rfl⟩) rfl rfl rfl rfl (Nat.le_of_ble_eq_true rfl) dX7_plant_3 (fun r2 S1 h => ?_)
  refine j_if_ne (tgt := 13) X dX7_plant_6 (by decide) (fun c3 => ?_) (fun c3 => ?_)
  · have h := h.1 c3
    refine j_iload_n X rfl 3 rfl dX7_plant_13 ?_
    refine j_i2l X dX7_plant_14 ?_
    refine j_lconst (v := (0 : Int64)) X (by decide) dX7_plant_15 ?_
    refine j_ldc2 (v := (99 : Int64)) X (by decide +kernel) dX7_plant_16 ?_
    refine j_Si (st := []) X [.long (x3).toInt64, .long (0 : Int64), .long (99 : Int64)] (c_X7_in l D i q A (x3).toInt64 (0 : Int64) (99 : Int64) S1 _ h) (va_cwS 3 X.ts gX7_plant_X7_in rfl rfl rfl (by decide +kernel) ⟨Nat.le_of_ble_eq_true rfl, Nat.le_of_ble_eq_true rfl⟩) rfl rfl (Nat.le_of_ble_eq_true rfl) dX7_plant_19 (fun r5 S4 h => ?_)
    refine j_if_ne (tgt := 28) X dX7_plant_22 (by decide) (fun c6 => ?_) (fun c6 => ?_)
    · have h := h.1 c6
      refine j_aload_n X rfl 0 rfl dX7_plant_28 ?_
      refine jgM_mod_stand X i_X7_plant_X7 (by decide +kernel) dX7_plant_29 ?_
      refine j_aload_n X rfl 0 rfl dX7_plant_32 ?_
      refine jgM_mod_wide X i_X7_plant_X7 (by decide +kernel) dX7_plant_33 ?_
      refine j_iload_n X rfl 2 rfl dX7_plant_36 ?_
      refine j_imul X dX7_plant_37 ?_
      refine j_iload_n X rfl 1 rfl dX7_plant_38 ?_
      refine j_iadd X dX7_plant_39 ?_
      obtain ⟨k7, h⟩ := h
      refine jlM_mod_stand X k7 dX7_plant_40 ?_
      refine j_topi (fun v8 ev8 => ?_)
      have h := h v8 ev8
      refine j_istore (lv' := [(4, .int v8), (0, .ref (q 0)), (1, .int x1), (2, .int x2), (3, .int x3)]) X (by decide) rfl dX7_plant_41 ?_
      refine j_aload_n X rfl 1 rfl dX7_plant_43 ?_
      refine jgM_mod_stand X i_X7_plant_X7 (by decide +kernel) dX7_plant_44 ?_
      refine j_aload_n X rfl 1 rfl dX7_plant_47 ?_
      refine jgM_mod_wide X i_X7_plant_X7 (by decide +kernel) dX7_plant_48 ?_
      refine j_iload_n X rfl 3 rfl dX7_plant_51 ?_
      refine j_imul X dX7_plant_52 ?_
      refine j_iload_n X rfl 2 rfl dX7_plant_53 ?_
      refine j_iadd X dX7_plant_54 ?_
      refine j_iload_n X rfl 4 rfl dX7_plant_55 ?_
      refine jsM_mod_stand X k7 dX7_plant_56 (fun S9 eS9 => ?_)
      have h := h S9 eS9
      refine j_iload X 0 rfl dX7_plant_57 ?_
      exact j_iret X h dX7_plant_59
    · have h := h.2 c6
      refine j_ldc (v := (-1000000002 : Int32)) X (by decide +kernel) dX7_plant_25 ?_
      exact j_iret X h dX7_plant_27
  · have h := h.2 c3
    refine j_ldcw (v := (-1000000001 : Int32)) X (by decide +kernel) dX7_plant_9 ?_
    exact j_iret X h dX7_plant_12
set_option maxRecDepth 100000 in
theorem i_X7_dayNow_X7 : ∀ w ∈ u_ws RX7 TX7 48, w ∈ wsX7_dayNow := by decide +kernel
abbrev rm_X7_dayNow : Room := { frames := 6, cells := 0, slots := 0, locals := 142 }
set_option maxRecDepth 100000 in
set_option maxHeartbeats 4000000 in
theorem w_X7_dayNow_2 {D : va_G} {i : Nat → ClassId} {q : Nat → Nat} {A : Nat → Prop} {p : Program} {l : Launch} {e : Env} {s : State} {m : MethodId} {args : Array Value} {below : List Frame} {meth : Method} {c : Code} (X : cX D i A p s m args meth c cX7_dayNow RX7 3 wsX7_dayNow none) {Q : vS → Prop} : ∀ (n : Nat) (a1 : Int32) (S : vS), e_X7_dayNow_2 Q n a1 S → cJ D A p l e (headSpec wsX7_dayNow rm_X7_dayNow).room s m args below meth c (MQ below (va_Qv Q (vB D i A (wM q i)) A) args s 0 0 A) 3 (wM q i S) [(0, .ref (q 0)), (1, .int a1)] 2 [] := by
  intro n
  induction n with
  | zero =>
    intro _ S h
    rw [e_X7_dayNow_2.eq_1] at h
    exact h.elim
  | succ n ih =>
    intro a1 S h
    rw [e_X7_dayNow_2.eq_2] at h
    refine j_iload_n X rfl 1 rfl dX7_dayNow_2 ?_
    refine j_aload_n X rfl 0 rfl dX7_dayNow_3 ?_
    refine jgM_mod_men X i_X7_dayNow_X7 (by decide +kernel) dX7_dayNow_4 ?_
    refine j_icmp_ge (tgt := 32) X dX7_dayNow_7 (by decide) (fun c1 => ?_) (fun c1 => ?_)
    · have h := h.1 c1
      refine j_aload_n X rfl 0 rfl dX7_dayNow_32 ?_
      refine j_dup X rfl dX7_dayNow_33 ?_
      refine jgM_mod_day X i_X7_dayNow_X7 (by decide +kernel) dX7_dayNow_34 ?_
      refine j_iconst (v := (1 : Int32)) X (by decide) dX7_dayNow_37 ?_
      refine j_iadd X dX7_dayNow_38 ?_
      refine jpM_mod_day X i_X7_dayNow_X7 (by decide +kernel) dX7_dayNow_39 (fun S2 eS2 => ?_)
      have h := h S2 eS2
      exact j_vret X h dX7_dayNow_42
    · have h := h.2 c1
      refine j_aload_n X rfl 0 rfl dX7_dayNow_10 ?_
      refine j_iload_n X rfl 1 rfl dX7_dayNow_11 ?_
      refine j_Vi (st := []) X [.int a1] 0 (c_X7_shareOf l D i q A a1 S _ h) (cwV 1 X.ts gX7_dayNow_X7_shareOf rfl rfl rfl (by decide +kernel) ⟨Nat.le_of_ble_eq_true rfl, Nat.le_of_ble_eq_true rfl⟩) rfl rfl rfl rfl (Nat.le_of_ble_eq_true rfl) dX7_dayNow_12 (fun r4 S3 h => ?_)
      refine j_istore_n (lv' := [(2, .int r4), (0, .ref (q 0)), (1, .int a1)]) X rfl (by decide) rfl dX7_dayNow_15 ?_
      refine j_aload_n X rfl 1 rfl dX7_dayNow_16 ?_
      refine jgM_mod_purse X i_X7_dayNow_X7 (by decide +kernel) dX7_dayNow_17 ?_
      refine j_iload_n X rfl 2 rfl dX7_dayNow_20 ?_
      refine j_dup2 X rfl rfl dX7_dayNow_21 ?_
      obtain ⟨k5, h⟩ := h
      refine jlM_mod_purse X k5 dX7_dayNow_22 ?_
      refine j_iload_n X rfl 0 rfl dX7_dayNow_23 ?_
      refine j_iadd X dX7_dayNow_24 ?_
      refine jsM_mod_purse X k5 dX7_dayNow_25 (fun S6 eS6 => ?_)
      have h := h S6 eS6
      refine j_iinc (dv := (1 : Int32)) (lv' := fun v7 => [(1, .int v7), (2, .int r4), (0, .ref (q 0))]) X dX7_dayNow_26 (pl := 2) rfl (by decide) (by decide) (fun _ => rfl) (fun v7 ev7 => ?_)
      have h := h v7 ev7
      refine j_goto (tgt := 2) X dX7_dayNow_29 (by decide) ?_
      refine j_loc [2, 0] rfl ?_
      exact ih v7 S6 h
set_option maxRecDepth 100000 in
set_option maxHeartbeats 4000000 in
theorem c_X7_dayNow (l : Launch) (D : va_G) (i : Nat → ClassId) (q : Nat → Nat) (A : Nat → Prop) (S : vS) (Q : vS → Prop) (h : e_X7_dayNow S Q) : Met l yX7_dayNow wsX7_dayNow rm_X7_dayNow (va_Pc [.ref (q 0)] (vB D i A (wM q i) S)) (va_Qv Q (vB D i A (wM q i)) A) 0 0 A := by
  refine m_ofJ (own := RX7) (lv := [(0, .ref (q 0))]) rfl (by decide) rfl (Nat.le_of_ble_eq_true rfl) rfl ?_
  intro p e s m below meth c X
  unfold e_X7_dayNow at h
  refine j_iconst (v := (0 : Int32)) X (by decide) dX7_dayNow_0 ?_
  refine j_istore_n (lv' := [(1, .int (0 : Int32)), (0, .ref (q 0))]) X rfl (by decide) rfl dX7_dayNow_1 ?_
  refine j_loc [1, 0] rfl ?_
  obtain ⟨j, h⟩ := h
  exact w_X7_dayNow_2 X j (0 : Int32) S h
set_option maxRecDepth 100000 in
theorem i_X7_day_X7 : ∀ w ∈ u_ws RX7 TX7 48, w ∈ wsX7_day := by decide +kernel
abbrev rm_X7_day : Room := { frames := 7, cells := 0, slots := 0, locals := 164 }
set_option maxRecDepth 100000 in
set_option maxHeartbeats 4000000 in
theorem w_X7_day_28 {D : va_G} {i : Nat → ClassId} {q : Nat → Nat} {A : Nat → Prop} {p : Program} {l : Launch} {e : Env} {s : State} {m : MethodId} {args : Array Value} {below : List Frame} {meth : Method} {c : Code} (X : cX D i A p s m args meth c cX7_day RX7 3 wsX7_day (some .int)) {Q : Int32 → vS → Prop} : ∀ (n : Nat) (a1 : Int32) (a2 : Int32) (S : vS), e_X7_day_28 Q n a1 a2 S → cJ D A p l e (headSpec wsX7_day rm_X7_day).room s m args below meth c (MQ below (va_Qi Q (vB D i A (wM q i)) A) args s 0 0 A) 3 (wM q i S) [(0, .ref (q 0)), (1, .int a1), (2, .int a2)] 28 [] := by
  intro n
  induction n with
  | zero =>
    intro _ _ S h
    rw [e_X7_day_28.eq_1] at h
    exact h.elim
  | succ n ih =>
    intro a1 a2 S h
    rw [e_X7_day_28.eq_2] at h
    refine j_iload_n X rfl 2 rfl dX7_day_28 ?_
    refine j_iload_n X rfl 1 rfl dX7_day_29 ?_
    refine j_icmp_ge (tgt := 43) X dX7_day_30 (by decide) (fun c5 => ?_) (fun c5 => ?_)
    · have h := h.1 c5
      refine j_aload_n X rfl 0 rfl dX7_day_43 ?_
      refine jgM_mod_day X i_X7_day_X7 (by decide +kernel) dX7_day_44 ?_
      exact j_iret X h dX7_day_47
    · have h := h.2 c5
      refine j_aload_n X rfl 0 rfl dX7_day_33 ?_
      refine j_Vv (st := []) X [] 0 (c_X7_dayNow l D i q A S _ h) (cwV 0 X.ts gX7_day_X7_dayNow rfl rfl rfl (by decide +kernel) ⟨Nat.le_of_ble_eq_true rfl, Nat.le_of_ble_eq_true rfl⟩) rfl rfl rfl rfl (Nat.le_of_ble_eq_true rfl) dX7_day_34 (fun S6 h => ?_)
      refine j_iinc (dv := (1 : Int32)) (lv' := fun v8 => [(2, .int v8), (0, .ref (q 0)), (1, .int a1)]) X dX7_day_37 (pl := 2) rfl (by decide) (by decide) (fun _ => rfl) (fun v8 ev8 => ?_)
      have h := h v8 ev8
      refine j_goto (tgt := 28) X dX7_day_40 (by decide) ?_
      refine j_loc [1, 2, 0] rfl ?_
      exact ih a1 v8 S6 h
set_option maxRecDepth 100000 in
set_option maxHeartbeats 4000000 in
theorem c_X7_day (l : Launch) (D : va_G) (i : Nat → ClassId) (q : Nat → Nat) (A : Nat → Prop) (x1 : Int32) (S : vS) (Q : Int32 → vS → Prop) (h : e_X7_day x1 S Q) : Met l yX7_day wsX7_day rm_X7_day (va_Pc [.ref (q 0), .int x1] (vB D i A (wM q i) S)) (va_Qi Q (vB D i A (wM q i)) A) 0 0 A := by
  refine m_ofJ (own := RX7) (lv := [(0, .ref (q 0)), (1, .int x1)]) rfl (by decide) rfl (Nat.le_of_ble_eq_true rfl) rfl ?_
  intro p e s m below meth c X
  unfold e_X7_day at h
  refine j_iload_n X rfl 1 rfl dX7_day_0 ?_
  refine j_i2l X dX7_day_1 ?_
  refine j_lconst (v := (1 : Int64)) X (by decide) dX7_day_2 ?_
  refine j_ldc2 (v := (99 : Int64)) X (by decide +kernel) dX7_day_3 ?_
  refine j_Si (st := []) X [.long (x1).toInt64, .long (1 : Int64), .long (99 : Int64)] (c_X7_in l D i q A (x1).toInt64 (1 : Int64) (99 : Int64) S _ h) (va_cwS 3 X.ts gX7_day_X7_in rfl rfl rfl (by decide +kernel) ⟨Nat.le_of_ble_eq_true rfl, Nat.le_of_ble_eq_true rfl⟩) rfl rfl (Nat.le_of_ble_eq_true rfl) dX7_day_6 (fun r2 S1 h => ?_)
  refine j_if_ne (tgt := 15) X dX7_day_9 (by decide) (fun c3 => ?_) (fun c3 => ?_)
  · have h := h.1 c3
    refine j_aload_n X rfl 0 rfl dX7_day_15 ?_
    refine jgM_mod_wide X i_X7_day_X7 (by decide +kernel) dX7_day_16 ?_
    refine j_if_ne (tgt := 26) X dX7_day_19 (by decide) (fun c4 => ?_) (fun c4 => ?_)
    · have h := h.1 c4
      refine j_iconst (v := (0 : Int32)) X (by decide) dX7_day_26 ?_
      refine j_istore_n (lv' := [(2, .int (0 : Int32)), (0, .ref (q 0)), (1, .int x1)]) X rfl (by decide) rfl dX7_day_27 ?_
      refine j_loc [1, 2, 0] rfl ?_
      obtain ⟨j, h⟩ := h
      exact w_X7_day_28 X j x1 (0 : Int32) S1 h
    · have h := h.2 c4
      refine j_ldcw (v := (-1000000003 : Int32)) X (by decide +kernel) dX7_day_22 ?_
      exact j_iret X h dX7_day_25
  · have h := h.2 c3
    refine j_ldc (v := (-1000000002 : Int32)) X (by decide +kernel) dX7_day_12 ?_
    exact j_iret X h dX7_day_14
set_option maxRecDepth 100000 in
theorem i_X7_draw_X7 : ∀ w ∈ u_ws RX7 TX7 48, w ∈ wsX7_draw := by decide +kernel
abbrev rm_X7_draw : Room := { frames := 0, cells := 0, slots := 0, locals := 0 }
set_option maxRecDepth 100000 in
set_option maxHeartbeats 4000000 in
theorem c_X7_draw (l : Launch) (D : va_G) (i : Nat → ClassId) (q : Nat → Nat) (A : Nat → Prop) (x1 : Int32) (S : vS) (Q : Int32 → vS → Prop) (h : e_X7_draw x1 S Q) : Met l yX7_draw wsX7_draw rm_X7_draw (va_Pc [.ref (q 0), .int x1] (vB D i A (wM q i) S)) (va_Qi Q (vB D i A (wM q i)) A) 0 0 A := by
  refine m_ofJ (own := RX7) (lv := [(0, .ref (q 0)), (1, .int x1)]) rfl (by decide) rfl (Nat.le_of_ble_eq_true rfl) rfl ?_
  intro p e s m below meth c X
  unfold e_X7_draw at h
  refine j_aload_n X rfl 0 rfl dX7_draw_0 ?_
  refine j_aload_n X rfl 0 rfl dX7_draw_1 ?_
  refine jgM_mod_seed X i_X7_draw_X7 (by decide +kernel) dX7_draw_2 ?_
  refine j_i2l X dX7_draw_5 ?_
  refine j_ldc2 (v := (1103515245 : Int64)) X (by decide +kernel) dX7_draw_6 ?_
  refine j_lmul X dX7_draw_9 ?_
  refine j_ldc2 (v := (12345 : Int64)) X (by decide +kernel) dX7_draw_10 ?_
  refine j_ladd X dX7_draw_13 ?_
  refine j_ldc2 (v := (2147483648 : Int64)) X (by decide +kernel) dX7_draw_14 ?_
  refine j_lrem X (by decide) dX7_draw_17 ?_
  refine j_l2i X dX7_draw_18 ?_
  refine jpM_mod_seed X i_X7_draw_X7 (by decide +kernel) dX7_draw_19 (fun S1 eS1 => ?_)
  have h := h S1 eS1
  refine j_aload_n X rfl 0 rfl dX7_draw_22 ?_
  refine jgM_mod_seed X i_X7_draw_X7 (by decide +kernel) dX7_draw_23 ?_
  refine j_ldcw (v := (65536 : Int32)) X (by decide +kernel) dX7_draw_26 ?_
  refine j_idiv X (by decide) dX7_draw_29 ?_
  refine j_iload_n X rfl 1 rfl dX7_draw_30 ?_
  obtain ⟨k2, h⟩ := h
  refine j_irem X k2 dX7_draw_31 ?_
  exact j_iret X h dX7_draw_32
set_option maxRecDepth 100000 in
theorem i_X7_drift_X7 : ∀ w ∈ u_ws RX7 TX7 48, w ∈ wsX7_drift := by decide +kernel
abbrev rm_X7_drift : Room := { frames := 7, cells := 0, slots := 0, locals := 164 }
set_option maxRecDepth 100000 in
set_option maxHeartbeats 4000000 in
theorem w_X7_drift_74 {D : va_G} {i : Nat → ClassId} {q : Nat → Nat} {A : Nat → Prop} {p : Program} {l : Launch} {e : Env} {s : State} {m : MethodId} {args : Array Value} {below : List Frame} {meth : Method} {c : Code} (X : cX D i A p s m args meth c cX7_drift RX7 5 wsX7_drift (some .int)) {K28 : Int32 → Int32 → vS → Prop} {Q : Int32 → vS → Prop} (hK28 : ∀ (a1 : Int32) (a2 : Int32) (S : vS), K28 a1 a2 S → cJ D A p l e (headSpec wsX7_drift rm_X7_drift).room s m args below meth c (MQ below (va_Qi Q (vB D i A (wM q i)) A) args s 0 0 A) 5 (wM q i S) [(0, .ref (q 0)), (1, .int a1), (2, .int a2)] 28 []) : ∀ (a1 : Int32) (a2 : Int32) (S : vS), e_X7_drift_74 K28 Q a1 a2 S → cJ D A p l e (headSpec wsX7_drift rm_X7_drift).room s m args below meth c (MQ below (va_Qi Q (vB D i A (wM q i)) A) args s 0 0 A) 5 (wM q i S) [(0, .ref (q 0)), (1, .int a1), (2, .int a2)] 74 [] := by
  intro a1 a2 S h
  unfold e_X7_drift_74 at h
  refine j_aload_n X rfl 0 rfl dX7_drift_74 ?_
  refine j_aload_n X rfl 0 rfl dX7_drift_75 ?_
  refine j_Vi (st := [.ref (q 0)]) X [] 0 (c_X7_cells l D i q A S _ h) (cwV 0 X.ts gX7_drift_X7_cells rfl rfl rfl (by decide +kernel) ⟨Nat.le_of_ble_eq_true rfl, Nat.le_of_ble_eq_true rfl⟩) rfl rfl rfl rfl (Nat.le_of_ble_eq_true rfl) dX7_drift_76 (fun r17 S16 h => ?_)
  refine j_Vi (st := []) X [.int r17] 0 (c_X7_draw l D i q A r17 S16 _ h) (cwV 1 X.ts gX7_drift_X7_draw rfl rfl rfl (by decide +kernel) ⟨Nat.le_of_ble_eq_true rfl, Nat.le_of_ble_eq_true rfl⟩) rfl rfl rfl rfl (Nat.le_of_ble_eq_true rfl) dX7_drift_79 (fun r19 S18 h => ?_)
  refine j_istore (lv' := [(4, .int r19), (0, .ref (q 0)), (1, .int a1), (2, .int a2)]) X (by decide) rfl dX7_drift_82 ?_
  refine j_aload_n X rfl 1 rfl dX7_drift_84 ?_
  refine jgM_mod_stand X i_X7_drift_X7 (by decide +kernel) dX7_drift_85 ?_
  refine j_iload X 0 rfl dX7_drift_88 ?_
  refine j_aload_n X rfl 1 rfl dX7_drift_90 ?_
  refine j_bipush (v := (10 : Int32)) X (by decide) dX7_drift_91 ?_
  refine j_Vi (st := [.int r19, .ref (q 9)]) X [.int (10 : Int32)] 0 (c_X7_draw l D i q A (10 : Int32) S18 _ h) (cwV 1 X.ts gX7_drift_X7_draw rfl rfl rfl (by decide +kernel) ⟨Nat.le_of_ble_eq_true rfl, Nat.le_of_ble_eq_true rfl⟩) rfl rfl rfl rfl (Nat.le_of_ble_eq_true rfl) dX7_drift_93 (fun r21 S20 h => ?_)
  obtain ⟨k22, h⟩ := h
  refine jsM_mod_stand X k22 dX7_drift_96 (fun S23 eS23 => ?_)
  have h := h S23 eS23
  refine j_aload_n X rfl 1 rfl dX7_drift_97 ?_
  refine j_Vv (st := []) X [] 0 (c_X7_dayNow l D i q A S23 _ h) (cwV 0 X.ts gX7_drift_X7_dayNow rfl rfl rfl (by decide +kernel) ⟨Nat.le_of_ble_eq_true rfl, Nat.le_of_ble_eq_true rfl⟩) rfl rfl rfl rfl (Nat.le_of_ble_eq_true rfl) dX7_drift_98 (fun S24 h => ?_)
  refine j_iinc (dv := (1 : Int32)) (lv' := fun v26 => [(2, .int v26), (4, .int r19), (0, .ref (q 0)), (1, .int a1)]) X dX7_drift_101 (pl := 3) rfl (by decide) (by decide) (fun _ => rfl) (fun v26 ev26 => ?_)
  have h := h v26 ev26
  refine j_goto (tgt := 28) X dX7_drift_104 (by decide) ?_
  refine j_loc [2, 3, 0] rfl ?_
  exact hK28 a1 v26 S24 h
set_option maxRecDepth 100000 in
set_option maxHeartbeats 4000000 in
theorem w_X7_drift_28 {D : va_G} {i : Nat → ClassId} {q : Nat → Nat} {A : Nat → Prop} {p : Program} {l : Launch} {e : Env} {s : State} {m : MethodId} {args : Array Value} {below : List Frame} {meth : Method} {c : Code} (X : cX D i A p s m args meth c cX7_drift RX7 5 wsX7_drift (some .int)) {Q : Int32 → vS → Prop} : ∀ (n : Nat) (a1 : Int32) (a2 : Int32) (S : vS), e_X7_drift_28 Q n a1 a2 S → cJ D A p l e (headSpec wsX7_drift rm_X7_drift).room s m args below meth c (MQ below (va_Qi Q (vB D i A (wM q i)) A) args s 0 0 A) 5 (wM q i S) [(0, .ref (q 0)), (1, .int a1), (2, .int a2)] 28 [] := by
  intro n
  induction n with
  | zero =>
    intro _ _ S h
    rw [e_X7_drift_28.eq_1] at h
    exact h.elim
  | succ n ih =>
    intro a1 a2 S h
    rw [e_X7_drift_28.eq_2] at h
    refine j_iload_n X rfl 2 rfl dX7_drift_28 ?_
    refine j_iload_n X rfl 1 rfl dX7_drift_29 ?_
    refine j_icmp_ge (tgt := 107) X dX7_drift_30 (by decide) (fun c5 => ?_) (fun c5 => ?_)
    · have h := h.1 c5
      refine j_aload_n X rfl 0 rfl dX7_drift_107 ?_
      refine jgM_mod_day X i_X7_drift_X7 (by decide +kernel) dX7_drift_108 ?_
      exact j_iret X h dX7_drift_111
    · have h := h.2 c5
      refine j_aload_n X rfl 0 rfl dX7_drift_33 ?_
      refine j_aload_n X rfl 0 rfl dX7_drift_34 ?_
      refine jgM_mod_men X i_X7_drift_X7 (by decide +kernel) dX7_drift_35 ?_
      refine j_Vi (st := []) X [.int (S.1 2)] 0 (c_X7_draw l D i q A (S.1 2) S _ h) (cwV 1 X.ts gX7_drift_X7_draw rfl rfl rfl (by decide +kernel) ⟨Nat.le_of_ble_eq_true rfl, Nat.le_of_ble_eq_true rfl⟩) rfl rfl rfl rfl (Nat.le_of_ble_eq_true rfl) dX7_drift_38 (fun r7 S6 h => ?_)
      refine j_istore_n (lv' := [(3, .int r7), (0, .ref (q 0)), (1, .int a1), (2, .int a2)]) X rfl (by decide) rfl dX7_drift_41 ?_
      refine j_aload_n X rfl 1 rfl dX7_drift_42 ?_
      refine jgM_mod_purse X i_X7_drift_X7 (by decide +kernel) dX7_drift_43 ?_
      refine j_iload_n X rfl 0 rfl dX7_drift_46 ?_
      obtain ⟨k8, h⟩ := h
      refine jlM_mod_purse X k8 dX7_drift_47 ?_
      refine j_aload_n X rfl 1 rfl dX7_drift_48 ?_
      refine jgM_mod_storeyCost X i_X7_drift_X7 (by decide +kernel) dX7_drift_49 ?_
      refine j_icmp_lt (tgt := 74) X dX7_drift_52 (by decide) (fun c9 => ?_) (fun c9 => ?_)
      · have h := h.1 c9
        refine j_loc [1, 2, 3] rfl ?_
        exact w_X7_drift_74 X (fun y0 y1 S h => ih y0 y1 S h) a1 a2 S6 h
      · have h := h.2 c9
        refine j_aload_n X rfl 1 rfl dX7_drift_55 ?_
        refine jgM_mod_storeys X i_X7_drift_X7 (by decide +kernel) dX7_drift_56 ?_
        refine j_iload_n X rfl 0 rfl dX7_drift_59 ?_
        refine jlM_mod_storeys X k8 dX7_drift_60 ?_
        refine j_bipush (v := (9 : Int32)) X (by decide) dX7_drift_61 ?_
        refine j_icmp_ge (tgt := 74) X dX7_drift_63 (by decide) (fun c10 => ?_) (fun c10 => ?_)
        · have h := h.1 c10
          refine j_loc [1, 2, 3] rfl ?_
          exact w_X7_drift_74 X (fun y0 y1 S h => ih y0 y1 S h) a1 a2 S6 h
        · have h := h.2 c10
          refine j_aload_n X rfl 1 rfl dX7_drift_66 ?_
          refine j_iload_n X rfl 0 rfl dX7_drift_67 ?_
          refine j_Vv (st := []) X [.int r7] 0 (c_X7_buildNow l D i q A r7 S6 _ h) (cwV 1 X.ts gX7_drift_X7_buildNow rfl rfl rfl (by decide +kernel) ⟨Nat.le_of_ble_eq_true rfl, Nat.le_of_ble_eq_true rfl⟩) rfl rfl rfl rfl (Nat.le_of_ble_eq_true rfl) dX7_drift_68 (fun S11 h => ?_)
          refine j_goto (tgt := 97) X dX7_drift_71 (by decide) ?_
          refine j_aload_n X rfl 1 rfl dX7_drift_97 ?_
          refine j_Vv (st := []) X [] 0 (c_X7_dayNow l D i q A S11 _ h) (cwV 0 X.ts gX7_drift_X7_dayNow rfl rfl rfl (by decide +kernel) ⟨Nat.le_of_ble_eq_true rfl, Nat.le_of_ble_eq_true rfl⟩) rfl rfl rfl rfl (Nat.le_of_ble_eq_true rfl) dX7_drift_98 (fun S13 h => ?_)
          refine j_iinc (dv := (1 : Int32)) (lv' := fun v15 => [(2, .int v15), (3, .int r7), (0, .ref (q 0)), (1, .int a1)]) X dX7_drift_101 (pl := 3) rfl (by decide) (by decide) (fun _ => rfl) (fun v15 ev15 => ?_)
          have h := h v15 ev15
          refine j_goto (tgt := 28) X dX7_drift_104 (by decide) ?_
          refine j_loc [2, 3, 0] rfl ?_
          exact ih a1 v15 S13 h
set_option maxRecDepth 100000 in
set_option maxHeartbeats 4000000 in
theorem c_X7_drift (l : Launch) (D : va_G) (i : Nat → ClassId) (q : Nat → Nat) (A : Nat → Prop) (x1 : Int32) (S : vS) (Q : Int32 → vS → Prop) (h : e_X7_drift x1 S Q) : Met l yX7_drift wsX7_drift rm_X7_drift (va_Pc [.ref (q 0), .int x1] (vB D i A (wM q i) S)) (va_Qi Q (vB D i A (wM q i)) A) 0 0 A := by
  refine m_ofJ (own := RX7) (lv := [(0, .ref (q 0)), (1, .int x1)]) rfl (by decide) rfl (Nat.le_of_ble_eq_true rfl) rfl ?_
  intro p e s m below meth c X
  unfold e_X7_drift at h
  refine j_iload_n X rfl 1 rfl dX7_drift_0 ?_
  refine j_i2l X dX7_drift_1 ?_
  refine j_lconst (v := (1 : Int64)) X (by decide) dX7_drift_2 ?_
  refine j_ldc2 (v := (99 : Int64)) X (by decide +kernel) dX7_drift_3 ?_
  refine j_Si (st := []) X [.long (x1).toInt64, .long (1 : Int64), .long (99 : Int64)] (c_X7_in l D i q A (x1).toInt64 (1 : Int64) (99 : Int64) S _ h) (va_cwS 3 X.ts gX7_drift_X7_in rfl rfl rfl (by decide +kernel) ⟨Nat.le_of_ble_eq_true rfl, Nat.le_of_ble_eq_true rfl⟩) rfl rfl (Nat.le_of_ble_eq_true rfl) dX7_drift_6 (fun r2 S1 h => ?_)
  refine j_if_ne (tgt := 15) X dX7_drift_9 (by decide) (fun c3 => ?_) (fun c3 => ?_)
  · have h := h.1 c3
    refine j_aload_n X rfl 0 rfl dX7_drift_15 ?_
    refine jgM_mod_men X i_X7_drift_X7 (by decide +kernel) dX7_drift_16 ?_
    refine j_if_ne (tgt := 26) X dX7_drift_19 (by decide) (fun c4 => ?_) (fun c4 => ?_)
    · have h := h.1 c4
      refine j_iconst (v := (0 : Int32)) X (by decide) dX7_drift_26 ?_
      refine j_istore_n (lv' := [(2, .int (0 : Int32)), (0, .ref (q 0)), (1, .int x1)]) X rfl (by decide) rfl dX7_drift_27 ?_
      refine j_loc [1, 2, 0] rfl ?_
      obtain ⟨j, h⟩ := h
      exact w_X7_drift_28 X j x1 (0 : Int32) S1 h
    · have h := h.2 c4
      refine j_ldcw (v := (-1000000003 : Int32)) X (by decide +kernel) dX7_drift_22 ?_
      exact j_iret X h dX7_drift_25
  · have h := h.2 c3
    refine j_ldc (v := (-1000000002 : Int32)) X (by decide +kernel) dX7_drift_12 ?_
    exact j_iret X h dX7_drift_14
