set_option maxRecDepth 100000 in
theorem i_X2_hasCell_plan_X2 : ∀ w ∈ u_ws RX2 TX2 14, w ∈ wsX2_hasCell := by decide +kernel
abbrev rm_X2_hasCell_plan : Room := { frames := 0, cells := 0, slots := 0, locals := 0 }
set_option maxRecDepth 100000 in
set_option maxHeartbeats 4000000 in
theorem c_X2_hasCell_plan (l : Launch) (D : va_G) (i : Nat → ClassId) (q : Nat → Nat) (A : Nat → Prop) (x1 : Int32) (x2 : Int32) (S : vS) (Q : Int32 → vS → Prop) (h : e_X2_hasCell_plan x1 x2 S Q) : Met l yX2_hasCell wsX2_hasCell rm_X2_hasCell_plan (va_Pc [.ref (q 1), .int x1, .int x2] (vB D i A (wC q i) S)) (va_Qi Q (vB D i A (wC q i)) A) 0 0 A := by
  refine m_ofJ (own := RX2) (lv := [(0, .ref (q 1)), (1, .int x1), (2, .int x2)]) rfl (by decide) rfl (Nat.le_of_ble_eq_true rfl) rfl ?_
  intro p e s m below meth c X
  unfold e_X2_hasCell_plan at h
  refine j_iload_n X rfl 1 rfl dX2_hasCell_0 ?_
  refine j_if_lt (tgt := 28) X dX2_hasCell_1 (by decide) (fun c1 => ?_) (fun c1 => ?_)
  · have h := h.1 c1
    refine j_iconst (v := (0 : Int32)) X (by decide) dX2_hasCell_28 ?_
    exact j_zret X rfl h dX2_hasCell_29
  · have h := h.2 c1
    refine j_iload_n X rfl 1 rfl dX2_hasCell_4 ?_
    refine j_aload_n X rfl 0 rfl dX2_hasCell_5 ?_
    refine jgC_plan_width X i_X2_hasCell_plan_X2 (by decide +kernel) dX2_hasCell_6 ?_
    refine j_icmp_ge (tgt := 28) X dX2_hasCell_9 (by decide) (fun c2 => ?_) (fun c2 => ?_)
    · have h := h.1 c2
      refine j_iconst (v := (0 : Int32)) X (by decide) dX2_hasCell_28 ?_
      exact j_zret X rfl h dX2_hasCell_29
    · have h := h.2 c2
      refine j_iload_n X rfl 2 rfl dX2_hasCell_12 ?_
      refine j_if_lt (tgt := 28) X dX2_hasCell_13 (by decide) (fun c3 => ?_) (fun c3 => ?_)
      · have h := h.1 c3
        refine j_iconst (v := (0 : Int32)) X (by decide) dX2_hasCell_28 ?_
        exact j_zret X rfl h dX2_hasCell_29
      · have h := h.2 c3
        refine j_iload_n X rfl 2 rfl dX2_hasCell_16 ?_
        refine j_aload_n X rfl 0 rfl dX2_hasCell_17 ?_
        refine jgC_plan_height X i_X2_hasCell_plan_X2 (by decide +kernel) dX2_hasCell_18 ?_
        refine j_icmp_ge (tgt := 28) X dX2_hasCell_21 (by decide) (fun c4 => ?_) (fun c4 => ?_)
        · have h := h.1 c4
          refine j_iconst (v := (0 : Int32)) X (by decide) dX2_hasCell_28 ?_
          exact j_zret X rfl h dX2_hasCell_29
        · have h := h.2 c4
          refine j_iconst (v := (1 : Int32)) X (by decide) dX2_hasCell_24 ?_
          refine j_goto (tgt := 29) X dX2_hasCell_25 (by decide) ?_
          exact j_zret X rfl h dX2_hasCell_29
abbrev rm_X6_holds : Room := { frames := 0, cells := 0, slots := 0, locals := 0 }
set_option maxRecDepth 100000 in
set_option maxHeartbeats 4000000 in
theorem c_X6_holds (l : Launch) (D : va_G) (i : Nat → ClassId) (q : Nat → Nat) (A : Nat → Prop) (x0 : Int32) (x1 : Int32) (S : vS) (Q : Int32 → vS → Prop) (h : e_X6_holds x0 x1 S Q) : Met l yX6_holds wsX6_holds rm_X6_holds (va_Pc [.int x0, .int x1] (vB D i A (wC q i) S)) (va_Qi Q (vB D i A (wC q i)) A) 0 0 A := by
  refine m_ofJ (own := RX6) (lv := [(0, .int x0), (1, .int x1)]) rfl (by decide) rfl (Nat.le_of_ble_eq_true rfl) rfl ?_
  intro p e s m below meth c X
  unfold e_X6_holds at h
  refine j_iload_n X rfl 0 rfl dX6_holds_0 ?_
  refine j_iload_n X rfl 1 rfl dX6_holds_1 ?_
  refine j_ishr X dX6_holds_2 ?_
  refine j_iconst (v := (1 : Int32)) X (by decide) dX6_holds_3 ?_
  refine j_iand X dX6_holds_4 ?_
  refine j_if_eq (tgt := 12) X dX6_holds_5 (by decide) (fun c1 => ?_) (fun c1 => ?_)
  · have h := h.1 c1
    refine j_iconst (v := (0 : Int32)) X (by decide) dX6_holds_12 ?_
    exact j_zret X rfl h dX6_holds_13
  · have h := h.2 c1
    refine j_iconst (v := (1 : Int32)) X (by decide) dX6_holds_8 ?_
    refine j_goto (tgt := 13) X dX6_holds_9 (by decide) ?_
    exact j_zret X rfl h dX6_holds_13
set_option maxRecDepth 100000 in
theorem i_X4_highestOf_X2 : ∀ w ∈ u_ws RX2 TX2 14, w ∈ wsX4_highestOf := by decide +kernel
set_option maxRecDepth 100000 in
theorem i_X4_highestOf_X4 : ∀ w ∈ u_ws RX4 TX4 8, w ∈ wsX4_highestOf := by decide +kernel
abbrev rm_X4_highestOf : Room := { frames := 1, cells := 0, slots := 0, locals := 21 }
set_option maxRecDepth 100000 in
set_option maxHeartbeats 4000000 in
theorem w_X4_highestOf_7 {D : va_G} {i : Nat → ClassId} {q : Nat → Nat} {A : Nat → Prop} {p : Program} {l : Launch} {e : Env} {s : State} {m : MethodId} {args : Array Value} {below : List Frame} {meth : Method} {c : Code} (X : cX D i A p s m args meth c cX4_highestOf RX4 5 wsX4_highestOf (some .int)) {Q : Int32 → vS → Prop} : ∀ (n : Nat) (a1 : Int32) (a2 : Int32) (a3 : Int32) (a4 : Int32) (S : vS), e_X4_highestOf_7 Q n a1 a2 a3 a4 S → cJ D A p l e (headSpec wsX4_highestOf rm_X4_highestOf).room s m args below meth c (MQ below (va_Qi Q (vB D i A (wC q i)) A) args s 0 0 A) 5 (wC q i S) [(0, .ref (q 7)), (1, .int a1), (2, .int a2), (3, .int a3), (4, .int a4)] 7 [] := by
  intro n
  induction n with
  | zero =>
    intro _ _ _ _ S h
    rw [e_X4_highestOf_7.eq_1] at h
    exact h.elim
  | succ n ih =>
    intro a1 a2 a3 a4 S h
    rw [e_X4_highestOf_7.eq_2] at h
    refine j_iload X 4 rfl dX4_highestOf_7 ?_
    refine j_aload_n X rfl 0 rfl dX4_highestOf_9 ?_
    refine jgC_sight_plan X i_X4_highestOf_X4 (by decide +kernel) dX4_highestOf_10 ?_
    refine jgC_plan_men X i_X4_highestOf_X2 (by decide +kernel) dX4_highestOf_13 ?_
    refine j_icmp_ge (tgt := 54) X dX4_highestOf_16 (by decide) (fun c1 => ?_) (fun c1 => ?_)
    · have h := h.1 c1
      refine j_iload_n X rfl 2 rfl dX4_highestOf_54 ?_
      exact j_iret X h dX4_highestOf_55
    · have h := h.2 c1
      refine j_iload_n X rfl 1 rfl dX4_highestOf_19 ?_
      refine j_iload X 4 rfl dX4_highestOf_20 ?_
      refine j_Ni (st := []) X [.int a1, .int a4] (c_X6_holds l D i q A a1 a4 S _ h) ⟨va_cnB 2 X.ts gX4_highestOf_X6_holds_n115 rfl rfl rfl X.n1 (X.ts _ (by decide +kernel)) (by decide +kernel) ⟨Nat.le_of_ble_eq_true rfl, Nat.le_of_ble_eq_true rfl⟩, X.ts _ (by decide +kernel), trivial⟩ rfl rfl (Nat.le_of_ble_eq_true rfl) dX4_highestOf_22 (fun r3 S2 h => ?_)
      refine j_if_eq (tgt := 48) X dX4_highestOf_25 (by decide) (fun c4 => ?_) (fun c4 => ?_)
      · have h := h.1 c4
        refine j_iinc (dv := (1 : Int32)) (lv' := fun v5 => [(4, .int v5), (0, .ref (q 7)), (1, .int a1), (2, .int a2), (3, .int a3)]) X dX4_highestOf_48 (pl := 4) rfl (by decide) (by decide) (fun _ => rfl) (fun v5 ev5 => ?_)
        have h := h v5 ev5
        refine j_goto (tgt := 7) X dX4_highestOf_51 (by decide) ?_
        refine j_loc [1, 2, 3, 4, 0] rfl ?_
        exact ih a1 a2 a3 v5 S2 h
      · have h := h.2 c4
        refine j_aload_n X rfl 0 rfl dX4_highestOf_28 ?_
        refine j_iload X 4 rfl dX4_highestOf_29 ?_
        refine j_Vi (st := []) X [.int a4] 7 (c_X4_eyeOf l D i q A a4 S2 _ h) (cwV 1 X.ts gX4_highestOf_X4_eyeOf rfl rfl rfl (by decide +kernel) ⟨Nat.le_of_ble_eq_true rfl, Nat.le_of_ble_eq_true rfl⟩) rfl rfl rfl rfl (Nat.le_of_ble_eq_true rfl) dX4_highestOf_31 (fun r7 S6 h => ?_)
        refine j_iload_n X rfl 3 rfl dX4_highestOf_34 ?_
        refine j_icmp_le (tgt := 48) X dX4_highestOf_35 (by decide) (fun c8 => ?_) (fun c8 => ?_)
        · have h := h.1 c8
          refine j_iinc (dv := (1 : Int32)) (lv' := fun v9 => [(4, .int v9), (0, .ref (q 7)), (1, .int a1), (2, .int a2), (3, .int a3)]) X dX4_highestOf_48 (pl := 4) rfl (by decide) (by decide) (fun _ => rfl) (fun v9 ev9 => ?_)
          have h := h v9 ev9
          refine j_goto (tgt := 7) X dX4_highestOf_51 (by decide) ?_
          refine j_loc [1, 2, 3, 4, 0] rfl ?_
          exact ih a1 a2 a3 v9 S6 h
        · have h := h.2 c8
          refine j_aload_n X rfl 0 rfl dX4_highestOf_38 ?_
          refine j_iload X 4 rfl dX4_highestOf_39 ?_
          refine j_Vi (st := []) X [.int a4] 7 (c_X4_eyeOf l D i q A a4 S6 _ h) (cwV 1 X.ts gX4_highestOf_X4_eyeOf rfl rfl rfl (by decide +kernel) ⟨Nat.le_of_ble_eq_true rfl, Nat.le_of_ble_eq_true rfl⟩) rfl rfl rfl rfl (Nat.le_of_ble_eq_true rfl) dX4_highestOf_41 (fun r11 S10 h => ?_)
          refine j_istore_n (lv' := [(3, .int r11), (0, .ref (q 7)), (1, .int a1), (2, .int a2), (4, .int a4)]) X rfl (by decide) rfl dX4_highestOf_44 ?_
          refine j_iload X 4 rfl dX4_highestOf_45 ?_
          refine j_istore_n (lv' := [(2, .int a4), (3, .int r11), (0, .ref (q 7)), (1, .int a1), (4, .int a4)]) X rfl (by decide) rfl dX4_highestOf_47 ?_
          refine j_iinc (dv := (1 : Int32)) (lv' := fun v12 => [(4, .int v12), (2, .int a4), (3, .int r11), (0, .ref (q 7)), (1, .int a1)]) X dX4_highestOf_48 (pl := 4) rfl (by decide) (by decide) (fun _ => rfl) (fun v12 ev12 => ?_)
          have h := h v12 ev12
          refine j_goto (tgt := 7) X dX4_highestOf_51 (by decide) ?_
          refine j_loc [3, 4, 1, 2, 0] rfl ?_
          exact ih a1 a4 r11 v12 S10 h
set_option maxRecDepth 100000 in
set_option maxHeartbeats 4000000 in
theorem c_X4_highestOf (l : Launch) (D : va_G) (i : Nat → ClassId) (q : Nat → Nat) (A : Nat → Prop) (x1 : Int32) (S : vS) (Q : Int32 → vS → Prop) (h : e_X4_highestOf x1 S Q) : Met l yX4_highestOf wsX4_highestOf rm_X4_highestOf (va_Pc [.ref (q 7), .int x1] (vB D i A (wC q i) S)) (va_Qi Q (vB D i A (wC q i)) A) 0 0 A := by
  refine m_ofJ (own := RX4) (lv := [(0, .ref (q 7)), (1, .int x1)]) rfl (by decide) rfl (Nat.le_of_ble_eq_true rfl) rfl ?_
  intro p e s m below meth c X
  unfold e_X4_highestOf at h
  refine j_iconst (v := (0 : Int32)) X (by decide) dX4_highestOf_0 ?_
  refine j_istore_n (lv' := [(2, .int (0 : Int32)), (0, .ref (q 7)), (1, .int x1)]) X rfl (by decide) rfl dX4_highestOf_1 ?_
  refine j_iconst (v := (0 : Int32)) X (by decide) dX4_highestOf_2 ?_
  refine j_istore_n (lv' := [(3, .int (0 : Int32)), (2, .int (0 : Int32)), (0, .ref (q 7)), (1, .int x1)]) X rfl (by decide) rfl dX4_highestOf_3 ?_
  refine j_iconst (v := (0 : Int32)) X (by decide) dX4_highestOf_4 ?_
  refine j_istore (lv' := [(4, .int (0 : Int32)), (3, .int (0 : Int32)), (2, .int (0 : Int32)), (0, .ref (q 7)), (1, .int x1)]) X (by decide) rfl dX4_highestOf_5 ?_
  refine j_loc [3, 4, 2, 1, 0] rfl ?_
  obtain ⟨j, h⟩ := h
  exact w_X4_highestOf_7 X j x1 (0 : Int32) (0 : Int32) (0 : Int32) S h
set_option maxRecDepth 100000 in
theorem i_X4_nearestOf_X2 : ∀ w ∈ u_ws RX2 TX2 14, w ∈ wsX4_nearestOf := by decide +kernel
set_option maxRecDepth 100000 in
theorem i_X4_nearestOf_X4 : ∀ w ∈ u_ws RX4 TX4 8, w ∈ wsX4_nearestOf := by decide +kernel
abbrev rm_X4_nearestOf : Room := { frames := 1, cells := 0, slots := 0, locals := 21 }
set_option maxRecDepth 100000 in
set_option maxHeartbeats 4000000 in
theorem w_X4_nearestOf_9 {D : va_G} {i : Nat → ClassId} {q : Nat → Nat} {A : Nat → Prop} {p : Program} {l : Launch} {e : Env} {s : State} {m : MethodId} {args : Array Value} {below : List Frame} {meth : Method} {c : Code} (X : cX D i A p s m args meth c cX4_nearestOf RX4 9 wsX4_nearestOf (some .int)) {Q : Int32 → vS → Prop} : ∀ (n : Nat) (a1 : Int32) (a2 : Int32) (a3 : Int32) (a4 : Int32) (a5 : Int32) (a6 : Int32) (S : vS), e_X4_nearestOf_9 Q n a1 a2 a3 a4 a5 a6 S → cJ D A p l e (headSpec wsX4_nearestOf rm_X4_nearestOf).room s m args below meth c (MQ below (va_Qi Q (vB D i A (wC q i)) A) args s 0 0 A) 9 (wC q i S) [(0, .ref (q 7)), (1, .int a1), (2, .int a2), (3, .int a3), (4, .int a4), (5, .int a5), (6, .int a6)] 9 [] := by
  intro n
  induction n with
  | zero =>
    intro _ _ _ _ _ _ S h
    rw [e_X4_nearestOf_9.eq_1] at h
    exact h.elim
  | succ n ih =>
    intro a1 a2 a3 a4 a5 a6 S h
    rw [e_X4_nearestOf_9.eq_2] at h
    refine j_iload X 6 rfl dX4_nearestOf_9 ?_
    refine j_aload_n X rfl 0 rfl dX4_nearestOf_11 ?_
    refine jgC_sight_plan X i_X4_nearestOf_X4 (by decide +kernel) dX4_nearestOf_12 ?_
    refine jgC_plan_men X i_X4_nearestOf_X2 (by decide +kernel) dX4_nearestOf_15 ?_
    refine j_icmp_ge (tgt := 86) X dX4_nearestOf_18 (by decide) (fun c1 => ?_) (fun c1 => ?_)
    · have h := h.1 c1
      refine j_iconst (v := (0 : Int32)) X (by decide) dX4_nearestOf_86 ?_
      refine j_iload X 4 rfl dX4_nearestOf_87 ?_
      refine j_mmax X (by decide +kernel) (Nat.le_of_ble_eq_true rfl) (Nat.le_of_ble_eq_true rfl) dX4_nearestOf_89 ?_
      exact j_iret X h dX4_nearestOf_92
    · have h := h.2 c1
      refine j_iload_n X rfl 2 rfl dX4_nearestOf_21 ?_
      refine j_aload_n X rfl 0 rfl dX4_nearestOf_22 ?_
      refine jgC_sight_plan X i_X4_nearestOf_X4 (by decide +kernel) dX4_nearestOf_23 ?_
      refine jgC_plan_places X i_X4_nearestOf_X2 (by decide +kernel) dX4_nearestOf_26 ?_
      refine j_iload X 6 rfl dX4_nearestOf_29 ?_
      obtain ⟨k2, h⟩ := h
      refine jlC_plan_places X k2 dX4_nearestOf_31 ?_
      refine j_isub X dX4_nearestOf_32 ?_
      refine j_topi (fun v3 ev3 => ?_)
      have h := h v3 ev3
      refine j_istore (lv' := [(7, .int v3), (0, .ref (q 7)), (1, .int a1), (2, .int a2), (3, .int a3), (4, .int a4), (5, .int a5), (6, .int a6)]) X (by decide) rfl dX4_nearestOf_33 ?_
      refine j_iload X 0 rfl dX4_nearestOf_35 ?_
      refine j_iload X 0 rfl dX4_nearestOf_37 ?_
      refine j_imul X dX4_nearestOf_39 ?_
      refine j_iload_n X rfl 4 rfl dX4_nearestOf_40 ?_
      refine j_iconst (v := (1 : Int32)) X (by decide) dX4_nearestOf_41 ?_
      refine j_iadd X dX4_nearestOf_42 ?_
      refine j_iload_n X rfl 4 rfl dX4_nearestOf_43 ?_
      refine j_iconst (v := (1 : Int32)) X (by decide) dX4_nearestOf_44 ?_
      refine j_iadd X dX4_nearestOf_45 ?_
      refine j_imul X dX4_nearestOf_46 ?_
      refine j_iadd X dX4_nearestOf_47 ?_
      refine j_topi (fun v4 ev4 => ?_)
      have h := h v4 ev4
      refine j_istore (lv' := [(8, .int v4), (7, .int v3), (0, .ref (q 7)), (1, .int a1), (2, .int a2), (3, .int a3), (4, .int a4), (5, .int a5), (6, .int a6)]) X (by decide) rfl dX4_nearestOf_48 ?_
      refine j_iload_n X rfl 3 rfl dX4_nearestOf_50 ?_
      refine j_iload X 8 rfl dX4_nearestOf_51 ?_
      refine j_Ni (st := []) X [.int a1, .int a6] (c_X6_holds l D i q A a1 a6 S _ h) ⟨va_cnB 2 X.ts gX4_nearestOf_X6_holds_n115 rfl rfl rfl X.n1 (X.ts _ (by decide +kernel)) (by decide +kernel) ⟨Nat.le_of_ble_eq_true rfl, Nat.le_of_ble_eq_true rfl⟩, X.ts _ (by decide +kernel), trivial⟩ rfl rfl (Nat.le_of_ble_eq_true rfl) dX4_nearestOf_53 (fun r6 S5 h => ?_)
      refine j_if_eq (tgt := 80) X dX4_nearestOf_56 (by decide) (fun c7 => ?_) (fun c7 => ?_)
      · have h := h.1 c7
        refine j_iinc (dv := (1 : Int32)) (lv' := fun v8 => [(6, .int v8), (8, .int v4), (7, .int v3), (0, .ref (q 7)), (1, .int a1), (2, .int a2), (3, .int a3), (4, .int a4), (5, .int a5)]) X dX4_nearestOf_80 (pl := 8) rfl (by decide) (by decide) (fun _ => rfl) (fun v8 ev8 => ?_)
        have h := h v8 ev8
        refine j_goto (tgt := 9) X dX4_nearestOf_83 (by decide) ?_
        refine j_loc [3, 4, 5, 6, 7, 8, 0] rfl ?_
        exact ih a1 a2 a3 a4 a5 v8 S5 h
      · have h := h.2 c7
        refine j_iload X 6 rfl dX4_nearestOf_59 ?_
        refine j_iconst (v := (-1 : Int32)) X (by decide) dX4_nearestOf_61 ?_
        refine j_icmp_eq (tgt := 72) X dX4_nearestOf_62 (by decide) (fun c9 => ?_) (fun c9 => ?_)
        · have h := h.1 c9
          refine j_iload X 0 rfl dX4_nearestOf_72 ?_
          refine j_istore (lv' := [(5, .int v4), (8, .int v4), (7, .int v3), (0, .ref (q 7)), (1, .int a1), (2, .int a2), (3, .int a3), (4, .int a4), (6, .int a6)]) X (by decide) rfl dX4_nearestOf_74 ?_
          refine j_iload X 8 rfl dX4_nearestOf_76 ?_
          refine j_istore (lv' := [(4, .int a6), (5, .int v4), (8, .int v4), (7, .int v3), (0, .ref (q 7)), (1, .int a1), (2, .int a2), (3, .int a3), (6, .int a6)]) X (by decide) rfl dX4_nearestOf_78 ?_
          refine j_iinc (dv := (1 : Int32)) (lv' := fun v10 => [(6, .int v10), (4, .int a6), (5, .int v4), (8, .int v4), (7, .int v3), (0, .ref (q 7)), (1, .int a1), (2, .int a2), (3, .int a3)]) X dX4_nearestOf_80 (pl := 8) rfl (by decide) (by decide) (fun _ => rfl) (fun v10 ev10 => ?_)
          have h := h v10 ev10
          refine j_goto (tgt := 9) X dX4_nearestOf_83 (by decide) ?_
          refine j_loc [5, 6, 7, 8, 1, 2, 0] rfl ?_
          exact ih a1 a2 a3 a6 v4 v10 S5 h
        · have h := h.2 c9
          refine j_iload X 0 rfl dX4_nearestOf_65 ?_
          refine j_iload X 7 rfl dX4_nearestOf_67 ?_
          refine j_icmp_ge (tgt := 80) X dX4_nearestOf_69 (by decide) (fun c11 => ?_) (fun c11 => ?_)
          · have h := h.1 c11
            refine j_iinc (dv := (1 : Int32)) (lv' := fun v12 => [(6, .int v12), (8, .int v4), (7, .int v3), (0, .ref (q 7)), (1, .int a1), (2, .int a2), (3, .int a3), (4, .int a4), (5, .int a5)]) X dX4_nearestOf_80 (pl := 8) rfl (by decide) (by decide) (fun _ => rfl) (fun v12 ev12 => ?_)
            have h := h v12 ev12
            refine j_goto (tgt := 9) X dX4_nearestOf_83 (by decide) ?_
            refine j_loc [3, 4, 5, 6, 7, 8, 0] rfl ?_
            exact ih a1 a2 a3 a4 a5 v12 S5 h
          · have h := h.2 c11
            refine j_iload X 0 rfl dX4_nearestOf_72 ?_
            refine j_istore (lv' := [(5, .int v4), (8, .int v4), (7, .int v3), (0, .ref (q 7)), (1, .int a1), (2, .int a2), (3, .int a3), (4, .int a4), (6, .int a6)]) X (by decide) rfl dX4_nearestOf_74 ?_
            refine j_iload X 8 rfl dX4_nearestOf_76 ?_
            refine j_istore (lv' := [(4, .int a6), (5, .int v4), (8, .int v4), (7, .int v3), (0, .ref (q 7)), (1, .int a1), (2, .int a2), (3, .int a3), (6, .int a6)]) X (by decide) rfl dX4_nearestOf_78 ?_
            refine j_iinc (dv := (1 : Int32)) (lv' := fun v13 => [(6, .int v13), (4, .int a6), (5, .int v4), (8, .int v4), (7, .int v3), (0, .ref (q 7)), (1, .int a1), (2, .int a2), (3, .int a3)]) X dX4_nearestOf_80 (pl := 8) rfl (by decide) (by decide) (fun _ => rfl) (fun v13 ev13 => ?_)
            have h := h v13 ev13
            refine j_goto (tgt := 9) X dX4_nearestOf_83 (by decide) ?_
            refine j_loc [5, 6, 7, 8, 1, 2, 0] rfl ?_
            exact ih a1 a2 a3 a6 v4 v13 S5 h
set_option maxRecDepth 100000 in
set_option maxHeartbeats 4000000 in
theorem c_X4_nearestOf (l : Launch) (D : va_G) (i : Nat → ClassId) (q : Nat → Nat) (A : Nat → Prop) (x1 : Int32) (x2 : Int32) (x3 : Int32) (S : vS) (Q : Int32 → vS → Prop) (h : e_X4_nearestOf x1 x2 x3 S Q) : Met l yX4_nearestOf wsX4_nearestOf rm_X4_nearestOf (va_Pc [.ref (q 7), .int x1, .int x2, .int x3] (vB D i A (wC q i) S)) (va_Qi Q (vB D i A (wC q i)) A) 0 0 A := by
  refine m_ofJ (own := RX4) (lv := [(0, .ref (q 7)), (1, .int x1), (2, .int x2), (3, .int x3)]) rfl (by decide) rfl (Nat.le_of_ble_eq_true rfl) rfl ?_
  intro p e s m below meth c X
  unfold e_X4_nearestOf at h
  refine j_iconst (v := (-1 : Int32)) X (by decide) dX4_nearestOf_0 ?_
  refine j_istore (lv' := [(4, .int (-1 : Int32)), (0, .ref (q 7)), (1, .int x1), (2, .int x2), (3, .int x3)]) X (by decide) rfl dX4_nearestOf_1 ?_
  refine j_iconst (v := (0 : Int32)) X (by decide) dX4_nearestOf_3 ?_
  refine j_istore (lv' := [(5, .int (0 : Int32)), (4, .int (-1 : Int32)), (0, .ref (q 7)), (1, .int x1), (2, .int x2), (3, .int x3)]) X (by decide) rfl dX4_nearestOf_4 ?_
  refine j_iconst (v := (0 : Int32)) X (by decide) dX4_nearestOf_6 ?_
  refine j_istore (lv' := [(6, .int (0 : Int32)), (5, .int (0 : Int32)), (4, .int (-1 : Int32)), (0, .ref (q 7)), (1, .int x1), (2, .int x2), (3, .int x3)]) X (by decide) rfl dX4_nearestOf_7 ?_
  refine j_loc [3, 4, 5, 6, 2, 1, 0] rfl ?_
  obtain ⟨j, h⟩ := h
  exact w_X4_nearestOf_9 X j x1 x2 x3 (-1 : Int32) (0 : Int32) (0 : Int32) S h
set_option maxRecDepth 100000 in
theorem i_X4_ownersOf_X4 : ∀ w ∈ u_ws RX4 TX4 8, w ∈ wsX4_ownersOf := by decide +kernel
set_option maxRecDepth 100000 in
theorem i_X4_ownersOf_X5 : ∀ w ∈ u_ws RX5 TX5 7, w ∈ wsX4_ownersOf := by decide +kernel
abbrev rm_X4_ownersOf : Room := { frames := 2, cells := 0, slots := 0, locals := 49 }
set_option maxRecDepth 100000 in
set_option maxHeartbeats 4000000 in
theorem c_X4_ownersOf (l : Launch) (D : va_G) (i : Nat → ClassId) (q : Nat → Nat) (A : Nat → Prop) (x1 : Int32) (x2 : Int32) (S : vS) (Q : Int32 → vS → Prop) (h : e_X4_ownersOf x1 x2 S Q) : Met l yX4_ownersOf wsX4_ownersOf rm_X4_ownersOf (va_Pc [.ref (q 7), .int x1, .int x2] (vB D i A (wC q i) S)) (va_Qi Q (vB D i A (wC q i)) A) 0 0 A := by
  refine m_ofJ (own := RX4) (lv := [(0, .ref (q 7)), (1, .int x1), (2, .int x2)]) rfl (by decide) rfl (Nat.le_of_ble_eq_true rfl) rfl ?_
  intro p e s m below meth c X
  unfold e_X4_ownersOf at h
  refine j_aload_n X rfl 0 rfl dX4_ownersOf_0 ?_
  refine jgC_sight_seers X i_X4_ownersOf_X4 (by decide +kernel) dX4_ownersOf_1 ?_
  refine j_aload_n X rfl 0 rfl dX4_ownersOf_4 ?_
  refine jgC_sight_plan X i_X4_ownersOf_X4 (by decide +kernel) dX4_ownersOf_5 ?_
  refine j_iload_n X rfl 1 rfl dX4_ownersOf_8 ?_
  refine j_iload_n X rfl 2 rfl dX4_ownersOf_9 ?_
  refine j_Vi (st := [.ref (q 40)]) X [.int x1, .int x2] 1 (c_X2_numberOf_plan l D i q A x1 x2 S _ h) (cwV 2 X.ts gX4_ownersOf_X2_numberOf rfl rfl rfl (by decide +kernel) ⟨Nat.le_of_ble_eq_true rfl, Nat.le_of_ble_eq_true rfl⟩) rfl rfl rfl rfl (Nat.le_of_ble_eq_true rfl) dX4_ownersOf_10 (fun r2 S1 h => ?_)
  obtain ⟨k3, h⟩ := h
  refine jlC_sight_seers X k3 dX4_ownersOf_13 ?_
  refine j_topi (fun v4 ev4 => ?_)
  have h := h v4 ev4
  refine j_istore_n (lv' := [(3, .int v4), (0, .ref (q 7)), (1, .int x1), (2, .int x2)]) X rfl (by decide) rfl dX4_ownersOf_14 ?_
  refine j_iload_n X rfl 0 rfl dX4_ownersOf_15 ?_
  refine j_if_eq (tgt := 29) X dX4_ownersOf_16 (by decide) (fun c5 => ?_) (fun c5 => ?_)
  · have h := h.1 c5
    refine j_iload_n X rfl 0 rfl dX4_ownersOf_29 ?_
    exact j_iret X h dX4_ownersOf_30
  · have h := h.2 c5
    refine j_aload_n X rfl 1 rfl dX4_ownersOf_19 ?_
    refine jgC_sight_now X i_X4_ownersOf_X4 (by decide +kernel) dX4_ownersOf_20 ?_
    refine jgC_now_rule X i_X4_ownersOf_X5 (by decide +kernel) dX4_ownersOf_23 ?_
    refine j_if_ne (tgt := 31) X dX4_ownersOf_26 (by decide) (fun c6 => ?_) (fun c6 => ?_)
    · have h := h.1 c6
      refine j_iconst (v := (1 : Int32)) X (by decide) dX4_ownersOf_31 ?_
      refine j_aload_n X rfl 1 rfl dX4_ownersOf_32 ?_
      refine jgC_sight_now X i_X4_ownersOf_X4 (by decide +kernel) dX4_ownersOf_33 ?_
      refine jgC_now_rule X i_X4_ownersOf_X5 (by decide +kernel) dX4_ownersOf_36 ?_
      refine j_iconst (v := (1 : Int32)) X (by decide) dX4_ownersOf_39 ?_
      refine j_icmp_ne (tgt := 53) X dX4_ownersOf_40 (by decide) (fun c7 => ?_) (fun c7 => ?_)
      · have h := h.1 c7
        refine j_aload_n X rfl 1 rfl dX4_ownersOf_53 ?_
        refine j_iload_n X rfl 0 rfl dX4_ownersOf_54 ?_
        refine j_Vi (st := [.int (1 : Int32)]) X [.int v4] 7 (c_X4_highestOf l D i q A v4 S1 _ h) (cwV 1 X.ts gX4_ownersOf_X4_highestOf rfl rfl rfl (by decide +kernel) ⟨Nat.le_of_ble_eq_true rfl, Nat.le_of_ble_eq_true rfl⟩) rfl rfl rfl rfl (Nat.le_of_ble_eq_true rfl) dX4_ownersOf_55 (fun r9 S8 h => ?_)
        refine j_ishl X dX4_ownersOf_58 ?_
        exact j_iret X h dX4_ownersOf_59
      · have h := h.2 c7
        refine j_aload_n X rfl 1 rfl dX4_ownersOf_43 ?_
        refine j_iload_n X rfl 0 rfl dX4_ownersOf_44 ?_
        refine j_iload_n X rfl 2 rfl dX4_ownersOf_45 ?_
        refine j_iload_n X rfl 3 rfl dX4_ownersOf_46 ?_
        refine j_Vi (st := [.int (1 : Int32)]) X [.int v4, .int x1, .int x2] 7 (c_X4_nearestOf l D i q A v4 x1 x2 S1 _ h) (cwV 3 X.ts gX4_ownersOf_X4_nearestOf rfl rfl rfl (by decide +kernel) ⟨Nat.le_of_ble_eq_true rfl, Nat.le_of_ble_eq_true rfl⟩) rfl rfl rfl rfl (Nat.le_of_ble_eq_true rfl) dX4_ownersOf_47 (fun r11 S10 h => ?_)
        refine j_goto (tgt := 58) X dX4_ownersOf_50 (by decide) ?_
        refine j_ishl X dX4_ownersOf_58 ?_
        exact j_iret X h dX4_ownersOf_59
    · have h := h.2 c6
      refine j_iload_n X rfl 0 rfl dX4_ownersOf_29 ?_
      exact j_iret X h dX4_ownersOf_30
set_option maxRecDepth 100000 in
theorem i_X6_cell_X2 : ∀ w ∈ u_ws RX2 TX2 14, w ∈ wsX6_cell := by decide +kernel
set_option maxRecDepth 100000 in
theorem i_X6_cell_X4 : ∀ w ∈ u_ws RX4 TX4 8, w ∈ wsX6_cell := by decide +kernel
set_option maxRecDepth 100000 in
theorem i_X6_cell_X5 : ∀ w ∈ u_ws RX5 TX5 7, w ∈ wsX6_cell := by decide +kernel
set_option maxRecDepth 100000 in
theorem i_X6_cell_X6 : ∀ w ∈ u_ws RX6 TX6 8, w ∈ wsX6_cell := by decide +kernel
abbrev rm_X6_cell : Room := { frames := 5, cells := 0, slots := 0, locals := 122 }
set_option maxRecDepth 100000 in
set_option maxHeartbeats 4000000 in
theorem c_X6_cell (l : Launch) (D : va_G) (i : Nat → ClassId) (q : Nat → Nat) (A : Nat → Prop) (x1 : Int32) (x2 : Int32) (x3 : Int32) (S : vS) (Q : Int32 → vS → Prop) (h : e_X6_cell x1 x2 x3 S Q) : Met l yX6_cell wsX6_cell rm_X6_cell (va_Pc [.ref (q 0), .int x1, .int x2, .int x3] (vB D i A (wC q i) S)) (va_Qi Q (vB D i A (wC q i)) A) 0 0 A := by
  refine m_ofJ (own := RX6) (lv := [(0, .ref (q 0)), (1, .int x1), (2, .int x2), (3, .int x3)]) rfl (by decide) rfl (Nat.le_of_ble_eq_true rfl) rfl ?_
  intro p e s m below meth c X
  unfold e_X6_cell at h
  refine j_aload_n X rfl 0 rfl dX6_cell_0 ?_
  refine jgC_main_plan X i_X6_cell_X6 (by decide +kernel) dX6_cell_1 ?_
  refine j_iload_n X rfl 1 rfl dX6_cell_4 ?_
  refine j_iload_n X rfl 2 rfl dX6_cell_5 ?_
  refine j_Vi (st := []) X [.int x1, .int x2] 1 (c_X2_hasCell_plan l D i q A x1 x2 S _ h) (cwV 2 X.ts gX6_cell_X2_hasCell rfl rfl rfl (by decide +kernel) ⟨Nat.le_of_ble_eq_true rfl, Nat.le_of_ble_eq_true rfl⟩) rfl rfl rfl rfl (Nat.le_of_ble_eq_true rfl) dX6_cell_6 (fun r2 S1 h => ?_)
  refine j_if_ne (tgt := 15) X dX6_cell_9 (by decide) (fun c3 => ?_) (fun c3 => ?_)
  · have h := h.1 c3
    refine j_aload_n X rfl 0 rfl dX6_cell_15 ?_
    refine jgC_main_plan X i_X6_cell_X6 (by decide +kernel) dX6_cell_16 ?_
    refine j_iload_n X rfl 1 rfl dX6_cell_19 ?_
    refine j_iload_n X rfl 2 rfl dX6_cell_20 ?_
    refine j_Vi (st := []) X [.int x1, .int x2] 1 (c_X2_numberOf_plan l D i q A x1 x2 S1 _ h) (cwV 2 X.ts gX6_cell_X2_numberOf rfl rfl rfl (by decide +kernel) ⟨Nat.le_of_ble_eq_true rfl, Nat.le_of_ble_eq_true rfl⟩) rfl rfl rfl rfl (Nat.le_of_ble_eq_true rfl) dX6_cell_21 (fun r5 S4 h => ?_)
    refine j_istore (lv' := [(4, .int r5), (0, .ref (q 0)), (1, .int x1), (2, .int x2), (3, .int x3)]) X (by decide) rfl dX6_cell_24 ?_
    refine j_iload_n X rfl 4 rfl dX6_cell_26 ?_
    rcases (show (x3.toInt < 0 ∨ 3 < x3.toInt) ∨ x3.toInt = 0 ∨ x3.toInt = 1 ∨ x3.toInt = 2 ∨ x3.toInt = 3 by omega) with c6 | c6 | c6 | c6 | c6
    · have h := h.1 c6
      refine j_tabOut (tgt := 113) X dX6_cell_27 c6 (by decide) ?_
      refine j_ldc (v := (-1000000002 : Int32)) X (by decide +kernel) dX6_cell_113 ?_
      exact j_iret X h dX6_cell_115
    · have h := h.2.1 c6
      refine j_tabIn (tgt := 56) X dX6_cell_27 c6 (by decide) (by decide) rfl (by decide) ?_
      refine j_aload_n X rfl 1 rfl dX6_cell_56 ?_
      refine jgC_main_now X i_X6_cell_X6 (by decide +kernel) dX6_cell_57 ?_
      refine jgC_now_stands X i_X6_cell_X5 (by decide +kernel) dX6_cell_60 ?_
      refine j_iload X 0 rfl dX6_cell_63 ?_
      obtain ⟨k7, h⟩ := h
      refine jlC_now_stands X k7 dX6_cell_65 ?_
      exact j_iret X h dX6_cell_66
    · have h := h.2.2.1 c6
      refine j_tabIn (tgt := 67) X dX6_cell_27 c6 (by decide) (by decide) rfl (by decide) ?_
      refine j_aload_n X rfl 1 rfl dX6_cell_67 ?_
      refine jgC_main_plan X i_X6_cell_X6 (by decide +kernel) dX6_cell_68 ?_
      refine jgC_plan_fish X i_X6_cell_X2 (by decide +kernel) dX6_cell_71 ?_
      refine j_iload X 0 rfl dX6_cell_74 ?_
      obtain ⟨k8, h⟩ := h
      refine jlC_plan_fish X k8 dX6_cell_76 ?_
      exact j_iret X h dX6_cell_77
    · have h := h.2.2.2.1 c6
      refine j_tabIn (tgt := 78) X dX6_cell_27 c6 (by decide) (by decide) rfl (by decide) ?_
      refine j_aload_n X rfl 1 rfl dX6_cell_78 ?_
      refine jgC_main_sight X i_X6_cell_X6 (by decide +kernel) dX6_cell_79 ?_
      refine j_Vv (st := []) X [] 7 (c_X4_lookAll l D i q A S4 _ h) (cwV 0 X.ts gX6_cell_X4_lookAll rfl rfl rfl (by decide +kernel) ⟨Nat.le_of_ble_eq_true rfl, Nat.le_of_ble_eq_true rfl⟩) rfl rfl rfl rfl (Nat.le_of_ble_eq_true rfl) dX6_cell_82 (fun S9 h => ?_)
      refine j_aload_n X rfl 1 rfl dX6_cell_85 ?_
      refine jgC_main_sight X i_X6_cell_X6 (by decide +kernel) dX6_cell_86 ?_
      refine jgC_sight_seers X i_X6_cell_X4 (by decide +kernel) dX6_cell_89 ?_
      refine j_iload X 0 rfl dX6_cell_92 ?_
      obtain ⟨k11, h⟩ := h
      refine jlC_sight_seers X k11 dX6_cell_94 ?_
      exact j_iret X h dX6_cell_95
    · have h := h.2.2.2.2 c6
      refine j_tabIn (tgt := 96) X dX6_cell_27 c6 (by decide) (by decide) rfl (by decide) ?_
      refine j_aload_n X rfl 1 rfl dX6_cell_96 ?_
      refine jgC_main_sight X i_X6_cell_X6 (by decide +kernel) dX6_cell_97 ?_
      refine j_Vv (st := []) X [] 7 (c_X4_lookAll l D i q A S4 _ h) (cwV 0 X.ts gX6_cell_X4_lookAll rfl rfl rfl (by decide +kernel) ⟨Nat.le_of_ble_eq_true rfl, Nat.le_of_ble_eq_true rfl⟩) rfl rfl rfl rfl (Nat.le_of_ble_eq_true rfl) dX6_cell_100 (fun S12 h => ?_)
      refine j_aload_n X rfl 1 rfl dX6_cell_103 ?_
      refine jgC_main_sight X i_X6_cell_X6 (by decide +kernel) dX6_cell_104 ?_
      refine j_iload_n X rfl 2 rfl dX6_cell_107 ?_
      refine j_iload_n X rfl 3 rfl dX6_cell_108 ?_
      refine j_Vi (st := []) X [.int x1, .int x2] 7 (c_X4_ownersOf l D i q A x1 x2 S12 _ h) (cwV 2 X.ts gX6_cell_X4_ownersOf rfl rfl rfl (by decide +kernel) ⟨Nat.le_of_ble_eq_true rfl, Nat.le_of_ble_eq_true rfl⟩) rfl rfl rfl rfl (Nat.le_of_ble_eq_true rfl) dX6_cell_109 (fun r15 S14 h => ?_)
      exact j_iret X h dX6_cell_112
  · have h := h.2 c3
    refine j_ldc (v := (-1000000001 : Int32)) X (by decide +kernel) dX6_cell_12 ?_
    exact j_iret X h dX6_cell_14
set_option maxRecDepth 100000 in
theorem i_X2_hasMan_plan_X2 : ∀ w ∈ u_ws RX2 TX2 14, w ∈ wsX2_hasMan := by decide +kernel
abbrev rm_X2_hasMan_plan : Room := { frames := 0, cells := 0, slots := 0, locals := 0 }
set_option maxRecDepth 100000 in
set_option maxHeartbeats 4000000 in
theorem c_X2_hasMan_plan (l : Launch) (D : va_G) (i : Nat → ClassId) (q : Nat → Nat) (A : Nat → Prop) (x1 : Int32) (S : vS) (Q : Int32 → vS → Prop) (h : e_X2_hasMan_plan x1 S Q) : Met l yX2_hasMan wsX2_hasMan rm_X2_hasMan_plan (va_Pc [.ref (q 1), .int x1] (vB D i A (wC q i) S)) (va_Qi Q (vB D i A (wC q i)) A) 0 0 A := by
  refine m_ofJ (own := RX2) (lv := [(0, .ref (q 1)), (1, .int x1)]) rfl (by decide) rfl (Nat.le_of_ble_eq_true rfl) rfl ?_
  intro p e s m below meth c X
  unfold e_X2_hasMan_plan at h
  refine j_iload_n X rfl 1 rfl dX2_hasMan_0 ?_
  refine j_if_lt (tgt := 16) X dX2_hasMan_1 (by decide) (fun c1 => ?_) (fun c1 => ?_)
  · have h := h.1 c1
    refine j_iconst (v := (0 : Int32)) X (by decide) dX2_hasMan_16 ?_
    exact j_zret X rfl h dX2_hasMan_17
  · have h := h.2 c1
    refine j_iload_n X rfl 1 rfl dX2_hasMan_4 ?_
    refine j_aload_n X rfl 0 rfl dX2_hasMan_5 ?_
    refine jgC_plan_men X i_X2_hasMan_plan_X2 (by decide +kernel) dX2_hasMan_6 ?_
    refine j_icmp_ge (tgt := 16) X dX2_hasMan_9 (by decide) (fun c2 => ?_) (fun c2 => ?_)
    · have h := h.1 c2
      refine j_iconst (v := (0 : Int32)) X (by decide) dX2_hasMan_16 ?_
      exact j_zret X rfl h dX2_hasMan_17
    · have h := h.2 c2
      refine j_iconst (v := (1 : Int32)) X (by decide) dX2_hasMan_12 ?_
      refine j_goto (tgt := 17) X dX2_hasMan_13 (by decide) ?_
      exact j_zret X rfl h dX2_hasMan_17
set_option maxRecDepth 100000 in
theorem i_X6_countSeen_X4 : ∀ w ∈ u_ws RX4 TX4 8, w ∈ wsX6_countSeen := by decide +kernel
set_option maxRecDepth 100000 in
theorem i_X6_countSeen_X6 : ∀ w ∈ u_ws RX6 TX6 8, w ∈ wsX6_countSeen := by decide +kernel
abbrev rm_X6_countSeen : Room := { frames := 5, cells := 0, slots := 0, locals := 122 }
set_option maxRecDepth 100000 in
set_option maxHeartbeats 4000000 in
theorem w_X6_countSeen_11 {D : va_G} {i : Nat → ClassId} {q : Nat → Nat} {A : Nat → Prop} {p : Program} {l : Launch} {e : Env} {s : State} {m : MethodId} {args : Array Value} {below : List Frame} {meth : Method} {c : Code} (X : cX D i A p s m args meth c cX6_countSeen RX6 4 wsX6_countSeen (some .int)) {Q : Int32 → vS → Prop} : ∀ (n : Nat) (a1 : Int32) (a2 : Int32) (a3 : Int32) (S : vS), e_X6_countSeen_11 Q n a1 a2 a3 S → cJ D A p l e (headSpec wsX6_countSeen rm_X6_countSeen).room s m args below meth c (MQ below (va_Qi Q (vB D i A (wC q i)) A) args s 0 0 A) 4 (wC q i S) [(0, .ref (q 0)), (1, .int a1), (2, .int a2), (3, .int a3)] 11 [] := by
  intro n
  induction n with
  | zero =>
    intro _ _ _ S h
    rw [e_X6_countSeen_11.eq_1] at h
    exact h.elim
  | succ n ih =>
    intro a1 a2 a3 S h
    rw [e_X6_countSeen_11.eq_2] at h
    refine j_iload_n X rfl 3 rfl dX6_countSeen_11 ?_
    refine j_aload_n X rfl 0 rfl dX6_countSeen_12 ?_
    refine jgC_main_plan X i_X6_countSeen_X6 (by decide +kernel) dX6_countSeen_13 ?_
    refine j_Vi (st := [.int a3]) X [] 1 (c_X2_cells_plan l D i q A S _ h) (cwV 0 X.ts gX6_countSeen_X2_cells rfl rfl rfl (by decide +kernel) ⟨Nat.le_of_ble_eq_true rfl, Nat.le_of_ble_eq_true rfl⟩) rfl rfl rfl rfl (Nat.le_of_ble_eq_true rfl) dX6_countSeen_16 (fun r4 S3 h => ?_)
    refine j_icmp_ge (tgt := 47) X dX6_countSeen_19 (by decide) (fun c5 => ?_) (fun c5 => ?_)
    · have h := h.1 c5
      refine j_iload_n X rfl 2 rfl dX6_countSeen_47 ?_
      exact j_iret X h dX6_countSeen_48
    · have h := h.2 c5
      refine j_aload_n X rfl 0 rfl dX6_countSeen_22 ?_
      refine jgC_main_sight X i_X6_countSeen_X6 (by decide +kernel) dX6_countSeen_23 ?_
      refine jgC_sight_seers X i_X6_countSeen_X4 (by decide +kernel) dX6_countSeen_26 ?_
      refine j_iload_n X rfl 3 rfl dX6_countSeen_29 ?_
      obtain ⟨k6, h⟩ := h
      refine jlC_sight_seers X k6 dX6_countSeen_30 ?_
      refine j_iload_n X rfl 1 rfl dX6_countSeen_31 ?_
      refine j_Si (st := []) X [.int (S3.2.1 30 (a3).toNatClampNeg), .int a1] (c_X6_holds l D i q A (S3.2.1 30 (a3).toNatClampNeg) a1 S3 _ h) (va_cwS 2 X.ts gX6_countSeen_X6_holds rfl rfl rfl (by decide +kernel) ⟨Nat.le_of_ble_eq_true rfl, Nat.le_of_ble_eq_true rfl⟩) rfl rfl (Nat.le_of_ble_eq_true rfl) dX6_countSeen_32 (fun r8 S7 h => ?_)
      refine j_if_eq (tgt := 41) X dX6_countSeen_35 (by decide) (fun c9 => ?_) (fun c9 => ?_)
      · have h := h.1 c9
        refine j_iinc (dv := (1 : Int32)) (lv' := fun v10 => [(3, .int v10), (0, .ref (q 0)), (1, .int a1), (2, .int a2)]) X dX6_countSeen_41 (pl := 3) rfl (by decide) (by decide) (fun _ => rfl) (fun v10 ev10 => ?_)
        have h := h v10 ev10
        refine j_goto (tgt := 11) X dX6_countSeen_44 (by decide) ?_
        refine j_loc [1, 2, 3, 0] rfl ?_
        exact ih a1 a2 v10 S7 h
      · have h := h.2 c9
        refine j_iinc (dv := (1 : Int32)) (lv' := fun v11 => [(2, .int v11), (0, .ref (q 0)), (1, .int a1), (3, .int a3)]) X dX6_countSeen_38 (pl := 2) rfl (by decide) (by decide) (fun _ => rfl) (fun v11 ev11 => ?_)
        have h := h v11 ev11
        refine j_iinc (dv := (1 : Int32)) (lv' := fun v12 => [(3, .int v12), (2, .int v11), (0, .ref (q 0)), (1, .int a1)]) X dX6_countSeen_41 (pl := 3) rfl (by decide) (by decide) (fun _ => rfl) (fun v12 ev12 => ?_)
        have h := h v12 ev12
        refine j_goto (tgt := 11) X dX6_countSeen_44 (by decide) ?_
        refine j_loc [2, 3, 1, 0] rfl ?_
        exact ih a1 v11 v12 S7 h
set_option maxRecDepth 100000 in
set_option maxHeartbeats 4000000 in
theorem c_X6_countSeen (l : Launch) (D : va_G) (i : Nat → ClassId) (q : Nat → Nat) (A : Nat → Prop) (x1 : Int32) (S : vS) (Q : Int32 → vS → Prop) (h : e_X6_countSeen x1 S Q) : Met l yX6_countSeen wsX6_countSeen rm_X6_countSeen (va_Pc [.ref (q 0), .int x1] (vB D i A (wC q i) S)) (va_Qi Q (vB D i A (wC q i)) A) 0 0 A := by
  refine m_ofJ (own := RX6) (lv := [(0, .ref (q 0)), (1, .int x1)]) rfl (by decide) rfl (Nat.le_of_ble_eq_true rfl) rfl ?_
  intro p e s m below meth c X
  unfold e_X6_countSeen at h
  refine j_aload_n X rfl 0 rfl dX6_countSeen_0 ?_
  refine jgC_main_sight X i_X6_countSeen_X6 (by decide +kernel) dX6_countSeen_1 ?_
  refine j_Vv (st := []) X [] 7 (c_X4_lookAll l D i q A S _ h) (cwV 0 X.ts gX6_countSeen_X4_lookAll rfl rfl rfl (by decide +kernel) ⟨Nat.le_of_ble_eq_true rfl, Nat.le_of_ble_eq_true rfl⟩) rfl rfl rfl rfl (Nat.le_of_ble_eq_true rfl) dX6_countSeen_4 (fun S1 h => ?_)
  refine j_iconst (v := (0 : Int32)) X (by decide) dX6_countSeen_7 ?_
  refine j_istore_n (lv' := [(2, .int (0 : Int32)), (0, .ref (q 0)), (1, .int x1)]) X rfl (by decide) rfl dX6_countSeen_8 ?_
  refine j_iconst (v := (0 : Int32)) X (by decide) dX6_countSeen_9 ?_
  refine j_istore_n (lv' := [(3, .int (0 : Int32)), (2, .int (0 : Int32)), (0, .ref (q 0)), (1, .int x1)]) X rfl (by decide) rfl dX6_countSeen_10 ?_
  refine j_loc [2, 3, 1, 0] rfl ?_
  obtain ⟨j, h⟩ := h
  exact w_X6_countSeen_11 X j x1 (0 : Int32) (0 : Int32) S1 h
set_option maxRecDepth 100000 in
theorem i_X6_countOwned_X2 : ∀ w ∈ u_ws RX2 TX2 14, w ∈ wsX6_countOwned := by decide +kernel
set_option maxRecDepth 100000 in
theorem i_X6_countOwned_X6 : ∀ w ∈ u_ws RX6 TX6 8, w ∈ wsX6_countOwned := by decide +kernel
abbrev rm_X6_countOwned : Room := { frames := 5, cells := 0, slots := 0, locals := 122 }
set_option maxRecDepth 100000 in
set_option maxHeartbeats 4000000 in
theorem w_X6_countOwned_25 {D : va_G} {i : Nat → ClassId} {q : Nat → Nat} {A : Nat → Prop} {p : Program} {l : Launch} {e : Env} {s : State} {m : MethodId} {args : Array Value} {below : List Frame} {meth : Method} {c : Code} (X : cX D i A p s m args meth c cX6_countOwned RX6 5 wsX6_countOwned (some .int)) {K11 : Int32 → Int32 → Int32 → vS → Prop} {Q : Int32 → vS → Prop} (hK11 : ∀ (a1 : Int32) (a2 : Int32) (a3 : Int32) (S : vS), K11 a1 a2 a3 S → cJ D A p l e (headSpec wsX6_countOwned rm_X6_countOwned).room s m args below meth c (MQ below (va_Qi Q (vB D i A (wC q i)) A) args s 0 0 A) 5 (wC q i S) [(0, .ref (q 0)), (1, .int a1), (2, .int a2), (3, .int a3)] 11 []) : ∀ (n : Nat) (a1 : Int32) (a2 : Int32) (a3 : Int32) (a4 : Int32) (S : vS), e_X6_countOwned_25 K11 Q n a1 a2 a3 a4 S → cJ D A p l e (headSpec wsX6_countOwned rm_X6_countOwned).room s m args below meth c (MQ below (va_Qi Q (vB D i A (wC q i)) A) args s 0 0 A) 5 (wC q i S) [(0, .ref (q 0)), (1, .int a1), (2, .int a2), (3, .int a3), (4, .int a4)] 25 [] := by
  intro n
  induction n with
  | zero =>
    intro _ _ _ _ S h
    rw [e_X6_countOwned_25.eq_1] at h
    exact h.elim
  | succ n ih =>
    intro a1 a2 a3 a4 S h
    rw [e_X6_countOwned_25.eq_2] at h
    refine j_iload X 4 rfl dX6_countOwned_25 ?_
    refine j_aload_n X rfl 0 rfl dX6_countOwned_27 ?_
    refine jgC_main_plan X i_X6_countOwned_X6 (by decide +kernel) dX6_countOwned_28 ?_
    refine jgC_plan_width X i_X6_countOwned_X2 (by decide +kernel) dX6_countOwned_31 ?_
    refine j_icmp_ge (tgt := 63) X dX6_countOwned_34 (by decide) (fun c4 => ?_) (fun c4 => ?_)
    · have h := h.1 c4
      refine j_iinc (dv := (1 : Int32)) (lv' := fun v5 => [(3, .int v5), (0, .ref (q 0)), (1, .int a1), (2, .int a2), (4, .int a4)]) X dX6_countOwned_63 (pl := 3) rfl (by decide) (by decide) (fun _ => rfl) (fun v5 ev5 => ?_)
      have h := h v5 ev5
      refine j_goto (tgt := 11) X dX6_countOwned_66 (by decide) ?_
      refine j_loc [1, 2, 3, 0] rfl ?_
      exact hK11 a1 a2 v5 S h
    · have h := h.2 c4
      refine j_aload_n X rfl 0 rfl dX6_countOwned_37 ?_
      refine jgC_main_sight X i_X6_countOwned_X6 (by decide +kernel) dX6_countOwned_38 ?_
      refine j_iload X 4 rfl dX6_countOwned_41 ?_
      refine j_iload_n X rfl 3 rfl dX6_countOwned_43 ?_
      refine j_Vi (st := []) X [.int a4, .int a3] 7 (c_X4_ownersOf l D i q A a4 a3 S _ h) (cwV 2 X.ts gX6_countOwned_X4_ownersOf rfl rfl rfl (by decide +kernel) ⟨Nat.le_of_ble_eq_true rfl, Nat.le_of_ble_eq_true rfl⟩) rfl rfl rfl rfl (Nat.le_of_ble_eq_true rfl) dX6_countOwned_44 (fun r7 S6 h => ?_)
      refine j_iload_n X rfl 1 rfl dX6_countOwned_47 ?_
      refine j_Si (st := []) X [.int r7, .int a1] (c_X6_holds l D i q A r7 a1 S6 _ h) (va_cwS 2 X.ts gX6_countOwned_X6_holds rfl rfl rfl (by decide +kernel) ⟨Nat.le_of_ble_eq_true rfl, Nat.le_of_ble_eq_true rfl⟩) rfl rfl (Nat.le_of_ble_eq_true rfl) dX6_countOwned_48 (fun r9 S8 h => ?_)
      refine j_if_eq (tgt := 57) X dX6_countOwned_51 (by decide) (fun c10 => ?_) (fun c10 => ?_)
      · have h := h.1 c10
        refine j_iinc (dv := (1 : Int32)) (lv' := fun v11 => [(4, .int v11), (0, .ref (q 0)), (1, .int a1), (2, .int a2), (3, .int a3)]) X dX6_countOwned_57 (pl := 4) rfl (by decide) (by decide) (fun _ => rfl) (fun v11 ev11 => ?_)
        have h := h v11 ev11
        refine j_goto (tgt := 25) X dX6_countOwned_60 (by decide) ?_
        refine j_loc [1, 2, 3, 4, 0] rfl ?_
        exact ih a1 a2 a3 v11 S8 h
      · have h := h.2 c10
        refine j_iinc (dv := (1 : Int32)) (lv' := fun v12 => [(2, .int v12), (0, .ref (q 0)), (1, .int a1), (3, .int a3), (4, .int a4)]) X dX6_countOwned_54 (pl := 2) rfl (by decide) (by decide) (fun _ => rfl) (fun v12 ev12 => ?_)
        have h := h v12 ev12
        refine j_iinc (dv := (1 : Int32)) (lv' := fun v13 => [(4, .int v13), (2, .int v12), (0, .ref (q 0)), (1, .int a1), (3, .int a3)]) X dX6_countOwned_57 (pl := 4) rfl (by decide) (by decide) (fun _ => rfl) (fun v13 ev13 => ?_)
        have h := h v13 ev13
        refine j_goto (tgt := 25) X dX6_countOwned_60 (by decide) ?_
        refine j_loc [2, 3, 1, 4, 0] rfl ?_
        exact ih a1 v12 a3 v13 S8 h
set_option maxRecDepth 100000 in
set_option maxHeartbeats 4000000 in
theorem w_X6_countOwned_11 {D : va_G} {i : Nat → ClassId} {q : Nat → Nat} {A : Nat → Prop} {p : Program} {l : Launch} {e : Env} {s : State} {m : MethodId} {args : Array Value} {below : List Frame} {meth : Method} {c : Code} (X : cX D i A p s m args meth c cX6_countOwned RX6 5 wsX6_countOwned (some .int)) {Q : Int32 → vS → Prop} : ∀ (n : Nat) (a1 : Int32) (a2 : Int32) (a3 : Int32) (S : vS), e_X6_countOwned_11 Q n a1 a2 a3 S → cJ D A p l e (headSpec wsX6_countOwned rm_X6_countOwned).room s m args below meth c (MQ below (va_Qi Q (vB D i A (wC q i)) A) args s 0 0 A) 5 (wC q i S) [(0, .ref (q 0)), (1, .int a1), (2, .int a2), (3, .int a3)] 11 [] := by
  intro n
  induction n with
  | zero =>
    intro _ _ _ S h
    rw [e_X6_countOwned_11.eq_1] at h
    exact h.elim
  | succ n ih =>
    intro a1 a2 a3 S h
    rw [e_X6_countOwned_11.eq_2] at h
    refine j_iload_n X rfl 3 rfl dX6_countOwned_11 ?_
    refine j_aload_n X rfl 0 rfl dX6_countOwned_12 ?_
    refine jgC_main_plan X i_X6_countOwned_X6 (by decide +kernel) dX6_countOwned_13 ?_
    refine jgC_plan_height X i_X6_countOwned_X2 (by decide +kernel) dX6_countOwned_16 ?_
    refine j_icmp_ge (tgt := 69) X dX6_countOwned_19 (by decide) (fun c3 => ?_) (fun c3 => ?_)
    · have h := h.1 c3
      refine j_iload_n X rfl 2 rfl dX6_countOwned_69 ?_
      exact j_iret X h dX6_countOwned_70
    · have h := h.2 c3
      refine j_iconst (v := (0 : Int32)) X (by decide) dX6_countOwned_22 ?_
      refine j_istore (lv' := [(4, .int (0 : Int32)), (0, .ref (q 0)), (1, .int a1), (2, .int a2), (3, .int a3)]) X (by decide) rfl dX6_countOwned_23 ?_
      refine j_loc [1, 2, 3, 4, 0] rfl ?_
      obtain ⟨j, h⟩ := h
      exact w_X6_countOwned_25 X (fun y0 y1 y2 S h => ih y0 y1 y2 S h) j a1 a2 a3 (0 : Int32) S h
set_option maxRecDepth 100000 in
set_option maxHeartbeats 4000000 in
theorem c_X6_countOwned (l : Launch) (D : va_G) (i : Nat → ClassId) (q : Nat → Nat) (A : Nat → Prop) (x1 : Int32) (S : vS) (Q : Int32 → vS → Prop) (h : e_X6_countOwned x1 S Q) : Met l yX6_countOwned wsX6_countOwned rm_X6_countOwned (va_Pc [.ref (q 0), .int x1] (vB D i A (wC q i) S)) (va_Qi Q (vB D i A (wC q i)) A) 0 0 A := by
  refine m_ofJ (own := RX6) (lv := [(0, .ref (q 0)), (1, .int x1)]) rfl (by decide) rfl (Nat.le_of_ble_eq_true rfl) rfl ?_
  intro p e s m below meth c X
  unfold e_X6_countOwned at h
  refine j_aload_n X rfl 0 rfl dX6_countOwned_0 ?_
  refine jgC_main_sight X i_X6_countOwned_X6 (by decide +kernel) dX6_countOwned_1 ?_
  refine j_Vv (st := []) X [] 7 (c_X4_lookAll l D i q A S _ h) (cwV 0 X.ts gX6_countOwned_X4_lookAll rfl rfl rfl (by decide +kernel) ⟨Nat.le_of_ble_eq_true rfl, Nat.le_of_ble_eq_true rfl⟩) rfl rfl rfl rfl (Nat.le_of_ble_eq_true rfl) dX6_countOwned_4 (fun S1 h => ?_)
  refine j_iconst (v := (0 : Int32)) X (by decide) dX6_countOwned_7 ?_
  refine j_istore_n (lv' := [(2, .int (0 : Int32)), (0, .ref (q 0)), (1, .int x1)]) X rfl (by decide) rfl dX6_countOwned_8 ?_
  refine j_iconst (v := (0 : Int32)) X (by decide) dX6_countOwned_9 ?_
  refine j_istore_n (lv' := [(3, .int (0 : Int32)), (2, .int (0 : Int32)), (0, .ref (q 0)), (1, .int x1)]) X rfl (by decide) rfl dX6_countOwned_10 ?_
  refine j_loc [2, 3, 1, 0] rfl ?_
  obtain ⟨j, h⟩ := h
  exact w_X6_countOwned_11 X j x1 (0 : Int32) (0 : Int32) S1 h
set_option maxRecDepth 100000 in
theorem i_X6_man_X2 : ∀ w ∈ u_ws RX2 TX2 14, w ∈ wsX6_man := by decide +kernel
set_option maxRecDepth 100000 in
theorem i_X6_man_X5 : ∀ w ∈ u_ws RX5 TX5 7, w ∈ wsX6_man := by decide +kernel
set_option maxRecDepth 100000 in
theorem i_X6_man_X6 : ∀ w ∈ u_ws RX6 TX6 8, w ∈ wsX6_man := by decide +kernel
abbrev rm_X6_man : Room := { frames := 6, cells := 0, slots := 0, locals := 146 }
set_option maxRecDepth 100000 in
set_option maxHeartbeats 4000000 in
theorem c_X6_man (l : Launch) (D : va_G) (i : Nat → ClassId) (q : Nat → Nat) (A : Nat → Prop) (x1 : Int32) (x2 : Int32) (S : vS) (Q : Int32 → vS → Prop) (h : e_X6_man x1 x2 S Q) : Met l yX6_man wsX6_man rm_X6_man (va_Pc [.ref (q 0), .int x1, .int x2] (vB D i A (wC q i) S)) (va_Qi Q (vB D i A (wC q i)) A) 0 0 A := by
  refine m_ofJ (own := RX6) (lv := [(0, .ref (q 0)), (1, .int x1), (2, .int x2)]) rfl (by decide) rfl (Nat.le_of_ble_eq_true rfl) rfl ?_
  intro p e s m below meth c X
  unfold e_X6_man at h
  refine j_aload_n X rfl 0 rfl dX6_man_0 ?_
  refine jgC_main_plan X i_X6_man_X6 (by decide +kernel) dX6_man_1 ?_
  refine j_iload_n X rfl 1 rfl dX6_man_4 ?_
  refine j_Vi (st := []) X [.int x1] 1 (c_X2_hasMan_plan l D i q A x1 S _ h) (cwV 1 X.ts gX6_man_X2_hasMan rfl rfl rfl (by decide +kernel) ⟨Nat.le_of_ble_eq_true rfl, Nat.le_of_ble_eq_true rfl⟩) rfl rfl rfl rfl (Nat.le_of_ble_eq_true rfl) dX6_man_5 (fun r2 S1 h => ?_)
  refine j_if_ne (tgt := 14) X dX6_man_8 (by decide) (fun c3 => ?_) (fun c3 => ?_)
  · have h := h.1 c3
    refine j_iload_n X rfl 2 rfl dX6_man_14 ?_
    rcases (show (x2.toInt < 0 ∨ 6 < x2.toInt) ∨ x2.toInt = 0 ∨ x2.toInt = 1 ∨ x2.toInt = 2 ∨ x2.toInt = 3 ∨ x2.toInt = 4 ∨ x2.toInt = 5 ∨ x2.toInt = 6 by omega) with c4 | c4 | c4 | c4 | c4 | c4 | c4 | c4
    · have h := h.1 c4
      refine j_tabOut (tgt := 117) X dX6_man_15 c4 (by decide) ?_
      refine j_ldc (v := (-1000000002 : Int32)) X (by decide +kernel) dX6_man_117 ?_
      exact j_iret X h dX6_man_119
    · have h := h.2.1 c4
      refine j_tabIn (tgt := 56) X dX6_man_15 c4 (by decide) (by decide) rfl (by decide) ?_
      refine j_aload_n X rfl 0 rfl dX6_man_56 ?_
      refine jgC_main_plan X i_X6_man_X6 (by decide +kernel) dX6_man_57 ?_
      refine jgC_plan_places X i_X6_man_X2 (by decide +kernel) dX6_man_60 ?_
      refine j_iload_n X rfl 1 rfl dX6_man_63 ?_
      obtain ⟨k5, h⟩ := h
      refine jlC_plan_places X k5 dX6_man_64 ?_
      exact j_iret X h dX6_man_65
    · have h := h.2.2.1 c4
      refine j_tabIn (tgt := 66) X dX6_man_15 c4 (by decide) (by decide) rfl (by decide) ?_
      refine j_aload_n X rfl 0 rfl dX6_man_66 ?_
      refine jgC_main_plan X i_X6_man_X6 (by decide +kernel) dX6_man_67 ?_
      refine jgC_plan_grounds X i_X6_man_X2 (by decide +kernel) dX6_man_70 ?_
      refine j_iload_n X rfl 1 rfl dX6_man_73 ?_
      obtain ⟨k6, h⟩ := h
      refine jlC_plan_grounds X k6 dX6_man_74 ?_
      exact j_iret X h dX6_man_75
    · have h := h.2.2.2.1 c4
      refine j_tabIn (tgt := 76) X dX6_man_15 c4 (by decide) (by decide) rfl (by decide) ?_
      refine j_aload_n X rfl 0 rfl dX6_man_76 ?_
      refine jgC_main_now X i_X6_man_X6 (by decide +kernel) dX6_man_77 ?_
      refine jgC_now_storeys X i_X6_man_X5 (by decide +kernel) dX6_man_80 ?_
      refine j_iload_n X rfl 1 rfl dX6_man_83 ?_
      obtain ⟨k7, h⟩ := h
      refine jlC_now_storeys X k7 dX6_man_84 ?_
      exact j_iret X h dX6_man_85
    · have h := h.2.2.2.2.1 c4
      refine j_tabIn (tgt := 86) X dX6_man_15 c4 (by decide) (by decide) rfl (by decide) ?_
      refine j_aload_n X rfl 0 rfl dX6_man_86 ?_
      refine jgC_main_sight X i_X6_man_X6 (by decide +kernel) dX6_man_87 ?_
      refine j_iload_n X rfl 1 rfl dX6_man_90 ?_
      refine j_Vi (st := []) X [.int x1] 7 (c_X4_eyeOf l D i q A x1 S1 _ h) (cwV 1 X.ts gX6_man_X4_eyeOf rfl rfl rfl (by decide +kernel) ⟨Nat.le_of_ble_eq_true rfl, Nat.le_of_ble_eq_true rfl⟩) rfl rfl rfl rfl (Nat.le_of_ble_eq_true rfl) dX6_man_91 (fun r9 S8 h => ?_)
      exact j_iret X h dX6_man_94
    · have h := h.2.2.2.2.2.1 c4
      refine j_tabIn (tgt := 95) X dX6_man_15 c4 (by decide) (by decide) rfl (by decide) ?_
      refine j_aload_n X rfl 0 rfl dX6_man_95 ?_
      refine jgC_main_now X i_X6_man_X6 (by decide +kernel) dX6_man_96 ?_
      refine jgC_now_purses X i_X6_man_X5 (by decide +kernel) dX6_man_99 ?_
      refine j_iload_n X rfl 1 rfl dX6_man_102 ?_
      obtain ⟨k10, h⟩ := h
      refine jlC_now_purses X k10 dX6_man_103 ?_
      exact j_iret X h dX6_man_104
    · have h := h.2.2.2.2.2.2.1 c4
      refine j_tabIn (tgt := 105) X dX6_man_15 c4 (by decide) (by decide) rfl (by decide) ?_
      refine j_aload_n X rfl 0 rfl dX6_man_105 ?_
      refine j_iload_n X rfl 1 rfl dX6_man_106 ?_
      refine j_Vi (st := []) X [.int x1] 0 (c_X6_countSeen l D i q A x1 S1 _ h) (cwV 1 X.ts gX6_man_X6_countSeen rfl rfl rfl (by decide +kernel) ⟨Nat.le_of_ble_eq_true rfl, Nat.le_of_ble_eq_true rfl⟩) rfl rfl rfl rfl (Nat.le_of_ble_eq_true rfl) dX6_man_107 (fun r12 S11 h => ?_)
      exact j_iret X h dX6_man_110
    · have h := h.2.2.2.2.2.2.2 c4
      refine j_tabIn (tgt := 111) X dX6_man_15 c4 (by decide) (by decide) rfl (by decide) ?_
      refine j_aload_n X rfl 0 rfl dX6_man_111 ?_
      refine j_iload_n X rfl 1 rfl dX6_man_112 ?_
      refine j_Vi (st := []) X [.int x1] 0 (c_X6_countOwned l D i q A x1 S1 _ h) (cwV 1 X.ts gX6_man_X6_countOwned rfl rfl rfl (by decide +kernel) ⟨Nat.le_of_ble_eq_true rfl, Nat.le_of_ble_eq_true rfl⟩) rfl rfl rfl rfl (Nat.le_of_ble_eq_true rfl) dX6_man_113 (fun r14 S13 h => ?_)
      exact j_iret X h dX6_man_116
  · have h := h.2 c3
    refine j_ldc (v := (-1000000001 : Int32)) X (by decide +kernel) dX6_man_11 ?_
    exact j_iret X h dX6_man_13
set_option maxRecDepth 100000 in
theorem i_X6_sees_X5 : ∀ w ∈ u_ws RX5 TX5 7, w ∈ wsX6_sees := by decide +kernel
set_option maxRecDepth 100000 in
theorem i_X6_sees_X6 : ∀ w ∈ u_ws RX6 TX6 8, w ∈ wsX6_sees := by decide +kernel
abbrev rm_X6_sees : Room := { frames := 3, cells := 0, slots := 0, locals := 77 }
set_option maxRecDepth 100000 in
set_option maxHeartbeats 4000000 in
theorem c_X6_sees (l : Launch) (D : va_G) (i : Nat → ClassId) (q : Nat → Nat) (A : Nat → Prop) (x1 : Int32) (x2 : Int32) (x3 : Int32) (S : vS) (Q : Int32 → vS → Prop) (h : e_X6_sees x1 x2 x3 S Q) : Met l yX6_sees wsX6_sees rm_X6_sees (va_Pc [.ref (q 0), .int x1, .int x2, .int x3] (vB D i A (wC q i) S)) (va_Qi Q (vB D i A (wC q i)) A) 0 0 A := by
  refine m_ofJ (own := RX6) (lv := [(0, .ref (q 0)), (1, .int x1), (2, .int x2), (3, .int x3)]) rfl (by decide) rfl (Nat.le_of_ble_eq_true rfl) rfl ?_
  intro p e s m below meth c X
  unfold e_X6_sees at h
  refine j_aload_n X rfl 0 rfl dX6_sees_0 ?_
  refine jgC_main_plan X i_X6_sees_X6 (by decide +kernel) dX6_sees_1 ?_
  refine j_iload_n X rfl 1 rfl dX6_sees_4 ?_
  refine j_Vi (st := []) X [.int x1] 1 (c_X2_hasMan_plan l D i q A x1 S _ h) (cwV 1 X.ts gX6_sees_X2_hasMan rfl rfl rfl (by decide +kernel) ⟨Nat.le_of_ble_eq_true rfl, Nat.le_of_ble_eq_true rfl⟩) rfl rfl rfl rfl (Nat.le_of_ble_eq_true rfl) dX6_sees_5 (fun r2 S1 h => ?_)
  refine j_if_eq (tgt := 23) X dX6_sees_8 (by decide) (fun c3 => ?_) (fun c3 => ?_)
  · have h := h.1 c3
    refine j_ldc (v := (-1000000001 : Int32)) X (by decide +kernel) dX6_sees_23 ?_
    exact j_iret X h dX6_sees_25
  · have h := h.2 c3
    refine j_aload_n X rfl 0 rfl dX6_sees_11 ?_
    refine jgC_main_plan X i_X6_sees_X6 (by decide +kernel) dX6_sees_12 ?_
    refine j_iload_n X rfl 2 rfl dX6_sees_15 ?_
    refine j_iload_n X rfl 3 rfl dX6_sees_16 ?_
    refine j_Vi (st := []) X [.int x2, .int x3] 1 (c_X2_hasCell_plan l D i q A x2 x3 S1 _ h) (cwV 2 X.ts gX6_sees_X2_hasCell rfl rfl rfl (by decide +kernel) ⟨Nat.le_of_ble_eq_true rfl, Nat.le_of_ble_eq_true rfl⟩) rfl rfl rfl rfl (Nat.le_of_ble_eq_true rfl) dX6_sees_17 (fun r5 S4 h => ?_)
    refine j_if_ne (tgt := 26) X dX6_sees_20 (by decide) (fun c6 => ?_) (fun c6 => ?_)
    · have h := h.1 c6
      refine j_aload_n X rfl 0 rfl dX6_sees_26 ?_
      refine jgC_main_sight X i_X6_sees_X6 (by decide +kernel) dX6_sees_27 ?_
      refine j_iload_n X rfl 1 rfl dX6_sees_30 ?_
      refine j_iload_n X rfl 2 rfl dX6_sees_31 ?_
      refine j_iload_n X rfl 3 rfl dX6_sees_32 ?_
      refine j_aload_n X rfl 0 rfl dX6_sees_33 ?_
      refine jgC_main_plan X i_X6_sees_X6 (by decide +kernel) dX6_sees_34 ?_
      refine j_aload_n X rfl 0 rfl dX6_sees_37 ?_
      refine jgC_main_now X i_X6_sees_X6 (by decide +kernel) dX6_sees_38 ?_
      refine jgC_now_today X i_X6_sees_X5 (by decide +kernel) dX6_sees_41 ?_
      refine j_Vi (st := [.int x3, .int x2, .int x1, .ref (q 7)]) X [.int (S4.1 16)] 1 (c_X2_farOn_plan l D i q A (S4.1 16) S4 _ h) (cwV 1 X.ts gX6_sees_X2_farOn rfl rfl rfl (by decide +kernel) ⟨Nat.le_of_ble_eq_true rfl, Nat.le_of_ble_eq_true rfl⟩) rfl rfl rfl rfl (Nat.le_of_ble_eq_true rfl) dX6_sees_44 (fun r8 S7 h => ?_)
      refine j_Vi (st := []) X [.int x1, .int x2, .int x3, .int r8] 7 (c_X4_canSee l D i q A x1 x2 x3 r8 S7 _ h) (cwV 4 X.ts gX6_sees_X4_canSee rfl rfl rfl (by decide +kernel) ⟨Nat.le_of_ble_eq_true rfl, Nat.le_of_ble_eq_true rfl⟩) rfl rfl rfl rfl (Nat.le_of_ble_eq_true rfl) dX6_sees_47 (fun r10 S9 h => ?_)
      refine j_if_eq (tgt := 57) X dX6_sees_50 (by decide) (fun c11 => ?_) (fun c11 => ?_)
      · have h := h.1 c11
        refine j_iconst (v := (0 : Int32)) X (by decide) dX6_sees_57 ?_
        exact j_iret X h dX6_sees_58
      · have h := h.2 c11
        refine j_iconst (v := (1 : Int32)) X (by decide) dX6_sees_53 ?_
        refine j_goto (tgt := 58) X dX6_sees_54 (by decide) ?_
        exact j_iret X h dX6_sees_58
    · have h := h.2 c6
      refine j_ldc (v := (-1000000001 : Int32)) X (by decide +kernel) dX6_sees_23 ?_
      exact j_iret X h dX6_sees_25
set_option maxRecDepth 100000 in
theorem i_X6_blocker_X6 : ∀ w ∈ u_ws RX6 TX6 8, w ∈ wsX6_blocker := by decide +kernel
abbrev rm_X6_blocker : Room := { frames := 2, cells := 0, slots := 0, locals := 53 }
set_option maxRecDepth 100000 in
set_option maxHeartbeats 4000000 in
theorem c_X6_blocker (l : Launch) (D : va_G) (i : Nat → ClassId) (q : Nat → Nat) (A : Nat → Prop) (x1 : Int32) (x2 : Int32) (x3 : Int32) (S : vS) (Q : Int32 → vS → Prop) (h : e_X6_blocker x1 x2 x3 S Q) : Met l yX6_blocker wsX6_blocker rm_X6_blocker (va_Pc [.ref (q 0), .int x1, .int x2, .int x3] (vB D i A (wC q i) S)) (va_Qi Q (vB D i A (wC q i)) A) 0 0 A := by
  refine m_ofJ (own := RX6) (lv := [(0, .ref (q 0)), (1, .int x1), (2, .int x2), (3, .int x3)]) rfl (by decide) rfl (Nat.le_of_ble_eq_true rfl) rfl ?_
  intro p e s m below meth c X
  unfold e_X6_blocker at h
  refine j_aload_n X rfl 0 rfl dX6_blocker_0 ?_
  refine jgC_main_plan X i_X6_blocker_X6 (by decide +kernel) dX6_blocker_1 ?_
  refine j_iload_n X rfl 1 rfl dX6_blocker_4 ?_
  refine j_Vi (st := []) X [.int x1] 1 (c_X2_hasMan_plan l D i q A x1 S _ h) (cwV 1 X.ts gX6_blocker_X2_hasMan rfl rfl rfl (by decide +kernel) ⟨Nat.le_of_ble_eq_true rfl, Nat.le_of_ble_eq_true rfl⟩) rfl rfl rfl rfl (Nat.le_of_ble_eq_true rfl) dX6_blocker_5 (fun r2 S1 h => ?_)
  refine j_if_eq (tgt := 23) X dX6_blocker_8 (by decide) (fun c3 => ?_) (fun c3 => ?_)
  · have h := h.1 c3
    refine j_ldc (v := (-1000000001 : Int32)) X (by decide +kernel) dX6_blocker_23 ?_
    exact j_iret X h dX6_blocker_25
  · have h := h.2 c3
    refine j_aload_n X rfl 0 rfl dX6_blocker_11 ?_
    refine jgC_main_plan X i_X6_blocker_X6 (by decide +kernel) dX6_blocker_12 ?_
    refine j_iload_n X rfl 2 rfl dX6_blocker_15 ?_
    refine j_iload_n X rfl 3 rfl dX6_blocker_16 ?_
    refine j_Vi (st := []) X [.int x2, .int x3] 1 (c_X2_hasCell_plan l D i q A x2 x3 S1 _ h) (cwV 2 X.ts gX6_blocker_X2_hasCell rfl rfl rfl (by decide +kernel) ⟨Nat.le_of_ble_eq_true rfl, Nat.le_of_ble_eq_true rfl⟩) rfl rfl rfl rfl (Nat.le_of_ble_eq_true rfl) dX6_blocker_17 (fun r5 S4 h => ?_)
    refine j_if_ne (tgt := 26) X dX6_blocker_20 (by decide) (fun c6 => ?_) (fun c6 => ?_)
    · have h := h.1 c6
      refine j_aload_n X rfl 0 rfl dX6_blocker_26 ?_
      refine jgC_main_sight X i_X6_blocker_X6 (by decide +kernel) dX6_blocker_27 ?_
      refine j_iload_n X rfl 1 rfl dX6_blocker_30 ?_
      refine j_iload_n X rfl 2 rfl dX6_blocker_31 ?_
      refine j_iload_n X rfl 3 rfl dX6_blocker_32 ?_
      refine j_Vi (st := []) X [.int x1, .int x2, .int x3] 7 (c_X4_firstBlock l D i q A x1 x2 x3 S4 _ h) (cwV 3 X.ts gX6_blocker_X4_firstBlock rfl rfl rfl (by decide +kernel) ⟨Nat.le_of_ble_eq_true rfl, Nat.le_of_ble_eq_true rfl⟩) rfl rfl rfl rfl (Nat.le_of_ble_eq_true rfl) dX6_blocker_33 (fun r8 S7 h => ?_)
      exact j_iret X h dX6_blocker_36
    · have h := h.2 c6
      refine j_ldc (v := (-1000000001 : Int32)) X (by decide +kernel) dX6_blocker_23 ?_
      exact j_iret X h dX6_blocker_25
abbrev rm_J6_bitCount_0f7a4 : Room := { frames := 0, cells := 0, slots := 0, locals := 0 }
set_option maxRecDepth 100000 in
set_option maxHeartbeats 4000000 in
theorem c_J6_bitCount_0f7a4 (l : Launch) (D : va_G) (i : Nat → ClassId) (q : Nat → Nat) (A : Nat → Prop) (x0 : Int32) (S : vS) (Q : Int32 → vS → Prop) (h : e_J6_bitCount_0f7a4 x0 S Q) : Met l yJ6_bitCount_0f7a4 wsJ6_bitCount_0f7a4 rm_J6_bitCount_0f7a4 (va_Pc [.int x0] (vB D i A (wC q i) S)) (va_Qi Q (vB D i A (wC q i)) A) 0 0 A := by
  refine m_ofJ (own := RJ6) (lv := [(0, .int x0)]) rfl (by decide) rfl (Nat.le_of_ble_eq_true rfl) rfl ?_
  intro p e s m below meth c X
  unfold e_J6_bitCount_0f7a4 at h
  refine j_iload_n X rfl 0 rfl dJ6_bitCount_0f7a4_0 ?_
  refine j_iload_n X rfl 0 rfl dJ6_bitCount_0f7a4_1 ?_
  refine j_iconst (v := (1 : Int32)) X (by decide) dJ6_bitCount_0f7a4_2 ?_
  refine j_iushr X dJ6_bitCount_0f7a4_3 ?_
  refine j_ldcw (v := (1431655765 : Int32)) X (by decide +kernel) dJ6_bitCount_0f7a4_4 ?_
  refine j_iand X dJ6_bitCount_0f7a4_7 ?_
  refine j_isub X dJ6_bitCount_0f7a4_8 ?_
  refine j_topi (fun v1 ev1 => ?_)
  have h := h v1 ev1
  refine j_istore_n (lv' := [(0, .int v1)]) X rfl (by decide) rfl dJ6_bitCount_0f7a4_9 ?_
  refine j_iload_n X rfl 0 rfl dJ6_bitCount_0f7a4_10 ?_
  refine j_ldcw (v := (858993459 : Int32)) X (by decide +kernel) dJ6_bitCount_0f7a4_11 ?_
  refine j_iand X dJ6_bitCount_0f7a4_14 ?_
  refine j_iload_n X rfl 0 rfl dJ6_bitCount_0f7a4_15 ?_
  refine j_iconst (v := (2 : Int32)) X (by decide) dJ6_bitCount_0f7a4_16 ?_
  refine j_iushr X dJ6_bitCount_0f7a4_17 ?_
  refine j_ldcw (v := (858993459 : Int32)) X (by decide +kernel) dJ6_bitCount_0f7a4_18 ?_
  refine j_iand X dJ6_bitCount_0f7a4_21 ?_
  refine j_iadd X dJ6_bitCount_0f7a4_22 ?_
  refine j_topi (fun v2 ev2 => ?_)
  have h := h v2 ev2
  refine j_istore_n (lv' := [(0, .int v2)]) X rfl (by decide) rfl dJ6_bitCount_0f7a4_23 ?_
  refine j_iload_n X rfl 0 rfl dJ6_bitCount_0f7a4_24 ?_
  refine j_iload_n X rfl 0 rfl dJ6_bitCount_0f7a4_25 ?_
  refine j_iconst (v := (4 : Int32)) X (by decide) dJ6_bitCount_0f7a4_26 ?_
  refine j_iushr X dJ6_bitCount_0f7a4_27 ?_
  refine j_iadd X dJ6_bitCount_0f7a4_28 ?_
  refine j_ldcw (v := (252645135 : Int32)) X (by decide +kernel) dJ6_bitCount_0f7a4_29 ?_
  refine j_iand X dJ6_bitCount_0f7a4_32 ?_
  refine j_topi (fun v3 ev3 => ?_)
  have h := h v3 ev3
  refine j_istore_n (lv' := [(0, .int v3)]) X rfl (by decide) rfl dJ6_bitCount_0f7a4_33 ?_
  refine j_iload_n X rfl 0 rfl dJ6_bitCount_0f7a4_34 ?_
  refine j_iload_n X rfl 0 rfl dJ6_bitCount_0f7a4_35 ?_
  refine j_bipush (v := (8 : Int32)) X (by decide) dJ6_bitCount_0f7a4_36 ?_
  refine j_iushr X dJ6_bitCount_0f7a4_38 ?_
  refine j_iadd X dJ6_bitCount_0f7a4_39 ?_
  refine j_topi (fun v4 ev4 => ?_)
  have h := h v4 ev4
  refine j_istore_n (lv' := [(0, .int v4)]) X rfl (by decide) rfl dJ6_bitCount_0f7a4_40 ?_
  refine j_iload_n X rfl 0 rfl dJ6_bitCount_0f7a4_41 ?_
  refine j_iload_n X rfl 0 rfl dJ6_bitCount_0f7a4_42 ?_
  refine j_bipush (v := (16 : Int32)) X (by decide) dJ6_bitCount_0f7a4_43 ?_
  refine j_iushr X dJ6_bitCount_0f7a4_45 ?_
  refine j_iadd X dJ6_bitCount_0f7a4_46 ?_
  refine j_topi (fun v5 ev5 => ?_)
  have h := h v5 ev5
  refine j_istore_n (lv' := [(0, .int v5)]) X rfl (by decide) rfl dJ6_bitCount_0f7a4_47 ?_
  refine j_iload_n X rfl 0 rfl dJ6_bitCount_0f7a4_48 ?_
  refine j_bipush (v := (63 : Int32)) X (by decide) dJ6_bitCount_0f7a4_49 ?_
  refine j_iand X dJ6_bitCount_0f7a4_51 ?_
  exact j_iret X h dJ6_bitCount_0f7a4_52
set_option maxRecDepth 100000 in
theorem i_X4_partOf_X2 : ∀ w ∈ u_ws RX2 TX2 14, w ∈ wsX4_partOf := by decide +kernel
set_option maxRecDepth 100000 in
theorem i_X4_partOf_X4 : ∀ w ∈ u_ws RX4 TX4 8, w ∈ wsX4_partOf := by decide +kernel
abbrev rm_X4_partOf : Room := { frames := 1, cells := 0, slots := 0, locals := 22 }
set_option maxRecDepth 100000 in
set_option maxHeartbeats 4000000 in
theorem c_X4_partOf (l : Launch) (D : va_G) (i : Nat → ClassId) (q : Nat → Nat) (A : Nat → Prop) (x1 : Int32) (x2 : Int32) (x3 : Int32) (S : vS) (Q : Int32 → vS → Prop) (h : e_X4_partOf x1 x2 x3 S Q) : Met l yX4_partOf wsX4_partOf rm_X4_partOf (va_Pc [.ref (q 7), .int x1, .int x2, .int x3] (vB D i A (wC q i) S)) (va_Qi Q (vB D i A (wC q i)) A) 0 0 A := by
  refine m_ofJ (own := RX4) (lv := [(0, .ref (q 7)), (1, .int x1), (2, .int x2), (3, .int x3)]) rfl (by decide) rfl (Nat.le_of_ble_eq_true rfl) rfl ?_
  intro p e s m below meth c X
  unfold e_X4_partOf at h
  refine j_iload_n X rfl 1 rfl dX4_partOf_0 ?_
  refine j_Si (st := []) X [.int x1] (c_J6_bitCount_0f7a4 l D i q A x1 S _ h) (va_cwS 1 X.ts gX4_partOf_J6_bitCount_0f7a4 rfl rfl rfl (by decide +kernel) ⟨Nat.le_of_ble_eq_true rfl, Nat.le_of_ble_eq_true rfl⟩) rfl rfl (Nat.le_of_ble_eq_true rfl) dX4_partOf_1 (fun r2 S1 h => ?_)
  refine j_istore (lv' := [(4, .int r2), (0, .ref (q 7)), (1, .int x1), (2, .int x2), (3, .int x3)]) X (by decide) rfl dX4_partOf_4 ?_
  refine j_iload X 0 rfl dX4_partOf_6 ?_
  refine j_if_ne (tgt := 15) X dX4_partOf_8 (by decide) (fun c3 => ?_) (fun c3 => ?_)
  · have h := h.1 c3
    refine j_aload_n X rfl 1 rfl dX4_partOf_15 ?_
    refine jgC_sight_plan X i_X4_partOf_X4 (by decide +kernel) dX4_partOf_16 ?_
    refine jgC_plan_fish X i_X4_partOf_X2 (by decide +kernel) dX4_partOf_19 ?_
    refine j_aload_n X rfl 1 rfl dX4_partOf_22 ?_
    refine jgC_sight_plan X i_X4_partOf_X4 (by decide +kernel) dX4_partOf_23 ?_
    refine j_iload_n X rfl 3 rfl dX4_partOf_26 ?_
    refine j_iload_n X rfl 4 rfl dX4_partOf_27 ?_
    refine j_Vi (st := [.ref (q 15)]) X [.int x2, .int x3] 1 (c_X2_numberOf_plan l D i q A x2 x3 S1 _ h) (cwV 2 X.ts gX4_partOf_X2_numberOf rfl rfl rfl (by decide +kernel) ⟨Nat.le_of_ble_eq_true rfl, Nat.le_of_ble_eq_true rfl⟩) rfl rfl rfl rfl (Nat.le_of_ble_eq_true rfl) dX4_partOf_28 (fun r5 S4 h => ?_)
    obtain ⟨k6, h⟩ := h
    refine jlC_plan_fish X k6 dX4_partOf_31 ?_
    refine j_iload X 0 rfl dX4_partOf_32 ?_
    refine j_idiv X c3 dX4_partOf_34 ?_
    exact j_iret X h dX4_partOf_35
  · have h := h.2 c3
    refine j_iconst (v := (0 : Int32)) X (by decide) dX4_partOf_11 ?_
    refine j_goto (tgt := 35) X dX4_partOf_12 (by decide) ?_
    exact j_iret X h dX4_partOf_35
abbrev rm_X4_catchOf : Room := { frames := 3, cells := 0, slots := 0, locals := 72 }
set_option maxRecDepth 100000 in
set_option maxHeartbeats 4000000 in
theorem c_X4_catchOf (l : Launch) (D : va_G) (i : Nat → ClassId) (q : Nat → Nat) (A : Nat → Prop) (x1 : Int32) (x2 : Int32) (x3 : Int32) (S : vS) (Q : Int32 → vS → Prop) (h : e_X4_catchOf x1 x2 x3 S Q) : Met l yX4_catchOf wsX4_catchOf rm_X4_catchOf (va_Pc [.ref (q 7), .int x1, .int x2, .int x3] (vB D i A (wC q i) S)) (va_Qi Q (vB D i A (wC q i)) A) 0 0 A := by
  refine m_ofJ (own := RX4) (lv := [(0, .ref (q 7)), (1, .int x1), (2, .int x2), (3, .int x3)]) rfl (by decide) rfl (Nat.le_of_ble_eq_true rfl) rfl ?_
  intro p e s m below meth c X
  unfold e_X4_catchOf at h
  refine j_aload_n X rfl 0 rfl dX4_catchOf_0 ?_
  refine j_iload_n X rfl 2 rfl dX4_catchOf_1 ?_
  refine j_iload_n X rfl 3 rfl dX4_catchOf_2 ?_
  refine j_Vi (st := []) X [.int x2, .int x3] 7 (c_X4_ownersOf l D i q A x2 x3 S _ h) (cwV 2 X.ts gX4_catchOf_X4_ownersOf rfl rfl rfl (by decide +kernel) ⟨Nat.le_of_ble_eq_true rfl, Nat.le_of_ble_eq_true rfl⟩) rfl rfl rfl rfl (Nat.le_of_ble_eq_true rfl) dX4_catchOf_3 (fun r2 S1 h => ?_)
  refine j_istore (lv' := [(4, .int r2), (0, .ref (q 7)), (1, .int x1), (2, .int x2), (3, .int x3)]) X (by decide) rfl dX4_catchOf_6 ?_
  refine j_iload X 0 rfl dX4_catchOf_8 ?_
  refine j_iload_n X rfl 2 rfl dX4_catchOf_10 ?_
  refine j_Ni (st := []) X [.int r2, .int x1] (c_X6_holds l D i q A r2 x1 S1 _ h) ⟨va_cnB 2 X.ts gX4_catchOf_X6_holds_n115 rfl rfl rfl X.n1 (X.ts _ (by decide +kernel)) (by decide +kernel) ⟨Nat.le_of_ble_eq_true rfl, Nat.le_of_ble_eq_true rfl⟩, X.ts _ (by decide +kernel), trivial⟩ rfl rfl (Nat.le_of_ble_eq_true rfl) dX4_catchOf_11 (fun r4 S3 h => ?_)
  refine j_if_eq (tgt := 28) X dX4_catchOf_14 (by decide) (fun c5 => ?_) (fun c5 => ?_)
  · have h := h.1 c5
    refine j_iconst (v := (-1 : Int32)) X (by decide) dX4_catchOf_28 ?_
    exact j_iret X h dX4_catchOf_29
  · have h := h.2 c5
    refine j_aload_n X rfl 1 rfl dX4_catchOf_17 ?_
    refine j_iload X 0 rfl dX4_catchOf_18 ?_
    refine j_iload_n X rfl 3 rfl dX4_catchOf_20 ?_
    refine j_iload_n X rfl 4 rfl dX4_catchOf_21 ?_
    refine j_Vi (st := []) X [.int r2, .int x2, .int x3] 7 (c_X4_partOf l D i q A r2 x2 x3 S3 _ h) (cwV 3 X.ts gX4_catchOf_X4_partOf rfl rfl rfl (by decide +kernel) ⟨Nat.le_of_ble_eq_true rfl, Nat.le_of_ble_eq_true rfl⟩) rfl rfl rfl rfl (Nat.le_of_ble_eq_true rfl) dX4_catchOf_22 (fun r7 S6 h => ?_)
    refine j_goto (tgt := 29) X dX4_catchOf_25 (by decide) ?_
    exact j_iret X h dX4_catchOf_29
set_option maxRecDepth 100000 in
theorem i_X4_shareOf_X2 : ∀ w ∈ u_ws RX2 TX2 14, w ∈ wsX4_shareOf := by decide +kernel
set_option maxRecDepth 100000 in
theorem i_X4_shareOf_X4 : ∀ w ∈ u_ws RX4 TX4 8, w ∈ wsX4_shareOf := by decide +kernel
abbrev rm_X4_shareOf : Room := { frames := 4, cells := 0, slots := 0, locals := 96 }
set_option maxRecDepth 100000 in
set_option maxHeartbeats 4000000 in
theorem w_X4_shareOf_18 {D : va_G} {i : Nat → ClassId} {q : Nat → Nat} {A : Nat → Prop} {p : Program} {l : Launch} {e : Env} {s : State} {m : MethodId} {args : Array Value} {below : List Frame} {meth : Method} {c : Code} (X : cX D i A p s m args meth c cX4_shareOf RX4 5 wsX4_shareOf (some .int)) {K4 : Int32 → Int32 → Int32 → vS → Prop} {Q : Int32 → vS → Prop} (hK4 : ∀ (a1 : Int32) (a2 : Int32) (a3 : Int32) (S : vS), K4 a1 a2 a3 S → cJ D A p l e (headSpec wsX4_shareOf rm_X4_shareOf).room s m args below meth c (MQ below (va_Qi Q (vB D i A (wC q i)) A) args s 0 0 A) 5 (wC q i S) [(0, .ref (q 7)), (1, .int a1), (2, .int a2), (3, .int a3)] 4 []) : ∀ (n : Nat) (a1 : Int32) (a2 : Int32) (a3 : Int32) (a4 : Int32) (S : vS), e_X4_shareOf_18 K4 Q n a1 a2 a3 a4 S → cJ D A p l e (headSpec wsX4_shareOf rm_X4_shareOf).room s m args below meth c (MQ below (va_Qi Q (vB D i A (wC q i)) A) args s 0 0 A) 5 (wC q i S) [(0, .ref (q 7)), (1, .int a1), (2, .int a2), (3, .int a3), (4, .int a4)] 18 [] := by
  intro n
  induction n with
  | zero =>
    intro _ _ _ _ S h
    rw [e_X4_shareOf_18.eq_1] at h
    exact h.elim
  | succ n ih =>
    intro a1 a2 a3 a4 S h
    rw [e_X4_shareOf_18.eq_2] at h
    refine j_iload X 4 rfl dX4_shareOf_18 ?_
    refine j_aload_n X rfl 0 rfl dX4_shareOf_20 ?_
    refine jgC_sight_plan X i_X4_shareOf_X4 (by decide +kernel) dX4_shareOf_21 ?_
    refine jgC_plan_width X i_X4_shareOf_X2 (by decide +kernel) dX4_shareOf_24 ?_
    refine j_icmp_ge (tgt := 51) X dX4_shareOf_27 (by decide) (fun c2 => ?_) (fun c2 => ?_)
    · have h := h.1 c2
      refine j_iinc (dv := (1 : Int32)) (lv' := fun v3 => [(3, .int v3), (0, .ref (q 7)), (1, .int a1), (2, .int a2), (4, .int a4)]) X dX4_shareOf_51 (pl := 3) rfl (by decide) (by decide) (fun _ => rfl) (fun v3 ev3 => ?_)
      have h := h v3 ev3
      refine j_goto (tgt := 4) X dX4_shareOf_54 (by decide) ?_
      refine j_loc [1, 2, 3, 0] rfl ?_
      exact hK4 a1 a2 v3 S h
    · have h := h.2 c2
      refine j_iload_n X rfl 2 rfl dX4_shareOf_30 ?_
      refine j_iconst (v := (0 : Int32)) X (by decide) dX4_shareOf_31 ?_
      refine j_aload_n X rfl 0 rfl dX4_shareOf_32 ?_
      refine j_iload_n X rfl 1 rfl dX4_shareOf_33 ?_
      refine j_iload X 4 rfl dX4_shareOf_34 ?_
      refine j_iload_n X rfl 3 rfl dX4_shareOf_36 ?_
      refine j_Vi (st := [.int (0 : Int32), .int a2]) X [.int a1, .int a4, .int a3] 7 (c_X4_catchOf l D i q A a1 a4 a3 S _ h) (cwV 3 X.ts gX4_shareOf_X4_catchOf rfl rfl rfl (by decide +kernel) ⟨Nat.le_of_ble_eq_true rfl, Nat.le_of_ble_eq_true rfl⟩) rfl rfl rfl rfl (Nat.le_of_ble_eq_true rfl) dX4_shareOf_37 (fun r5 S4 h => ?_)
      refine j_mmax X (by decide +kernel) (Nat.le_of_ble_eq_true rfl) (Nat.le_of_ble_eq_true rfl) dX4_shareOf_40 ?_
      refine j_iadd X dX4_shareOf_43 ?_
      refine j_topi (fun v6 ev6 => ?_)
      have h := h v6 ev6
      refine j_istore_n (lv' := [(2, .int v6), (0, .ref (q 7)), (1, .int a1), (3, .int a3), (4, .int a4)]) X rfl (by decide) rfl dX4_shareOf_44 ?_
      refine j_iinc (dv := (1 : Int32)) (lv' := fun v7 => [(4, .int v7), (2, .int v6), (0, .ref (q 7)), (1, .int a1), (3, .int a3)]) X dX4_shareOf_45 (pl := 4) rfl (by decide) (by decide) (fun _ => rfl) (fun v7 ev7 => ?_)
      have h := h v7 ev7
      refine j_goto (tgt := 18) X dX4_shareOf_48 (by decide) ?_
      refine j_loc [2, 3, 1, 4, 0] rfl ?_
      exact ih a1 v6 a3 v7 S4 h
set_option maxRecDepth 100000 in
set_option maxHeartbeats 4000000 in
theorem w_X4_shareOf_4 {D : va_G} {i : Nat → ClassId} {q : Nat → Nat} {A : Nat → Prop} {p : Program} {l : Launch} {e : Env} {s : State} {m : MethodId} {args : Array Value} {below : List Frame} {meth : Method} {c : Code} (X : cX D i A p s m args meth c cX4_shareOf RX4 5 wsX4_shareOf (some .int)) {Q : Int32 → vS → Prop} : ∀ (n : Nat) (a1 : Int32) (a2 : Int32) (a3 : Int32) (S : vS), e_X4_shareOf_4 Q n a1 a2 a3 S → cJ D A p l e (headSpec wsX4_shareOf rm_X4_shareOf).room s m args below meth c (MQ below (va_Qi Q (vB D i A (wC q i)) A) args s 0 0 A) 5 (wC q i S) [(0, .ref (q 7)), (1, .int a1), (2, .int a2), (3, .int a3)] 4 [] := by
  intro n
  induction n with
  | zero =>
    intro _ _ _ S h
    rw [e_X4_shareOf_4.eq_1] at h
    exact h.elim
  | succ n ih =>
    intro a1 a2 a3 S h
    rw [e_X4_shareOf_4.eq_2] at h
    refine j_iload_n X rfl 3 rfl dX4_shareOf_4 ?_
    refine j_aload_n X rfl 0 rfl dX4_shareOf_5 ?_
    refine jgC_sight_plan X i_X4_shareOf_X4 (by decide +kernel) dX4_shareOf_6 ?_
    refine jgC_plan_height X i_X4_shareOf_X2 (by decide +kernel) dX4_shareOf_9 ?_
    refine j_icmp_ge (tgt := 57) X dX4_shareOf_12 (by decide) (fun c1 => ?_) (fun c1 => ?_)
    · have h := h.1 c1
      refine j_iload_n X rfl 2 rfl dX4_shareOf_57 ?_
      exact j_iret X h dX4_shareOf_58
    · have h := h.2 c1
      refine j_iconst (v := (0 : Int32)) X (by decide) dX4_shareOf_15 ?_
      refine j_istore (lv' := [(4, .int (0 : Int32)), (0, .ref (q 7)), (1, .int a1), (2, .int a2), (3, .int a3)]) X (by decide) rfl dX4_shareOf_16 ?_
      refine j_loc [1, 2, 3, 4, 0] rfl ?_
      obtain ⟨j, h⟩ := h
      exact w_X4_shareOf_18 X (fun y0 y1 y2 S h => ih y0 y1 y2 S h) j a1 a2 a3 (0 : Int32) S h
set_option maxRecDepth 100000 in
set_option maxHeartbeats 4000000 in
theorem c_X4_shareOf (l : Launch) (D : va_G) (i : Nat → ClassId) (q : Nat → Nat) (A : Nat → Prop) (x1 : Int32) (S : vS) (Q : Int32 → vS → Prop) (h : e_X4_shareOf x1 S Q) : Met l yX4_shareOf wsX4_shareOf rm_X4_shareOf (va_Pc [.ref (q 7), .int x1] (vB D i A (wC q i) S)) (va_Qi Q (vB D i A (wC q i)) A) 0 0 A := by
  refine m_ofJ (own := RX4) (lv := [(0, .ref (q 7)), (1, .int x1)]) rfl (by decide) rfl (Nat.le_of_ble_eq_true rfl) rfl ?_
  intro p e s m below meth c X
  unfold e_X4_shareOf at h
  refine j_iconst (v := (0 : Int32)) X (by decide) dX4_shareOf_0 ?_
  refine j_istore_n (lv' := [(2, .int (0 : Int32)), (0, .ref (q 7)), (1, .int x1)]) X rfl (by decide) rfl dX4_shareOf_1 ?_
  refine j_iconst (v := (0 : Int32)) X (by decide) dX4_shareOf_2 ?_
  refine j_istore_n (lv' := [(3, .int (0 : Int32)), (2, .int (0 : Int32)), (0, .ref (q 7)), (1, .int x1)]) X rfl (by decide) rfl dX4_shareOf_3 ?_
  refine j_loc [2, 3, 1, 0] rfl ?_
  obtain ⟨j, h⟩ := h
  exact w_X4_shareOf_4 X j x1 (0 : Int32) (0 : Int32) S h
set_option maxRecDepth 100000 in
theorem i_X6_share_X6 : ∀ w ∈ u_ws RX6 TX6 8, w ∈ wsX6_share := by decide +kernel
abbrev rm_X6_share : Room := { frames := 5, cells := 0, slots := 0, locals := 122 }
set_option maxRecDepth 100000 in
set_option maxHeartbeats 4000000 in
theorem c_X6_share (l : Launch) (D : va_G) (i : Nat → ClassId) (q : Nat → Nat) (A : Nat → Prop) (x1 : Int32) (S : vS) (Q : Int32 → vS → Prop) (h : e_X6_share x1 S Q) : Met l yX6_share wsX6_share rm_X6_share (va_Pc [.ref (q 0), .int x1] (vB D i A (wC q i) S)) (va_Qi Q (vB D i A (wC q i)) A) 0 0 A := by
  refine m_ofJ (own := RX6) (lv := [(0, .ref (q 0)), (1, .int x1)]) rfl (by decide) rfl (Nat.le_of_ble_eq_true rfl) rfl ?_
  intro p e s m below meth c X
  unfold e_X6_share at h
  refine j_aload_n X rfl 0 rfl dX6_share_0 ?_
  refine jgC_main_plan X i_X6_share_X6 (by decide +kernel) dX6_share_1 ?_
  refine j_iload_n X rfl 1 rfl dX6_share_4 ?_
  refine j_Vi (st := []) X [.int x1] 1 (c_X2_hasMan_plan l D i q A x1 S _ h) (cwV 1 X.ts gX6_share_X2_hasMan rfl rfl rfl (by decide +kernel) ⟨Nat.le_of_ble_eq_true rfl, Nat.le_of_ble_eq_true rfl⟩) rfl rfl rfl rfl (Nat.le_of_ble_eq_true rfl) dX6_share_5 (fun r2 S1 h => ?_)
  refine j_if_ne (tgt := 14) X dX6_share_8 (by decide) (fun c3 => ?_) (fun c3 => ?_)
  · have h := h.1 c3
    refine j_aload_n X rfl 0 rfl dX6_share_14 ?_
    refine jgC_main_sight X i_X6_share_X6 (by decide +kernel) dX6_share_15 ?_
    refine j_Vv (st := []) X [] 7 (c_X4_lookAll l D i q A S1 _ h) (cwV 0 X.ts gX6_share_X4_lookAll rfl rfl rfl (by decide +kernel) ⟨Nat.le_of_ble_eq_true rfl, Nat.le_of_ble_eq_true rfl⟩) rfl rfl rfl rfl (Nat.le_of_ble_eq_true rfl) dX6_share_18 (fun S4 h => ?_)
    refine j_aload_n X rfl 0 rfl dX6_share_21 ?_
    refine jgC_main_sight X i_X6_share_X6 (by decide +kernel) dX6_share_22 ?_
    refine j_iload_n X rfl 1 rfl dX6_share_25 ?_
    refine j_Vi (st := []) X [.int x1] 7 (c_X4_shareOf l D i q A x1 S4 _ h) (cwV 1 X.ts gX6_share_X4_shareOf rfl rfl rfl (by decide +kernel) ⟨Nat.le_of_ble_eq_true rfl, Nat.le_of_ble_eq_true rfl⟩) rfl rfl rfl rfl (Nat.le_of_ble_eq_true rfl) dX6_share_26 (fun r7 S6 h => ?_)
    exact j_iret X h dX6_share_29
  · have h := h.2 c3
    refine j_ldc (v := (-1000000001 : Int32)) X (by decide +kernel) dX6_share_11 ?_
    exact j_iret X h dX6_share_13
set_option maxRecDepth 100000 in
theorem i_X6_free_X2 : ∀ w ∈ u_ws RX2 TX2 14, w ∈ wsX6_free := by decide +kernel
set_option maxRecDepth 100000 in
theorem i_X6_free_X4 : ∀ w ∈ u_ws RX4 TX4 8, w ∈ wsX6_free := by decide +kernel
set_option maxRecDepth 100000 in
theorem i_X6_free_X6 : ∀ w ∈ u_ws RX6 TX6 8, w ∈ wsX6_free := by decide +kernel
abbrev rm_X6_free : Room := { frames := 5, cells := 0, slots := 0, locals := 122 }
set_option maxRecDepth 100000 in
set_option maxHeartbeats 4000000 in
theorem w_X6_free_25 {D : va_G} {i : Nat → ClassId} {q : Nat → Nat} {A : Nat → Prop} {p : Program} {l : Launch} {e : Env} {s : State} {m : MethodId} {args : Array Value} {below : List Frame} {meth : Method} {c : Code} (X : cX D i A p s m args meth c cX6_free RX6 5 wsX6_free (some .int)) {K11 : Int32 → Int32 → vS → Prop} {Q : Int32 → vS → Prop} (hK11 : ∀ (a2 : Int32) (a3 : Int32) (S : vS), K11 a2 a3 S → cJ D A p l e (headSpec wsX6_free rm_X6_free).room s m args below meth c (MQ below (va_Qi Q (vB D i A (wC q i)) A) args s 0 0 A) 5 (wC q i S) [(0, .ref (q 0)), (2, .int a2), (3, .int a3)] 11 []) : ∀ (n : Nat) (a2 : Int32) (a3 : Int32) (a4 : Int32) (S : vS), e_X6_free_25 K11 Q n a2 a3 a4 S → cJ D A p l e (headSpec wsX6_free rm_X6_free).room s m args below meth c (MQ below (va_Qi Q (vB D i A (wC q i)) A) args s 0 0 A) 5 (wC q i S) [(0, .ref (q 0)), (2, .int a2), (3, .int a3), (4, .int a4)] 25 [] := by
  intro n
  induction n with
  | zero =>
    intro _ _ _ S h
    rw [e_X6_free_25.eq_1] at h
    exact h.elim
  | succ n ih =>
    intro a2 a3 a4 S h
    rw [e_X6_free_25.eq_2] at h
    refine j_iload X 3 rfl dX6_free_25 ?_
    refine j_aload_n X rfl 0 rfl dX6_free_27 ?_
    refine jgC_main_plan X i_X6_free_X6 (by decide +kernel) dX6_free_28 ?_
    refine jgC_plan_width X i_X6_free_X2 (by decide +kernel) dX6_free_31 ?_
    refine j_icmp_ge (tgt := 81) X dX6_free_34 (by decide) (fun c4 => ?_) (fun c4 => ?_)
    · have h := h.1 c4
      refine j_iinc (dv := (1 : Int32)) (lv' := fun v5 => [(3, .int v5), (0, .ref (q 0)), (2, .int a2), (4, .int a4)]) X dX6_free_81 (pl := 2) rfl (by decide) (by decide) (fun _ => rfl) (fun v5 ev5 => ?_)
      have h := h v5 ev5
      refine j_goto (tgt := 11) X dX6_free_84 (by decide) ?_
      refine j_loc [1, 2, 0] rfl ?_
      exact hK11 a2 v5 S h
    · have h := h.2 c4
      refine j_aload_n X rfl 0 rfl dX6_free_37 ?_
      refine jgC_main_sight X i_X6_free_X6 (by decide +kernel) dX6_free_38 ?_
      refine jgC_sight_seers X i_X6_free_X4 (by decide +kernel) dX6_free_41 ?_
      refine j_aload_n X rfl 0 rfl dX6_free_44 ?_
      refine jgC_main_plan X i_X6_free_X6 (by decide +kernel) dX6_free_45 ?_
      refine j_iload X 3 rfl dX6_free_48 ?_
      refine j_iload_n X rfl 2 rfl dX6_free_50 ?_
      refine j_Vi (st := [.ref (q 40)]) X [.int a4, .int a3] 1 (c_X2_numberOf_plan l D i q A a4 a3 S _ h) (cwV 2 X.ts gX6_free_X2_numberOf rfl rfl rfl (by decide +kernel) ⟨Nat.le_of_ble_eq_true rfl, Nat.le_of_ble_eq_true rfl⟩) rfl rfl rfl rfl (Nat.le_of_ble_eq_true rfl) dX6_free_51 (fun r7 S6 h => ?_)
      obtain ⟨k8, h⟩ := h
      refine jlC_sight_seers X k8 dX6_free_54 ?_
      refine j_if_eq (tgt := 61) X dX6_free_55 (by decide) (fun c9 => ?_) (fun c9 => ?_)
      · have h := h.1 c9
        refine j_iload_n X rfl 1 rfl dX6_free_61 ?_
        refine j_if_ne (tgt := 72) X dX6_free_62 (by decide) (fun c10 => ?_) (fun c10 => ?_)
        · have h := h.1 c10
          refine j_iinc (dv := (-1 : Int32)) (lv' := fun v11 => [(2, .int v11), (0, .ref (q 0)), (3, .int a3), (4, .int a4)]) X dX6_free_72 (pl := 1) rfl (by decide) (by decide) (fun _ => rfl) (fun v11 ev11 => ?_)
          have h := h v11 ev11
          refine j_iinc (dv := (1 : Int32)) (lv' := fun v12 => [(4, .int v12), (2, .int v11), (0, .ref (q 0)), (3, .int a3)]) X dX6_free_75 (pl := 3) rfl (by decide) (by decide) (fun _ => rfl) (fun v12 ev12 => ?_)
          have h := h v12 ev12
          refine j_goto (tgt := 25) X dX6_free_78 (by decide) ?_
          refine j_loc [2, 1, 3, 0] rfl ?_
          exact ih v11 a3 v12 S6 h
        · have h := h.2 c10
          refine j_iload X 3 rfl dX6_free_65 ?_
          refine j_iload_n X rfl 2 rfl dX6_free_67 ?_
          refine j_Si (st := []) X [.int a4, .int a3] (c_X6_placeOf l D i q A a4 a3 S6 _ h) (va_cwS 2 X.ts gX6_free_X6_placeOf rfl rfl rfl (by decide +kernel) ⟨Nat.le_of_ble_eq_true rfl, Nat.le_of_ble_eq_true rfl⟩) rfl rfl (Nat.le_of_ble_eq_true rfl) dX6_free_68 (fun r14 S13 h => ?_)
          exact j_iret X h dX6_free_71
      · have h := h.2 c9
        refine j_goto (tgt := 75) X dX6_free_58 (by decide) ?_
        refine j_iinc (dv := (1 : Int32)) (lv' := fun v15 => [(4, .int v15), (0, .ref (q 0)), (2, .int a2), (3, .int a3)]) X dX6_free_75 (pl := 3) rfl (by decide) (by decide) (fun _ => rfl) (fun v15 ev15 => ?_)
        have h := h v15 ev15
        refine j_goto (tgt := 25) X dX6_free_78 (by decide) ?_
        refine j_loc [1, 2, 3, 0] rfl ?_
        exact ih a2 a3 v15 S6 h
set_option maxRecDepth 100000 in
set_option maxHeartbeats 4000000 in
theorem w_X6_free_11 {D : va_G} {i : Nat → ClassId} {q : Nat → Nat} {A : Nat → Prop} {p : Program} {l : Launch} {e : Env} {s : State} {m : MethodId} {args : Array Value} {below : List Frame} {meth : Method} {c : Code} (X : cX D i A p s m args meth c cX6_free RX6 5 wsX6_free (some .int)) {Q : Int32 → vS → Prop} : ∀ (n : Nat) (a2 : Int32) (a3 : Int32) (S : vS), e_X6_free_11 Q n a2 a3 S → cJ D A p l e (headSpec wsX6_free rm_X6_free).room s m args below meth c (MQ below (va_Qi Q (vB D i A (wC q i)) A) args s 0 0 A) 5 (wC q i S) [(0, .ref (q 0)), (2, .int a2), (3, .int a3)] 11 [] := by
  intro n
  induction n with
  | zero =>
    intro _ _ S h
    rw [e_X6_free_11.eq_1] at h
    exact h.elim
  | succ n ih =>
    intro a2 a3 S h
    rw [e_X6_free_11.eq_2] at h
    refine j_iload_n X rfl 2 rfl dX6_free_11 ?_
    refine j_aload_n X rfl 0 rfl dX6_free_12 ?_
    refine jgC_main_plan X i_X6_free_X6 (by decide +kernel) dX6_free_13 ?_
    refine jgC_plan_height X i_X6_free_X2 (by decide +kernel) dX6_free_16 ?_
    refine j_icmp_ge (tgt := 87) X dX6_free_19 (by decide) (fun c3 => ?_) (fun c3 => ?_)
    · have h := h.1 c3
      refine j_iconst (v := (-1 : Int32)) X (by decide) dX6_free_87 ?_
      exact j_iret X h dX6_free_88
    · have h := h.2 c3
      refine j_iconst (v := (0 : Int32)) X (by decide) dX6_free_22 ?_
      refine j_istore (lv' := [(4, .int (0 : Int32)), (0, .ref (q 0)), (2, .int a2), (3, .int a3)]) X (by decide) rfl dX6_free_23 ?_
      refine j_loc [1, 2, 3, 0] rfl ?_
      obtain ⟨j, h⟩ := h
      exact w_X6_free_25 X (fun y0 y1 S h => ih y0 y1 S h) j a2 a3 (0 : Int32) S h
set_option maxRecDepth 100000 in
set_option maxHeartbeats 4000000 in
theorem c_X6_free (l : Launch) (D : va_G) (i : Nat → ClassId) (q : Nat → Nat) (A : Nat → Prop) (x1 : Int32) (S : vS) (Q : Int32 → vS → Prop) (h : e_X6_free x1 S Q) : Met l yX6_free wsX6_free rm_X6_free (va_Pc [.ref (q 0), .int x1] (vB D i A (wC q i) S)) (va_Qi Q (vB D i A (wC q i)) A) 0 0 A := by
  refine m_ofJ (own := RX6) (lv := [(0, .ref (q 0)), (1, .int x1)]) rfl (by decide) rfl (Nat.le_of_ble_eq_true rfl) rfl ?_
  intro p e s m below meth c X
  unfold e_X6_free at h
  refine j_aload_n X rfl 0 rfl dX6_free_0 ?_
  refine jgC_main_sight X i_X6_free_X6 (by decide +kernel) dX6_free_1 ?_
  refine j_Vv (st := []) X [] 7 (c_X4_lookAll l D i q A S _ h) (cwV 0 X.ts gX6_free_X4_lookAll rfl rfl rfl (by decide +kernel) ⟨Nat.le_of_ble_eq_true rfl, Nat.le_of_ble_eq_true rfl⟩) rfl rfl rfl rfl (Nat.le_of_ble_eq_true rfl) dX6_free_4 (fun S1 h => ?_)
  refine j_iload_n X rfl 1 rfl dX6_free_7 ?_
  refine j_istore_n (lv' := [(2, .int x1), (0, .ref (q 0)), (1, .int x1)]) X rfl (by decide) rfl dX6_free_8 ?_
  refine j_iconst (v := (0 : Int32)) X (by decide) dX6_free_9 ?_
  refine j_istore_n (lv' := [(3, .int (0 : Int32)), (2, .int x1), (0, .ref (q 0)), (1, .int x1)]) X rfl (by decide) rfl dX6_free_10 ?_
  refine j_loc [2, 1, 0] rfl ?_
  obtain ⟨j, h⟩ := h
  exact w_X6_free_11 X j x1 (0 : Int32) S1 h
set_option maxRecDepth 100000 in
theorem i_X6_law_X5 : ∀ w ∈ u_ws RX5 TX5 7, w ∈ wsX6_law := by decide +kernel
set_option maxRecDepth 100000 in
theorem i_X6_law_X6 : ∀ w ∈ u_ws RX6 TX6 8, w ∈ wsX6_law := by decide +kernel
abbrev rm_X6_law : Room := { frames := 0, cells := 0, slots := 0, locals := 0 }
set_option maxRecDepth 100000 in
set_option maxHeartbeats 4000000 in
theorem c_X6_law (l : Launch) (D : va_G) (i : Nat → ClassId) (q : Nat → Nat) (A : Nat → Prop) (x1 : Int32) (S : vS) (Q : Int32 → vS → Prop) (h : e_X6_law x1 S Q) : Met l yX6_law wsX6_law rm_X6_law (va_Pc [.ref (q 0), .int x1] (vB D i A (wC q i) S)) (va_Qi Q (vB D i A (wC q i)) A) 0 0 A := by
  refine m_ofJ (own := RX6) (lv := [(0, .ref (q 0)), (1, .int x1)]) rfl (by decide) rfl (Nat.le_of_ble_eq_true rfl) rfl ?_
  intro p e s m below meth c X
  unfold e_X6_law at h
  refine j_iload_n X rfl 1 rfl dX6_law_0 ?_
  refine j_if_lt (tgt := 9) X dX6_law_1 (by decide) (fun c1 => ?_) (fun c1 => ?_)
  · have h := h.1 c1
    refine j_ldc (v := (-1000000002 : Int32)) X (by decide +kernel) dX6_law_9 ?_
    exact j_iret X h dX6_law_11
  · have h := h.2 c1
    refine j_iload_n X rfl 1 rfl dX6_law_4 ?_
    refine j_iconst (v := (2 : Int32)) X (by decide) dX6_law_5 ?_
    refine j_icmp_le (tgt := 12) X dX6_law_6 (by decide) (fun c2 => ?_) (fun c2 => ?_)
    · have h := h.1 c2
      refine j_aload_n X rfl 0 rfl dX6_law_12 ?_
      refine jgC_main_now X i_X6_law_X6 (by decide +kernel) dX6_law_13 ?_
      refine jgC_now_rule X i_X6_law_X5 (by decide +kernel) dX6_law_16 ?_
      refine j_topi (fun v3 ev3 => ?_)
      have h := h v3 ev3
      refine j_istore_n (lv' := [(2, .int v3), (0, .ref (q 0)), (1, .int x1)]) X rfl (by decide) rfl dX6_law_19 ?_
      refine j_aload_n X rfl 1 rfl dX6_law_20 ?_
      refine jgC_main_now X i_X6_law_X6 (by decide +kernel) dX6_law_21 ?_
      refine j_iload_n X rfl 2 rfl dX6_law_24 ?_
      refine jpC_now_rule X i_X6_law_X5 (by decide +kernel) dX6_law_25 (fun S4 eS4 => ?_)
      have h := h S4 eS4
      refine j_iload_n X rfl 0 rfl dX6_law_28 ?_
      exact j_iret X h dX6_law_29
    · have h := h.2 c2
      refine j_ldc (v := (-1000000002 : Int32)) X (by decide +kernel) dX6_law_9 ?_
      exact j_iret X h dX6_law_11
set_option maxRecDepth 100000 in
theorem i_X5_addStorey_now_X5 : ∀ w ∈ u_ws RX5 TX5 7, w ∈ wsX5_addStorey := by decide +kernel
abbrev rm_X5_addStorey_now : Room := { frames := 0, cells := 0, slots := 0, locals := 0 }
set_option maxRecDepth 100000 in
set_option maxHeartbeats 4000000 in
theorem c_X5_addStorey_now (l : Launch) (D : va_G) (i : Nat → ClassId) (q : Nat → Nat) (A : Nat → Prop) (x1 : Int32) (x2 : Int32) (S : vS) (Q : vS → Prop) (h : e_X5_addStorey_now x1 x2 S Q) : Met l yX5_addStorey wsX5_addStorey rm_X5_addStorey_now (va_Pc [.ref (q 4), .int x1, .int x2] (vB D i A (wC q i) S)) (va_Qv Q (vB D i A (wC q i)) A) 0 0 A := by
  refine m_ofJ (own := RX5) (lv := [(0, .ref (q 4)), (1, .int x1), (2, .int x2)]) rfl (by decide) rfl (Nat.le_of_ble_eq_true rfl) rfl ?_
  intro p e s m below meth c X
  unfold e_X5_addStorey_now at h
  refine j_aload_n X rfl 0 rfl dX5_addStorey_0 ?_
  refine jgC_now_storeys X i_X5_addStorey_now_X5 (by decide +kernel) dX5_addStorey_1 ?_
  refine j_iload_n X rfl 1 rfl dX5_addStorey_4 ?_
  refine j_dup2 X rfl rfl dX5_addStorey_5 ?_
  obtain ⟨k1, h⟩ := h
  refine jlC_now_storeys X k1 dX5_addStorey_6 ?_
  refine j_iconst (v := (1 : Int32)) X (by decide) dX5_addStorey_7 ?_
  refine j_iadd X dX5_addStorey_8 ?_
  refine jsC_now_storeys X k1 dX5_addStorey_9 (fun S2 eS2 => ?_)
  have h := h S2 eS2
  refine j_aload_n X rfl 0 rfl dX5_addStorey_10 ?_
  refine jgC_now_purses X i_X5_addStorey_now_X5 (by decide +kernel) dX5_addStorey_11 ?_
  refine j_iload_n X rfl 1 rfl dX5_addStorey_14 ?_
  refine j_dup2 X rfl rfl dX5_addStorey_15 ?_
  refine jlC_now_purses X k1 dX5_addStorey_16 ?_
  refine j_iload_n X rfl 2 rfl dX5_addStorey_17 ?_
  refine j_isub X dX5_addStorey_18 ?_
  refine jsC_now_purses X k1 dX5_addStorey_19 (fun S3 eS3 => ?_)
  have h := h S3 eS3
  exact j_vret X h dX5_addStorey_20
set_option maxRecDepth 100000 in
theorem i_X6_build_X2 : ∀ w ∈ u_ws RX2 TX2 14, w ∈ wsX6_build := by decide +kernel
set_option maxRecDepth 100000 in
theorem i_X6_build_X5 : ∀ w ∈ u_ws RX5 TX5 7, w ∈ wsX6_build := by decide +kernel
set_option maxRecDepth 100000 in
theorem i_X6_build_X6 : ∀ w ∈ u_ws RX6 TX6 8, w ∈ wsX6_build := by decide +kernel
abbrev rm_X6_build : Room := { frames := 1, cells := 0, slots := 0, locals := 22 }
set_option maxRecDepth 100000 in
set_option maxHeartbeats 4000000 in
theorem c_X6_build (l : Launch) (D : va_G) (i : Nat → ClassId) (q : Nat → Nat) (A : Nat → Prop) (x1 : Int32) (S : vS) (Q : Int32 → vS → Prop) (h : e_X6_build x1 S Q) : Met l yX6_build wsX6_build rm_X6_build (va_Pc [.ref (q 0), .int x1] (vB D i A (wC q i) S)) (va_Qi Q (vB D i A (wC q i)) A) 0 0 A := by
  refine m_ofJ (own := RX6) (lv := [(0, .ref (q 0)), (1, .int x1)]) rfl (by decide) rfl (Nat.le_of_ble_eq_true rfl) rfl ?_
  intro p e s m below meth c X
  unfold e_X6_build at h
  refine j_aload_n X rfl 0 rfl dX6_build_0 ?_
  refine jgC_main_plan X i_X6_build_X6 (by decide +kernel) dX6_build_1 ?_
  refine j_iload_n X rfl 1 rfl dX6_build_4 ?_
  refine j_Vi (st := []) X [.int x1] 1 (c_X2_hasMan_plan l D i q A x1 S _ h) (cwV 1 X.ts gX6_build_X2_hasMan rfl rfl rfl (by decide +kernel) ⟨Nat.le_of_ble_eq_true rfl, Nat.le_of_ble_eq_true rfl⟩) rfl rfl rfl rfl (Nat.le_of_ble_eq_true rfl) dX6_build_5 (fun r2 S1 h => ?_)
  refine j_if_ne (tgt := 14) X dX6_build_8 (by decide) (fun c3 => ?_) (fun c3 => ?_)
  · have h := h.1 c3
    refine j_aload_n X rfl 0 rfl dX6_build_14 ?_
    refine jgC_main_now X i_X6_build_X6 (by decide +kernel) dX6_build_15 ?_
    refine jgC_now_storeys X i_X6_build_X5 (by decide +kernel) dX6_build_18 ?_
    refine j_iload_n X rfl 1 rfl dX6_build_21 ?_
    obtain ⟨k4, h⟩ := h
    refine jlC_now_storeys X k4 dX6_build_22 ?_
    refine j_bipush (v := (9 : Int32)) X (by decide) dX6_build_23 ?_
    refine j_icmp_lt (tgt := 31) X dX6_build_25 (by decide) (fun c5 => ?_) (fun c5 => ?_)
    · have h := h.1 c5
      refine j_aload_n X rfl 0 rfl dX6_build_31 ?_
      refine jgC_main_now X i_X6_build_X6 (by decide +kernel) dX6_build_32 ?_
      refine j_iload_n X rfl 1 rfl dX6_build_35 ?_
      refine j_aload_n X rfl 0 rfl dX6_build_36 ?_
      refine jgC_main_plan X i_X6_build_X6 (by decide +kernel) dX6_build_37 ?_
      refine jgC_plan_storeyCost X i_X6_build_X2 (by decide +kernel) dX6_build_40 ?_
      refine j_Vv (st := []) X [.int x1, .int (S1.1 5)] 4 (c_X5_addStorey_now l D i q A x1 (S1.1 5) S1 _ h) (cwV 2 X.ts gX6_build_X5_addStorey rfl rfl rfl (by decide +kernel) ⟨Nat.le_of_ble_eq_true rfl, Nat.le_of_ble_eq_true rfl⟩) rfl rfl rfl rfl (Nat.le_of_ble_eq_true rfl) dX6_build_43 (fun S6 h => ?_)
      refine j_aload_n X rfl 0 rfl dX6_build_46 ?_
      refine jgC_main_now X i_X6_build_X6 (by decide +kernel) dX6_build_47 ?_
      refine jgC_now_storeys X i_X6_build_X5 (by decide +kernel) dX6_build_50 ?_
      refine j_iload_n X rfl 1 rfl dX6_build_53 ?_
      refine jlC_now_storeys X k4 dX6_build_54 ?_
      exact j_iret X h dX6_build_55
    · have h := h.2 c5
      refine j_ldc (v := (-1000000003 : Int32)) X (by decide +kernel) dX6_build_28 ?_
      exact j_iret X h dX6_build_30
  · have h := h.2 c3
    refine j_ldc (v := (-1000000001 : Int32)) X (by decide +kernel) dX6_build_11 ?_
    exact j_iret X h dX6_build_13
set_option maxRecDepth 100000 in
theorem i_X6_plant_X5 : ∀ w ∈ u_ws RX5 TX5 7, w ∈ wsX6_plant := by decide +kernel
set_option maxRecDepth 100000 in
theorem i_X6_plant_X6 : ∀ w ∈ u_ws RX6 TX6 8, w ∈ wsX6_plant := by decide +kernel
abbrev rm_X6_plant : Room := { frames := 1, cells := 0, slots := 0, locals := 22 }
set_option maxRecDepth 100000 in
set_option maxHeartbeats 4000000 in
theorem c_X6_plant (l : Launch) (D : va_G) (i : Nat → ClassId) (q : Nat → Nat) (A : Nat → Prop) (x1 : Int32) (x2 : Int32) (x3 : Int32) (S : vS) (Q : Int32 → vS → Prop) (h : e_X6_plant x1 x2 x3 S Q) : Met l yX6_plant wsX6_plant rm_X6_plant (va_Pc [.ref (q 0), .int x1, .int x2, .int x3] (vB D i A (wC q i) S)) (va_Qi Q (vB D i A (wC q i)) A) 0 0 A := by
  refine m_ofJ (own := RX6) (lv := [(0, .ref (q 0)), (1, .int x1), (2, .int x2), (3, .int x3)]) rfl (by decide) rfl (Nat.le_of_ble_eq_true rfl) rfl ?_
  intro p e s m below meth c X
  unfold e_X6_plant at h
  refine j_aload_n X rfl 0 rfl dX6_plant_0 ?_
  refine jgC_main_plan X i_X6_plant_X6 (by decide +kernel) dX6_plant_1 ?_
  refine j_iload_n X rfl 1 rfl dX6_plant_4 ?_
  refine j_iload_n X rfl 2 rfl dX6_plant_5 ?_
  refine j_Vi (st := []) X [.int x1, .int x2] 1 (c_X2_hasCell_plan l D i q A x1 x2 S _ h) (cwV 2 X.ts gX6_plant_X2_hasCell rfl rfl rfl (by decide +kernel) ⟨Nat.le_of_ble_eq_true rfl, Nat.le_of_ble_eq_true rfl⟩) rfl rfl rfl rfl (Nat.le_of_ble_eq_true rfl) dX6_plant_6 (fun r2 S1 h => ?_)
  refine j_if_ne (tgt := 15) X dX6_plant_9 (by decide) (fun c3 => ?_) (fun c3 => ?_)
  · have h := h.1 c3
    refine j_iload_n X rfl 3 rfl dX6_plant_15 ?_
    refine j_if_lt (tgt := 25) X dX6_plant_16 (by decide) (fun c4 => ?_) (fun c4 => ?_)
    · have h := h.1 c4
      refine j_ldc (v := (-1000000002 : Int32)) X (by decide +kernel) dX6_plant_25 ?_
      exact j_iret X h dX6_plant_27
    · have h := h.2 c4
      refine j_iload_n X rfl 3 rfl dX6_plant_19 ?_
      refine j_bipush (v := (99 : Int32)) X (by decide) dX6_plant_20 ?_
      refine j_icmp_le (tgt := 28) X dX6_plant_22 (by decide) (fun c5 => ?_) (fun c5 => ?_)
      · have h := h.1 c5
        refine j_aload_n X rfl 0 rfl dX6_plant_28 ?_
        refine jgC_main_plan X i_X6_plant_X6 (by decide +kernel) dX6_plant_29 ?_
        refine j_iload_n X rfl 1 rfl dX6_plant_32 ?_
        refine j_iload_n X rfl 2 rfl dX6_plant_33 ?_
        refine j_Vi (st := []) X [.int x1, .int x2] 1 (c_X2_numberOf_plan l D i q A x1 x2 S1 _ h) (cwV 2 X.ts gX6_plant_X2_numberOf rfl rfl rfl (by decide +kernel) ⟨Nat.le_of_ble_eq_true rfl, Nat.le_of_ble_eq_true rfl⟩) rfl rfl rfl rfl (Nat.le_of_ble_eq_true rfl) dX6_plant_34 (fun r7 S6 h => ?_)
        refine j_istore (lv' := [(4, .int r7), (0, .ref (q 0)), (1, .int x1), (2, .int x2), (3, .int x3)]) X (by decide) rfl dX6_plant_37 ?_
        refine j_aload_n X rfl 1 rfl dX6_plant_39 ?_
        refine jgC_main_now X i_X6_plant_X6 (by decide +kernel) dX6_plant_40 ?_
        refine jgC_now_stands X i_X6_plant_X5 (by decide +kernel) dX6_plant_43 ?_
        refine j_iload X 0 rfl dX6_plant_46 ?_
        obtain ⟨k8, h⟩ := h
        refine jlC_now_stands X k8 dX6_plant_48 ?_
        refine j_topi (fun v9 ev9 => ?_)
        have h := h v9 ev9
        refine j_istore (lv' := [(5, .int v9), (4, .int r7), (0, .ref (q 0)), (1, .int x1), (2, .int x2), (3, .int x3)]) X (by decide) rfl dX6_plant_49 ?_
        refine j_aload_n X rfl 2 rfl dX6_plant_51 ?_
        refine jgC_main_now X i_X6_plant_X6 (by decide +kernel) dX6_plant_52 ?_
        refine jgC_now_stands X i_X6_plant_X5 (by decide +kernel) dX6_plant_55 ?_
        refine j_iload X 1 rfl dX6_plant_58 ?_
        refine j_iload_n X rfl 5 rfl dX6_plant_60 ?_
        refine jsC_now_stands X k8 dX6_plant_61 (fun S10 eS10 => ?_)
        have h := h S10 eS10
        refine j_iload X 0 rfl dX6_plant_62 ?_
        exact j_iret X h dX6_plant_64
      · have h := h.2 c5
        refine j_ldc (v := (-1000000002 : Int32)) X (by decide +kernel) dX6_plant_25 ?_
        exact j_iret X h dX6_plant_27
  · have h := h.2 c3
    refine j_ldc (v := (-1000000001 : Int32)) X (by decide +kernel) dX6_plant_12 ?_
    exact j_iret X h dX6_plant_14
set_option maxRecDepth 100000 in
theorem i_X4_addParts_X2 : ∀ w ∈ u_ws RX2 TX2 14, w ∈ wsX4_addParts := by decide +kernel
set_option maxRecDepth 100000 in
theorem i_X4_addParts_X4 : ∀ w ∈ u_ws RX4 TX4 8, w ∈ wsX4_addParts := by decide +kernel
abbrev rm_X4_addParts : Room := { frames := 2, cells := 0, slots := 0, locals := 46 }
set_option maxRecDepth 100000 in
set_option maxHeartbeats 4000000 in
theorem w_X4_addParts_12 {D : va_G} {i : Nat → ClassId} {q : Nat → Nat} {A : Nat → Prop} {p : Program} {l : Launch} {e : Env} {s : State} {m : MethodId} {args : Array Value} {below : List Frame} {meth : Method} {c : Code} (X : cX D i A p s m args meth c cX4_addParts RX4 6 wsX4_addParts none) {Q : vS → Prop} : ∀ (n : Nat) (a1 : Int32) (a4 : Int32) (a5 : Int32) (S : vS), e_X4_addParts_12 Q n a1 a4 a5 S → cJ D A p l e (headSpec wsX4_addParts rm_X4_addParts).room s m args below meth c (MQ below (va_Qv Q (vB D i A (wC q i)) A) args s 0 0 A) 6 (wC q i S) [(0, .ref (q 7)), (1, .int a1), (4, .int a4), (5, .int a5)] 12 [] := by
  intro n
  induction n with
  | zero =>
    intro _ _ _ S h
    rw [e_X4_addParts_12.eq_1] at h
    exact h.elim
  | succ n ih =>
    intro a1 a4 a5 S h
    rw [e_X4_addParts_12.eq_2] at h
    refine j_iload X 3 rfl dX4_addParts_12 ?_
    refine j_aload_n X rfl 0 rfl dX4_addParts_14 ?_
    refine jgC_sight_plan X i_X4_addParts_X4 (by decide +kernel) dX4_addParts_15 ?_
    refine jgC_plan_men X i_X4_addParts_X2 (by decide +kernel) dX4_addParts_18 ?_
    refine j_icmp_ge (tgt := 51) X dX4_addParts_21 (by decide) (fun c3 => ?_) (fun c3 => ?_)
    · have h := h.1 c3
      exact j_vret X h dX4_addParts_51
    · have h := h.2 c3
      refine j_iload_n X rfl 1 rfl dX4_addParts_24 ?_
      refine j_iload X 3 rfl dX4_addParts_25 ?_
      refine j_Ni (st := []) X [.int a1, .int a5] (c_X6_holds l D i q A a1 a5 S _ h) ⟨va_cnB 2 X.ts gX4_addParts_X6_holds_n115 rfl rfl rfl X.n1 (X.ts _ (by decide +kernel)) (by decide +kernel) ⟨Nat.le_of_ble_eq_true rfl, Nat.le_of_ble_eq_true rfl⟩, X.ts _ (by decide +kernel), trivial⟩ rfl rfl (Nat.le_of_ble_eq_true rfl) dX4_addParts_27 (fun r5 S4 h => ?_)
      refine j_if_eq (tgt := 45) X dX4_addParts_30 (by decide) (fun c6 => ?_) (fun c6 => ?_)
      · have h := h.1 c6
        refine j_iinc (dv := (1 : Int32)) (lv' := fun v7 => [(5, .int v7), (0, .ref (q 7)), (1, .int a1), (4, .int a4)]) X dX4_addParts_45 (pl := 3) rfl (by decide) (by decide) (fun _ => rfl) (fun v7 ev7 => ?_)
        have h := h v7 ev7
        refine j_goto (tgt := 12) X dX4_addParts_48 (by decide) ?_
        refine j_loc [1, 2, 3, 0] rfl ?_
        exact ih a1 a4 v7 S4 h
      · have h := h.2 c6
        refine j_aload_n X rfl 0 rfl dX4_addParts_33 ?_
        refine jgC_sight_shares X i_X4_addParts_X4 (by decide +kernel) dX4_addParts_34 ?_
        refine j_iload X 3 rfl dX4_addParts_37 ?_
        refine j_dup2 X rfl rfl dX4_addParts_39 ?_
        obtain ⟨k8, h⟩ := h
        refine jlC_sight_shares X k8 dX4_addParts_40 ?_
        refine j_iload X 2 rfl dX4_addParts_41 ?_
        refine j_iadd X dX4_addParts_43 ?_
        refine jsC_sight_shares X k8 dX4_addParts_44 (fun S9 eS9 => ?_)
        have h := h S9 eS9
        refine j_iinc (dv := (1 : Int32)) (lv' := fun v10 => [(5, .int v10), (0, .ref (q 7)), (1, .int a1), (4, .int a4)]) X dX4_addParts_45 (pl := 3) rfl (by decide) (by decide) (fun _ => rfl) (fun v10 ev10 => ?_)
        have h := h v10 ev10
        refine j_goto (tgt := 12) X dX4_addParts_48 (by decide) ?_
        refine j_loc [1, 2, 3, 0] rfl ?_
        exact ih a1 a4 v10 S9 h
set_option maxRecDepth 100000 in
set_option maxHeartbeats 4000000 in
theorem c_X4_addParts (l : Launch) (D : va_G) (i : Nat → ClassId) (q : Nat → Nat) (A : Nat → Prop) (x1 : Int32) (x2 : Int32) (x3 : Int32) (S : vS) (Q : vS → Prop) (h : e_X4_addParts x1 x2 x3 S Q) : Met l yX4_addParts wsX4_addParts rm_X4_addParts (va_Pc [.ref (q 7), .int x1, .int x2, .int x3] (vB D i A (wC q i) S)) (va_Qv Q (vB D i A (wC q i)) A) 0 0 A := by
  refine m_ofJ (own := RX4) (lv := [(0, .ref (q 7)), (1, .int x1), (2, .int x2), (3, .int x3)]) rfl (by decide) rfl (Nat.le_of_ble_eq_true rfl) rfl ?_
  intro p e s m below meth c X
  unfold e_X4_addParts at h
  refine j_aload_n X rfl 0 rfl dX4_addParts_0 ?_
  refine j_iload_n X rfl 1 rfl dX4_addParts_1 ?_
  refine j_iload_n X rfl 2 rfl dX4_addParts_2 ?_
  refine j_iload_n X rfl 3 rfl dX4_addParts_3 ?_
  refine j_Vi (st := []) X [.int x1, .int x2, .int x3] 7 (c_X4_partOf l D i q A x1 x2 x3 S _ h) (cwV 3 X.ts gX4_addParts_X4_partOf rfl rfl rfl (by decide +kernel) ⟨Nat.le_of_ble_eq_true rfl, Nat.le_of_ble_eq_true rfl⟩) rfl rfl rfl rfl (Nat.le_of_ble_eq_true rfl) dX4_addParts_4 (fun r2 S1 h => ?_)
  refine j_istore (lv' := [(4, .int r2), (0, .ref (q 7)), (1, .int x1), (2, .int x2), (3, .int x3)]) X (by decide) rfl dX4_addParts_7 ?_
  refine j_iconst (v := (0 : Int32)) X (by decide) dX4_addParts_9 ?_
  refine j_istore (lv' := [(5, .int (0 : Int32)), (4, .int r2), (0, .ref (q 7)), (1, .int x1), (2, .int x2), (3, .int x3)]) X (by decide) rfl dX4_addParts_10 ?_
  refine j_loc [2, 3, 1, 0] rfl ?_
  obtain ⟨j, h⟩ := h
  exact w_X4_addParts_12 X j x1 r2 (0 : Int32) S1 h
