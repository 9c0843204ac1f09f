set_option maxRecDepth 100000 in
theorem i_X7_needed_X7 : ∀ w ∈ u_ws RX7 TX7 48, w ∈ wsX7_needed := by decide +kernel
abbrev rm_X7_needed : Room := { frames := 3, cells := 0, slots := 0, locals := 70 }
set_option maxRecDepth 100000 in
set_option maxHeartbeats 4000000 in
theorem w_X7_needed_19 {D : va_G} {i : Nat → ClassId} {q : Nat → Nat} {A : Nat → Prop} {p : Program} {l : Launch} {e : Env} {s : State} {m : MethodId} {args : Array Value} {below : List Frame} {meth : Method} {c : Code} (X : cX D i A p s m args meth c cX7_needed RX7 4 wsX7_needed (some .int)) {Q : Int32 → vS → Prop} : ∀ (n : Nat) (a1 : Int32) (a2 : Int32) (a3 : Int32) (S : vS), e_X7_needed_19 Q n a1 a2 a3 S → cJ D A p l e (headSpec wsX7_needed rm_X7_needed).room s m args below meth c (MQ below (va_Qi Q (vB D i A (wM q i)) A) args s 0 0 A) 4 (wM q i S) [(0, .ref (q 0)), (1, .int a1), (2, .int a2), (3, .int a3)] 19 [] := by
  intro n
  induction n with
  | zero =>
    intro _ _ _ S h
    rw [e_X7_needed_19.eq_1] at h
    exact h.elim
  | succ n ih =>
    intro a1 a2 a3 S h
    rw [e_X7_needed_19.eq_2] at h
    refine j_iload_n X rfl 3 rfl dX7_needed_19 ?_
    refine j_bipush (v := (99 : Int32)) X (by decide) dX7_needed_20 ?_
    refine j_icmp_gt (tgt := 54) X dX7_needed_22 (by decide) (fun c6 => ?_) (fun c6 => ?_)
    · have h := h.1 c6
      refine j_iconst (v := (-1 : Int32)) X (by decide) dX7_needed_54 ?_
      exact j_iret X h dX7_needed_55
    · have h := h.2 c6
      refine j_aload_n X rfl 0 rfl dX7_needed_25 ?_
      refine j_iload_n X rfl 1 rfl dX7_needed_26 ?_
      refine j_aload_n X rfl 0 rfl dX7_needed_27 ?_
      refine j_iload_n X rfl 1 rfl dX7_needed_28 ?_
      refine j_Vi (st := [.int a1, .ref (q 0)]) X [.int a1] 0 (c_X7_eyeOf l D i q A a1 S _ h) (cwV 1 X.ts gX7_needed_X7_eyeOf rfl rfl rfl (by decide +kernel) ⟨Nat.le_of_ble_eq_true rfl, Nat.le_of_ble_eq_true rfl⟩) rfl rfl rfl rfl (Nat.le_of_ble_eq_true rfl) dX7_needed_29 (fun r8 S7 h => ?_)
      refine j_iload_n X rfl 3 rfl dX7_needed_32 ?_
      refine j_aload_n X rfl 0 rfl dX7_needed_33 ?_
      refine jgM_mod_storeyHigh X i_X7_needed_X7 (by decide +kernel) dX7_needed_34 ?_
      refine j_imul X dX7_needed_37 ?_
      refine j_iadd X dX7_needed_38 ?_
      refine j_iload_n X rfl 2 rfl dX7_needed_39 ?_
      refine j_Vi (st := []) X [.int a1, .int (r8 + (a3 * (S7.1 4))), .int a2] 0 (c_X7_seesAll l D i q A a1 (r8 + (a3 * (S7.1 4))) a2 S7 _ h) (cwV 3 X.ts gX7_needed_X7_seesAll rfl rfl rfl (by decide +kernel) ⟨Nat.le_of_ble_eq_true rfl, Nat.le_of_ble_eq_true rfl⟩) rfl rfl rfl rfl (Nat.le_of_ble_eq_true rfl) dX7_needed_40 (fun r10 S9 h => ?_)
      refine j_if_eq (tgt := 48) X dX7_needed_43 (by decide) (fun c11 => ?_) (fun c11 => ?_)
      · have h := h.1 c11
        refine j_iinc (dv := (1 : Int32)) (lv' := fun v12 => [(3, .int v12), (0, .ref (q 0)), (1, .int a1), (2, .int a2)]) X dX7_needed_48 (pl := 3) rfl (by decide) (by decide) (fun _ => rfl) (fun v12 ev12 => ?_)
        have h := h v12 ev12
        refine j_goto (tgt := 19) X dX7_needed_51 (by decide) ?_
        refine j_loc [1, 2, 3, 0] rfl ?_
        exact ih a1 a2 v12 S9 h
      · have h := h.2 c11
        refine j_iload_n X rfl 3 rfl dX7_needed_46 ?_
        exact j_iret X h dX7_needed_47
set_option maxRecDepth 100000 in
set_option maxHeartbeats 4000000 in
theorem c_X7_needed (l : Launch) (D : va_G) (i : Nat → ClassId) (q : Nat → Nat) (A : Nat → Prop) (x1 : Int32) (S : vS) (Q : Int32 → vS → Prop) (h : e_X7_needed x1 S Q) : Met l yX7_needed wsX7_needed rm_X7_needed (va_Pc [.ref (q 0), .int x1] (vB D i A (wM q i) S)) (va_Qi Q (vB D i A (wM q i)) A) 0 0 A := by
  refine m_ofJ (own := RX7) (lv := [(0, .ref (q 0)), (1, .int x1)]) rfl (by decide) rfl (Nat.le_of_ble_eq_true rfl) rfl ?_
  intro p e s m below meth c X
  unfold e_X7_needed at h
  refine j_aload_n X rfl 0 rfl dX7_needed_0 ?_
  refine j_iload_n X rfl 1 rfl dX7_needed_1 ?_
  refine j_Vi (st := []) X [.int x1] 0 (c_X7_isMan l D i q A x1 S _ h) (cwV 1 X.ts gX7_needed_X7_isMan rfl rfl rfl (by decide +kernel) ⟨Nat.le_of_ble_eq_true rfl, Nat.le_of_ble_eq_true rfl⟩) rfl rfl rfl rfl (Nat.le_of_ble_eq_true rfl) dX7_needed_2 (fun r2 S1 h => ?_)
  refine j_if_ne (tgt := 12) X dX7_needed_5 (by decide) (fun c3 => ?_) (fun c3 => ?_)
  · have h := h.1 c3
    refine j_aload_n X rfl 0 rfl dX7_needed_12 ?_
    refine j_Vi (st := []) X [] 0 (c_X7_farNow l D i q A S1 _ h) (cwV 0 X.ts gX7_needed_X7_farNow rfl rfl rfl (by decide +kernel) ⟨Nat.le_of_ble_eq_true rfl, Nat.le_of_ble_eq_true rfl⟩) rfl rfl rfl rfl (Nat.le_of_ble_eq_true rfl) dX7_needed_13 (fun r5 S4 h => ?_)
    refine j_istore_n (lv' := [(2, .int r5), (0, .ref (q 0)), (1, .int x1)]) X rfl (by decide) rfl dX7_needed_16 ?_
    refine j_iconst (v := (0 : Int32)) X (by decide) dX7_needed_17 ?_
    refine j_istore_n (lv' := [(3, .int (0 : Int32)), (2, .int r5), (0, .ref (q 0)), (1, .int x1)]) X rfl (by decide) rfl dX7_needed_18 ?_
    refine j_loc [2, 3, 1, 0] rfl ?_
    obtain ⟨j, h⟩ := h
    exact w_X7_needed_19 X j x1 r5 (0 : Int32) S4 h
  · have h := h.2 c3
    refine j_ldcw (v := (-1000000001 : Int32)) X (by decide +kernel) dX7_needed_8 ?_
    exact j_iret X h dX7_needed_11
set_option maxRecDepth 100000 in
theorem i_X7_write_X7 : ∀ w ∈ u_ws RX7 TX7 48, w ∈ wsX7_write := by decide +kernel
abbrev rm_X7_write : Room := { frames := 2, cells := 0, slots := 0, locals := 47 }
set_option maxRecDepth 100000 in
set_option maxHeartbeats 4000000 in
theorem c_X7_write (l : Launch) (D : va_G) (i : Nat → ClassId) (q : Nat → Nat) (A : Nat → Prop) (x1 : Int32) (x2 : Int32) (x3 : Int32) (S : vS) (Q : Int32 → vS → Prop) (h : e_X7_write x1 x2 x3 S Q) : Met l yX7_write wsX7_write rm_X7_write (va_Pc [.ref (q 0), .int x1, .int x2, .int x3] (vB D i A (wM q i) S)) (va_Qi Q (vB D i A (wM q i)) A) 0 0 A := by
  refine m_ofJ (own := RX7) (lv := [(0, .ref (q 0)), (1, .int x1), (2, .int x2), (3, .int x3)]) rfl (by decide) rfl (Nat.le_of_ble_eq_true rfl) rfl ?_
  intro p e s m below meth c X
  unfold e_X7_write at h
  refine j_aload_n X rfl 0 rfl dX7_write_0 ?_
  refine j_iload_n X rfl 1 rfl dX7_write_1 ?_
  refine j_Vi (st := []) X [.int x1] 0 (c_X7_isMan l D i q A x1 S _ h) (cwV 1 X.ts gX7_write_X7_isMan rfl rfl rfl (by decide +kernel) ⟨Nat.le_of_ble_eq_true rfl, Nat.le_of_ble_eq_true rfl⟩) rfl rfl rfl rfl (Nat.le_of_ble_eq_true rfl) dX7_write_2 (fun r2 S1 h => ?_)
  refine j_if_eq (tgt := 17) X dX7_write_5 (by decide) (fun c3 => ?_) (fun c3 => ?_)
  · have h := h.1 c3
    refine j_ldcw (v := (-1000000001 : Int32)) X (by decide +kernel) dX7_write_17 ?_
    exact j_iret X h dX7_write_20
  · have h := h.2 c3
    refine j_aload_n X rfl 0 rfl dX7_write_8 ?_
    refine j_iload_n X rfl 2 rfl dX7_write_9 ?_
    refine j_iload_n X rfl 3 rfl dX7_write_10 ?_
    refine j_Vi (st := []) X [.int x2, .int x3] 0 (c_X7_isCell l D i q A x2 x3 S1 _ h) (cwV 2 X.ts gX7_write_X7_isCell rfl rfl rfl (by decide +kernel) ⟨Nat.le_of_ble_eq_true rfl, Nat.le_of_ble_eq_true rfl⟩) rfl rfl rfl rfl (Nat.le_of_ble_eq_true rfl) dX7_write_11 (fun r5 S4 h => ?_)
    refine j_if_ne (tgt := 21) X dX7_write_14 (by decide) (fun c6 => ?_) (fun c6 => ?_)
    · have h := h.1 c6
      refine j_aload_n X rfl 0 rfl dX7_write_21 ?_
      refine jgM_mod_booked X i_X7_write_X7 (by decide +kernel) dX7_write_22 ?_
      refine j_bipush (v := (40 : Int32)) X (by decide) dX7_write_25 ?_
      refine j_icmp_ne (tgt := 33) X dX7_write_27 (by decide) (fun c7 => ?_) (fun c7 => ?_)
      · have h := h.1 c7
        refine j_aload_n X rfl 0 rfl dX7_write_33 ?_
        refine jgM_mod_bookMan X i_X7_write_X7 (by decide +kernel) dX7_write_34 ?_
        refine j_aload_n X rfl 0 rfl dX7_write_37 ?_
        refine jgM_mod_booked X i_X7_write_X7 (by decide +kernel) dX7_write_38 ?_
        refine j_iload_n X rfl 1 rfl dX7_write_41 ?_
        obtain ⟨k8, h⟩ := h
        refine jsM_mod_bookMan X k8 dX7_write_42 (fun S9 eS9 => ?_)
        have h := h S9 eS9
        refine j_aload_n X rfl 0 rfl dX7_write_43 ?_
        refine jgM_mod_bookX X i_X7_write_X7 (by decide +kernel) dX7_write_44 ?_
        refine j_aload_n X rfl 0 rfl dX7_write_47 ?_
        refine jgM_mod_booked X i_X7_write_X7 (by decide +kernel) dX7_write_48 ?_
        refine j_iload_n X rfl 2 rfl dX7_write_51 ?_
        obtain ⟨k10, h⟩ := h
        refine jsM_mod_bookX X k10 dX7_write_52 (fun S11 eS11 => ?_)
        have h := h S11 eS11
        refine j_aload_n X rfl 0 rfl dX7_write_53 ?_
        refine jgM_mod_bookY X i_X7_write_X7 (by decide +kernel) dX7_write_54 ?_
        refine j_aload_n X rfl 0 rfl dX7_write_57 ?_
        refine jgM_mod_booked X i_X7_write_X7 (by decide +kernel) dX7_write_58 ?_
        refine j_iload_n X rfl 3 rfl dX7_write_61 ?_
        obtain ⟨k12, h⟩ := h
        refine jsM_mod_bookY X k12 dX7_write_62 (fun S13 eS13 => ?_)
        have h := h S13 eS13
        refine j_aload_n X rfl 0 rfl dX7_write_63 ?_
        refine j_dup X rfl dX7_write_64 ?_
        refine jgM_mod_booked X i_X7_write_X7 (by decide +kernel) dX7_write_65 ?_
        refine j_iconst (v := (1 : Int32)) X (by decide) dX7_write_68 ?_
        refine j_iadd X dX7_write_69 ?_
        refine jpM_mod_booked X i_X7_write_X7 (by decide +kernel) dX7_write_70 (fun S14 eS14 => ?_)
        have h := h S14 eS14
        refine j_aload_n X rfl 0 rfl dX7_write_73 ?_
        refine jgM_mod_booked X i_X7_write_X7 (by decide +kernel) dX7_write_74 ?_
        exact j_iret X h dX7_write_77
      · have h := h.2 c7
        refine j_ldc (v := (-1000000004 : Int32)) X (by decide +kernel) dX7_write_30 ?_
        exact j_iret X h dX7_write_32
    · have h := h.2 c6
      refine j_ldcw (v := (-1000000001 : Int32)) X (by decide +kernel) dX7_write_17 ?_
      exact j_iret X h dX7_write_20
set_option maxRecDepth 100000 in
theorem i_X7_tear_X7 : ∀ w ∈ u_ws RX7 TX7 48, w ∈ wsX7_tear := by decide +kernel
abbrev rm_X7_tear : Room := { frames := 0, cells := 0, slots := 0, locals := 0 }
set_option maxRecDepth 100000 in
set_option maxHeartbeats 4000000 in
theorem c_X7_tear (l : Launch) (D : va_G) (i : Nat → ClassId) (q : Nat → Nat) (A : Nat → Prop) (S : vS) (Q : Int32 → vS → Prop) (h : e_X7_tear S Q) : Met l yX7_tear wsX7_tear rm_X7_tear (va_Pc [.ref (q 0)] (vB D i A (wM q i) S)) (va_Qi Q (vB D i A (wM q i)) A) 0 0 A := by
  refine m_ofJ (own := RX7) (lv := [(0, .ref (q 0))]) rfl (by decide) rfl (Nat.le_of_ble_eq_true rfl) rfl ?_
  intro p e s m below meth c X
  unfold e_X7_tear at h
  refine j_aload_n X rfl 0 rfl dX7_tear_0 ?_
  refine jgM_mod_booked X i_X7_tear_X7 (by decide +kernel) dX7_tear_1 ?_
  refine j_topi (fun v1 ev1 => ?_)
  have h := h v1 ev1
  refine j_istore_n (lv' := [(1, .int v1), (0, .ref (q 0))]) X rfl (by decide) rfl dX7_tear_4 ?_
  refine j_aload_n X rfl 1 rfl dX7_tear_5 ?_
  refine j_iconst (v := (0 : Int32)) X (by decide) dX7_tear_6 ?_
  refine jpM_mod_booked X i_X7_tear_X7 (by decide +kernel) dX7_tear_7 (fun S2 eS2 => ?_)
  have h := h S2 eS2
  refine j_iload_n X rfl 0 rfl dX7_tear_10 ?_
  exact j_iret X h dX7_tear_11
set_option maxRecDepth 100000 in
theorem i_X7_judge_X7 : ∀ w ∈ u_ws RX7 TX7 48, w ∈ wsX7_judge := by decide +kernel
abbrev rm_X7_judge : Room := { frames := 4, cells := 0, slots := 0, locals := 94 }
set_option maxRecDepth 100000 in
set_option maxHeartbeats 4000000 in
theorem w_X7_judge_2 {D : va_G} {i : Nat → ClassId} {q : Nat → Nat} {A : Nat → Prop} {p : Program} {l : Launch} {e : Env} {s : State} {m : MethodId} {args : Array Value} {below : List Frame} {meth : Method} {c : Code} (X : cX D i A p s m args meth c cX7_judge RX7 3 wsX7_judge (some .int)) {Q : Int32 → vS → Prop} : ∀ (n : Nat) (a1 : Int32) (S : vS), e_X7_judge_2 Q n a1 S → cJ D A p l e (headSpec wsX7_judge rm_X7_judge).room s m args below meth c (MQ below (va_Qi Q (vB D i A (wM q i)) A) args s 0 0 A) 3 (wM q i S) [(0, .ref (q 0)), (1, .int a1)] 2 [] := by
  intro n
  induction n with
  | zero =>
    intro _ S h
    rw [e_X7_judge_2.eq_1] at h
    exact h.elim
  | succ n ih =>
    intro a1 S h
    rw [e_X7_judge_2.eq_2] at h
    refine j_iload_n X rfl 1 rfl dX7_judge_2 ?_
    refine j_aload_n X rfl 0 rfl dX7_judge_3 ?_
    refine jgM_mod_booked X i_X7_judge_X7 (by decide +kernel) dX7_judge_4 ?_
    refine j_icmp_ge (tgt := 64) X dX7_judge_7 (by decide) (fun c1 => ?_) (fun c1 => ?_)
    · have h := h.1 c1
      refine j_iconst (v := (-1 : Int32)) X (by decide) dX7_judge_64 ?_
      exact j_iret X h dX7_judge_65
    · have h := h.2 c1
      refine j_aload_n X rfl 0 rfl dX7_judge_10 ?_
      refine j_aload_n X rfl 0 rfl dX7_judge_11 ?_
      refine j_aload_n X rfl 0 rfl dX7_judge_12 ?_
      refine jgM_mod_bookX X i_X7_judge_X7 (by decide +kernel) dX7_judge_13 ?_
      refine j_iload_n X rfl 1 rfl dX7_judge_16 ?_
      obtain ⟨k2, h⟩ := h
      refine jlM_mod_bookX X k2 dX7_judge_17 ?_
      refine j_aload_n X rfl 0 rfl dX7_judge_18 ?_
      refine jgM_mod_bookY X i_X7_judge_X7 (by decide +kernel) dX7_judge_19 ?_
      refine j_iload_n X rfl 1 rfl dX7_judge_22 ?_
      refine jlM_mod_bookY X k2 dX7_judge_23 ?_
      refine j_Vi (st := [.ref (q 0)]) X [.int (S.2.1 19 (a1).toNatClampNeg), .int (S.2.1 20 (a1).toNatClampNeg)] 0 (c_X7_seers l D i q A (S.2.1 19 (a1).toNatClampNeg) (S.2.1 20 (a1).toNatClampNeg) S _ h) (cwV 2 X.ts gX7_judge_X7_seers rfl rfl rfl (by decide +kernel) ⟨Nat.le_of_ble_eq_true rfl, Nat.le_of_ble_eq_true rfl⟩) rfl rfl rfl rfl (Nat.le_of_ble_eq_true rfl) dX7_judge_24 (fun r4 S3 h => ?_)
      refine j_aload_n X rfl 0 rfl dX7_judge_27 ?_
      refine jgM_mod_bookX X i_X7_judge_X7 (by decide +kernel) dX7_judge_28 ?_
      refine j_iload_n X rfl 1 rfl dX7_judge_31 ?_
      refine jlM_mod_bookX X k2 dX7_judge_32 ?_
      refine j_aload_n X rfl 0 rfl dX7_judge_33 ?_
      refine jgM_mod_bookY X i_X7_judge_X7 (by decide +kernel) dX7_judge_34 ?_
      refine j_iload_n X rfl 1 rfl dX7_judge_37 ?_
      refine jlM_mod_bookY X k2 dX7_judge_38 ?_
      refine j_Vi (st := []) X [.int r4, .int (S3.2.1 19 (a1).toNatClampNeg), .int (S3.2.1 20 (a1).toNatClampNeg)] 0 (c_X7_ownersOf l D i q A r4 (S3.2.1 19 (a1).toNatClampNeg) (S3.2.1 20 (a1).toNatClampNeg) S3 _ h) (cwV 3 X.ts gX7_judge_X7_ownersOf rfl rfl rfl (by decide +kernel) ⟨Nat.le_of_ble_eq_true rfl, Nat.le_of_ble_eq_true rfl⟩) rfl rfl rfl rfl (Nat.le_of_ble_eq_true rfl) dX7_judge_39 (fun r6 S5 h => ?_)
      refine j_istore_n (lv' := [(2, .int r6), (0, .ref (q 0)), (1, .int a1)]) X rfl (by decide) rfl dX7_judge_42 ?_
      refine j_iload_n X rfl 0 rfl dX7_judge_43 ?_
      refine j_aload_n X rfl 1 rfl dX7_judge_44 ?_
      refine jgM_mod_bookMan X i_X7_judge_X7 (by decide +kernel) dX7_judge_45 ?_
      refine j_iload_n X rfl 2 rfl dX7_judge_48 ?_
      refine jlM_mod_bookMan X k2 dX7_judge_49 ?_
      refine j_Si (st := []) X [.int r6, .int (S5.2.1 18 (a1).toNatClampNeg)] (c_X7_has l D i q A r6 (S5.2.1 18 (a1).toNatClampNeg) S5 _ h) (va_cwS 2 X.ts gX7_judge_X7_has rfl rfl rfl (by decide +kernel) ⟨Nat.le_of_ble_eq_true rfl, Nat.le_of_ble_eq_true rfl⟩) rfl rfl (Nat.le_of_ble_eq_true rfl) dX7_judge_50 (fun r8 S7 h => ?_)
      refine j_if_ne (tgt := 58) X dX7_judge_53 (by decide) (fun c9 => ?_) (fun c9 => ?_)
      · have h := h.1 c9
        refine j_iinc (dv := (1 : Int32)) (lv' := fun v10 => [(1, .int v10), (2, .int r6), (0, .ref (q 0))]) X dX7_judge_58 (pl := 2) rfl (by decide) (by decide) (fun _ => rfl) (fun v10 ev10 => ?_)
        have h := h v10 ev10
        refine j_goto (tgt := 2) X dX7_judge_61 (by decide) ?_
        refine j_loc [2, 0] rfl ?_
        exact ih v10 S7 h
      · have h := h.2 c9
        refine j_iload_n X rfl 2 rfl dX7_judge_56 ?_
        exact j_iret X h dX7_judge_57
set_option maxRecDepth 100000 in
set_option maxHeartbeats 4000000 in
theorem c_X7_judge (l : Launch) (D : va_G) (i : Nat → ClassId) (q : Nat → Nat) (A : Nat → Prop) (S : vS) (Q : Int32 → vS → Prop) (h : e_X7_judge S Q) : Met l yX7_judge wsX7_judge rm_X7_judge (va_Pc [.ref (q 0)] (vB D i A (wM q i) S)) (va_Qi Q (vB D i A (wM q i)) A) 0 0 A := by
  refine m_ofJ (own := RX7) (lv := [(0, .ref (q 0))]) rfl (by decide) rfl (Nat.le_of_ble_eq_true rfl) rfl ?_
  intro p e s m below meth c X
  unfold e_X7_judge at h
  refine j_iconst (v := (0 : Int32)) X (by decide) dX7_judge_0 ?_
  refine j_istore_n (lv' := [(1, .int (0 : Int32)), (0, .ref (q 0))]) X rfl (by decide) rfl dX7_judge_1 ?_
  refine j_loc [1, 0] rfl ?_
  obtain ⟨j, h⟩ := h
  exact w_X7_judge_2 X j (0 : Int32) S h
set_option maxRecDepth 100000 in
theorem i_X7_seed_X7 : ∀ w ∈ u_ws RX7 TX7 48, w ∈ wsX7_seed := by decide +kernel
abbrev rm_X7_seed : Room := { frames := 0, cells := 0, slots := 0, locals := 0 }
set_option maxRecDepth 100000 in
set_option maxHeartbeats 4000000 in
theorem c_X7_seed (l : Launch) (D : va_G) (i : Nat → ClassId) (q : Nat → Nat) (A : Nat → Prop) (x1 : Int32) (S : vS) (Q : Int32 → vS → Prop) (h : e_X7_seed x1 S Q) : Met l yX7_seed wsX7_seed rm_X7_seed (va_Pc [.ref (q 0), .int x1] (vB D i A (wM q i) S)) (va_Qi Q (vB D i A (wM q i)) A) 0 0 A := by
  refine m_ofJ (own := RX7) (lv := [(0, .ref (q 0)), (1, .int x1)]) rfl (by decide) rfl (Nat.le_of_ble_eq_true rfl) rfl ?_
  intro p e s m below meth c X
  unfold e_X7_seed at h
  refine j_iload_n X rfl 1 rfl dX7_seed_0 ?_
  refine j_if_ge (tgt := 7) X dX7_seed_1 (by decide) (fun c1 => ?_) (fun c1 => ?_)
  · have h := h.1 c1
    refine j_aload_n X rfl 0 rfl dX7_seed_7 ?_
    refine jgM_mod_seed X i_X7_seed_X7 (by decide +kernel) dX7_seed_8 ?_
    refine j_topi (fun v2 ev2 => ?_)
    have h := h v2 ev2
    refine j_istore_n (lv' := [(2, .int v2), (0, .ref (q 0)), (1, .int x1)]) X rfl (by decide) rfl dX7_seed_11 ?_
    refine j_aload_n X rfl 1 rfl dX7_seed_12 ?_
    refine j_iload_n X rfl 2 rfl dX7_seed_13 ?_
    refine jpM_mod_seed X i_X7_seed_X7 (by decide +kernel) dX7_seed_14 (fun S3 eS3 => ?_)
    have h := h S3 eS3
    refine j_iload_n X rfl 0 rfl dX7_seed_17 ?_
    exact j_iret X h dX7_seed_18
  · have h := h.2 c1
    refine j_ldc (v := (-1000000002 : Int32)) X (by decide +kernel) dX7_seed_4 ?_
    exact j_iret X h dX7_seed_6
set_option maxRecDepth 100000 in
theorem i_X7_keep_X7 : ∀ w ∈ u_ws RX7 TX7 48, w ∈ wsX7_keep := by decide +kernel
abbrev rm_X7_keep : Room := { frames := 1, cells := 0, slots := 0, locals := 25 }
set_option maxRecDepth 100000 in
set_option maxHeartbeats 4000000 in
theorem w_X7_keep_66 {D : va_G} {i : Nat → ClassId} {q : Nat → Nat} {A : Nat → Prop} {p : Program} {l : Launch} {e : Env} {s : State} {m : MethodId} {args : Array Value} {below : List Frame} {meth : Method} {c : Code} (X : cX D i A p s m args meth c cX7_keep RX7 4 wsX7_keep (some .int)) {Q : Int32 → vS → Prop} : ∀ (n : Nat) (a1 : Int32) (a2 : Int32) (a3 : Int32) (S : vS), e_X7_keep_66 Q n a1 a2 a3 S → cJ D A p l e (headSpec wsX7_keep rm_X7_keep).room s m args below meth c (MQ below (va_Qi Q (vB D i A (wM q i)) A) args s 0 0 A) 4 (wM q i S) [(0, .ref (q 0)), (1, .int a1), (2, .int a2), (3, .int a3)] 66 [] := by
  intro n
  induction n with
  | zero =>
    intro _ _ _ S h
    rw [e_X7_keep_66.eq_1] at h
    exact h.elim
  | succ n ih =>
    intro a1 a2 a3 S h
    rw [e_X7_keep_66.eq_2] at h
    refine j_iload_n X rfl 3 rfl dX7_keep_66 ?_
    refine j_bipush (v := (60 : Int32)) X (by decide) dX7_keep_67 ?_
    refine j_icmp_ge (tgt := 95) X dX7_keep_69 (by decide) (fun c12 => ?_) (fun c12 => ?_)
    · have h := h.1 c12
      refine j_aload_n X rfl 0 rfl dX7_keep_95 ?_
      refine jgM_mod_images X i_X7_keep_X7 (by decide +kernel) dX7_keep_96 ?_
      refine j_iload_n X rfl 2 rfl dX7_keep_99 ?_
      refine j_bipush (v := (72 : Int32)) X (by decide) dX7_keep_100 ?_
      refine j_iadd X dX7_keep_102 ?_
      refine j_aload_n X rfl 0 rfl dX7_keep_103 ?_
      refine jgM_mod_day X i_X7_keep_X7 (by decide +kernel) dX7_keep_104 ?_
      obtain ⟨k13, h⟩ := h
      refine jsM_mod_images X k13 dX7_keep_107 (fun S14 eS14 => ?_)
      have h := h S14 eS14
      refine j_aload_n X rfl 0 rfl dX7_keep_108 ?_
      refine jgM_mod_images X i_X7_keep_X7 (by decide +kernel) dX7_keep_109 ?_
      refine j_iload_n X rfl 2 rfl dX7_keep_112 ?_
      refine j_bipush (v := (73 : Int32)) X (by decide) dX7_keep_113 ?_
      refine j_iadd X dX7_keep_115 ?_
      refine j_aload_n X rfl 0 rfl dX7_keep_116 ?_
      refine jgM_mod_law X i_X7_keep_X7 (by decide +kernel) dX7_keep_117 ?_
      obtain ⟨k15, h⟩ := h
      refine jsM_mod_images X k15 dX7_keep_120 (fun S16 eS16 => ?_)
      have h := h S16 eS16
      refine j_aload_n X rfl 0 rfl dX7_keep_121 ?_
      refine jgM_mod_images X i_X7_keep_X7 (by decide +kernel) dX7_keep_122 ?_
      refine j_iload_n X rfl 2 rfl dX7_keep_125 ?_
      refine j_bipush (v := (74 : Int32)) X (by decide) dX7_keep_126 ?_
      refine j_iadd X dX7_keep_128 ?_
      refine j_aload_n X rfl 0 rfl dX7_keep_129 ?_
      refine jgM_mod_seed X i_X7_keep_X7 (by decide +kernel) dX7_keep_130 ?_
      obtain ⟨k17, h⟩ := h
      refine jsM_mod_images X k17 dX7_keep_133 (fun S18 eS18 => ?_)
      have h := h S18 eS18
      refine j_aload_n X rfl 0 rfl dX7_keep_134 ?_
      refine jgM_mod_isKept X i_X7_keep_X7 (by decide +kernel) dX7_keep_135 ?_
      refine j_iload_n X rfl 1 rfl dX7_keep_138 ?_
      refine j_iconst (v := (1 : Int32)) X (by decide) dX7_keep_139 ?_
      obtain ⟨k19, h⟩ := h
      refine jsM_mod_isKept X k19 dX7_keep_140 (fun S20 eS20 => ?_)
      have h := h S20 eS20
      refine j_iconst (v := (1 : Int32)) X (by decide) dX7_keep_141 ?_
      exact j_iret X h dX7_keep_142
    · have h := h.2 c12
      refine j_aload_n X rfl 0 rfl dX7_keep_72 ?_
      refine jgM_mod_images X i_X7_keep_X7 (by decide +kernel) dX7_keep_73 ?_
      refine j_iload_n X rfl 2 rfl dX7_keep_76 ?_
      refine j_bipush (v := (12 : Int32)) X (by decide) dX7_keep_77 ?_
      refine j_iadd X dX7_keep_79 ?_
      refine j_iload_n X rfl 3 rfl dX7_keep_80 ?_
      refine j_iadd X dX7_keep_81 ?_
      refine j_aload_n X rfl 0 rfl dX7_keep_82 ?_
      refine jgM_mod_stand X i_X7_keep_X7 (by decide +kernel) dX7_keep_83 ?_
      refine j_iload_n X rfl 3 rfl dX7_keep_86 ?_
      obtain ⟨k21, h⟩ := h
      refine jlM_mod_stand X k21 dX7_keep_87 ?_
      obtain ⟨k22, h⟩ := h
      refine jsM_mod_images X k22 dX7_keep_88 (fun S23 eS23 => ?_)
      have h := h S23 eS23
      refine j_iinc (dv := (1 : Int32)) (lv' := fun v24 => [(3, .int v24), (0, .ref (q 0)), (1, .int a1), (2, .int a2)]) X dX7_keep_89 (pl := 3) rfl (by decide) (by decide) (fun _ => rfl) (fun v24 ev24 => ?_)
      have h := h v24 ev24
      refine j_goto (tgt := 66) X dX7_keep_92 (by decide) ?_
      refine j_loc [1, 2, 3, 0] rfl ?_
      exact ih a1 a2 v24 S23 h
set_option maxRecDepth 100000 in
set_option maxHeartbeats 4000000 in
theorem w_X7_keep_21 {D : va_G} {i : Nat → ClassId} {q : Nat → Nat} {A : Nat → Prop} {p : Program} {l : Launch} {e : Env} {s : State} {m : MethodId} {args : Array Value} {below : List Frame} {meth : Method} {c : Code} (X : cX D i A p s m args meth c cX7_keep RX7 4 wsX7_keep (some .int)) {Q : Int32 → vS → Prop} : ∀ (n : Nat) (a1 : Int32) (a2 : Int32) (a3 : Int32) (S : vS), e_X7_keep_21 Q n a1 a2 a3 S → cJ D A p l e (headSpec wsX7_keep rm_X7_keep).room s m args below meth c (MQ below (va_Qi Q (vB D i A (wM q i)) A) args s 0 0 A) 4 (wM q i S) [(0, .ref (q 0)), (1, .int a1), (2, .int a2), (3, .int a3)] 21 [] := by
  intro n
  induction n with
  | zero =>
    intro _ _ _ S h
    rw [e_X7_keep_21.eq_1] at h
    exact h.elim
  | succ n ih =>
    intro a1 a2 a3 S h
    rw [e_X7_keep_21.eq_2] at h
    refine j_iload_n X rfl 3 rfl dX7_keep_21 ?_
    refine j_bipush (v := (6 : Int32)) X (by decide) dX7_keep_22 ?_
    refine j_icmp_ge (tgt := 64) X dX7_keep_24 (by decide) (fun c5 => ?_) (fun c5 => ?_)
    · have h := h.1 c5
      refine j_iconst (v := (0 : Int32)) X (by decide) dX7_keep_64 ?_
      refine j_istore_n (lv' := [(3, .int (0 : Int32)), (0, .ref (q 0)), (1, .int a1), (2, .int a2)]) X rfl (by decide) rfl dX7_keep_65 ?_
      refine j_loc [1, 2, 3, 0] rfl ?_
      obtain ⟨j, h⟩ := h
      exact w_X7_keep_66 X j a1 a2 (0 : Int32) S h
    · have h := h.2 c5
      refine j_aload_n X rfl 0 rfl dX7_keep_27 ?_
      refine jgM_mod_images X i_X7_keep_X7 (by decide +kernel) dX7_keep_28 ?_
      refine j_iload_n X rfl 2 rfl dX7_keep_31 ?_
      refine j_iload_n X rfl 3 rfl dX7_keep_32 ?_
      refine j_iadd X dX7_keep_33 ?_
      refine j_aload_n X rfl 0 rfl dX7_keep_34 ?_
      refine jgM_mod_storeys X i_X7_keep_X7 (by decide +kernel) dX7_keep_35 ?_
      refine j_iload_n X rfl 3 rfl dX7_keep_38 ?_
      obtain ⟨k6, h⟩ := h
      refine jlM_mod_storeys X k6 dX7_keep_39 ?_
      obtain ⟨k7, h⟩ := h
      refine jsM_mod_images X k7 dX7_keep_40 (fun S8 eS8 => ?_)
      have h := h S8 eS8
      refine j_aload_n X rfl 0 rfl dX7_keep_41 ?_
      refine jgM_mod_images X i_X7_keep_X7 (by decide +kernel) dX7_keep_42 ?_
      refine j_iload_n X rfl 2 rfl dX7_keep_45 ?_
      refine j_bipush (v := (6 : Int32)) X (by decide) dX7_keep_46 ?_
      refine j_iadd X dX7_keep_48 ?_
      refine j_iload_n X rfl 3 rfl dX7_keep_49 ?_
      refine j_iadd X dX7_keep_50 ?_
      refine j_aload_n X rfl 0 rfl dX7_keep_51 ?_
      refine jgM_mod_purse X i_X7_keep_X7 (by decide +kernel) dX7_keep_52 ?_
      refine j_iload_n X rfl 3 rfl dX7_keep_55 ?_
      refine jlM_mod_purse X k6 dX7_keep_56 ?_
      obtain ⟨k9, h⟩ := h
      refine jsM_mod_images X k9 dX7_keep_57 (fun S10 eS10 => ?_)
      have h := h S10 eS10
      refine j_iinc (dv := (1 : Int32)) (lv' := fun v11 => [(3, .int v11), (0, .ref (q 0)), (1, .int a1), (2, .int a2)]) X dX7_keep_58 (pl := 3) rfl (by decide) (by decide) (fun _ => rfl) (fun v11 ev11 => ?_)
      have h := h v11 ev11
      refine j_goto (tgt := 21) X dX7_keep_61 (by decide) ?_
      refine j_loc [1, 2, 3, 0] rfl ?_
      exact ih a1 a2 v11 S10 h
set_option maxRecDepth 100000 in
set_option maxHeartbeats 4000000 in
theorem c_X7_keep (l : Launch) (D : va_G) (i : Nat → ClassId) (q : Nat → Nat) (A : Nat → Prop) (x1 : Int32) (S : vS) (Q : Int32 → vS → Prop) (h : e_X7_keep x1 S Q) : Met l yX7_keep wsX7_keep rm_X7_keep (va_Pc [.ref (q 0), .int x1] (vB D i A (wM q i) S)) (va_Qi Q (vB D i A (wM q i)) A) 0 0 A := by
  refine m_ofJ (own := RX7) (lv := [(0, .ref (q 0)), (1, .int x1)]) rfl (by decide) rfl (Nat.le_of_ble_eq_true rfl) rfl ?_
  intro p e s m below meth c X
  unfold e_X7_keep at h
  refine j_iload_n X rfl 1 rfl dX7_keep_0 ?_
  refine j_i2l X dX7_keep_1 ?_
  refine j_lconst (v := (0 : Int64)) X (by decide) dX7_keep_2 ?_
  refine j_lconst (v := (1 : Int64)) X (by decide) dX7_keep_3 ?_
  refine j_Si (st := []) X [.long (x1).toInt64, .long (0 : Int64), .long (1 : Int64)] (c_X7_in l D i q A (x1).toInt64 (0 : Int64) (1 : Int64) S _ h) (va_cwS 3 X.ts gX7_keep_X7_in rfl rfl rfl (by decide +kernel) ⟨Nat.le_of_ble_eq_true rfl, Nat.le_of_ble_eq_true rfl⟩) rfl rfl (Nat.le_of_ble_eq_true rfl) dX7_keep_4 (fun r2 S1 h => ?_)
  refine j_if_ne (tgt := 14) X dX7_keep_7 (by decide) (fun c3 => ?_) (fun c3 => ?_)
  · have h := h.1 c3
    refine j_bipush (v := (80 : Int32)) X (by decide) dX7_keep_14 ?_
    refine j_iload_n X rfl 1 rfl dX7_keep_16 ?_
    refine j_imul X dX7_keep_17 ?_
    refine j_topi (fun v4 ev4 => ?_)
    have h := h v4 ev4
    refine j_istore_n (lv' := [(2, .int v4), (0, .ref (q 0)), (1, .int x1)]) X rfl (by decide) rfl dX7_keep_18 ?_
    refine j_iconst (v := (0 : Int32)) X (by decide) dX7_keep_19 ?_
    refine j_istore_n (lv' := [(3, .int (0 : Int32)), (2, .int v4), (0, .ref (q 0)), (1, .int x1)]) X rfl (by decide) rfl dX7_keep_20 ?_
    refine j_loc [2, 3, 1, 0] rfl ?_
    obtain ⟨j, h⟩ := h
    exact w_X7_keep_21 X j x1 v4 (0 : Int32) S1 h
  · have h := h.2 c3
    refine j_ldcw (v := (-1000000001 : Int32)) X (by decide +kernel) dX7_keep_10 ?_
    exact j_iret X h dX7_keep_13
set_option maxRecDepth 100000 in
theorem i_X7_goBack_X7 : ∀ w ∈ u_ws RX7 TX7 48, w ∈ wsX7_goBack := by decide +kernel
abbrev rm_X7_goBack : Room := { frames := 1, cells := 0, slots := 0, locals := 25 }
set_option maxRecDepth 100000 in
set_option maxHeartbeats 4000000 in
theorem w_X7_goBack_79 {D : va_G} {i : Nat → ClassId} {q : Nat → Nat} {A : Nat → Prop} {p : Program} {l : Launch} {e : Env} {s : State} {m : MethodId} {args : Array Value} {below : List Frame} {meth : Method} {c : Code} (X : cX D i A p s m args meth c cX7_goBack RX7 4 wsX7_goBack (some .int)) {Q : Int32 → vS → Prop} : ∀ (n : Nat) (a2 : Int32) (a3 : Int32) (S : vS), e_X7_goBack_79 Q n a2 a3 S → cJ D A p l e (headSpec wsX7_goBack rm_X7_goBack).room s m args below meth c (MQ below (va_Qi Q (vB D i A (wM q i)) A) args s 0 0 A) 4 (wM q i S) [(0, .ref (q 0)), (2, .int a2), (3, .int a3)] 79 [] := by
  intro n
  induction n with
  | zero =>
    intro _ _ S h
    rw [e_X7_goBack_79.eq_1] at h
    exact h.elim
  | succ n ih =>
    intro a2 a3 S h
    rw [e_X7_goBack_79.eq_2] at h
    refine j_iload_n X rfl 2 rfl dX7_goBack_79 ?_
    refine j_bipush (v := (60 : Int32)) X (by decide) dX7_goBack_80 ?_
    refine j_icmp_ge (tgt := 108) X dX7_goBack_82 (by decide) (fun c14 => ?_) (fun c14 => ?_)
    · have h := h.1 c14
      refine j_aload_n X rfl 0 rfl dX7_goBack_108 ?_
      refine j_aload_n X rfl 0 rfl dX7_goBack_109 ?_
      refine jgM_mod_images X i_X7_goBack_X7 (by decide +kernel) dX7_goBack_110 ?_
      refine j_iload_n X rfl 1 rfl dX7_goBack_113 ?_
      refine j_bipush (v := (72 : Int32)) X (by decide) dX7_goBack_114 ?_
      refine j_iadd X dX7_goBack_116 ?_
      obtain ⟨k15, h⟩ := h
      refine jlM_mod_images X k15 dX7_goBack_117 ?_
      refine jpM_mod_day X i_X7_goBack_X7 (by decide +kernel) dX7_goBack_118 (fun S16 eS16 => ?_)
      have h := h S16 eS16
      refine j_aload_n X rfl 0 rfl dX7_goBack_121 ?_
      refine j_aload_n X rfl 0 rfl dX7_goBack_122 ?_
      refine jgM_mod_images X i_X7_goBack_X7 (by decide +kernel) dX7_goBack_123 ?_
      refine j_iload_n X rfl 1 rfl dX7_goBack_126 ?_
      refine j_bipush (v := (73 : Int32)) X (by decide) dX7_goBack_127 ?_
      refine j_iadd X dX7_goBack_129 ?_
      obtain ⟨k17, h⟩ := h
      refine jlM_mod_images X k17 dX7_goBack_130 ?_
      refine jpM_mod_law X i_X7_goBack_X7 (by decide +kernel) dX7_goBack_131 (fun S18 eS18 => ?_)
      have h := h S18 eS18
      refine j_aload_n X rfl 0 rfl dX7_goBack_134 ?_
      refine j_aload_n X rfl 0 rfl dX7_goBack_135 ?_
      refine jgM_mod_images X i_X7_goBack_X7 (by decide +kernel) dX7_goBack_136 ?_
      refine j_iload_n X rfl 1 rfl dX7_goBack_139 ?_
      refine j_bipush (v := (74 : Int32)) X (by decide) dX7_goBack_140 ?_
      refine j_iadd X dX7_goBack_142 ?_
      obtain ⟨k19, h⟩ := h
      refine jlM_mod_images X k19 dX7_goBack_143 ?_
      refine jpM_mod_seed X i_X7_goBack_X7 (by decide +kernel) dX7_goBack_144 (fun S20 eS20 => ?_)
      have h := h S20 eS20
      refine j_iconst (v := (1 : Int32)) X (by decide) dX7_goBack_147 ?_
      exact j_iret X h dX7_goBack_148
    · have h := h.2 c14
      refine j_aload_n X rfl 0 rfl dX7_goBack_85 ?_
      refine jgM_mod_stand X i_X7_goBack_X7 (by decide +kernel) dX7_goBack_86 ?_
      refine j_iload_n X rfl 2 rfl dX7_goBack_89 ?_
      refine j_aload_n X rfl 0 rfl dX7_goBack_90 ?_
      refine jgM_mod_images X i_X7_goBack_X7 (by decide +kernel) dX7_goBack_91 ?_
      refine j_iload_n X rfl 1 rfl dX7_goBack_94 ?_
      refine j_bipush (v := (12 : Int32)) X (by decide) dX7_goBack_95 ?_
      refine j_iadd X dX7_goBack_97 ?_
      refine j_iload_n X rfl 2 rfl dX7_goBack_98 ?_
      refine j_iadd X dX7_goBack_99 ?_
      obtain ⟨k21, h⟩ := h
      refine jlM_mod_images X k21 dX7_goBack_100 ?_
      obtain ⟨k22, h⟩ := h
      refine jsM_mod_stand X k22 dX7_goBack_101 (fun S23 eS23 => ?_)
      have h := h S23 eS23
      refine j_iinc (dv := (1 : Int32)) (lv' := fun v24 => [(3, .int v24), (0, .ref (q 0)), (2, .int a2)]) X dX7_goBack_102 (pl := 2) rfl (by decide) (by decide) (fun _ => rfl) (fun v24 ev24 => ?_)
      have h := h v24 ev24
      refine j_goto (tgt := 79) X dX7_goBack_105 (by decide) ?_
      refine j_loc [1, 2, 0] rfl ?_
      exact ih a2 v24 S23 h
set_option maxRecDepth 100000 in
set_option maxHeartbeats 4000000 in
theorem w_X7_goBack_34 {D : va_G} {i : Nat → ClassId} {q : Nat → Nat} {A : Nat → Prop} {p : Program} {l : Launch} {e : Env} {s : State} {m : MethodId} {args : Array Value} {below : List Frame} {meth : Method} {c : Code} (X : cX D i A p s m args meth c cX7_goBack RX7 4 wsX7_goBack (some .int)) {Q : Int32 → vS → Prop} : ∀ (n : Nat) (a2 : Int32) (a3 : Int32) (S : vS), e_X7_goBack_34 Q n a2 a3 S → cJ D A p l e (headSpec wsX7_goBack rm_X7_goBack).room s m args below meth c (MQ below (va_Qi Q (vB D i A (wM q i)) A) args s 0 0 A) 4 (wM q i S) [(0, .ref (q 0)), (2, .int a2), (3, .int a3)] 34 [] := by
  intro n
  induction n with
  | zero =>
    intro _ _ S h
    rw [e_X7_goBack_34.eq_1] at h
    exact h.elim
  | succ n ih =>
    intro a2 a3 S h
    rw [e_X7_goBack_34.eq_2] at h
    refine j_iload_n X rfl 2 rfl dX7_goBack_34 ?_
    refine j_bipush (v := (6 : Int32)) X (by decide) dX7_goBack_35 ?_
    refine j_icmp_ge (tgt := 77) X dX7_goBack_37 (by decide) (fun c7 => ?_) (fun c7 => ?_)
    · have h := h.1 c7
      refine j_iconst (v := (0 : Int32)) X (by decide) dX7_goBack_77 ?_
      refine j_istore_n (lv' := [(3, .int (0 : Int32)), (0, .ref (q 0)), (2, .int a2)]) X rfl (by decide) rfl dX7_goBack_78 ?_
      refine j_loc [1, 2, 0] rfl ?_
      obtain ⟨j, h⟩ := h
      exact w_X7_goBack_79 X j a2 (0 : Int32) S h
    · have h := h.2 c7
      refine j_aload_n X rfl 0 rfl dX7_goBack_40 ?_
      refine jgM_mod_storeys X i_X7_goBack_X7 (by decide +kernel) dX7_goBack_41 ?_
      refine j_iload_n X rfl 2 rfl dX7_goBack_44 ?_
      refine j_aload_n X rfl 0 rfl dX7_goBack_45 ?_
      refine jgM_mod_images X i_X7_goBack_X7 (by decide +kernel) dX7_goBack_46 ?_
      refine j_iload_n X rfl 1 rfl dX7_goBack_49 ?_
      refine j_iload_n X rfl 2 rfl dX7_goBack_50 ?_
      refine j_iadd X dX7_goBack_51 ?_
      obtain ⟨k8, h⟩ := h
      refine jlM_mod_images X k8 dX7_goBack_52 ?_
      obtain ⟨k9, h⟩ := h
      refine jsM_mod_storeys X k9 dX7_goBack_53 (fun S10 eS10 => ?_)
      have h := h S10 eS10
      refine j_aload_n X rfl 0 rfl dX7_goBack_54 ?_
      refine jgM_mod_purse X i_X7_goBack_X7 (by decide +kernel) dX7_goBack_55 ?_
      refine j_iload_n X rfl 2 rfl dX7_goBack_58 ?_
      refine j_aload_n X rfl 0 rfl dX7_goBack_59 ?_
      refine jgM_mod_images X i_X7_goBack_X7 (by decide +kernel) dX7_goBack_60 ?_
      refine j_iload_n X rfl 1 rfl dX7_goBack_63 ?_
      refine j_bipush (v := (6 : Int32)) X (by decide) dX7_goBack_64 ?_
      refine j_iadd X dX7_goBack_66 ?_
      refine j_iload_n X rfl 2 rfl dX7_goBack_67 ?_
      refine j_iadd X dX7_goBack_68 ?_
      obtain ⟨k11, h⟩ := h
      refine jlM_mod_images X k11 dX7_goBack_69 ?_
      refine jsM_mod_purse X k9 dX7_goBack_70 (fun S12 eS12 => ?_)
      have h := h S12 eS12
      refine j_iinc (dv := (1 : Int32)) (lv' := fun v13 => [(3, .int v13), (0, .ref (q 0)), (2, .int a2)]) X dX7_goBack_71 (pl := 2) rfl (by decide) (by decide) (fun _ => rfl) (fun v13 ev13 => ?_)
      have h := h v13 ev13
      refine j_goto (tgt := 34) X dX7_goBack_74 (by decide) ?_
      refine j_loc [1, 2, 0] rfl ?_
      exact ih a2 v13 S12 h
set_option maxRecDepth 100000 in
set_option maxHeartbeats 4000000 in
theorem c_X7_goBack (l : Launch) (D : va_G) (i : Nat → ClassId) (q : Nat → Nat) (A : Nat → Prop) (x1 : Int32) (S : vS) (Q : Int32 → vS → Prop) (h : e_X7_goBack x1 S Q) : Met l yX7_goBack wsX7_goBack rm_X7_goBack (va_Pc [.ref (q 0), .int x1] (vB D i A (wM q i) S)) (va_Qi Q (vB D i A (wM q i)) A) 0 0 A := by
  refine m_ofJ (own := RX7) (lv := [(0, .ref (q 0)), (1, .int x1)]) rfl (by decide) rfl (Nat.le_of_ble_eq_true rfl) rfl ?_
  intro p e s m below meth c X
  unfold e_X7_goBack at h
  refine j_iload_n X rfl 1 rfl dX7_goBack_0 ?_
  refine j_i2l X dX7_goBack_1 ?_
  refine j_lconst (v := (0 : Int64)) X (by decide) dX7_goBack_2 ?_
  refine j_lconst (v := (1 : Int64)) X (by decide) dX7_goBack_3 ?_
  refine j_Si (st := []) X [.long (x1).toInt64, .long (0 : Int64), .long (1 : Int64)] (c_X7_in l D i q A (x1).toInt64 (0 : Int64) (1 : Int64) S _ h) (va_cwS 3 X.ts gX7_goBack_X7_in rfl rfl rfl (by decide +kernel) ⟨Nat.le_of_ble_eq_true rfl, Nat.le_of_ble_eq_true rfl⟩) rfl rfl (Nat.le_of_ble_eq_true rfl) dX7_goBack_4 (fun r2 S1 h => ?_)
  refine j_if_ne (tgt := 14) X dX7_goBack_7 (by decide) (fun c3 => ?_) (fun c3 => ?_)
  · have h := h.1 c3
    refine j_aload_n X rfl 0 rfl dX7_goBack_14 ?_
    refine jgM_mod_isKept X i_X7_goBack_X7 (by decide +kernel) dX7_goBack_15 ?_
    refine j_iload_n X rfl 1 rfl dX7_goBack_18 ?_
    obtain ⟨k4, h⟩ := h
    refine jlM_mod_isKept X k4 dX7_goBack_19 ?_
    refine j_if_ne (tgt := 27) X dX7_goBack_20 (by decide) (fun c5 => ?_) (fun c5 => ?_)
    · have h := h.1 c5
      refine j_bipush (v := (80 : Int32)) X (by decide) dX7_goBack_27 ?_
      refine j_iload_n X rfl 1 rfl dX7_goBack_29 ?_
      refine j_imul X dX7_goBack_30 ?_
      refine j_topi (fun v6 ev6 => ?_)
      have h := h v6 ev6
      refine j_istore_n (lv' := [(2, .int v6), (0, .ref (q 0)), (1, .int x1)]) X rfl (by decide) rfl dX7_goBack_31 ?_
      refine j_iconst (v := (0 : Int32)) X (by decide) dX7_goBack_32 ?_
      refine j_istore_n (lv' := [(3, .int (0 : Int32)), (2, .int v6), (0, .ref (q 0)), (1, .int x1)]) X rfl (by decide) rfl dX7_goBack_33 ?_
      refine j_loc [2, 1, 0] rfl ?_
      obtain ⟨j, h⟩ := h
      exact w_X7_goBack_34 X j v6 (0 : Int32) S1 h
    · have h := h.2 c5
      refine j_ldcw (v := (-1000000003 : Int32)) X (by decide +kernel) dX7_goBack_23 ?_
      exact j_iret X h dX7_goBack_26
  · have h := h.2 c3
    refine j_ldcw (v := (-1000000001 : Int32)) X (by decide +kernel) dX7_goBack_10 ?_
    exact j_iret X h dX7_goBack_13
