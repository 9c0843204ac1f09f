set_option maxRecDepth 100000 in
theorem i_X3_append_X3 : ∀ w ∈ u_ws RX3 TX3 9, w ∈ wsX3_append := by decide +kernel
abbrev rm_X3_append : Room := { frames := 0, cells := 0, slots := 0, locals := 0 }
set_option maxRecDepth 100000 in
set_option maxHeartbeats 4000000 in
theorem c_X3_append (l : Launch) (D : va_G) (i : Nat → ClassId) (q : Nat → Nat) (A : Nat → Prop) (x1 : Int32) (S : vS) (Q : vS → Prop) (h : e_X3_append x1 S Q) : Met l yX3_append wsX3_append rm_X3_append (va_Pc [.ref (q 3), .int x1] (vB D i A (wC q i) S)) (va_Qv Q (vB D i A (wC q i)) A) 0 0 A := by
  refine m_ofJ (own := RX3) (lv := [(0, .ref (q 3)), (1, .int x1)]) rfl (by decide) rfl (Nat.le_of_ble_eq_true rfl) rfl ?_
  intro p e s m below meth c X
  unfold e_X3_append at h
  refine j_aload_n X rfl 0 rfl dX3_append_0 ?_
  refine jgC_reader_length X i_X3_append_X3 (by decide +kernel) dX3_append_1 ?_
  refine j_sipush (v := (500 : Int32)) X (by decide) dX3_append_4 ?_
  refine j_icmp_ge (tgt := 30) X dX3_append_7 (by decide) (fun c1 => ?_) (fun c1 => ?_)
  · have h := h.1 c1
    exact j_vret X h dX3_append_30
  · have h := h.2 c1
    refine j_aload_n X rfl 0 rfl dX3_append_10 ?_
    refine jgC_reader_bytes X i_X3_append_X3 (by decide +kernel) dX3_append_11 ?_
    refine j_aload_n X rfl 0 rfl dX3_append_14 ?_
    refine jgC_reader_length X i_X3_append_X3 (by decide +kernel) dX3_append_15 ?_
    refine j_iload_n X rfl 1 rfl dX3_append_18 ?_
    obtain ⟨k2, h⟩ := h
    refine jsC_reader_bytes X k2 dX3_append_19 (fun S3 eS3 => ?_)
    have h := h S3 eS3
    refine j_aload_n X rfl 0 rfl dX3_append_20 ?_
    refine j_dup X rfl dX3_append_21 ?_
    refine jgC_reader_length X i_X3_append_X3 (by decide +kernel) dX3_append_22 ?_
    refine j_iconst (v := (1 : Int32)) X (by decide) dX3_append_25 ?_
    refine j_iadd X dX3_append_26 ?_
    refine jpC_reader_length X i_X3_append_X3 (by decide +kernel) dX3_append_27 (fun S4 eS4 => ?_)
    have h := h S4 eS4
    exact j_vret X h dX3_append_30
set_option maxRecDepth 100000 in
theorem i_X6_feed_X3 : ∀ w ∈ u_ws RX3 TX3 9, w ∈ wsX6_feed := by decide +kernel
set_option maxRecDepth 100000 in
theorem i_X6_feed_X6 : ∀ w ∈ u_ws RX6 TX6 8, w ∈ wsX6_feed := by decide +kernel
abbrev rm_X6_feed : Room := { frames := 1, cells := 0, slots := 0, locals := 21 }
set_option maxRecDepth 100000 in
set_option maxHeartbeats 4000000 in
theorem w_X6_feed_37 {D : va_G} {i : Nat → ClassId} {q : Nat → Nat} {A : Nat → Prop} {p : Program} {l : Launch} {e : Env} {s : State} {m : MethodId} {args : Array Value} {below : List Frame} {meth : Method} {c : Code} (X : cX D i A p s m args meth c cX6_feed RX6 5 wsX6_feed (some .int)) {Q : Int32 → vS → Prop} : ∀ (n : Nat) (a2 : Int64) (a4 : Int32) (S : vS), e_X6_feed_37 Q n a2 a4 S → cJ D A p l e (headSpec wsX6_feed rm_X6_feed).room s m args below meth c (MQ below (va_Qi Q (vB D i A (wC q i)) A) args s 0 0 A) 5 (wC q i S) [(0, .ref (q 0)), (2, .long a2), (4, .int a4)] 37 [] := by
  intro n
  induction n with
  | zero =>
    intro _ _ S h
    rw [e_X6_feed_37.eq_1] at h
    exact h.elim
  | succ n ih =>
    intro a2 a4 S h
    rw [e_X6_feed_37.eq_2] at h
    refine j_iload X 2 rfl dX6_feed_37 ?_
    refine j_if_lt (tgt := 64) X dX6_feed_39 (by decide) (fun c5 => ?_) (fun c5 => ?_)
    · have h := h.1 c5
      refine j_aload_n X rfl 0 rfl dX6_feed_64 ?_
      refine jgC_main_reader X i_X6_feed_X6 (by decide +kernel) dX6_feed_65 ?_
      refine jgC_reader_length X i_X6_feed_X3 (by decide +kernel) dX6_feed_68 ?_
      exact j_iret X h dX6_feed_71
    · have h := h.2 c5
      refine j_aload_n X rfl 0 rfl dX6_feed_42 ?_
      refine jgC_main_reader X i_X6_feed_X6 (by decide +kernel) dX6_feed_43 ?_
      refine j_lload_n X rfl 1 rfl dX6_feed_46 ?_
      refine j_bipush (v := (8 : Int32)) X (by decide) dX6_feed_47 ?_
      refine j_iload X 2 rfl dX6_feed_49 ?_
      refine j_imul X dX6_feed_51 ?_
      refine j_lushr X dX6_feed_52 ?_
      refine j_l2i X dX6_feed_53 ?_
      refine j_i2b X dX6_feed_54 ?_
      refine j_Vv (st := []) X [.int ((((a2).toUInt64 >>> ((((8 : Int32) * a4)).toInt64.toUInt64 &&& Int64.toUInt64 63)).toInt64).toInt32).toInt8.toInt32] 3 (c_X3_append l D i q A ((((a2).toUInt64 >>> ((((8 : Int32) * a4)).toInt64.toUInt64 &&& Int64.toUInt64 63)).toInt64).toInt32).toInt8.toInt32 S _ h) (cwV 1 X.ts gX6_feed_X3_append rfl rfl rfl (by decide +kernel) ⟨Nat.le_of_ble_eq_true rfl, Nat.le_of_ble_eq_true rfl⟩) rfl rfl rfl rfl (Nat.le_of_ble_eq_true rfl) dX6_feed_55 (fun S6 h => ?_)
      refine j_iinc (dv := (-1 : Int32)) (lv' := fun v8 => [(4, .int v8), (0, .ref (q 0)), (2, .long a2)]) X dX6_feed_58 (pl := 2) rfl (by decide) (by decide) (fun _ => rfl) (fun v8 ev8 => ?_)
      have h := h v8 ev8
      refine j_goto (tgt := 37) X dX6_feed_61 (by decide) ?_
      refine j_loc [1, 2, 0] rfl ?_
      exact ih a2 v8 S6 h
set_option maxRecDepth 100000 in
set_option maxHeartbeats 4000000 in
theorem c_X6_feed (l : Launch) (D : va_G) (i : Nat → ClassId) (q : Nat → Nat) (A : Nat → Prop) (x1 : Int32) (x2 : Int64) (S : vS) (Q : Int32 → vS → Prop) (h : e_X6_feed x1 x2 S Q) : Met l yX6_feed wsX6_feed rm_X6_feed (va_Pc [.ref (q 0), .int x1, .long x2] (vB D i A (wC q i) S)) (va_Qi Q (vB D i A (wC q i)) A) 0 0 A := by
  refine m_ofJ (own := RX6) (lv := [(0, .ref (q 0)), (1, .int x1), (2, .long x2)]) rfl (by decide) rfl (Nat.le_of_ble_eq_true rfl) rfl ?_
  intro p e s m below meth c X
  unfold e_X6_feed at h
  refine j_iload_n X rfl 1 rfl dX6_feed_0 ?_
  refine j_iconst (v := (1 : Int32)) X (by decide) dX6_feed_1 ?_
  refine j_icmp_lt (tgt := 11) X dX6_feed_2 (by decide) (fun c1 => ?_) (fun c1 => ?_)
  · have h := h.1 c1
    refine j_ldc (v := (-1000000002 : Int32)) X (by decide +kernel) dX6_feed_11 ?_
    exact j_iret X h dX6_feed_13
  · have h := h.2 c1
    refine j_iload_n X rfl 1 rfl dX6_feed_5 ?_
    refine j_bipush (v := (8 : Int32)) X (by decide) dX6_feed_6 ?_
    refine j_icmp_le (tgt := 14) X dX6_feed_8 (by decide) (fun c2 => ?_) (fun c2 => ?_)
    · have h := h.1 c2
      refine j_aload_n X rfl 0 rfl dX6_feed_14 ?_
      refine jgC_main_reader X i_X6_feed_X6 (by decide +kernel) dX6_feed_15 ?_
      refine jgC_reader_length X i_X6_feed_X3 (by decide +kernel) dX6_feed_18 ?_
      refine j_iload_n X rfl 1 rfl dX6_feed_21 ?_
      refine j_iadd X dX6_feed_22 ?_
      refine j_sipush (v := (500 : Int32)) X (by decide) dX6_feed_23 ?_
      refine j_icmp_le (tgt := 32) X dX6_feed_26 (by decide) (fun c3 => ?_) (fun c3 => ?_)
      · have h := h.1 c3
        refine j_iload_n X rfl 1 rfl dX6_feed_32 ?_
        refine j_iconst (v := (1 : Int32)) X (by decide) dX6_feed_33 ?_
        refine j_isub X dX6_feed_34 ?_
        refine j_topi (fun v4 ev4 => ?_)
        have h := h v4 ev4
        refine j_istore (lv' := [(4, .int v4), (0, .ref (q 0)), (1, .int x1), (2, .long x2)]) X (by decide) rfl dX6_feed_35 ?_
        refine j_loc [1, 3, 0] rfl ?_
        obtain ⟨j, h⟩ := h
        exact w_X6_feed_37 X j x2 v4 S h
      · have h := h.2 c3
        refine j_ldc (v := (-1000000004 : Int32)) X (by decide +kernel) dX6_feed_29 ?_
        exact j_iret X h dX6_feed_31
    · have h := h.2 c2
      refine j_ldc (v := (-1000000002 : Int32)) X (by decide +kernel) dX6_feed_11 ?_
      exact j_iret X h dX6_feed_13
set_option maxRecDepth 100000 in
theorem i_X2_clear_draft_X2 : ∀ w ∈ u_ws RX2 TX2 14, w ∈ wsX2_clear := by decide +kernel
abbrev rm_X2_clear_draft : Room := { frames := 0, cells := 0, slots := 0, locals := 0 }
set_option maxRecDepth 100000 in
set_option maxHeartbeats 4000000 in
theorem w_X2_clear_draft_33 {D : va_G} {i : Nat → ClassId} {q : Nat → Nat} {A : Nat → Prop} {p : Program} {l : Launch} {e : Env} {s : State} {m : MethodId} {args : Array Value} {below : List Frame} {meth : Method} {c : Code} (X : cX D i A p s m args meth c cX2_clear RX2 2 wsX2_clear none) {Q : vS → Prop} : ∀ (n : Nat) (a1 : Int32) (S : vS), e_X2_clear_draft_33 Q n a1 S → cJ D A p l e (headSpec wsX2_clear rm_X2_clear_draft).room s m args below meth c (MQ below (va_Qv Q (vB D i A (wC q i)) A) args s 0 0 A) 2 (wC q i S) [(0, .ref (q 2)), (1, .int a1)] 33 [] := by
  intro n
  induction n with
  | zero =>
    intro _ S h
    rw [e_X2_clear_draft_33.eq_1] at h
    exact h.elim
  | succ n ih =>
    intro a1 S h
    rw [e_X2_clear_draft_33.eq_2] at h
    refine j_iload_n X rfl 1 rfl dX2_clear_33 ?_
    refine j_bipush (v := (60 : Int32)) X (by decide) dX2_clear_34 ?_
    refine j_icmp_ge (tgt := 59) X dX2_clear_36 (by decide) (fun c7 => ?_) (fun c7 => ?_)
    · have h := h.1 c7
      exact j_vret X h dX2_clear_59
    · have h := h.2 c7
      refine j_aload_n X rfl 0 rfl dX2_clear_39 ?_
      refine jgC_draft_stands X i_X2_clear_draft_X2 (by decide +kernel) dX2_clear_40 ?_
      refine j_iload_n X rfl 1 rfl dX2_clear_43 ?_
      refine j_iconst (v := (0 : Int32)) X (by decide) dX2_clear_44 ?_
      obtain ⟨k8, h⟩ := h
      refine jsC_draft_stands X k8 dX2_clear_45 (fun S9 eS9 => ?_)
      have h := h S9 eS9
      refine j_aload_n X rfl 0 rfl dX2_clear_46 ?_
      refine jgC_draft_fish X i_X2_clear_draft_X2 (by decide +kernel) dX2_clear_47 ?_
      refine j_iload_n X rfl 1 rfl dX2_clear_50 ?_
      refine j_iconst (v := (1 : Int32)) X (by decide) dX2_clear_51 ?_
      refine jsC_draft_fish X k8 dX2_clear_52 (fun S10 eS10 => ?_)
      have h := h S10 eS10
      refine j_iinc (dv := (1 : Int32)) (lv' := fun v11 => [(1, .int v11), (0, .ref (q 2))]) X dX2_clear_53 (pl := 1) rfl (by decide) (by decide) (fun _ => rfl) (fun v11 ev11 => ?_)
      have h := h v11 ev11
      refine j_goto (tgt := 33) X dX2_clear_56 (by decide) ?_
      refine j_loc [1, 0] rfl ?_
      exact ih v11 S10 h
set_option maxRecDepth 100000 in
set_option maxHeartbeats 4000000 in
theorem c_X2_clear_draft (l : Launch) (D : va_G) (i : Nat → ClassId) (q : Nat → Nat) (A : Nat → Prop) (S : vS) (Q : vS → Prop) (h : e_X2_clear_draft S Q) : Met l yX2_clear wsX2_clear rm_X2_clear_draft (va_Pc [.ref (q 2)] (vB D i A (wC q i) S)) (va_Qv Q (vB D i A (wC q i)) A) 0 0 A := by
  refine m_ofJ (own := RX2) (lv := [(0, .ref (q 2))]) rfl (by decide) rfl (Nat.le_of_ble_eq_true rfl) rfl ?_
  intro p e s m below meth c X
  unfold e_X2_clear_draft at h
  refine j_aload_n X rfl 0 rfl dX2_clear_0 ?_
  refine j_iconst (v := (0 : Int32)) X (by decide) dX2_clear_1 ?_
  refine jpC_draft_width X i_X2_clear_draft_X2 (by decide +kernel) dX2_clear_2 (fun S1 eS1 => ?_)
  have h := h S1 eS1
  refine j_aload_n X rfl 0 rfl dX2_clear_5 ?_
  refine j_iconst (v := (0 : Int32)) X (by decide) dX2_clear_6 ?_
  refine jpC_draft_height X i_X2_clear_draft_X2 (by decide +kernel) dX2_clear_7 (fun S2 eS2 => ?_)
  have h := h S2 eS2
  refine j_aload_n X rfl 0 rfl dX2_clear_10 ?_
  refine j_iconst (v := (0 : Int32)) X (by decide) dX2_clear_11 ?_
  refine jpC_draft_men X i_X2_clear_draft_X2 (by decide +kernel) dX2_clear_12 (fun S3 eS3 => ?_)
  have h := h S3 eS3
  refine j_aload_n X rfl 0 rfl dX2_clear_15 ?_
  refine j_iconst (v := (0 : Int32)) X (by decide) dX2_clear_16 ?_
  refine jpC_draft_mists X i_X2_clear_draft_X2 (by decide +kernel) dX2_clear_17 (fun S4 eS4 => ?_)
  have h := h S4 eS4
  refine j_aload_n X rfl 0 rfl dX2_clear_20 ?_
  refine j_iconst (v := (3 : Int32)) X (by decide) dX2_clear_21 ?_
  refine jpC_draft_storeyHigh X i_X2_clear_draft_X2 (by decide +kernel) dX2_clear_22 (fun S5 eS5 => ?_)
  have h := h S5 eS5
  refine j_aload_n X rfl 0 rfl dX2_clear_25 ?_
  refine j_bipush (v := (100 : Int32)) X (by decide) dX2_clear_26 ?_
  refine jpC_draft_storeyCost X i_X2_clear_draft_X2 (by decide +kernel) dX2_clear_28 (fun S6 eS6 => ?_)
  have h := h S6 eS6
  refine j_iconst (v := (0 : Int32)) X (by decide) dX2_clear_31 ?_
  refine j_istore_n (lv' := [(1, .int (0 : Int32)), (0, .ref (q 2))]) X rfl (by decide) rfl dX2_clear_32 ?_
  refine j_loc [1, 0] rfl ?_
  obtain ⟨j, h⟩ := h
  exact w_X2_clear_draft_33 X j (0 : Int32) S6 h
set_option maxRecDepth 100000 in
theorem i_X3_restart_X3 : ∀ w ∈ u_ws RX3 TX3 9, w ∈ wsX3_restart := by decide +kernel
abbrev rm_X3_restart : Room := { frames := 1, cells := 0, slots := 0, locals := 21 }
set_option maxRecDepth 100000 in
set_option maxHeartbeats 4000000 in
theorem w_X3_restart_45 {D : va_G} {i : Nat → ClassId} {q : Nat → Nat} {A : Nat → Prop} {p : Program} {l : Launch} {e : Env} {s : State} {m : MethodId} {args : Array Value} {below : List Frame} {meth : Method} {c : Code} (X : cX D i A p s m args meth c cX3_restart RX3 2 wsX3_restart none) {Q : vS → Prop} : ∀ (n : Nat) (a1 : Int32) (S : vS), e_X3_restart_45 Q n a1 S → cJ D A p l e (headSpec wsX3_restart rm_X3_restart).room s m args below meth c (MQ below (va_Qv Q (vB D i A (wC q i)) A) args s 0 0 A) 2 (wC q i S) [(0, .ref (q 3)), (1, .int a1)] 45 [] := by
  intro n
  induction n with
  | zero =>
    intro _ S h
    rw [e_X3_restart_45.eq_1] at h
    exact h.elim
  | succ n ih =>
    intro a1 S h
    rw [e_X3_restart_45.eq_2] at h
    refine j_iload_n X rfl 1 rfl dX3_restart_45 ?_
    refine j_bipush (v := (60 : Int32)) X (by decide) dX3_restart_46 ?_
    refine j_icmp_ge (tgt := 64) X dX3_restart_48 (by decide) (fun c10 => ?_) (fun c10 => ?_)
    · have h := h.1 c10
      exact j_vret X h dX3_restart_64
    · have h := h.2 c10
      refine j_aload_n X rfl 0 rfl dX3_restart_51 ?_
      refine jgC_reader_fishTold X i_X3_restart_X3 (by decide +kernel) dX3_restart_52 ?_
      refine j_iload_n X rfl 1 rfl dX3_restart_55 ?_
      refine j_iconst (v := (0 : Int32)) X (by decide) dX3_restart_56 ?_
      obtain ⟨k11, h⟩ := h
      refine jsC_reader_fishTold X k11 dX3_restart_57 (fun S12 eS12 => ?_)
      have h := h S12 eS12
      refine j_iinc (dv := (1 : Int32)) (lv' := fun v13 => [(1, .int v13), (0, .ref (q 3))]) X dX3_restart_58 (pl := 1) rfl (by decide) (by decide) (fun _ => rfl) (fun v13 ev13 => ?_)
      have h := h v13 ev13
      refine j_goto (tgt := 45) X dX3_restart_61 (by decide) ?_
      refine j_loc [1, 0] rfl ?_
      exact ih v13 S12 h
set_option maxRecDepth 100000 in
set_option maxHeartbeats 4000000 in
theorem w_X3_restart_24 {D : va_G} {i : Nat → ClassId} {q : Nat → Nat} {A : Nat → Prop} {p : Program} {l : Launch} {e : Env} {s : State} {m : MethodId} {args : Array Value} {below : List Frame} {meth : Method} {c : Code} (X : cX D i A p s m args meth c cX3_restart RX3 2 wsX3_restart none) {Q : vS → Prop} : ∀ (n : Nat) (a1 : Int32) (S : vS), e_X3_restart_24 Q n a1 S → cJ D A p l e (headSpec wsX3_restart rm_X3_restart).room s m args below meth c (MQ below (va_Qv Q (vB D i A (wC q i)) A) args s 0 0 A) 2 (wC q i S) [(0, .ref (q 3)), (1, .int a1)] 24 [] := by
  intro n
  induction n with
  | zero =>
    intro _ S h
    rw [e_X3_restart_24.eq_1] at h
    exact h.elim
  | succ n ih =>
    intro a1 S h
    rw [e_X3_restart_24.eq_2] at h
    refine j_iload_n X rfl 1 rfl dX3_restart_24 ?_
    refine j_bipush (v := (6 : Int32)) X (by decide) dX3_restart_25 ?_
    refine j_icmp_ge (tgt := 43) X dX3_restart_27 (by decide) (fun c6 => ?_) (fun c6 => ?_)
    · have h := h.1 c6
      refine j_iconst (v := (0 : Int32)) X (by decide) dX3_restart_43 ?_
      refine j_istore_n (lv' := [(1, .int (0 : Int32)), (0, .ref (q 3))]) X rfl (by decide) rfl dX3_restart_44 ?_
      refine j_loc [1, 0] rfl ?_
      obtain ⟨j, h⟩ := h
      exact w_X3_restart_45 X j (0 : Int32) S h
    · have h := h.2 c6
      refine j_aload_n X rfl 0 rfl dX3_restart_30 ?_
      refine jgC_reader_counts X i_X3_restart_X3 (by decide +kernel) dX3_restart_31 ?_
      refine j_iload_n X rfl 1 rfl dX3_restart_34 ?_
      refine j_iconst (v := (0 : Int32)) X (by decide) dX3_restart_35 ?_
      obtain ⟨k7, h⟩ := h
      refine jsC_reader_counts X k7 dX3_restart_36 (fun S8 eS8 => ?_)
      have h := h S8 eS8
      refine j_iinc (dv := (1 : Int32)) (lv' := fun v9 => [(1, .int v9), (0, .ref (q 3))]) X dX3_restart_37 (pl := 1) rfl (by decide) (by decide) (fun _ => rfl) (fun v9 ev9 => ?_)
      have h := h v9 ev9
      refine j_goto (tgt := 24) X dX3_restart_40 (by decide) ?_
      refine j_loc [1, 0] rfl ?_
      exact ih v9 S8 h
set_option maxRecDepth 100000 in
set_option maxHeartbeats 4000000 in
theorem c_X3_restart (l : Launch) (D : va_G) (i : Nat → ClassId) (q : Nat → Nat) (A : Nat → Prop) (S : vS) (Q : vS → Prop) (h : e_X3_restart S Q) : Met l yX3_restart wsX3_restart rm_X3_restart (va_Pc [.ref (q 3)] (vB D i A (wC q i) S)) (va_Qv Q (vB D i A (wC q i)) A) 0 0 A := by
  refine m_ofJ (own := RX3) (lv := [(0, .ref (q 3))]) rfl (by decide) rfl (Nat.le_of_ble_eq_true rfl) rfl ?_
  intro p e s m below meth c X
  unfold e_X3_restart at h
  refine j_aload_n X rfl 0 rfl dX3_restart_0 ?_
  refine jgC_reader_draft X i_X3_restart_X3 (by decide +kernel) dX3_restart_1 ?_
  refine j_Vv (st := []) X [] 2 (c_X2_clear_draft l D i q A S _ h) (cwV 0 X.ts gX3_restart_X2_clear rfl rfl rfl (by decide +kernel) ⟨Nat.le_of_ble_eq_true rfl, Nat.le_of_ble_eq_true rfl⟩) rfl rfl rfl rfl (Nat.le_of_ble_eq_true rfl) dX3_restart_4 (fun S1 h => ?_)
  refine j_aload_n X rfl 0 rfl dX3_restart_7 ?_
  refine j_iconst (v := (0 : Int32)) X (by decide) dX3_restart_8 ?_
  refine jpC_reader_at X i_X3_restart_X3 (by decide +kernel) dX3_restart_9 (fun S3 eS3 => ?_)
  have h := h S3 eS3
  refine j_aload_n X rfl 0 rfl dX3_restart_12 ?_
  refine j_iconst (v := (0 : Int32)) X (by decide) dX3_restart_13 ?_
  refine jpC_reader_faultKind X i_X3_restart_X3 (by decide +kernel) dX3_restart_14 (fun S4 eS4 => ?_)
  have h := h S4 eS4
  refine j_aload_n X rfl 0 rfl dX3_restart_17 ?_
  refine j_iconst (v := (-1 : Int32)) X (by decide) dX3_restart_18 ?_
  refine jpC_reader_faultAt X i_X3_restart_X3 (by decide +kernel) dX3_restart_19 (fun S5 eS5 => ?_)
  have h := h S5 eS5
  refine j_iconst (v := (0 : Int32)) X (by decide) dX3_restart_22 ?_
  refine j_istore_n (lv' := [(1, .int (0 : Int32)), (0, .ref (q 3))]) X rfl (by decide) rfl dX3_restart_23 ?_
  refine j_loc [1, 0] rfl ?_
  obtain ⟨j, h⟩ := h
  exact w_X3_restart_24 X j (0 : Int32) S5 h
set_option maxRecDepth 100000 in
theorem i_X3_skipBlanks_X3 : ∀ w ∈ u_ws RX3 TX3 9, w ∈ wsX3_skipBlanks := by decide +kernel
abbrev rm_X3_skipBlanks : Room := { frames := 0, cells := 0, slots := 0, locals := 0 }
set_option maxRecDepth 100000 in
set_option maxHeartbeats 4000000 in
theorem w_X3_skipBlanks_0 {D : va_G} {i : Nat → ClassId} {q : Nat → Nat} {A : Nat → Prop} {p : Program} {l : Launch} {e : Env} {s : State} {m : MethodId} {args : Array Value} {below : List Frame} {meth : Method} {c : Code} (X : cX D i A p s m args meth c cX3_skipBlanks RX3 1 wsX3_skipBlanks none) {Q : vS → Prop} : ∀ (n : Nat) (S : vS), e_X3_skipBlanks_0 Q n S → cJ D A p l e (headSpec wsX3_skipBlanks rm_X3_skipBlanks).room s m args below meth c (MQ below (va_Qv Q (vB D i A (wC q i)) A) args s 0 0 A) 1 (wC q i S) [(0, .ref (q 3))] 0 [] := by
  intro n
  induction n with
  | zero =>
    intro S h
    rw [e_X3_skipBlanks_0.eq_1] at h
    exact h.elim
  | succ n ih =>
    intro S h
    rw [e_X3_skipBlanks_0.eq_2] at h
    refine j_aload_n X rfl 0 rfl dX3_skipBlanks_0 ?_
    refine jgC_reader_at X i_X3_skipBlanks_X3 (by decide +kernel) dX3_skipBlanks_1 ?_
    refine j_aload_n X rfl 0 rfl dX3_skipBlanks_4 ?_
    refine jgC_reader_length X i_X3_skipBlanks_X3 (by decide +kernel) dX3_skipBlanks_5 ?_
    refine j_icmp_ge (tgt := 38) X dX3_skipBlanks_8 (by decide) (fun c5 => ?_) (fun c5 => ?_)
    · have h := h.1 c5
      exact j_vret X h dX3_skipBlanks_38
    · have h := h.2 c5
      refine j_aload_n X rfl 0 rfl dX3_skipBlanks_11 ?_
      refine jgC_reader_bytes X i_X3_skipBlanks_X3 (by decide +kernel) dX3_skipBlanks_12 ?_
      refine j_aload_n X rfl 0 rfl dX3_skipBlanks_15 ?_
      refine jgC_reader_at X i_X3_skipBlanks_X3 (by decide +kernel) dX3_skipBlanks_16 ?_
      obtain ⟨k6, h⟩ := h
      refine jlC_reader_bytes X k6 dX3_skipBlanks_19 ?_
      refine j_bipush (v := (32 : Int32)) X (by decide) dX3_skipBlanks_20 ?_
      refine j_icmp_ne (tgt := 38) X dX3_skipBlanks_22 (by decide) (fun c7 => ?_) (fun c7 => ?_)
      · have h := h.1 c7
        exact j_vret X h dX3_skipBlanks_38
      · have h := h.2 c7
        refine j_aload_n X rfl 0 rfl dX3_skipBlanks_25 ?_
        refine j_dup X rfl dX3_skipBlanks_26 ?_
        refine jgC_reader_at X i_X3_skipBlanks_X3 (by decide +kernel) dX3_skipBlanks_27 ?_
        refine j_iconst (v := (1 : Int32)) X (by decide) dX3_skipBlanks_30 ?_
        refine j_iadd X dX3_skipBlanks_31 ?_
        refine jpC_reader_at X i_X3_skipBlanks_X3 (by decide +kernel) dX3_skipBlanks_32 (fun S8 eS8 => ?_)
        have h := h S8 eS8
        refine j_goto (tgt := 0) X dX3_skipBlanks_35 (by decide) ?_
        exact ih S8 h
set_option maxRecDepth 100000 in
set_option maxHeartbeats 4000000 in
theorem c_X3_skipBlanks (l : Launch) (D : va_G) (i : Nat → ClassId) (q : Nat → Nat) (A : Nat → Prop) (S : vS) (Q : vS → Prop) (h : e_X3_skipBlanks S Q) : Met l yX3_skipBlanks wsX3_skipBlanks rm_X3_skipBlanks (va_Pc [.ref (q 3)] (vB D i A (wC q i) S)) (va_Qv Q (vB D i A (wC q i)) A) 0 0 A := by
  refine m_ofJ (own := RX3) (lv := [(0, .ref (q 3))]) rfl (by decide) rfl (Nat.le_of_ble_eq_true rfl) rfl ?_
  intro p e s m below meth c X
  unfold e_X3_skipBlanks at h
  refine j_aload_n X rfl 0 rfl dX3_skipBlanks_0 ?_
  refine jgC_reader_at X i_X3_skipBlanks_X3 (by decide +kernel) dX3_skipBlanks_1 ?_
  refine j_aload_n X rfl 0 rfl dX3_skipBlanks_4 ?_
  refine jgC_reader_length X i_X3_skipBlanks_X3 (by decide +kernel) dX3_skipBlanks_5 ?_
  refine j_icmp_ge (tgt := 38) X dX3_skipBlanks_8 (by decide) (fun c1 => ?_) (fun c1 => ?_)
  · have h := h.1 c1
    exact j_vret X h dX3_skipBlanks_38
  · have h := h.2 c1
    refine j_aload_n X rfl 0 rfl dX3_skipBlanks_11 ?_
    refine jgC_reader_bytes X i_X3_skipBlanks_X3 (by decide +kernel) dX3_skipBlanks_12 ?_
    refine j_aload_n X rfl 0 rfl dX3_skipBlanks_15 ?_
    refine jgC_reader_at X i_X3_skipBlanks_X3 (by decide +kernel) dX3_skipBlanks_16 ?_
    obtain ⟨k2, h⟩ := h
    refine jlC_reader_bytes X k2 dX3_skipBlanks_19 ?_
    refine j_bipush (v := (32 : Int32)) X (by decide) dX3_skipBlanks_20 ?_
    refine j_icmp_ne (tgt := 38) X dX3_skipBlanks_22 (by decide) (fun c3 => ?_) (fun c3 => ?_)
    · have h := h.1 c3
      exact j_vret X h dX3_skipBlanks_38
    · have h := h.2 c3
      refine j_aload_n X rfl 0 rfl dX3_skipBlanks_25 ?_
      refine j_dup X rfl dX3_skipBlanks_26 ?_
      refine jgC_reader_at X i_X3_skipBlanks_X3 (by decide +kernel) dX3_skipBlanks_27 ?_
      refine j_iconst (v := (1 : Int32)) X (by decide) dX3_skipBlanks_30 ?_
      refine j_iadd X dX3_skipBlanks_31 ?_
      refine jpC_reader_at X i_X3_skipBlanks_X3 (by decide +kernel) dX3_skipBlanks_32 (fun S4 eS4 => ?_)
      have h := h S4 eS4
      refine j_goto (tgt := 0) X dX3_skipBlanks_35 (by decide) ?_
      obtain ⟨j, h⟩ := h
      exact w_X3_skipBlanks_0 X j S4 h
set_option maxRecDepth 100000 in
theorem i_X3_readKind_X3 : ∀ w ∈ u_ws RX3 TX3 9, w ∈ wsX3_readKind := by decide +kernel
abbrev rm_X3_readKind : Room := { frames := 5, cells := 0, slots := 0, locals := 109 }
set_option maxRecDepth 100000 in
set_option maxHeartbeats 4000000 in
theorem w_X3_readKind_59 {D : va_G} {i : Nat → ClassId} {q : Nat → Nat} {A : Nat → Prop} {p : Program} {l : Launch} {e : Env} {s : State} {m : MethodId} {args : Array Value} {below : List Frame} {meth : Method} {c : Code} (X : cX D i A p s m args meth c cX3_readKind RX3 3 wsX3_readKind (some .int)) {Q : Int32 → vS → Prop} : ∀ (n : Nat) (a1 : Int32) (a2 : Int32) (S : vS), e_X3_readKind_59 Q n a1 a2 S → cJ D A p l e (headSpec wsX3_readKind rm_X3_readKind).room s m args below meth c (MQ below (va_Qi Q (vB D i A (wC q i)) A) args s 0 0 A) 3 (wC q i S) [(0, .ref (q 3)), (1, .int a1), (2, .int a2)] 59 [] := by
  intro n
  induction n with
  | zero =>
    intro _ _ S h
    rw [e_X3_readKind_59.eq_1] at h
    exact h.elim
  | succ n ih =>
    intro a1 a2 S h
    rw [e_X3_readKind_59.eq_2] at h
    refine j_iload_n X rfl 2 rfl dX3_readKind_59 ?_
    refine j_bipush (v := (6 : Int32)) X (by decide) dX3_readKind_60 ?_
    refine j_icmp_ge (tgt := 89) X dX3_readKind_62 (by decide) (fun c7 => ?_) (fun c7 => ?_)
    · have h := h.1 c7
      refine j_iconst (v := (-1 : Int32)) X (by decide) dX3_readKind_89 ?_
      exact j_iret X h dX3_readKind_90
    · have h := h.2 c7
      refine j_aload_n X rfl 0 rfl dX3_readKind_65 ?_
      refine j_iload_n X rfl 1 rfl dX3_readKind_66 ?_
      refine j_aload_n X rfl 0 rfl dX3_readKind_67 ?_
      refine jgC_reader_at X i_X3_readKind_X3 (by decide +kernel) dX3_readKind_68 ?_
      refine j_iload_n X rfl 2 rfl dX3_readKind_71 ?_
      refine j_Sr (st := [.int (S.1 15), .int a1, .ref (q 3)]) X [.int a2] (c_X3_wordOf l D i A q a2 S _ h) (va_cwS 1 X.ts gX3_readKind_X3_wordOf rfl rfl rfl (by decide +kernel) ⟨Nat.le_of_ble_eq_true rfl, Nat.le_of_ble_eq_true rfl⟩) rfl rfl (Nat.le_of_ble_eq_true rfl) dX3_readKind_72 (fun S8 h => ?_)
      refine j_Vi (st := []) X [.int a1, .int (S.1 15), .ref (D.2 100 (kix a2))] 3 (c_X3_isWord l D i q A (kix a2) (kix_lt _) a1 (S.1 15) S8 _ h) (cwV 3 X.ts gX3_readKind_X3_isWord rfl rfl rfl (by decide +kernel) ⟨Nat.le_of_ble_eq_true rfl, Nat.le_of_ble_eq_true rfl⟩) rfl rfl rfl rfl (Nat.le_of_ble_eq_true rfl) dX3_readKind_75 (fun r10 S9 h => ?_)
      refine j_if_eq (tgt := 83) X dX3_readKind_78 (by decide) (fun c11 => ?_) (fun c11 => ?_)
      · have h := h.1 c11
        refine j_iinc (dv := (1 : Int32)) (lv' := fun v12 => [(2, .int v12), (0, .ref (q 3)), (1, .int a1)]) X dX3_readKind_83 (pl := 2) rfl (by decide) (by decide) (fun _ => rfl) (fun v12 ev12 => ?_)
        have h := h v12 ev12
        refine j_goto (tgt := 59) X dX3_readKind_86 (by decide) ?_
        refine j_loc [1, 2, 0] rfl ?_
        exact ih a1 v12 S9 h
      · have h := h.2 c11
        refine j_iload_n X rfl 2 rfl dX3_readKind_81 ?_
        exact j_iret X h dX3_readKind_82
set_option maxRecDepth 100000 in
set_option maxHeartbeats 4000000 in
theorem w_X3_readKind_5 {D : va_G} {i : Nat → ClassId} {q : Nat → Nat} {A : Nat → Prop} {p : Program} {l : Launch} {e : Env} {s : State} {m : MethodId} {args : Array Value} {below : List Frame} {meth : Method} {c : Code} (X : cX D i A p s m args meth c cX3_readKind RX3 3 wsX3_readKind (some .int)) {Q : Int32 → vS → Prop} : ∀ (n : Nat) (a1 : Int32) (S : vS), e_X3_readKind_5 Q n a1 S → cJ D A p l e (headSpec wsX3_readKind rm_X3_readKind).room s m args below meth c (MQ below (va_Qi Q (vB D i A (wC q i)) A) args s 0 0 A) 3 (wC q i S) [(0, .ref (q 3)), (1, .int a1)] 5 [] := by
  intro n
  induction n with
  | zero =>
    intro _ S h
    rw [e_X3_readKind_5.eq_1] at h
    exact h.elim
  | succ n ih =>
    intro a1 S h
    rw [e_X3_readKind_5.eq_2] at h
    refine j_aload_n X rfl 0 rfl dX3_readKind_5 ?_
    refine jgC_reader_at X i_X3_readKind_X3 (by decide +kernel) dX3_readKind_6 ?_
    refine j_aload_n X rfl 0 rfl dX3_readKind_9 ?_
    refine jgC_reader_length X i_X3_readKind_X3 (by decide +kernel) dX3_readKind_10 ?_
    refine j_icmp_ge (tgt := 57) X dX3_readKind_13 (by decide) (fun c2 => ?_) (fun c2 => ?_)
    · have h := h.1 c2
      refine j_iconst (v := (0 : Int32)) X (by decide) dX3_readKind_57 ?_
      refine j_istore_n (lv' := [(2, .int (0 : Int32)), (0, .ref (q 3)), (1, .int a1)]) X rfl (by decide) rfl dX3_readKind_58 ?_
      refine j_loc [1, 2, 0] rfl ?_
      obtain ⟨j, h⟩ := h
      exact w_X3_readKind_59 X j a1 (0 : Int32) S h
    · have h := h.2 c2
      refine j_aload_n X rfl 0 rfl dX3_readKind_16 ?_
      refine jgC_reader_bytes X i_X3_readKind_X3 (by decide +kernel) dX3_readKind_17 ?_
      refine j_aload_n X rfl 0 rfl dX3_readKind_20 ?_
      refine jgC_reader_at X i_X3_readKind_X3 (by decide +kernel) dX3_readKind_21 ?_
      obtain ⟨k3, h⟩ := h
      refine jlC_reader_bytes X k3 dX3_readKind_24 ?_
      refine j_bipush (v := (97 : Int32)) X (by decide) dX3_readKind_25 ?_
      refine j_icmp_lt (tgt := 57) X dX3_readKind_27 (by decide) (fun c4 => ?_) (fun c4 => ?_)
      · have h := h.1 c4
        refine j_iconst (v := (0 : Int32)) X (by decide) dX3_readKind_57 ?_
        refine j_istore_n (lv' := [(2, .int (0 : Int32)), (0, .ref (q 3)), (1, .int a1)]) X rfl (by decide) rfl dX3_readKind_58 ?_
        refine j_loc [1, 2, 0] rfl ?_
        obtain ⟨j, h⟩ := h
        exact w_X3_readKind_59 X j a1 (0 : Int32) S h
      · have h := h.2 c4
        refine j_aload_n X rfl 0 rfl dX3_readKind_30 ?_
        refine jgC_reader_bytes X i_X3_readKind_X3 (by decide +kernel) dX3_readKind_31 ?_
        refine j_aload_n X rfl 0 rfl dX3_readKind_34 ?_
        refine jgC_reader_at X i_X3_readKind_X3 (by decide +kernel) dX3_readKind_35 ?_
        refine jlC_reader_bytes X k3 dX3_readKind_38 ?_
        refine j_bipush (v := (122 : Int32)) X (by decide) dX3_readKind_39 ?_
        refine j_icmp_gt (tgt := 57) X dX3_readKind_41 (by decide) (fun c5 => ?_) (fun c5 => ?_)
        · have h := h.1 c5
          refine j_iconst (v := (0 : Int32)) X (by decide) dX3_readKind_57 ?_
          refine j_istore_n (lv' := [(2, .int (0 : Int32)), (0, .ref (q 3)), (1, .int a1)]) X rfl (by decide) rfl dX3_readKind_58 ?_
          refine j_loc [1, 2, 0] rfl ?_
          obtain ⟨j, h⟩ := h
          exact w_X3_readKind_59 X j a1 (0 : Int32) S h
        · have h := h.2 c5
          refine j_aload_n X rfl 0 rfl dX3_readKind_44 ?_
          refine j_dup X rfl dX3_readKind_45 ?_
          refine jgC_reader_at X i_X3_readKind_X3 (by decide +kernel) dX3_readKind_46 ?_
          refine j_iconst (v := (1 : Int32)) X (by decide) dX3_readKind_49 ?_
          refine j_iadd X dX3_readKind_50 ?_
          refine jpC_reader_at X i_X3_readKind_X3 (by decide +kernel) dX3_readKind_51 (fun S6 eS6 => ?_)
          have h := h S6 eS6
          refine j_goto (tgt := 5) X dX3_readKind_54 (by decide) ?_
          exact ih a1 S6 h
set_option maxRecDepth 100000 in
set_option maxHeartbeats 4000000 in
theorem c_X3_readKind (l : Launch) (D : va_G) (i : Nat → ClassId) (q : Nat → Nat) (A : Nat → Prop) (S : vS) (Q : Int32 → vS → Prop) (h : e_X3_readKind S Q) : Met l yX3_readKind wsX3_readKind rm_X3_readKind (va_Pc [.ref (q 3)] (vB D i A (wC q i) S)) (va_Qi Q (vB D i A (wC q i)) A) 0 0 A := by
  refine m_ofJ (own := RX3) (lv := [(0, .ref (q 3))]) rfl (by decide) rfl (Nat.le_of_ble_eq_true rfl) rfl ?_
  intro p e s m below meth c X
  unfold e_X3_readKind at h
  refine j_aload_n X rfl 0 rfl dX3_readKind_0 ?_
  refine jgC_reader_at X i_X3_readKind_X3 (by decide +kernel) dX3_readKind_1 ?_
  refine j_topi (fun v1 ev1 => ?_)
  have h := h v1 ev1
  refine j_istore_n (lv' := [(1, .int v1), (0, .ref (q 3))]) X rfl (by decide) rfl dX3_readKind_4 ?_
  refine j_loc [1, 0] rfl ?_
  obtain ⟨j, h⟩ := h
  exact w_X3_readKind_5 X j v1 S h
set_option maxRecDepth 100000 in
theorem i_X3_fail_X3 : ∀ w ∈ u_ws RX3 TX3 9, w ∈ wsX3_fail := by decide +kernel
abbrev rm_X3_fail : Room := { frames := 0, cells := 0, slots := 0, locals := 0 }
set_option maxRecDepth 100000 in
set_option maxHeartbeats 4000000 in
theorem c_X3_fail (l : Launch) (D : va_G) (i : Nat → ClassId) (q : Nat → Nat) (A : Nat → Prop) (x1 : Int32) (x2 : Int32) (S : vS) (Q : vS → Prop) (h : e_X3_fail x1 x2 S Q) : Met l yX3_fail wsX3_fail rm_X3_fail (va_Pc [.ref (q 3), .int x1, .int x2] (vB D i A (wC q i) S)) (va_Qv Q (vB D i A (wC q i)) A) 0 0 A := by
  refine m_ofJ (own := RX3) (lv := [(0, .ref (q 3)), (1, .int x1), (2, .int x2)]) rfl (by decide) rfl (Nat.le_of_ble_eq_true rfl) rfl ?_
  intro p e s m below meth c X
  unfold e_X3_fail at h
  refine j_aload_n X rfl 0 rfl dX3_fail_0 ?_
  refine j_iload_n X rfl 1 rfl dX3_fail_1 ?_
  refine jpC_reader_faultKind X i_X3_fail_X3 (by decide +kernel) dX3_fail_2 (fun S1 eS1 => ?_)
  have h := h S1 eS1
  refine j_aload_n X rfl 0 rfl dX3_fail_5 ?_
  refine j_iload_n X rfl 2 rfl dX3_fail_6 ?_
  refine jpC_reader_faultAt X i_X3_fail_X3 (by decide +kernel) dX3_fail_7 (fun S2 eS2 => ?_)
  have h := h S2 eS2
  exact j_vret X h dX3_fail_10
abbrev rm_X3_timesOf : Room := { frames := 0, cells := 0, slots := 0, locals := 0 }
set_option maxRecDepth 100000 in
set_option maxHeartbeats 4000000 in
theorem c_X3_timesOf (l : Launch) (D : va_G) (i : Nat → ClassId) (q : Nat → Nat) (A : Nat → Prop) (x0 : Int32) (S : vS) (Q : Int32 → vS → Prop) (h : e_X3_timesOf x0 S Q) : Met l yX3_timesOf wsX3_timesOf rm_X3_timesOf (va_Pc [.int x0] (vB D i A (wC q i) S)) (va_Qi Q (vB D i A (wC q i)) A) 0 0 A := by
  refine m_ofJ (own := RX3) (lv := [(0, .int x0)]) rfl (by decide) rfl (Nat.le_of_ble_eq_true rfl) rfl ?_
  intro p e s m below meth c X
  unfold e_X3_timesOf at h
  refine j_iload_n X rfl 0 rfl dX3_timesOf_0 ?_
  rcases (show (x0.toInt < 1 ∨ 4 < x0.toInt) ∨ x0.toInt = 1 ∨ x0.toInt = 2 ∨ x0.toInt = 3 ∨ x0.toInt = 4 by omega) with c1 | c1 | c1 | c1 | c1
  · have h := h.1 c1
    refine j_tabOut (tgt := 41) X dX3_timesOf_1 c1 (by decide) ?_
    refine j_iconst (v := (1 : Int32)) X (by decide) dX3_timesOf_41 ?_
    exact j_iret X h dX3_timesOf_42
  · have h := h.2.1 c1
    refine j_tabIn (tgt := 32) X dX3_timesOf_1 c1 (by decide) (by decide) rfl (by decide) ?_
    refine j_bipush (v := (6 : Int32)) X (by decide) dX3_timesOf_32 ?_
    exact j_iret X h dX3_timesOf_34
  · have h := h.2.2.1 c1
    refine j_tabIn (tgt := 35) X dX3_timesOf_1 c1 (by decide) (by decide) rfl (by decide) ?_
    refine j_bipush (v := (30 : Int32)) X (by decide) dX3_timesOf_35 ?_
    exact j_iret X h dX3_timesOf_37
  · have h := h.2.2.2.1 c1
    refine j_tabIn (tgt := 35) X dX3_timesOf_1 c1 (by decide) (by decide) rfl (by decide) ?_
    refine j_bipush (v := (30 : Int32)) X (by decide) dX3_timesOf_35 ?_
    exact j_iret X h dX3_timesOf_37
  · have h := h.2.2.2.2 c1
    refine j_tabIn (tgt := 38) X dX3_timesOf_1 c1 (by decide) (by decide) rfl (by decide) ?_
    refine j_bipush (v := (10 : Int32)) X (by decide) dX3_timesOf_38 ?_
    exact j_iret X h dX3_timesOf_40
abbrev rm_X3_partsOf : Room := { frames := 0, cells := 0, slots := 0, locals := 0 }
set_option maxRecDepth 100000 in
set_option maxHeartbeats 4000000 in
theorem c_X3_partsOf (l : Launch) (D : va_G) (i : Nat → ClassId) (q : Nat → Nat) (A : Nat → Prop) (x0 : Int32) (S : vS) (Q : Int32 → vS → Prop) (h : e_X3_partsOf x0 S Q) : Met l yX3_partsOf wsX3_partsOf rm_X3_partsOf (va_Pc [.int x0] (vB D i A (wC q i) S)) (va_Qi Q (vB D i A (wC q i)) A) 0 0 A := by
  refine m_ofJ (own := RX3) (lv := [(0, .int x0)]) rfl (by decide) rfl (Nat.le_of_ble_eq_true rfl) rfl ?_
  intro p e s m below meth c X
  unfold e_X3_partsOf at h
  refine j_iload_n X rfl 0 rfl dX3_partsOf_0 ?_
  refine j_if_eq (tgt := 9) X dX3_partsOf_1 (by decide) (fun c1 => ?_) (fun c1 => ?_)
  · have h := h.1 c1
    refine j_iconst (v := (2 : Int32)) X (by decide) dX3_partsOf_9 ?_
    refine j_goto (tgt := 14) X dX3_partsOf_10 (by decide) ?_
    exact j_iret X h dX3_partsOf_14
  · have h := h.2 c1
    refine j_iload_n X rfl 0 rfl dX3_partsOf_4 ?_
    refine j_iconst (v := (5 : Int32)) X (by decide) dX3_partsOf_5 ?_
    refine j_icmp_ne (tgt := 13) X dX3_partsOf_6 (by decide) (fun c2 => ?_) (fun c2 => ?_)
    · have h := h.1 c2
      refine j_iconst (v := (3 : Int32)) X (by decide) dX3_partsOf_13 ?_
      exact j_iret X h dX3_partsOf_14
    · have h := h.2 c2
      refine j_iconst (v := (2 : Int32)) X (by decide) dX3_partsOf_9 ?_
      refine j_goto (tgt := 14) X dX3_partsOf_10 (by decide) ?_
      exact j_iret X h dX3_partsOf_14
abbrev rm_X3_leastOf : Room := { frames := 0, cells := 0, slots := 0, locals := 0 }
set_option maxRecDepth 100000 in
set_option maxHeartbeats 4000000 in
theorem w_X3_leastOf_34 {D : va_G} {i : Nat → ClassId} {q : Nat → Nat} {A : Nat → Prop} {p : Program} {l : Launch} {e : Env} {s : State} {m : MethodId} {args : Array Value} {below : List Frame} {meth : Method} {c : Code} (X : cX D i A p s m args meth c cX3_leastOf RX3 4 wsX3_leastOf (some .int)) {Q : Int32 → vS → Prop} : ∀ (a2 : Int32) (t0 : Int32) (S : vS), e_X3_leastOf_34 Q a2 t0 S → cJ D A p l e (headSpec wsX3_leastOf rm_X3_leastOf).room s m args below meth c (MQ below (va_Qi Q (vB D i A (wC q i)) A) args s 0 0 A) 4 (wC q i S) [(2, .int a2)] 34 [.int t0] := by
  intro a2 t0 S h
  unfold e_X3_leastOf_34 at h
  refine j_istore_n (lv' := [(3, .int t0), (2, .int a2)]) X rfl (by decide) rfl dX3_leastOf_34 ?_
  refine j_iload_n X rfl 1 rfl dX3_leastOf_35 ?_
  refine j_if_ne (tgt := 43) X dX3_leastOf_36 (by decide) (fun c6 => ?_) (fun c6 => ?_)
  · have h := h.1 c6
    refine j_iconst (v := (1 : Int32)) X (by decide) dX3_leastOf_43 ?_
    refine j_goto (tgt := 48) X dX3_leastOf_44 (by decide) ?_
    exact j_iret X h dX3_leastOf_48
  · have h := h.2 c6
    refine j_iload_n X rfl 0 rfl dX3_leastOf_39 ?_
    refine j_if_eq (tgt := 47) X dX3_leastOf_40 (by decide) (fun c7 => ?_) (fun c7 => ?_)
    · have h := h.1 c7
      refine j_iconst (v := (0 : Int32)) X (by decide) dX3_leastOf_47 ?_
      exact j_iret X h dX3_leastOf_48
    · have h := h.2 c7
      refine j_iconst (v := (1 : Int32)) X (by decide) dX3_leastOf_43 ?_
      refine j_goto (tgt := 48) X dX3_leastOf_44 (by decide) ?_
      exact j_iret X h dX3_leastOf_48
set_option maxRecDepth 100000 in
set_option maxHeartbeats 4000000 in
theorem w_X3_leastOf_20 {D : va_G} {i : Nat → ClassId} {q : Nat → Nat} {A : Nat → Prop} {p : Program} {l : Launch} {e : Env} {s : State} {m : MethodId} {args : Array Value} {below : List Frame} {meth : Method} {c : Code} (X : cX D i A p s m args meth c cX3_leastOf RX3 4 wsX3_leastOf (some .int)) {Q : Int32 → vS → Prop} : ∀ (a0 : Int32) (a1 : Int32) (a2 : Int32) (S : vS), e_X3_leastOf_20 Q a0 a1 a2 S → cJ D A p l e (headSpec wsX3_leastOf rm_X3_leastOf).room s m args below meth c (MQ below (va_Qi Q (vB D i A (wC q i)) A) args s 0 0 A) 4 (wC q i S) [(0, .int a0), (1, .int a1), (2, .int a2)] 20 [] := by
  intro a0 a1 a2 S h
  unfold e_X3_leastOf_20 at h
  refine j_iload_n X rfl 0 rfl dX3_leastOf_20 ?_
  refine j_iconst (v := (5 : Int32)) X (by decide) dX3_leastOf_21 ?_
  refine j_icmp_ne (tgt := 33) X dX3_leastOf_22 (by decide) (fun c4 => ?_) (fun c4 => ?_)
  · have h := h.1 c4
    refine j_iconst (v := (0 : Int32)) X (by decide) dX3_leastOf_33 ?_
    refine j_loc [2] rfl ?_
    exact w_X3_leastOf_34 X a2 (0 : Int32) S h
  · have h := h.2 c4
    refine j_iload_n X rfl 1 rfl dX3_leastOf_25 ?_
    refine j_if_ne (tgt := 33) X dX3_leastOf_26 (by decide) (fun c5 => ?_) (fun c5 => ?_)
    · have h := h.1 c5
      refine j_iconst (v := (0 : Int32)) X (by decide) dX3_leastOf_33 ?_
      refine j_loc [2] rfl ?_
      exact w_X3_leastOf_34 X a2 (0 : Int32) S h
    · have h := h.2 c5
      refine j_iconst (v := (1 : Int32)) X (by decide) dX3_leastOf_29 ?_
      refine j_goto (tgt := 34) X dX3_leastOf_30 (by decide) ?_
      refine j_loc [2] rfl ?_
      exact w_X3_leastOf_34 X a2 (1 : Int32) S h
set_option maxRecDepth 100000 in
set_option maxHeartbeats 4000000 in
theorem w_X3_leastOf_9 {D : va_G} {i : Nat → ClassId} {q : Nat → Nat} {A : Nat → Prop} {p : Program} {l : Launch} {e : Env} {s : State} {m : MethodId} {args : Array Value} {below : List Frame} {meth : Method} {c : Code} (X : cX D i A p s m args meth c cX3_leastOf RX3 4 wsX3_leastOf (some .int)) {Q : Int32 → vS → Prop} : ∀ (a0 : Int32) (a1 : Int32) (t0 : Int32) (S : vS), e_X3_leastOf_9 Q a0 a1 t0 S → cJ D A p l e (headSpec wsX3_leastOf rm_X3_leastOf).room s m args below meth c (MQ below (va_Qi Q (vB D i A (wC q i)) A) args s 0 0 A) 4 (wC q i S) [(0, .int a0), (1, .int a1)] 9 [.int t0] := by
  intro a0 a1 t0 S h
  unfold e_X3_leastOf_9 at h
  refine j_istore_n (lv' := [(2, .int t0), (0, .int a0), (1, .int a1)]) X rfl (by decide) rfl dX3_leastOf_9 ?_
  refine j_iload_n X rfl 1 rfl dX3_leastOf_10 ?_
  refine j_iconst (v := (2 : Int32)) X (by decide) dX3_leastOf_11 ?_
  refine j_icmp_ne (tgt := 20) X dX3_leastOf_12 (by decide) (fun c2 => ?_) (fun c2 => ?_)
  · have h := h.1 c2
    refine j_loc [1, 2, 0] rfl ?_
    exact w_X3_leastOf_20 X a0 a1 t0 S h
  · have h := h.2 c2
    refine j_iload_n X rfl 2 rfl dX3_leastOf_15 ?_
    refine j_iconst (v := (2 : Int32)) X (by decide) dX3_leastOf_16 ?_
    refine j_icmp_eq (tgt := 29) X dX3_leastOf_17 (by decide) (fun c3 => ?_) (fun c3 => ?_)
    · have h := h.1 c3
      refine j_iconst (v := (1 : Int32)) X (by decide) dX3_leastOf_29 ?_
      refine j_goto (tgt := 34) X dX3_leastOf_30 (by decide) ?_
      refine j_loc [0] rfl ?_
      exact w_X3_leastOf_34 X t0 (1 : Int32) S h
    · have h := h.2 c3
      refine j_loc [1, 2, 0] rfl ?_
      exact w_X3_leastOf_20 X a0 a1 t0 S h
set_option maxRecDepth 100000 in
set_option maxHeartbeats 4000000 in
theorem c_X3_leastOf (l : Launch) (D : va_G) (i : Nat → ClassId) (q : Nat → Nat) (A : Nat → Prop) (x0 : Int32) (x1 : Int32) (S : vS) (Q : Int32 → vS → Prop) (h : e_X3_leastOf x0 x1 S Q) : Met l yX3_leastOf wsX3_leastOf rm_X3_leastOf (va_Pc [.int x0, .int x1] (vB D i A (wC q i) S)) (va_Qi Q (vB D i A (wC q i)) A) 0 0 A := by
  refine m_ofJ (own := RX3) (lv := [(0, .int x0), (1, .int x1)]) rfl (by decide) rfl (Nat.le_of_ble_eq_true rfl) rfl ?_
  intro p e s m below meth c X
  unfold e_X3_leastOf at h
  refine j_iload_n X rfl 0 rfl dX3_leastOf_0 ?_
  refine j_if_ne (tgt := 8) X dX3_leastOf_1 (by decide) (fun c1 => ?_) (fun c1 => ?_)
  · have h := h.1 c1
    refine j_iconst (v := (0 : Int32)) X (by decide) dX3_leastOf_8 ?_
    exact w_X3_leastOf_9 X x0 x1 (0 : Int32) S h
  · have h := h.2 c1
    refine j_iconst (v := (1 : Int32)) X (by decide) dX3_leastOf_4 ?_
    refine j_goto (tgt := 9) X dX3_leastOf_5 (by decide) ?_
    exact w_X3_leastOf_9 X x0 x1 (1 : Int32) S h
set_option maxRecDepth 100000 in
theorem i_X3_mostOf_X2 : ∀ w ∈ u_ws RX2 TX2 14, w ∈ wsX3_mostOf := by decide +kernel
set_option maxRecDepth 100000 in
theorem i_X3_mostOf_X3 : ∀ w ∈ u_ws RX3 TX3 9, w ∈ wsX3_mostOf := by decide +kernel
abbrev rm_X3_mostOf : Room := { frames := 1, cells := 0, slots := 0, locals := 21 }
set_option maxRecDepth 100000 in
set_option maxHeartbeats 4000000 in
theorem c_X3_mostOf (l : Launch) (D : va_G) (i : Nat → ClassId) (q : Nat → Nat) (A : Nat → Prop) (x1 : Int32) (x2 : Int32) (S : vS) (Q : Int32 → vS → Prop) (h : e_X3_mostOf x1 x2 S Q) : Met l yX3_mostOf wsX3_mostOf rm_X3_mostOf (va_Pc [.ref (q 3), .int x1, .int x2] (vB D i A (wC q i) S)) (va_Qi Q (vB D i A (wC q i)) A) 0 0 A := by
  refine m_ofJ (own := RX3) (lv := [(0, .ref (q 3)), (1, .int x1), (2, .int x2)]) rfl (by decide) rfl (Nat.le_of_ble_eq_true rfl) rfl ?_
  intro p e s m below meth c X
  unfold e_X3_mostOf at h
  refine j_iload_n X rfl 1 rfl dX3_mostOf_0 ?_
  rcases (show (x1.toInt < 0 ∨ 5 < x1.toInt) ∨ x1.toInt = 0 ∨ x1.toInt = 1 ∨ x1.toInt = 2 ∨ x1.toInt = 3 ∨ x1.toInt = 4 ∨ x1.toInt = 5 by omega) with c1 | c1 | c1 | c1 | c1 | c1 | c1
  · have h := h.1 c1
    refine j_tabOut (tgt := 124) X dX3_mostOf_1 c1 (by decide) ?_
    refine j_iload_n X rfl 2 rfl dX3_mostOf_124 ?_
    refine j_if_ne (tgt := 140) X dX3_mostOf_125 (by decide) (fun c2 => ?_) (fun c2 => ?_)
    · have h := h.1 c2
      refine j_iload_n X rfl 2 rfl dX3_mostOf_140 ?_
      refine j_iconst (v := (1 : Int32)) X (by decide) dX3_mostOf_141 ?_
      refine j_icmp_ne (tgt := 157) X dX3_mostOf_142 (by decide) (fun c3 => ?_) (fun c3 => ?_)
      · have h := h.1 c3
        refine j_bipush (v := (99 : Int32)) X (by decide) dX3_mostOf_157 ?_
        exact j_iret X h dX3_mostOf_159
      · have h := h.2 c3
        refine j_aload_n X rfl 0 rfl dX3_mostOf_145 ?_
        refine jgC_reader_draft X i_X3_mostOf_X3 (by decide +kernel) dX3_mostOf_146 ?_
        refine jgC_draft_height X i_X3_mostOf_X2 (by decide +kernel) dX3_mostOf_149 ?_
        refine j_iconst (v := (1 : Int32)) X (by decide) dX3_mostOf_152 ?_
        refine j_isub X dX3_mostOf_153 ?_
        refine j_goto (tgt := 159) X dX3_mostOf_154 (by decide) ?_
        exact j_iret X h dX3_mostOf_159
    · have h := h.2 c2
      refine j_aload_n X rfl 0 rfl dX3_mostOf_128 ?_
      refine jgC_reader_draft X i_X3_mostOf_X3 (by decide +kernel) dX3_mostOf_129 ?_
      refine jgC_draft_width X i_X3_mostOf_X2 (by decide +kernel) dX3_mostOf_132 ?_
      refine j_iconst (v := (1 : Int32)) X (by decide) dX3_mostOf_135 ?_
      refine j_isub X dX3_mostOf_136 ?_
      refine j_goto (tgt := 159) X dX3_mostOf_137 (by decide) ?_
      exact j_iret X h dX3_mostOf_159
  · have h := h.2.1 c1
    refine j_tabIn (tgt := 40) X dX3_mostOf_1 c1 (by decide) (by decide) rfl (by decide) ?_
    refine j_iload_n X rfl 2 rfl dX3_mostOf_40 ?_
    refine j_if_ne (tgt := 49) X dX3_mostOf_41 (by decide) (fun c4 => ?_) (fun c4 => ?_)
    · have h := h.1 c4
      refine j_bipush (v := (12 : Int32)) X (by decide) dX3_mostOf_49 ?_
      refine j_bipush (v := (60 : Int32)) X (by decide) dX3_mostOf_51 ?_
      refine j_iconst (v := (1 : Int32)) X (by decide) dX3_mostOf_53 ?_
      refine j_aload_n X rfl 0 rfl dX3_mostOf_54 ?_
      refine jgC_reader_numbers X i_X3_mostOf_X3 (by decide +kernel) dX3_mostOf_55 ?_
      refine j_iconst (v := (0 : Int32)) X (by decide) dX3_mostOf_58 ?_
      refine jlC_reader_numbers X (by unfold vp_in; decide) dX3_mostOf_59 ?_
      refine j_mmax X (by decide +kernel) (Nat.le_of_ble_eq_true rfl) (Nat.le_of_ble_eq_true rfl) dX3_mostOf_60 ?_
      obtain ⟨k5, h⟩ := h
      refine j_idiv X k5 dX3_mostOf_63 ?_
      refine j_mmin X (by decide +kernel) (Nat.le_of_ble_eq_true rfl) (Nat.le_of_ble_eq_true rfl) dX3_mostOf_64 ?_
      exact j_iret X h dX3_mostOf_67
    · have h := h.2 c4
      refine j_bipush (v := (12 : Int32)) X (by decide) dX3_mostOf_44 ?_
      refine j_goto (tgt := 67) X dX3_mostOf_46 (by decide) ?_
      exact j_iret X h dX3_mostOf_67
  · have h := h.2.2.1 c1
    refine j_tabIn (tgt := 68) X dX3_mostOf_1 c1 (by decide) (by decide) rfl (by decide) ?_
    refine j_iload_n X rfl 2 rfl dX3_mostOf_68 ?_
    refine j_if_ne (tgt := 84) X dX3_mostOf_69 (by decide) (fun c6 => ?_) (fun c6 => ?_)
    · have h := h.1 c6
      refine j_iload_n X rfl 2 rfl dX3_mostOf_84 ?_
      refine j_iconst (v := (1 : Int32)) X (by decide) dX3_mostOf_85 ?_
      refine j_icmp_ne (tgt := 94) X dX3_mostOf_86 (by decide) (fun c7 => ?_) (fun c7 => ?_)
      · have h := h.1 c7
        refine j_bipush (v := (9 : Int32)) X (by decide) dX3_mostOf_94 ?_
        exact j_iret X h dX3_mostOf_96
      · have h := h.2 c7
        refine j_bipush (v := (99 : Int32)) X (by decide) dX3_mostOf_89 ?_
        refine j_goto (tgt := 96) X dX3_mostOf_91 (by decide) ?_
        exact j_iret X h dX3_mostOf_96
    · have h := h.2 c6
      refine j_aload_n X rfl 0 rfl dX3_mostOf_72 ?_
      refine jgC_reader_draft X i_X3_mostOf_X3 (by decide +kernel) dX3_mostOf_73 ?_
      refine jgC_draft_width X i_X3_mostOf_X2 (by decide +kernel) dX3_mostOf_76 ?_
      refine j_iconst (v := (1 : Int32)) X (by decide) dX3_mostOf_79 ?_
      refine j_isub X dX3_mostOf_80 ?_
      refine j_goto (tgt := 96) X dX3_mostOf_81 (by decide) ?_
      exact j_iret X h dX3_mostOf_96
  · have h := h.2.2.2.1 c1
    refine j_tabIn (tgt := 124) X dX3_mostOf_1 c1 (by decide) (by decide) rfl (by decide) ?_
    refine j_iload_n X rfl 2 rfl dX3_mostOf_124 ?_
    refine j_if_ne (tgt := 140) X dX3_mostOf_125 (by decide) (fun c8 => ?_) (fun c8 => ?_)
    · have h := h.1 c8
      refine j_iload_n X rfl 2 rfl dX3_mostOf_140 ?_
      refine j_iconst (v := (1 : Int32)) X (by decide) dX3_mostOf_141 ?_
      refine j_icmp_ne (tgt := 157) X dX3_mostOf_142 (by decide) (fun c9 => ?_) (fun c9 => ?_)
      · have h := h.1 c9
        refine j_bipush (v := (99 : Int32)) X (by decide) dX3_mostOf_157 ?_
        exact j_iret X h dX3_mostOf_159
      · have h := h.2 c9
        refine j_aload_n X rfl 0 rfl dX3_mostOf_145 ?_
        refine jgC_reader_draft X i_X3_mostOf_X3 (by decide +kernel) dX3_mostOf_146 ?_
        refine jgC_draft_height X i_X3_mostOf_X2 (by decide +kernel) dX3_mostOf_149 ?_
        refine j_iconst (v := (1 : Int32)) X (by decide) dX3_mostOf_152 ?_
        refine j_isub X dX3_mostOf_153 ?_
        refine j_goto (tgt := 159) X dX3_mostOf_154 (by decide) ?_
        exact j_iret X h dX3_mostOf_159
    · have h := h.2 c8
      refine j_aload_n X rfl 0 rfl dX3_mostOf_128 ?_
      refine jgC_reader_draft X i_X3_mostOf_X3 (by decide +kernel) dX3_mostOf_129 ?_
      refine jgC_draft_width X i_X3_mostOf_X2 (by decide +kernel) dX3_mostOf_132 ?_
      refine j_iconst (v := (1 : Int32)) X (by decide) dX3_mostOf_135 ?_
      refine j_isub X dX3_mostOf_136 ?_
      refine j_goto (tgt := 159) X dX3_mostOf_137 (by decide) ?_
      exact j_iret X h dX3_mostOf_159
  · have h := h.2.2.2.2.1 c1
    refine j_tabIn (tgt := 124) X dX3_mostOf_1 c1 (by decide) (by decide) rfl (by decide) ?_
    refine j_iload_n X rfl 2 rfl dX3_mostOf_124 ?_
    refine j_if_ne (tgt := 140) X dX3_mostOf_125 (by decide) (fun c10 => ?_) (fun c10 => ?_)
    · have h := h.1 c10
      refine j_iload_n X rfl 2 rfl dX3_mostOf_140 ?_
      refine j_iconst (v := (1 : Int32)) X (by decide) dX3_mostOf_141 ?_
      refine j_icmp_ne (tgt := 157) X dX3_mostOf_142 (by decide) (fun c11 => ?_) (fun c11 => ?_)
      · have h := h.1 c11
        refine j_bipush (v := (99 : Int32)) X (by decide) dX3_mostOf_157 ?_
        exact j_iret X h dX3_mostOf_159
      · have h := h.2 c11
        refine j_aload_n X rfl 0 rfl dX3_mostOf_145 ?_
        refine jgC_reader_draft X i_X3_mostOf_X3 (by decide +kernel) dX3_mostOf_146 ?_
        refine jgC_draft_height X i_X3_mostOf_X2 (by decide +kernel) dX3_mostOf_149 ?_
        refine j_iconst (v := (1 : Int32)) X (by decide) dX3_mostOf_152 ?_
        refine j_isub X dX3_mostOf_153 ?_
        refine j_goto (tgt := 159) X dX3_mostOf_154 (by decide) ?_
        exact j_iret X h dX3_mostOf_159
    · have h := h.2 c10
      refine j_aload_n X rfl 0 rfl dX3_mostOf_128 ?_
      refine jgC_reader_draft X i_X3_mostOf_X3 (by decide +kernel) dX3_mostOf_129 ?_
      refine jgC_draft_width X i_X3_mostOf_X2 (by decide +kernel) dX3_mostOf_132 ?_
      refine j_iconst (v := (1 : Int32)) X (by decide) dX3_mostOf_135 ?_
      refine j_isub X dX3_mostOf_136 ?_
      refine j_goto (tgt := 159) X dX3_mostOf_137 (by decide) ?_
      exact j_iret X h dX3_mostOf_159
  · have h := h.2.2.2.2.2.1 c1
    refine j_tabIn (tgt := 97) X dX3_mostOf_1 c1 (by decide) (by decide) rfl (by decide) ?_
    refine j_iload_n X rfl 2 rfl dX3_mostOf_97 ?_
    refine j_iconst (v := (2 : Int32)) X (by decide) dX3_mostOf_98 ?_
    refine j_icmp_ne (tgt := 107) X dX3_mostOf_99 (by decide) (fun c12 => ?_) (fun c12 => ?_)
    · have h := h.1 c12
      refine j_sipush (v := (999 : Int32)) X (by decide) dX3_mostOf_107 ?_
      exact j_iret X h dX3_mostOf_110
    · have h := h.2 c12
      refine j_bipush (v := (20 : Int32)) X (by decide) dX3_mostOf_102 ?_
      refine j_goto (tgt := 110) X dX3_mostOf_104 (by decide) ?_
      exact j_iret X h dX3_mostOf_110
  · have h := h.2.2.2.2.2.2 c1
    refine j_tabIn (tgt := 111) X dX3_mostOf_1 c1 (by decide) (by decide) rfl (by decide) ?_
    refine j_iload_n X rfl 2 rfl dX3_mostOf_111 ?_
    refine j_if_ne (tgt := 120) X dX3_mostOf_112 (by decide) (fun c13 => ?_) (fun c13 => ?_)
    · have h := h.1 c13
      refine j_sipush (v := (999 : Int32)) X (by decide) dX3_mostOf_120 ?_
      exact j_iret X h dX3_mostOf_123
    · have h := h.2 c13
      refine j_bipush (v := (20 : Int32)) X (by decide) dX3_mostOf_115 ?_
      refine j_goto (tgt := 123) X dX3_mostOf_117 (by decide) ?_
      exact j_iret X h dX3_mostOf_123
set_option maxRecDepth 100000 in
theorem i_X2_numberOf_draft_X2 : ∀ w ∈ u_ws RX2 TX2 14, w ∈ wsX2_numberOf := by decide +kernel
abbrev rm_X2_numberOf_draft : Room := { frames := 0, cells := 0, slots := 0, locals := 0 }
set_option maxRecDepth 100000 in
set_option maxHeartbeats 4000000 in
theorem c_X2_numberOf_draft (l : Launch) (D : va_G) (i : Nat → ClassId) (q : Nat → Nat) (A : Nat → Prop) (x1 : Int32) (x2 : Int32) (S : vS) (Q : Int32 → vS → Prop) (h : e_X2_numberOf_draft x1 x2 S Q) : Met l yX2_numberOf wsX2_numberOf rm_X2_numberOf_draft (va_Pc [.ref (q 2), .int x1, .int x2] (vB D i A (wC q i) S)) (va_Qi Q (vB D i A (wC q i)) A) 0 0 A := by
  refine m_ofJ (own := RX2) (lv := [(0, .ref (q 2)), (1, .int x1), (2, .int x2)]) rfl (by decide) rfl (Nat.le_of_ble_eq_true rfl) rfl ?_
  intro p e s m below meth c X
  unfold e_X2_numberOf_draft at h
  refine j_iload_n X rfl 2 rfl dX2_numberOf_0 ?_
  refine j_aload_n X rfl 0 rfl dX2_numberOf_1 ?_
  refine jgC_draft_width X i_X2_numberOf_draft_X2 (by decide +kernel) dX2_numberOf_2 ?_
  refine j_imul X dX2_numberOf_5 ?_
  refine j_iload_n X rfl 1 rfl dX2_numberOf_6 ?_
  refine j_iadd X dX2_numberOf_7 ?_
  exact j_iret X h dX2_numberOf_8
set_option maxRecDepth 100000 in
theorem i_X3_clashes_X2 : ∀ w ∈ u_ws RX2 TX2 14, w ∈ wsX3_clashes := by decide +kernel
set_option maxRecDepth 100000 in
theorem i_X3_clashes_X3 : ∀ w ∈ u_ws RX3 TX3 9, w ∈ wsX3_clashes := by decide +kernel
abbrev rm_X3_clashes : Room := { frames := 1, cells := 0, slots := 0, locals := 22 }
set_option maxRecDepth 100000 in
set_option maxHeartbeats 4000000 in
theorem c_X3_clashes (l : Launch) (D : va_G) (i : Nat → ClassId) (q : Nat → Nat) (A : Nat → Prop) (x1 : Int32) (x2 : Int32) (x3 : Int32) (S : vS) (Q : Int32 → vS → Prop) (h : e_X3_clashes x1 x2 x3 S Q) : Met l yX3_clashes wsX3_clashes rm_X3_clashes (va_Pc [.ref (q 3), .int x1, .int x2, .int x3] (vB D i A (wC q i) S)) (va_Qi Q (vB D i A (wC q i)) A) 0 0 A := by
  refine m_ofJ (own := RX3) (lv := [(0, .ref (q 3)), (1, .int x1), (2, .int x2), (3, .int x3)]) rfl (by decide) rfl (Nat.le_of_ble_eq_true rfl) rfl ?_
  intro p e s m below meth c X
  unfold e_X3_clashes at h
  refine j_iload_n X rfl 2 rfl dX3_clashes_0 ?_
  refine j_iconst (v := (1 : Int32)) X (by decide) dX3_clashes_1 ?_
  refine j_icmp_eq (tgt := 7) X dX3_clashes_2 (by decide) (fun c1 => ?_) (fun c1 => ?_)
  · have h := h.1 c1
    refine j_iload_n X rfl 1 rfl dX3_clashes_7 ?_
    rcases (show (x1.toInt < 2 ∨ 4 < x1.toInt) ∨ x1.toInt = 2 ∨ x1.toInt = 3 ∨ x1.toInt = 4 by omega) with c2 | c2 | c2 | c2
    · have h := h.1 c2
      refine j_tabOut (tgt := 103) X dX3_clashes_8 c2 (by decide) ?_
      refine j_iconst (v := (0 : Int32)) X (by decide) dX3_clashes_103 ?_
      exact j_zret X rfl h dX3_clashes_104
    · have h := h.2.1 c2
      refine j_tabIn (tgt := 36) X dX3_clashes_8 c2 (by decide) (by decide) rfl (by decide) ?_
      refine j_aload_n X rfl 0 rfl dX3_clashes_36 ?_
      refine jgC_reader_draft X i_X3_clashes_X3 (by decide +kernel) dX3_clashes_37 ?_
      refine jgC_draft_stands X i_X3_clashes_X2 (by decide +kernel) dX3_clashes_40 ?_
      refine j_aload_n X rfl 0 rfl dX3_clashes_43 ?_
      refine jgC_reader_draft X i_X3_clashes_X3 (by decide +kernel) dX3_clashes_44 ?_
      refine j_aload_n X rfl 0 rfl dX3_clashes_47 ?_
      refine jgC_reader_numbers X i_X3_clashes_X3 (by decide +kernel) dX3_clashes_48 ?_
      refine j_iconst (v := (0 : Int32)) X (by decide) dX3_clashes_51 ?_
      refine jlC_reader_numbers X (by unfold vp_in; decide) dX3_clashes_52 ?_
      refine j_iload_n X rfl 3 rfl dX3_clashes_53 ?_
      refine j_Vi (st := [.ref (q 22)]) X [.int (S.2.1 18 ((0 : Int32)).toNatClampNeg), .int x3] 2 (c_X2_numberOf_draft l D i q A (S.2.1 18 ((0 : Int32)).toNatClampNeg) x3 S _ h) (cwV 2 X.ts gX3_clashes_X2_numberOf rfl rfl rfl (by decide +kernel) ⟨Nat.le_of_ble_eq_true rfl, Nat.le_of_ble_eq_true rfl⟩) rfl rfl rfl rfl (Nat.le_of_ble_eq_true rfl) dX3_clashes_54 (fun r4 S3 h => ?_)
      obtain ⟨k5, h⟩ := h
      refine jlC_draft_stands X k5 dX3_clashes_57 ?_
      refine j_if_eq (tgt := 65) X dX3_clashes_58 (by decide) (fun c6 => ?_) (fun c6 => ?_)
      · have h := h.1 c6
        refine j_iconst (v := (0 : Int32)) X (by decide) dX3_clashes_65 ?_
        exact j_zret X rfl h dX3_clashes_66
      · have h := h.2 c6
        refine j_iconst (v := (1 : Int32)) X (by decide) dX3_clashes_61 ?_
        refine j_goto (tgt := 66) X dX3_clashes_62 (by decide) ?_
        exact j_zret X rfl h dX3_clashes_66
    · have h := h.2.2.1 c2
      refine j_tabIn (tgt := 67) X dX3_clashes_8 c2 (by decide) (by decide) rfl (by decide) ?_
      refine j_aload_n X rfl 0 rfl dX3_clashes_67 ?_
      refine jgC_reader_fishTold X i_X3_clashes_X3 (by decide +kernel) dX3_clashes_68 ?_
      refine j_aload_n X rfl 0 rfl dX3_clashes_71 ?_
      refine jgC_reader_draft X i_X3_clashes_X3 (by decide +kernel) dX3_clashes_72 ?_
      refine j_aload_n X rfl 0 rfl dX3_clashes_75 ?_
      refine jgC_reader_numbers X i_X3_clashes_X3 (by decide +kernel) dX3_clashes_76 ?_
      refine j_iconst (v := (0 : Int32)) X (by decide) dX3_clashes_79 ?_
      refine jlC_reader_numbers X (by unfold vp_in; decide) dX3_clashes_80 ?_
      refine j_iload_n X rfl 3 rfl dX3_clashes_81 ?_
      refine j_Vi (st := [.ref (q 30)]) X [.int (S.2.1 18 ((0 : Int32)).toNatClampNeg), .int x3] 2 (c_X2_numberOf_draft l D i q A (S.2.1 18 ((0 : Int32)).toNatClampNeg) x3 S _ h) (cwV 2 X.ts gX3_clashes_X2_numberOf rfl rfl rfl (by decide +kernel) ⟨Nat.le_of_ble_eq_true rfl, Nat.le_of_ble_eq_true rfl⟩) rfl rfl rfl rfl (Nat.le_of_ble_eq_true rfl) dX3_clashes_82 (fun r8 S7 h => ?_)
      obtain ⟨k9, h⟩ := h
      refine jlC_reader_fishTold X k9 dX3_clashes_85 ?_
      obtain ⟨kz, h⟩ := h
      exact j_zret X kz h dX3_clashes_86
    · have h := h.2.2.2 c2
      refine j_tabIn (tgt := 87) X dX3_clashes_8 c2 (by decide) (by decide) rfl (by decide) ?_
      refine j_iload_n X rfl 3 rfl dX3_clashes_87 ?_
      refine j_aload_n X rfl 0 rfl dX3_clashes_88 ?_
      refine jgC_reader_numbers X i_X3_clashes_X3 (by decide +kernel) dX3_clashes_89 ?_
      refine j_iconst (v := (0 : Int32)) X (by decide) dX3_clashes_92 ?_
      refine jlC_reader_numbers X (by unfold vp_in; decide) dX3_clashes_93 ?_
      refine j_icmp_ge (tgt := 101) X dX3_clashes_94 (by decide) (fun c10 => ?_) (fun c10 => ?_)
      · have h := h.1 c10
        refine j_iconst (v := (0 : Int32)) X (by decide) dX3_clashes_101 ?_
        exact j_zret X rfl h dX3_clashes_102
      · have h := h.2 c10
        refine j_iconst (v := (1 : Int32)) X (by decide) dX3_clashes_97 ?_
        refine j_goto (tgt := 102) X dX3_clashes_98 (by decide) ?_
        exact j_zret X rfl h dX3_clashes_102
  · have h := h.2 c1
    refine j_iconst (v := (0 : Int32)) X (by decide) dX3_clashes_5 ?_
    exact j_zret X rfl h dX3_clashes_6
set_option maxRecDepth 100000 in
theorem i_X3_readNumber_X3 : ∀ w ∈ u_ws RX3 TX3 9, w ∈ wsX3_readNumber := by decide +kernel
abbrev rm_X3_readNumber : Room := { frames := 2, cells := 0, slots := 0, locals := 45 }
set_option maxRecDepth 100000 in
set_option maxHeartbeats 4000000 in
theorem w_X3_readNumber_94 {D : va_G} {i : Nat → ClassId} {q : Nat → Nat} {A : Nat → Prop} {p : Program} {l : Launch} {e : Env} {s : State} {m : MethodId} {args : Array Value} {below : List Frame} {meth : Method} {c : Code} (X : cX D i A p s m args meth c cX3_readNumber RX3 5 wsX3_readNumber none) {Q : vS → Prop} : ∀ (a1 : Int32) (a2 : Int32) (a3 : Int32) (a4 : Int32) (S : vS), e_X3_readNumber_94 Q a1 a2 a3 a4 S → cJ D A p l e (headSpec wsX3_readNumber rm_X3_readNumber).room s m args below meth c (MQ below (va_Qv Q (vB D i A (wC q i)) A) args s 0 0 A) 5 (wC q i S) [(0, .ref (q 3)), (1, .int a1), (2, .int a2), (3, .int a3), (4, .int a4)] 94 [] := by
  intro a1 a2 a3 a4 S h
  unfold e_X3_readNumber_94 at h
  refine j_aload_n X rfl 0 rfl dX3_readNumber_94 ?_
  refine jgC_reader_at X i_X3_readNumber_X3 (by decide +kernel) dX3_readNumber_95 ?_
  refine j_iload_n X rfl 3 rfl dX3_readNumber_98 ?_
  refine j_icmp_ne (tgt := 111) X dX3_readNumber_99 (by decide) (fun c12 => ?_) (fun c12 => ?_)
  · have h := h.1 c12
    refine j_aload_n X rfl 0 rfl dX3_readNumber_111 ?_
    refine jgC_reader_at X i_X3_readNumber_X3 (by decide +kernel) dX3_readNumber_112 ?_
    refine j_iload_n X rfl 3 rfl dX3_readNumber_115 ?_
    refine j_isub X dX3_readNumber_116 ?_
    refine j_iconst (v := (3 : Int32)) X (by decide) dX3_readNumber_117 ?_
    refine j_icmp_gt (tgt := 142) X dX3_readNumber_118 (by decide) (fun c13 => ?_) (fun c13 => ?_)
    · have h := h.1 c13
      refine j_aload_n X rfl 0 rfl dX3_readNumber_142 ?_
      refine j_iconst (v := (2 : Int32)) X (by decide) dX3_readNumber_143 ?_
      refine j_iload_n X rfl 3 rfl dX3_readNumber_144 ?_
      refine j_Vv (st := []) X [.int (2 : Int32), .int a3] 3 (c_X3_fail l D i q A (2 : Int32) a3 S _ h) (cwV 2 X.ts gX3_readNumber_X3_fail rfl rfl rfl (by decide +kernel) ⟨Nat.le_of_ble_eq_true rfl, Nat.le_of_ble_eq_true rfl⟩) rfl rfl rfl rfl (Nat.le_of_ble_eq_true rfl) dX3_readNumber_145 (fun S14 h => ?_)
      refine j_goto (tgt := 179) X dX3_readNumber_148 (by decide) ?_
      exact j_vret X h dX3_readNumber_179
    · have h := h.2 c13
      refine j_iload X 4 rfl dX3_readNumber_121 ?_
      refine j_iload_n X rfl 1 rfl dX3_readNumber_123 ?_
      refine j_iload_n X rfl 2 rfl dX3_readNumber_124 ?_
      refine j_Si (st := [.int a4]) X [.int a1, .int a2] (c_X3_leastOf l D i q A a1 a2 S _ h) (va_cwS 2 X.ts gX3_readNumber_X3_leastOf rfl rfl rfl (by decide +kernel) ⟨Nat.le_of_ble_eq_true rfl, Nat.le_of_ble_eq_true rfl⟩) rfl rfl (Nat.le_of_ble_eq_true rfl) dX3_readNumber_125 (fun r17 S16 h => ?_)
      refine j_icmp_lt (tgt := 142) X dX3_readNumber_128 (by decide) (fun c18 => ?_) (fun c18 => ?_)
      · have h := h.1 c18
        refine j_aload_n X rfl 0 rfl dX3_readNumber_142 ?_
        refine j_iconst (v := (2 : Int32)) X (by decide) dX3_readNumber_143 ?_
        refine j_iload_n X rfl 3 rfl dX3_readNumber_144 ?_
        refine j_Vv (st := []) X [.int (2 : Int32), .int a3] 3 (c_X3_fail l D i q A (2 : Int32) a3 S16 _ h) (cwV 2 X.ts gX3_readNumber_X3_fail rfl rfl rfl (by decide +kernel) ⟨Nat.le_of_ble_eq_true rfl, Nat.le_of_ble_eq_true rfl⟩) rfl rfl rfl rfl (Nat.le_of_ble_eq_true rfl) dX3_readNumber_145 (fun S19 h => ?_)
        refine j_goto (tgt := 179) X dX3_readNumber_148 (by decide) ?_
        exact j_vret X h dX3_readNumber_179
      · have h := h.2 c18
        refine j_iload X 4 rfl dX3_readNumber_131 ?_
        refine j_aload_n X rfl 0 rfl dX3_readNumber_133 ?_
        refine j_iload_n X rfl 1 rfl dX3_readNumber_134 ?_
        refine j_iload_n X rfl 2 rfl dX3_readNumber_135 ?_
        refine j_Vi (st := [.int a4]) X [.int a1, .int a2] 3 (c_X3_mostOf l D i q A a1 a2 S16 _ h) (cwV 2 X.ts gX3_readNumber_X3_mostOf rfl rfl rfl (by decide +kernel) ⟨Nat.le_of_ble_eq_true rfl, Nat.le_of_ble_eq_true rfl⟩) rfl rfl rfl rfl (Nat.le_of_ble_eq_true rfl) dX3_readNumber_136 (fun r22 S21 h => ?_)
        refine j_icmp_le (tgt := 151) X dX3_readNumber_139 (by decide) (fun c23 => ?_) (fun c23 => ?_)
        · have h := h.1 c23
          refine j_aload_n X rfl 0 rfl dX3_readNumber_151 ?_
          refine j_iload_n X rfl 1 rfl dX3_readNumber_152 ?_
          refine j_iload_n X rfl 2 rfl dX3_readNumber_153 ?_
          refine j_iload X 4 rfl dX3_readNumber_154 ?_
          refine j_Vi (st := []) X [.int a1, .int a2, .int a4] 3 (c_X3_clashes l D i q A a1 a2 a4 S21 _ h) (cwV 3 X.ts gX3_readNumber_X3_clashes rfl rfl rfl (by decide +kernel) ⟨Nat.le_of_ble_eq_true rfl, Nat.le_of_ble_eq_true rfl⟩) rfl rfl rfl rfl (Nat.le_of_ble_eq_true rfl) dX3_readNumber_156 (fun r25 S24 h => ?_)
          refine j_if_eq (tgt := 171) X dX3_readNumber_159 (by decide) (fun c26 => ?_) (fun c26 => ?_)
          · have h := h.1 c26
            refine j_aload_n X rfl 0 rfl dX3_readNumber_171 ?_
            refine jgC_reader_numbers X i_X3_readNumber_X3 (by decide +kernel) dX3_readNumber_172 ?_
            refine j_iload_n X rfl 2 rfl dX3_readNumber_175 ?_
            refine j_iload X 4 rfl dX3_readNumber_176 ?_
            obtain ⟨k27, h⟩ := h
            refine jsC_reader_numbers X k27 dX3_readNumber_178 (fun S28 eS28 => ?_)
            have h := h S28 eS28
            exact j_vret X h dX3_readNumber_179
          · have h := h.2 c26
            refine j_aload_n X rfl 0 rfl dX3_readNumber_162 ?_
            refine j_iconst (v := (4 : Int32)) X (by decide) dX3_readNumber_163 ?_
            refine j_iload_n X rfl 3 rfl dX3_readNumber_164 ?_
            refine j_Vv (st := []) X [.int (4 : Int32), .int a3] 3 (c_X3_fail l D i q A (4 : Int32) a3 S24 _ h) (cwV 2 X.ts gX3_readNumber_X3_fail rfl rfl rfl (by decide +kernel) ⟨Nat.le_of_ble_eq_true rfl, Nat.le_of_ble_eq_true rfl⟩) rfl rfl rfl rfl (Nat.le_of_ble_eq_true rfl) dX3_readNumber_165 (fun S29 h => ?_)
            refine j_goto (tgt := 179) X dX3_readNumber_168 (by decide) ?_
            exact j_vret X h dX3_readNumber_179
        · have h := h.2 c23
          refine j_aload_n X rfl 0 rfl dX3_readNumber_142 ?_
          refine j_iconst (v := (2 : Int32)) X (by decide) dX3_readNumber_143 ?_
          refine j_iload_n X rfl 3 rfl dX3_readNumber_144 ?_
          refine j_Vv (st := []) X [.int (2 : Int32), .int a3] 3 (c_X3_fail l D i q A (2 : Int32) a3 S21 _ h) (cwV 2 X.ts gX3_readNumber_X3_fail rfl rfl rfl (by decide +kernel) ⟨Nat.le_of_ble_eq_true rfl, Nat.le_of_ble_eq_true rfl⟩) rfl rfl rfl rfl (Nat.le_of_ble_eq_true rfl) dX3_readNumber_145 (fun S31 h => ?_)
          refine j_goto (tgt := 179) X dX3_readNumber_148 (by decide) ?_
          exact j_vret X h dX3_readNumber_179
  · have h := h.2 c12
    refine j_aload_n X rfl 0 rfl dX3_readNumber_102 ?_
    refine j_iconst (v := (1 : Int32)) X (by decide) dX3_readNumber_103 ?_
    refine j_iload_n X rfl 3 rfl dX3_readNumber_104 ?_
    refine j_Vv (st := []) X [.int (1 : Int32), .int a3] 3 (c_X3_fail l D i q A (1 : Int32) a3 S _ h) (cwV 2 X.ts gX3_readNumber_X3_fail rfl rfl rfl (by decide +kernel) ⟨Nat.le_of_ble_eq_true rfl, Nat.le_of_ble_eq_true rfl⟩) rfl rfl rfl rfl (Nat.le_of_ble_eq_true rfl) dX3_readNumber_105 (fun S33 h => ?_)
    refine j_goto (tgt := 179) X dX3_readNumber_108 (by decide) ?_
    exact j_vret X h dX3_readNumber_179
set_option maxRecDepth 100000 in
set_option maxHeartbeats 4000000 in
theorem w_X3_readNumber_12 {D : va_G} {i : Nat → ClassId} {q : Nat → Nat} {A : Nat → Prop} {p : Program} {l : Launch} {e : Env} {s : State} {m : MethodId} {args : Array Value} {below : List Frame} {meth : Method} {c : Code} (X : cX D i A p s m args meth c cX3_readNumber RX3 5 wsX3_readNumber none) {Q : vS → Prop} : ∀ (n : Nat) (a1 : Int32) (a2 : Int32) (a3 : Int32) (a4 : Int32) (S : vS), e_X3_readNumber_12 Q n a1 a2 a3 a4 S → cJ D A p l e (headSpec wsX3_readNumber rm_X3_readNumber).room s m args below meth c (MQ below (va_Qv Q (vB D i A (wC q i)) A) args s 0 0 A) 5 (wC q i S) [(0, .ref (q 3)), (1, .int a1), (2, .int a2), (3, .int a3), (4, .int a4)] 12 [] := by
  intro n
  induction n with
  | zero =>
    intro _ _ _ _ S h
    rw [e_X3_readNumber_12.eq_1] at h
    exact h.elim
  | succ n ih =>
    intro a1 a2 a3 a4 S h
    rw [e_X3_readNumber_12.eq_2] at h
    refine j_aload_n X rfl 0 rfl dX3_readNumber_12 ?_
    refine jgC_reader_at X i_X3_readNumber_X3 (by decide +kernel) dX3_readNumber_13 ?_
    refine j_aload_n X rfl 0 rfl dX3_readNumber_16 ?_
    refine jgC_reader_length X i_X3_readNumber_X3 (by decide +kernel) dX3_readNumber_17 ?_
    refine j_icmp_ge (tgt := 94) X dX3_readNumber_20 (by decide) (fun c4 => ?_) (fun c4 => ?_)
    · have h := h.1 c4
      exact w_X3_readNumber_94 X a1 a2 a3 a4 S h
    · have h := h.2 c4
      refine j_aload_n X rfl 0 rfl dX3_readNumber_23 ?_
      refine jgC_reader_bytes X i_X3_readNumber_X3 (by decide +kernel) dX3_readNumber_24 ?_
      refine j_aload_n X rfl 0 rfl dX3_readNumber_27 ?_
      refine jgC_reader_at X i_X3_readNumber_X3 (by decide +kernel) dX3_readNumber_28 ?_
      obtain ⟨k5, h⟩ := h
      refine jlC_reader_bytes X k5 dX3_readNumber_31 ?_
      refine j_bipush (v := (48 : Int32)) X (by decide) dX3_readNumber_32 ?_
      refine j_icmp_lt (tgt := 94) X dX3_readNumber_34 (by decide) (fun c6 => ?_) (fun c6 => ?_)
      · have h := h.1 c6
        exact w_X3_readNumber_94 X a1 a2 a3 a4 S h
      · have h := h.2 c6
        refine j_aload_n X rfl 0 rfl dX3_readNumber_37 ?_
        refine jgC_reader_bytes X i_X3_readNumber_X3 (by decide +kernel) dX3_readNumber_38 ?_
        refine j_aload_n X rfl 0 rfl dX3_readNumber_41 ?_
        refine jgC_reader_at X i_X3_readNumber_X3 (by decide +kernel) dX3_readNumber_42 ?_
        refine jlC_reader_bytes X k5 dX3_readNumber_45 ?_
        refine j_bipush (v := (57 : Int32)) X (by decide) dX3_readNumber_46 ?_
        refine j_icmp_gt (tgt := 94) X dX3_readNumber_48 (by decide) (fun c7 => ?_) (fun c7 => ?_)
        · have h := h.1 c7
          exact w_X3_readNumber_94 X a1 a2 a3 a4 S h
        · have h := h.2 c7
          refine j_aload_n X rfl 0 rfl dX3_readNumber_51 ?_
          refine jgC_reader_at X i_X3_readNumber_X3 (by decide +kernel) dX3_readNumber_52 ?_
          refine j_iload_n X rfl 3 rfl dX3_readNumber_55 ?_
          refine j_isub X dX3_readNumber_56 ?_
          refine j_iconst (v := (3 : Int32)) X (by decide) dX3_readNumber_57 ?_
          refine j_icmp_ge (tgt := 81) X dX3_readNumber_58 (by decide) (fun c8 => ?_) (fun c8 => ?_)
          · have h := h.1 c8
            refine j_aload_n X rfl 0 rfl dX3_readNumber_81 ?_
            refine j_dup X rfl dX3_readNumber_82 ?_
            refine jgC_reader_at X i_X3_readNumber_X3 (by decide +kernel) dX3_readNumber_83 ?_
            refine j_iconst (v := (1 : Int32)) X (by decide) dX3_readNumber_86 ?_
            refine j_iadd X dX3_readNumber_87 ?_
            refine jpC_reader_at X i_X3_readNumber_X3 (by decide +kernel) dX3_readNumber_88 (fun S9 eS9 => ?_)
            have h := h S9 eS9
            refine j_goto (tgt := 12) X dX3_readNumber_91 (by decide) ?_
            exact ih a1 a2 a3 a4 S9 h
          · have h := h.2 c8
            refine j_iload X 4 rfl dX3_readNumber_61 ?_
            refine j_bipush (v := (10 : Int32)) X (by decide) dX3_readNumber_63 ?_
            refine j_imul X dX3_readNumber_65 ?_
            refine j_aload_n X rfl 0 rfl dX3_readNumber_66 ?_
            refine jgC_reader_bytes X i_X3_readNumber_X3 (by decide +kernel) dX3_readNumber_67 ?_
            refine j_aload_n X rfl 0 rfl dX3_readNumber_70 ?_
            refine jgC_reader_at X i_X3_readNumber_X3 (by decide +kernel) dX3_readNumber_71 ?_
            refine jlC_reader_bytes X k5 dX3_readNumber_74 ?_
            refine j_iadd X dX3_readNumber_75 ?_
            refine j_bipush (v := (48 : Int32)) X (by decide) dX3_readNumber_76 ?_
            refine j_isub X dX3_readNumber_78 ?_
            refine j_topi (fun v10 ev10 => ?_)
            have h := h v10 ev10
            refine j_istore (lv' := [(4, .int v10), (0, .ref (q 3)), (1, .int a1), (2, .int a2), (3, .int a3)]) X (by decide) rfl dX3_readNumber_79 ?_
            refine j_aload_n X rfl 1 rfl dX3_readNumber_81 ?_
            refine j_dup X rfl dX3_readNumber_82 ?_
            refine jgC_reader_at X i_X3_readNumber_X3 (by decide +kernel) dX3_readNumber_83 ?_
            refine j_iconst (v := (1 : Int32)) X (by decide) dX3_readNumber_86 ?_
            refine j_iadd X dX3_readNumber_87 ?_
            refine jpC_reader_at X i_X3_readNumber_X3 (by decide +kernel) dX3_readNumber_88 (fun S11 eS11 => ?_)
            have h := h S11 eS11
            refine j_goto (tgt := 12) X dX3_readNumber_91 (by decide) ?_
            refine j_loc [1, 2, 3, 4, 0] rfl ?_
            exact ih a1 a2 a3 v10 S11 h
set_option maxRecDepth 100000 in
set_option maxHeartbeats 4000000 in
theorem c_X3_readNumber (l : Launch) (D : va_G) (i : Nat → ClassId) (q : Nat → Nat) (A : Nat → Prop) (x1 : Int32) (x2 : Int32) (S : vS) (Q : vS → Prop) (h : e_X3_readNumber x1 x2 S Q) : Met l yX3_readNumber wsX3_readNumber rm_X3_readNumber (va_Pc [.ref (q 3), .int x1, .int x2] (vB D i A (wC q i) S)) (va_Qv Q (vB D i A (wC q i)) A) 0 0 A := by
  refine m_ofJ (own := RX3) (lv := [(0, .ref (q 3)), (1, .int x1), (2, .int x2)]) rfl (by decide) rfl (Nat.le_of_ble_eq_true rfl) rfl ?_
  intro p e s m below meth c X
  unfold e_X3_readNumber at h
  refine j_aload_n X rfl 0 rfl dX3_readNumber_0 ?_
  refine j_Vv (st := []) X [] 3 (c_X3_skipBlanks l D i q A S _ h) (cwV 0 X.ts gX3_readNumber_X3_skipBlanks rfl rfl rfl (by decide +kernel) ⟨Nat.le_of_ble_eq_true rfl, Nat.le_of_ble_eq_true rfl⟩) rfl rfl rfl rfl (Nat.le_of_ble_eq_true rfl) dX3_readNumber_1 (fun S1 h => ?_)
  refine j_aload_n X rfl 0 rfl dX3_readNumber_4 ?_
  refine jgC_reader_at X i_X3_readNumber_X3 (by decide +kernel) dX3_readNumber_5 ?_
  refine j_topi (fun v3 ev3 => ?_)
  have h := h v3 ev3
  refine j_istore_n (lv' := [(3, .int v3), (0, .ref (q 3)), (1, .int x1), (2, .int x2)]) X rfl (by decide) rfl dX3_readNumber_8 ?_
  refine j_iconst (v := (0 : Int32)) X (by decide) dX3_readNumber_9 ?_
  refine j_istore (lv' := [(4, .int (0 : Int32)), (3, .int v3), (0, .ref (q 3)), (1, .int x1), (2, .int x2)]) X (by decide) rfl dX3_readNumber_10 ?_
  refine j_loc [2, 3, 4, 1, 0] rfl ?_
  obtain ⟨j, h⟩ := h
  exact w_X3_readNumber_12 X j x1 x2 v3 (0 : Int32) S1 h
set_option maxRecDepth 100000 in
theorem i_X2_addDoor_draft_X2 : ∀ w ∈ u_ws RX2 TX2 14, w ∈ wsX2_addDoor := by decide +kernel
abbrev rm_X2_addDoor_draft : Room := { frames := 0, cells := 0, slots := 0, locals := 0 }
set_option maxRecDepth 100000 in
set_option maxHeartbeats 4000000 in
theorem c_X2_addDoor_draft (l : Launch) (D : va_G) (i : Nat → ClassId) (q : Nat → Nat) (A : Nat → Prop) (x1 : Int32) (x2 : Int32) (x3 : Int32) (S : vS) (Q : vS → Prop) (h : e_X2_addDoor_draft x1 x2 x3 S Q) : Met l yX2_addDoor wsX2_addDoor rm_X2_addDoor_draft (va_Pc [.ref (q 2), .int x1, .int x2, .int x3] (vB D i A (wC q i) S)) (va_Qv Q (vB D i A (wC q i)) A) 0 0 A := by
  refine m_ofJ (own := RX2) (lv := [(0, .ref (q 2)), (1, .int x1), (2, .int x2), (3, .int x3)]) rfl (by decide) rfl (Nat.le_of_ble_eq_true rfl) rfl ?_
  intro p e s m below meth c X
  unfold e_X2_addDoor_draft at h
  refine j_aload_n X rfl 0 rfl dX2_addDoor_0 ?_
  refine jgC_draft_men X i_X2_addDoor_draft_X2 (by decide +kernel) dX2_addDoor_1 ?_
  refine j_bipush (v := (6 : Int32)) X (by decide) dX2_addDoor_4 ?_
  refine j_icmp_ge (tgt := 49) X dX2_addDoor_6 (by decide) (fun c1 => ?_) (fun c1 => ?_)
  · have h := h.1 c1
    exact j_vret X h dX2_addDoor_49
  · have h := h.2 c1
    refine j_aload_n X rfl 0 rfl dX2_addDoor_9 ?_
    refine jgC_draft_places X i_X2_addDoor_draft_X2 (by decide +kernel) dX2_addDoor_10 ?_
    refine j_aload_n X rfl 0 rfl dX2_addDoor_13 ?_
    refine jgC_draft_men X i_X2_addDoor_draft_X2 (by decide +kernel) dX2_addDoor_14 ?_
    refine j_iload_n X rfl 1 rfl dX2_addDoor_17 ?_
    obtain ⟨k2, h⟩ := h
    refine jsC_draft_places X k2 dX2_addDoor_18 (fun S3 eS3 => ?_)
    have h := h S3 eS3
    refine j_aload_n X rfl 0 rfl dX2_addDoor_19 ?_
    refine jgC_draft_grounds X i_X2_addDoor_draft_X2 (by decide +kernel) dX2_addDoor_20 ?_
    refine j_aload_n X rfl 0 rfl dX2_addDoor_23 ?_
    refine jgC_draft_men X i_X2_addDoor_draft_X2 (by decide +kernel) dX2_addDoor_24 ?_
    refine j_iload_n X rfl 2 rfl dX2_addDoor_27 ?_
    obtain ⟨k4, h⟩ := h
    refine jsC_draft_grounds X k4 dX2_addDoor_28 (fun S5 eS5 => ?_)
    have h := h S5 eS5
    refine j_aload_n X rfl 0 rfl dX2_addDoor_29 ?_
    refine jgC_draft_storeys X i_X2_addDoor_draft_X2 (by decide +kernel) dX2_addDoor_30 ?_
    refine j_aload_n X rfl 0 rfl dX2_addDoor_33 ?_
    refine jgC_draft_men X i_X2_addDoor_draft_X2 (by decide +kernel) dX2_addDoor_34 ?_
    refine j_iload_n X rfl 3 rfl dX2_addDoor_37 ?_
    obtain ⟨k6, h⟩ := h
    refine jsC_draft_storeys X k6 dX2_addDoor_38 (fun S7 eS7 => ?_)
    have h := h S7 eS7
    refine j_aload_n X rfl 0 rfl dX2_addDoor_39 ?_
    refine j_dup X rfl dX2_addDoor_40 ?_
    refine jgC_draft_men X i_X2_addDoor_draft_X2 (by decide +kernel) dX2_addDoor_41 ?_
    refine j_iconst (v := (1 : Int32)) X (by decide) dX2_addDoor_44 ?_
    refine j_iadd X dX2_addDoor_45 ?_
    refine jpC_draft_men X i_X2_addDoor_draft_X2 (by decide +kernel) dX2_addDoor_46 (fun S8 eS8 => ?_)
    have h := h S8 eS8
    exact j_vret X h dX2_addDoor_49
set_option maxRecDepth 100000 in
theorem i_X2_addMist_draft_X2 : ∀ w ∈ u_ws RX2 TX2 14, w ∈ wsX2_addMist := by decide +kernel
abbrev rm_X2_addMist_draft : Room := { frames := 0, cells := 0, slots := 0, locals := 0 }
set_option maxRecDepth 100000 in
set_option maxHeartbeats 4000000 in
theorem c_X2_addMist_draft (l : Launch) (D : va_G) (i : Nat → ClassId) (q : Nat → Nat) (A : Nat → Prop) (x1 : Int32) (x2 : Int32) (x3 : Int32) (S : vS) (Q : vS → Prop) (h : e_X2_addMist_draft x1 x2 x3 S Q) : Met l yX2_addMist wsX2_addMist rm_X2_addMist_draft (va_Pc [.ref (q 2), .int x1, .int x2, .int x3] (vB D i A (wC q i) S)) (va_Qv Q (vB D i A (wC q i)) A) 0 0 A := by
  refine m_ofJ (own := RX2) (lv := [(0, .ref (q 2)), (1, .int x1), (2, .int x2), (3, .int x3)]) rfl (by decide) rfl (Nat.le_of_ble_eq_true rfl) rfl ?_
  intro p e s m below meth c X
  unfold e_X2_addMist_draft at h
  refine j_aload_n X rfl 0 rfl dX2_addMist_0 ?_
  refine jgC_draft_mists X i_X2_addMist_draft_X2 (by decide +kernel) dX2_addMist_1 ?_
  refine j_bipush (v := (10 : Int32)) X (by decide) dX2_addMist_4 ?_
  refine j_icmp_ge (tgt := 49) X dX2_addMist_6 (by decide) (fun c1 => ?_) (fun c1 => ?_)
  · have h := h.1 c1
    exact j_vret X h dX2_addMist_49
  · have h := h.2 c1
    refine j_aload_n X rfl 0 rfl dX2_addMist_9 ?_
    refine jgC_draft_mistFirst X i_X2_addMist_draft_X2 (by decide +kernel) dX2_addMist_10 ?_
    refine j_aload_n X rfl 0 rfl dX2_addMist_13 ?_
    refine jgC_draft_mists X i_X2_addMist_draft_X2 (by decide +kernel) dX2_addMist_14 ?_
    refine j_iload_n X rfl 1 rfl dX2_addMist_17 ?_
    obtain ⟨k2, h⟩ := h
    refine jsC_draft_mistFirst X k2 dX2_addMist_18 (fun S3 eS3 => ?_)
    have h := h S3 eS3
    refine j_aload_n X rfl 0 rfl dX2_addMist_19 ?_
    refine jgC_draft_mistLast X i_X2_addMist_draft_X2 (by decide +kernel) dX2_addMist_20 ?_
    refine j_aload_n X rfl 0 rfl dX2_addMist_23 ?_
    refine jgC_draft_mists X i_X2_addMist_draft_X2 (by decide +kernel) dX2_addMist_24 ?_
    refine j_iload_n X rfl 2 rfl dX2_addMist_27 ?_
    obtain ⟨k4, h⟩ := h
    refine jsC_draft_mistLast X k4 dX2_addMist_28 (fun S5 eS5 => ?_)
    have h := h S5 eS5
    refine j_aload_n X rfl 0 rfl dX2_addMist_29 ?_
    refine jgC_draft_mistFar X i_X2_addMist_draft_X2 (by decide +kernel) dX2_addMist_30 ?_
    refine j_aload_n X rfl 0 rfl dX2_addMist_33 ?_
    refine jgC_draft_mists X i_X2_addMist_draft_X2 (by decide +kernel) dX2_addMist_34 ?_
    refine j_iload_n X rfl 3 rfl dX2_addMist_37 ?_
    obtain ⟨k6, h⟩ := h
    refine jsC_draft_mistFar X k6 dX2_addMist_38 (fun S7 eS7 => ?_)
    have h := h S7 eS7
    refine j_aload_n X rfl 0 rfl dX2_addMist_39 ?_
    refine j_dup X rfl dX2_addMist_40 ?_
    refine jgC_draft_mists X i_X2_addMist_draft_X2 (by decide +kernel) dX2_addMist_41 ?_
    refine j_iconst (v := (1 : Int32)) X (by decide) dX2_addMist_44 ?_
    refine j_iadd X dX2_addMist_45 ?_
    refine jpC_draft_mists X i_X2_addMist_draft_X2 (by decide +kernel) dX2_addMist_46 (fun S8 eS8 => ?_)
    have h := h S8 eS8
    exact j_vret X h dX2_addMist_49
set_option maxRecDepth 100000 in
theorem i_X3_put_X2 : ∀ w ∈ u_ws RX2 TX2 14, w ∈ wsX3_put := by decide +kernel
set_option maxRecDepth 100000 in
theorem i_X3_put_X3 : ∀ w ∈ u_ws RX3 TX3 9, w ∈ wsX3_put := by decide +kernel
abbrev rm_X3_put : Room := { frames := 1, cells := 0, slots := 0, locals := 23 }
set_option maxRecDepth 100000 in
set_option maxHeartbeats 4000000 in
theorem c_X3_put (l : Launch) (D : va_G) (i : Nat → ClassId) (q : Nat → Nat) (A : Nat → Prop) (x1 : Int32) (S : vS) (Q : vS → Prop) (h : e_X3_put x1 S Q) : Met l yX3_put wsX3_put rm_X3_put (va_Pc [.ref (q 3), .int x1] (vB D i A (wC q i) S)) (va_Qv Q (vB D i A (wC q i)) A) 0 0 A := by
  refine m_ofJ (own := RX3) (lv := [(0, .ref (q 3)), (1, .int x1)]) rfl (by decide) rfl (Nat.le_of_ble_eq_true rfl) rfl ?_
  intro p e s m below meth c X
  unfold e_X3_put at h
  refine j_iload_n X rfl 1 rfl dX3_put_0 ?_
  rcases (show (x1.toInt < 0 ∨ 4 < x1.toInt) ∨ x1.toInt = 0 ∨ x1.toInt = 1 ∨ x1.toInt = 2 ∨ x1.toInt = 3 ∨ x1.toInt = 4 by omega) with c1 | c1 | c1 | c1 | c1 | c1
  · have h := h.1 c1
    refine j_tabOut (tgt := 202) X dX3_put_1 c1 (by decide) ?_
    refine j_aload_n X rfl 0 rfl dX3_put_202 ?_
    refine jgC_reader_draft X i_X3_put_X3 (by decide +kernel) dX3_put_203 ?_
    refine j_aload_n X rfl 0 rfl dX3_put_206 ?_
    refine jgC_reader_numbers X i_X3_put_X3 (by decide +kernel) dX3_put_207 ?_
    refine j_iconst (v := (0 : Int32)) X (by decide) dX3_put_210 ?_
    refine jlC_reader_numbers X (by unfold vp_in; decide) dX3_put_211 ?_
    refine jpC_draft_storeyHigh X i_X3_put_X2 (by decide +kernel) dX3_put_212 (fun S2 eS2 => ?_)
    have h := h S2 eS2
    refine j_aload_n X rfl 0 rfl dX3_put_215 ?_
    refine jgC_reader_draft X i_X3_put_X3 (by decide +kernel) dX3_put_216 ?_
    refine j_aload_n X rfl 0 rfl dX3_put_219 ?_
    refine jgC_reader_numbers X i_X3_put_X3 (by decide +kernel) dX3_put_220 ?_
    refine j_iconst (v := (1 : Int32)) X (by decide) dX3_put_223 ?_
    refine jlC_reader_numbers X (by unfold vp_in; decide) dX3_put_224 ?_
    refine jpC_draft_storeyCost X i_X3_put_X2 (by decide +kernel) dX3_put_225 (fun S3 eS3 => ?_)
    have h := h S3 eS3
    exact j_vret X h dX3_put_228
  · have h := h.2.1 c1
    refine j_tabIn (tgt := 36) X dX3_put_1 c1 (by decide) (by decide) rfl (by decide) ?_
    refine j_aload_n X rfl 0 rfl dX3_put_36 ?_
    refine jgC_reader_draft X i_X3_put_X3 (by decide +kernel) dX3_put_37 ?_
    refine j_aload_n X rfl 0 rfl dX3_put_40 ?_
    refine jgC_reader_numbers X i_X3_put_X3 (by decide +kernel) dX3_put_41 ?_
    refine j_iconst (v := (0 : Int32)) X (by decide) dX3_put_44 ?_
    refine jlC_reader_numbers X (by unfold vp_in; decide) dX3_put_45 ?_
    refine jpC_draft_width X i_X3_put_X2 (by decide +kernel) dX3_put_46 (fun S4 eS4 => ?_)
    have h := h S4 eS4
    refine j_aload_n X rfl 0 rfl dX3_put_49 ?_
    refine jgC_reader_draft X i_X3_put_X3 (by decide +kernel) dX3_put_50 ?_
    refine j_aload_n X rfl 0 rfl dX3_put_53 ?_
    refine jgC_reader_numbers X i_X3_put_X3 (by decide +kernel) dX3_put_54 ?_
    refine j_iconst (v := (1 : Int32)) X (by decide) dX3_put_57 ?_
    refine jlC_reader_numbers X (by unfold vp_in; decide) dX3_put_58 ?_
    refine jpC_draft_height X i_X3_put_X2 (by decide +kernel) dX3_put_59 (fun S5 eS5 => ?_)
    have h := h S5 eS5
    refine j_goto (tgt := 228) X dX3_put_62 (by decide) ?_
    exact j_vret X h dX3_put_228
  · have h := h.2.2.1 c1
    refine j_tabIn (tgt := 65) X dX3_put_1 c1 (by decide) (by decide) rfl (by decide) ?_
    refine j_aload_n X rfl 0 rfl dX3_put_65 ?_
    refine jgC_reader_draft X i_X3_put_X3 (by decide +kernel) dX3_put_66 ?_
    refine j_aload_n X rfl 0 rfl dX3_put_69 ?_
    refine jgC_reader_numbers X i_X3_put_X3 (by decide +kernel) dX3_put_70 ?_
    refine j_iconst (v := (0 : Int32)) X (by decide) dX3_put_73 ?_
    refine jlC_reader_numbers X (by unfold vp_in; decide) dX3_put_74 ?_
    refine j_aload_n X rfl 0 rfl dX3_put_75 ?_
    refine jgC_reader_numbers X i_X3_put_X3 (by decide +kernel) dX3_put_76 ?_
    refine j_iconst (v := (1 : Int32)) X (by decide) dX3_put_79 ?_
    refine jlC_reader_numbers X (by unfold vp_in; decide) dX3_put_80 ?_
    refine j_aload_n X rfl 0 rfl dX3_put_81 ?_
    refine jgC_reader_numbers X i_X3_put_X3 (by decide +kernel) dX3_put_82 ?_
    refine j_iconst (v := (2 : Int32)) X (by decide) dX3_put_85 ?_
    refine jlC_reader_numbers X (by unfold vp_in; decide) dX3_put_86 ?_
    refine j_Vv (st := []) X [.int (S.2.1 18 ((0 : Int32)).toNatClampNeg), .int (S.2.1 18 ((1 : Int32)).toNatClampNeg), .int (S.2.1 18 ((2 : Int32)).toNatClampNeg)] 2 (c_X2_addDoor_draft l D i q A (S.2.1 18 ((0 : Int32)).toNatClampNeg) (S.2.1 18 ((1 : Int32)).toNatClampNeg) (S.2.1 18 ((2 : Int32)).toNatClampNeg) S _ h) (cwV 3 X.ts gX3_put_X2_addDoor rfl rfl rfl (by decide +kernel) ⟨Nat.le_of_ble_eq_true rfl, Nat.le_of_ble_eq_true rfl⟩) rfl rfl rfl rfl (Nat.le_of_ble_eq_true rfl) dX3_put_87 (fun S6 h => ?_)
    refine j_goto (tgt := 228) X dX3_put_90 (by decide) ?_
    exact j_vret X h dX3_put_228
  · have h := h.2.2.2.1 c1
    refine j_tabIn (tgt := 93) X dX3_put_1 c1 (by decide) (by decide) rfl (by decide) ?_
    refine j_aload_n X rfl 0 rfl dX3_put_93 ?_
    refine jgC_reader_draft X i_X3_put_X3 (by decide +kernel) dX3_put_94 ?_
    refine jgC_draft_stands X i_X3_put_X2 (by decide +kernel) dX3_put_97 ?_
    refine j_aload_n X rfl 0 rfl dX3_put_100 ?_
    refine jgC_reader_draft X i_X3_put_X3 (by decide +kernel) dX3_put_101 ?_
    refine j_aload_n X rfl 0 rfl dX3_put_104 ?_
    refine jgC_reader_numbers X i_X3_put_X3 (by decide +kernel) dX3_put_105 ?_
    refine j_iconst (v := (0 : Int32)) X (by decide) dX3_put_108 ?_
    refine jlC_reader_numbers X (by unfold vp_in; decide) dX3_put_109 ?_
    refine j_aload_n X rfl 0 rfl dX3_put_110 ?_
    refine jgC_reader_numbers X i_X3_put_X3 (by decide +kernel) dX3_put_111 ?_
    refine j_iconst (v := (1 : Int32)) X (by decide) dX3_put_114 ?_
    refine jlC_reader_numbers X (by unfold vp_in; decide) dX3_put_115 ?_
    refine j_Vi (st := [.ref (q 22)]) X [.int (S.2.1 18 ((0 : Int32)).toNatClampNeg), .int (S.2.1 18 ((1 : Int32)).toNatClampNeg)] 2 (c_X2_numberOf_draft l D i q A (S.2.1 18 ((0 : Int32)).toNatClampNeg) (S.2.1 18 ((1 : Int32)).toNatClampNeg) S _ h) (cwV 2 X.ts gX3_put_X2_numberOf rfl rfl rfl (by decide +kernel) ⟨Nat.le_of_ble_eq_true rfl, Nat.le_of_ble_eq_true rfl⟩) rfl rfl rfl rfl (Nat.le_of_ble_eq_true rfl) dX3_put_116 (fun r9 S8 h => ?_)
    refine j_aload_n X rfl 0 rfl dX3_put_119 ?_
    refine jgC_reader_numbers X i_X3_put_X3 (by decide +kernel) dX3_put_120 ?_
    refine j_iconst (v := (2 : Int32)) X (by decide) dX3_put_123 ?_
    refine jlC_reader_numbers X (by unfold vp_in; decide) dX3_put_124 ?_
    obtain ⟨k10, h⟩ := h
    refine jsC_draft_stands X k10 dX3_put_125 (fun S11 eS11 => ?_)
    have h := h S11 eS11
    refine j_goto (tgt := 228) X dX3_put_126 (by decide) ?_
    exact j_vret X h dX3_put_228
  · have h := h.2.2.2.2.1 c1
    refine j_tabIn (tgt := 129) X dX3_put_1 c1 (by decide) (by decide) rfl (by decide) ?_
    refine j_aload_n X rfl 0 rfl dX3_put_129 ?_
    refine jgC_reader_draft X i_X3_put_X3 (by decide +kernel) dX3_put_130 ?_
    refine j_aload_n X rfl 0 rfl dX3_put_133 ?_
    refine jgC_reader_numbers X i_X3_put_X3 (by decide +kernel) dX3_put_134 ?_
    refine j_iconst (v := (0 : Int32)) X (by decide) dX3_put_137 ?_
    refine jlC_reader_numbers X (by unfold vp_in; decide) dX3_put_138 ?_
    refine j_aload_n X rfl 0 rfl dX3_put_139 ?_
    refine jgC_reader_numbers X i_X3_put_X3 (by decide +kernel) dX3_put_140 ?_
    refine j_iconst (v := (1 : Int32)) X (by decide) dX3_put_143 ?_
    refine jlC_reader_numbers X (by unfold vp_in; decide) dX3_put_144 ?_
    refine j_Vi (st := []) X [.int (S.2.1 18 ((0 : Int32)).toNatClampNeg), .int (S.2.1 18 ((1 : Int32)).toNatClampNeg)] 2 (c_X2_numberOf_draft l D i q A (S.2.1 18 ((0 : Int32)).toNatClampNeg) (S.2.1 18 ((1 : Int32)).toNatClampNeg) S _ h) (cwV 2 X.ts gX3_put_X2_numberOf rfl rfl rfl (by decide +kernel) ⟨Nat.le_of_ble_eq_true rfl, Nat.le_of_ble_eq_true rfl⟩) rfl rfl rfl rfl (Nat.le_of_ble_eq_true rfl) dX3_put_145 (fun r13 S12 h => ?_)
    refine j_istore_n (lv' := [(2, .int r13), (0, .ref (q 3)), (1, .int x1)]) X rfl (by decide) rfl dX3_put_148 ?_
    refine j_aload_n X rfl 1 rfl dX3_put_149 ?_
    refine jgC_reader_draft X i_X3_put_X3 (by decide +kernel) dX3_put_150 ?_
    refine jgC_draft_fish X i_X3_put_X2 (by decide +kernel) dX3_put_153 ?_
    refine j_iload_n X rfl 0 rfl dX3_put_156 ?_
    refine j_aload_n X rfl 1 rfl dX3_put_157 ?_
    refine jgC_reader_numbers X i_X3_put_X3 (by decide +kernel) dX3_put_158 ?_
    refine j_iconst (v := (2 : Int32)) X (by decide) dX3_put_161 ?_
    refine jlC_reader_numbers X (by unfold vp_in; decide) dX3_put_162 ?_
    obtain ⟨k14, h⟩ := h
    refine jsC_draft_fish X k14 dX3_put_163 (fun S15 eS15 => ?_)
    have h := h S15 eS15
    refine j_aload_n X rfl 1 rfl dX3_put_164 ?_
    refine jgC_reader_fishTold X i_X3_put_X3 (by decide +kernel) dX3_put_165 ?_
    refine j_iload_n X rfl 0 rfl dX3_put_168 ?_
    refine j_iconst (v := (1 : Int32)) X (by decide) dX3_put_169 ?_
    refine jsC_reader_fishTold X k14 dX3_put_170 (fun S16 eS16 => ?_)
    have h := h S16 eS16
    refine j_goto (tgt := 228) X dX3_put_171 (by decide) ?_
    exact j_vret X h dX3_put_228
  · have h := h.2.2.2.2.2 c1
    refine j_tabIn (tgt := 174) X dX3_put_1 c1 (by decide) (by decide) rfl (by decide) ?_
    refine j_aload_n X rfl 0 rfl dX3_put_174 ?_
    refine jgC_reader_draft X i_X3_put_X3 (by decide +kernel) dX3_put_175 ?_
    refine j_aload_n X rfl 0 rfl dX3_put_178 ?_
    refine jgC_reader_numbers X i_X3_put_X3 (by decide +kernel) dX3_put_179 ?_
    refine j_iconst (v := (0 : Int32)) X (by decide) dX3_put_182 ?_
    refine jlC_reader_numbers X (by unfold vp_in; decide) dX3_put_183 ?_
    refine j_aload_n X rfl 0 rfl dX3_put_184 ?_
    refine jgC_reader_numbers X i_X3_put_X3 (by decide +kernel) dX3_put_185 ?_
    refine j_iconst (v := (1 : Int32)) X (by decide) dX3_put_188 ?_
    refine jlC_reader_numbers X (by unfold vp_in; decide) dX3_put_189 ?_
    refine j_aload_n X rfl 0 rfl dX3_put_190 ?_
    refine jgC_reader_numbers X i_X3_put_X3 (by decide +kernel) dX3_put_191 ?_
    refine j_iconst (v := (2 : Int32)) X (by decide) dX3_put_194 ?_
    refine jlC_reader_numbers X (by unfold vp_in; decide) dX3_put_195 ?_
    refine j_Vv (st := []) X [.int (S.2.1 18 ((0 : Int32)).toNatClampNeg), .int (S.2.1 18 ((1 : Int32)).toNatClampNeg), .int (S.2.1 18 ((2 : Int32)).toNatClampNeg)] 2 (c_X2_addMist_draft l D i q A (S.2.1 18 ((0 : Int32)).toNatClampNeg) (S.2.1 18 ((1 : Int32)).toNatClampNeg) (S.2.1 18 ((2 : Int32)).toNatClampNeg) S _ h) (cwV 3 X.ts gX3_put_X2_addMist rfl rfl rfl (by decide +kernel) ⟨Nat.le_of_ble_eq_true rfl, Nat.le_of_ble_eq_true rfl⟩) rfl rfl rfl rfl (Nat.le_of_ble_eq_true rfl) dX3_put_196 (fun S17 h => ?_)
    refine j_goto (tgt := 228) X dX3_put_199 (by decide) ?_
    exact j_vret X h dX3_put_228
