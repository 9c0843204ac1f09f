set_option maxRecDepth 100000 in
theorem i_X3_readEnd_X3 : ∀ w ∈ u_ws RX3 TX3 9, w ∈ wsX3_readEnd := by decide +kernel
abbrev rm_X3_readEnd : Room := { frames := 1, cells := 0, slots := 0, locals := 22 }
set_option maxRecDepth 100000 in
set_option maxHeartbeats 4000000 in
theorem c_X3_readEnd (l : Launch) (D : va_G) (i : Nat → ClassId) (q : Nat → Nat) (A : Nat → Prop) (S : vS) (Q : vS → Prop) (h : e_X3_readEnd S Q) : Met l yX3_readEnd wsX3_readEnd rm_X3_readEnd (va_Pc [.ref (q 3)] (vB D i A (wC q i) S)) (va_Qv Q (vB D i A (wC q i)) A) 0 0 A := by
  refine m_ofJ (own := RX3) (lv := [(0, .ref (q 3))]) rfl (by decide) rfl (Nat.le_of_ble_eq_true rfl) rfl ?_
  intro p e s m below meth c X
  unfold e_X3_readEnd at h
  refine j_aload_n X rfl 0 rfl dX3_readEnd_0 ?_
  refine j_Vv (st := []) X [] 3 (c_X3_skipBlanks l D i q A S _ h) (cwV 0 X.ts gX3_readEnd_X3_skipBlanks rfl rfl rfl (by decide +kernel) ⟨Nat.le_of_ble_eq_true rfl, Nat.le_of_ble_eq_true rfl⟩) rfl rfl rfl rfl (Nat.le_of_ble_eq_true rfl) dX3_readEnd_1 (fun S1 h => ?_)
  refine j_aload_n X rfl 0 rfl dX3_readEnd_4 ?_
  refine jgC_reader_at X i_X3_readEnd_X3 (by decide +kernel) dX3_readEnd_5 ?_
  refine j_aload_n X rfl 0 rfl dX3_readEnd_8 ?_
  refine jgC_reader_length X i_X3_readEnd_X3 (by decide +kernel) dX3_readEnd_9 ?_
  refine j_icmp_ge (tgt := 42) X dX3_readEnd_12 (by decide) (fun c3 => ?_) (fun c3 => ?_)
  · have h := h.1 c3
    refine j_aload_n X rfl 0 rfl dX3_readEnd_42 ?_
    refine j_iconst (v := (1 : Int32)) X (by decide) dX3_readEnd_43 ?_
    refine j_aload_n X rfl 0 rfl dX3_readEnd_44 ?_
    refine jgC_reader_at X i_X3_readEnd_X3 (by decide +kernel) dX3_readEnd_45 ?_
    refine j_Vv (st := []) X [.int (1 : Int32), .int (S1.1 15)] 3 (c_X3_fail l D i q A (1 : Int32) (S1.1 15) S1 _ h) (cwV 2 X.ts gX3_readEnd_X3_fail rfl rfl rfl (by decide +kernel) ⟨Nat.le_of_ble_eq_true rfl, Nat.le_of_ble_eq_true rfl⟩) rfl rfl rfl rfl (Nat.le_of_ble_eq_true rfl) dX3_readEnd_48 (fun S4 h => ?_)
    exact j_vret X h dX3_readEnd_51
  · have h := h.2 c3
    refine j_aload_n X rfl 0 rfl dX3_readEnd_15 ?_
    refine jgC_reader_bytes X i_X3_readEnd_X3 (by decide +kernel) dX3_readEnd_16 ?_
    refine j_aload_n X rfl 0 rfl dX3_readEnd_19 ?_
    refine jgC_reader_at X i_X3_readEnd_X3 (by decide +kernel) dX3_readEnd_20 ?_
    obtain ⟨k6, h⟩ := h
    refine jlC_reader_bytes X k6 dX3_readEnd_23 ?_
    refine j_bipush (v := (59 : Int32)) X (by decide) dX3_readEnd_24 ?_
    refine j_icmp_ne (tgt := 42) X dX3_readEnd_26 (by decide) (fun c7 => ?_) (fun c7 => ?_)
    · have h := h.1 c7
      refine j_aload_n X rfl 0 rfl dX3_readEnd_42 ?_
      refine j_iconst (v := (1 : Int32)) X (by decide) dX3_readEnd_43 ?_
      refine j_aload_n X rfl 0 rfl dX3_readEnd_44 ?_
      refine jgC_reader_at X i_X3_readEnd_X3 (by decide +kernel) dX3_readEnd_45 ?_
      refine j_Vv (st := []) X [.int (1 : Int32), .int (S1.1 15)] 3 (c_X3_fail l D i q A (1 : Int32) (S1.1 15) S1 _ h) (cwV 2 X.ts gX3_readEnd_X3_fail rfl rfl rfl (by decide +kernel) ⟨Nat.le_of_ble_eq_true rfl, Nat.le_of_ble_eq_true rfl⟩) rfl rfl rfl rfl (Nat.le_of_ble_eq_true rfl) dX3_readEnd_48 (fun S8 h => ?_)
      exact j_vret X h dX3_readEnd_51
    · have h := h.2 c7
      refine j_aload_n X rfl 0 rfl dX3_readEnd_29 ?_
      refine j_dup X rfl dX3_readEnd_30 ?_
      refine jgC_reader_at X i_X3_readEnd_X3 (by decide +kernel) dX3_readEnd_31 ?_
      refine j_iconst (v := (1 : Int32)) X (by decide) dX3_readEnd_34 ?_
      refine j_iadd X dX3_readEnd_35 ?_
      refine jpC_reader_at X i_X3_readEnd_X3 (by decide +kernel) dX3_readEnd_36 (fun S10 eS10 => ?_)
      have h := h S10 eS10
      refine j_goto (tgt := 51) X dX3_readEnd_39 (by decide) ?_
      exact j_vret X h dX3_readEnd_51
set_option maxRecDepth 100000 in
theorem i_X3_readStatement_X3 : ∀ w ∈ u_ws RX3 TX3 9, w ∈ wsX3_readStatement := by decide +kernel
abbrev rm_X3_readStatement : Room := { frames := 6, cells := 0, slots := 0, locals := 131 }
set_option maxRecDepth 100000 in
set_option maxHeartbeats 4000000 in
theorem w_X3_readStatement_99 {D : va_G} {i : Nat → ClassId} {q : Nat → Nat} {A : Nat → Prop} {p : Program} {l : Launch} {e : Env} {s : State} {m : MethodId} {args : Array Value} {below : List Frame} {meth : Method} {c : Code} (X : cX D i A p s m args meth c cX3_readStatement RX3 5 wsX3_readStatement none) {Q : vS → Prop} : ∀ (a2 : Int32) (S : vS), e_X3_readStatement_99 Q a2 S → cJ D A p l e (headSpec wsX3_readStatement rm_X3_readStatement).room s m args below meth c (MQ below (va_Qv Q (vB D i A (wC q i)) A) args s 0 0 A) 5 (wC q i S) [(0, .ref (q 3)), (2, .int a2)] 99 [] := by
  intro a2 S h
  unfold e_X3_readStatement_99 at h
  refine j_aload_n X rfl 0 rfl dX3_readStatement_99 ?_
  refine jgC_reader_faultKind X i_X3_readStatement_X3 (by decide +kernel) dX3_readStatement_100 ?_
  refine j_if_ne (tgt := 110) X dX3_readStatement_103 (by decide) (fun c25 => ?_) (fun c25 => ?_)
  · have h := h.1 c25
    refine j_aload_n X rfl 0 rfl dX3_readStatement_110 ?_
    refine jgC_reader_faultKind X i_X3_readStatement_X3 (by decide +kernel) dX3_readStatement_111 ?_
    refine j_if_ne (tgt := 122) X dX3_readStatement_114 (by decide) (fun c26 => ?_) (fun c26 => ?_)
    · have h := h.1 c26
      exact j_vret X h dX3_readStatement_122
    · have h := h.2 c26
      refine j_aload_n X rfl 0 rfl dX3_readStatement_117 ?_
      refine j_iload_n X rfl 1 rfl dX3_readStatement_118 ?_
      refine j_Vv (st := []) X [.int a2] 3 (c_X3_put l D i q A a2 S _ h) (cwV 1 X.ts gX3_readStatement_X3_put rfl rfl rfl (by decide +kernel) ⟨Nat.le_of_ble_eq_true rfl, Nat.le_of_ble_eq_true rfl⟩) rfl rfl rfl rfl (Nat.le_of_ble_eq_true rfl) dX3_readStatement_119 (fun S27 h => ?_)
      exact j_vret X h dX3_readStatement_122
  · have h := h.2 c25
    refine j_aload_n X rfl 0 rfl dX3_readStatement_106 ?_
    refine j_Vv (st := []) X [] 3 (c_X3_readEnd l D i q A S _ h) (cwV 0 X.ts gX3_readStatement_X3_readEnd rfl rfl rfl (by decide +kernel) ⟨Nat.le_of_ble_eq_true rfl, Nat.le_of_ble_eq_true rfl⟩) rfl rfl rfl rfl (Nat.le_of_ble_eq_true rfl) dX3_readStatement_107 (fun S29 h => ?_)
    refine j_aload_n X rfl 0 rfl dX3_readStatement_110 ?_
    refine jgC_reader_faultKind X i_X3_readStatement_X3 (by decide +kernel) dX3_readStatement_111 ?_
    refine j_if_ne (tgt := 122) X dX3_readStatement_114 (by decide) (fun c31 => ?_) (fun c31 => ?_)
    · have h := h.1 c31
      exact j_vret X h dX3_readStatement_122
    · have h := h.2 c31
      refine j_aload_n X rfl 0 rfl dX3_readStatement_117 ?_
      refine j_iload_n X rfl 1 rfl dX3_readStatement_118 ?_
      refine j_Vv (st := []) X [.int a2] 3 (c_X3_put l D i q A a2 S29 _ h) (cwV 1 X.ts gX3_readStatement_X3_put rfl rfl rfl (by decide +kernel) ⟨Nat.le_of_ble_eq_true rfl, Nat.le_of_ble_eq_true rfl⟩) rfl rfl rfl rfl (Nat.le_of_ble_eq_true rfl) dX3_readStatement_119 (fun S32 h => ?_)
      exact j_vret X h dX3_readStatement_122
set_option maxRecDepth 100000 in
set_option maxHeartbeats 4000000 in
theorem w_X3_readStatement_73 {D : va_G} {i : Nat → ClassId} {q : Nat → Nat} {A : Nat → Prop} {p : Program} {l : Launch} {e : Env} {s : State} {m : MethodId} {args : Array Value} {below : List Frame} {meth : Method} {c : Code} (X : cX D i A p s m args meth c cX3_readStatement RX3 5 wsX3_readStatement none) {Q : vS → Prop} : ∀ (n : Nat) (a2 : Int32) (a3 : Int32) (a4 : Int32) (S : vS), e_X3_readStatement_73 Q n a2 a3 a4 S → cJ D A p l e (headSpec wsX3_readStatement rm_X3_readStatement).room s m args below meth c (MQ below (va_Qv Q (vB D i A (wC q i)) A) args s 0 0 A) 5 (wC q i S) [(0, .ref (q 3)), (2, .int a2), (3, .int a3), (4, .int a4)] 73 [] := by
  intro n
  induction n with
  | zero =>
    intro _ _ _ S h
    rw [e_X3_readStatement_73.eq_1] at h
    exact h.elim
  | succ n ih =>
    intro a2 a3 a4 S h
    rw [e_X3_readStatement_73.eq_2] at h
    refine j_iload X 3 rfl dX3_readStatement_73 ?_
    refine j_iload_n X rfl 2 rfl dX3_readStatement_75 ?_
    refine j_icmp_ge (tgt := 99) X dX3_readStatement_76 (by decide) (fun c20 => ?_) (fun c20 => ?_)
    · have h := h.1 c20
      refine j_loc [0, 1] rfl ?_
      exact w_X3_readStatement_99 X a2 S h
    · have h := h.2 c20
      refine j_aload_n X rfl 0 rfl dX3_readStatement_79 ?_
      refine jgC_reader_faultKind X i_X3_readStatement_X3 (by decide +kernel) dX3_readStatement_80 ?_
      refine j_if_ne (tgt := 99) X dX3_readStatement_83 (by decide) (fun c21 => ?_) (fun c21 => ?_)
      · have h := h.1 c21
        refine j_loc [0, 1] rfl ?_
        exact w_X3_readStatement_99 X a2 S h
      · have h := h.2 c21
        refine j_aload_n X rfl 0 rfl dX3_readStatement_86 ?_
        refine j_iload_n X rfl 1 rfl dX3_readStatement_87 ?_
        refine j_iload X 3 rfl dX3_readStatement_88 ?_
        refine j_Vv (st := []) X [.int a2, .int a4] 3 (c_X3_readNumber l D i q A a2 a4 S _ h) (cwV 2 X.ts gX3_readStatement_X3_readNumber rfl rfl rfl (by decide +kernel) ⟨Nat.le_of_ble_eq_true rfl, Nat.le_of_ble_eq_true rfl⟩) rfl rfl rfl rfl (Nat.le_of_ble_eq_true rfl) dX3_readStatement_90 (fun S22 h => ?_)
        refine j_iinc (dv := (1 : Int32)) (lv' := fun v24 => [(4, .int v24), (0, .ref (q 3)), (2, .int a2), (3, .int a3)]) X dX3_readStatement_93 (pl := 3) rfl (by decide) (by decide) (fun _ => rfl) (fun v24 ev24 => ?_)
        have h := h v24 ev24
        refine j_goto (tgt := 73) X dX3_readStatement_96 (by decide) ?_
        refine j_loc [1, 2, 3, 0] rfl ?_
        exact ih a2 a3 v24 S22 h
set_option maxRecDepth 100000 in
set_option maxHeartbeats 4000000 in
theorem w_X3_readStatement_35 {D : va_G} {i : Nat → ClassId} {q : Nat → Nat} {A : Nat → Prop} {p : Program} {l : Launch} {e : Env} {s : State} {m : MethodId} {args : Array Value} {below : List Frame} {meth : Method} {c : Code} (X : cX D i A p s m args meth c cX3_readStatement RX3 5 wsX3_readStatement none) {Q : vS → Prop} : ∀ (a1 : Int32) (a2 : Int32) (S : vS), e_X3_readStatement_35 Q a1 a2 S → cJ D A p l e (headSpec wsX3_readStatement rm_X3_readStatement).room s m args below meth c (MQ below (va_Qv Q (vB D i A (wC q i)) A) args s 0 0 A) 5 (wC q i S) [(0, .ref (q 3)), (1, .int a1), (2, .int a2)] 35 [] := by
  intro a1 a2 S h
  unfold e_X3_readStatement_35 at h
  refine j_aload_n X rfl 0 rfl dX3_readStatement_35 ?_
  refine jgC_reader_counts X i_X3_readStatement_X3 (by decide +kernel) dX3_readStatement_36 ?_
  refine j_iload_n X rfl 2 rfl dX3_readStatement_39 ?_
  obtain ⟨k11, h⟩ := h
  refine jlC_reader_counts X k11 dX3_readStatement_40 ?_
  refine j_iload_n X rfl 2 rfl dX3_readStatement_41 ?_
  refine j_Si (st := [.int (S.2.1 19 (a2).toNatClampNeg)]) X [.int a2] (c_X3_timesOf l D i q A a2 S _ h) (va_cwS 1 X.ts gX3_readStatement_X3_timesOf rfl rfl rfl (by decide +kernel) ⟨Nat.le_of_ble_eq_true rfl, Nat.le_of_ble_eq_true rfl⟩) rfl rfl (Nat.le_of_ble_eq_true rfl) dX3_readStatement_42 (fun r13 S12 h => ?_)
  refine j_icmp_lt (tgt := 55) X dX3_readStatement_45 (by decide) (fun c14 => ?_) (fun c14 => ?_)
  · have h := h.1 c14
    refine j_aload_n X rfl 0 rfl dX3_readStatement_55 ?_
    refine jgC_reader_counts X i_X3_readStatement_X3 (by decide +kernel) dX3_readStatement_56 ?_
    refine j_iload_n X rfl 2 rfl dX3_readStatement_59 ?_
    refine j_dup2 X rfl rfl dX3_readStatement_60 ?_
    refine jlC_reader_counts X k11 dX3_readStatement_61 ?_
    refine j_iconst (v := (1 : Int32)) X (by decide) dX3_readStatement_62 ?_
    refine j_iadd X dX3_readStatement_63 ?_
    refine jsC_reader_counts X k11 dX3_readStatement_64 (fun S15 eS15 => ?_)
    have h := h S15 eS15
    refine j_iload_n X rfl 2 rfl dX3_readStatement_65 ?_
    refine j_Si (st := []) X [.int a2] (c_X3_partsOf l D i q A a2 S15 _ h) (va_cwS 1 X.ts gX3_readStatement_X3_partsOf rfl rfl rfl (by decide +kernel) ⟨Nat.le_of_ble_eq_true rfl, Nat.le_of_ble_eq_true rfl⟩) rfl rfl (Nat.le_of_ble_eq_true rfl) dX3_readStatement_66 (fun r17 S16 h => ?_)
    refine j_istore_n (lv' := [(3, .int r17), (0, .ref (q 3)), (1, .int a1), (2, .int a2)]) X rfl (by decide) rfl dX3_readStatement_69 ?_
    refine j_iconst (v := (0 : Int32)) X (by decide) dX3_readStatement_70 ?_
    refine j_istore (lv' := [(4, .int (0 : Int32)), (3, .int r17), (0, .ref (q 3)), (1, .int a1), (2, .int a2)]) X (by decide) rfl dX3_readStatement_71 ?_
    refine j_loc [2, 4, 1, 0] rfl ?_
    obtain ⟨j, h⟩ := h
    exact w_X3_readStatement_73 X j a2 r17 (0 : Int32) S16 h
  · have h := h.2 c14
    refine j_aload_n X rfl 0 rfl dX3_readStatement_48 ?_
    refine j_iconst (v := (3 : Int32)) X (by decide) dX3_readStatement_49 ?_
    refine j_iload_n X rfl 1 rfl dX3_readStatement_50 ?_
    refine j_Vv (st := []) X [.int (3 : Int32), .int a1] 3 (c_X3_fail l D i q A (3 : Int32) a1 S12 _ h) (cwV 2 X.ts gX3_readStatement_X3_fail rfl rfl rfl (by decide +kernel) ⟨Nat.le_of_ble_eq_true rfl, Nat.le_of_ble_eq_true rfl⟩) rfl rfl rfl rfl (Nat.le_of_ble_eq_true rfl) dX3_readStatement_51 (fun S18 h => ?_)
    exact j_vret X h dX3_readStatement_54
set_option maxRecDepth 100000 in
set_option maxHeartbeats 4000000 in
theorem c_X3_readStatement (l : Launch) (D : va_G) (i : Nat → ClassId) (q : Nat → Nat) (A : Nat → Prop) (S : vS) (Q : vS → Prop) (h : e_X3_readStatement S Q) : Met l yX3_readStatement wsX3_readStatement rm_X3_readStatement (va_Pc [.ref (q 3)] (vB D i A (wC q i) S)) (va_Qv Q (vB D i A (wC q i)) A) 0 0 A := by
  refine m_ofJ (own := RX3) (lv := [(0, .ref (q 3))]) rfl (by decide) rfl (Nat.le_of_ble_eq_true rfl) rfl ?_
  intro p e s m below meth c X
  unfold e_X3_readStatement at h
  refine j_aload_n X rfl 0 rfl dX3_readStatement_0 ?_
  refine jgC_reader_at X i_X3_readStatement_X3 (by decide +kernel) dX3_readStatement_1 ?_
  refine j_topi (fun v1 ev1 => ?_)
  have h := h v1 ev1
  refine j_istore_n (lv' := [(1, .int v1), (0, .ref (q 3))]) X rfl (by decide) rfl dX3_readStatement_4 ?_
  refine j_aload_n X rfl 1 rfl dX3_readStatement_5 ?_
  refine j_Vi (st := []) X [] 3 (c_X3_readKind l D i q A S _ h) (cwV 0 X.ts gX3_readStatement_X3_readKind rfl rfl rfl (by decide +kernel) ⟨Nat.le_of_ble_eq_true rfl, Nat.le_of_ble_eq_true rfl⟩) rfl rfl rfl rfl (Nat.le_of_ble_eq_true rfl) dX3_readStatement_6 (fun r3 S2 h => ?_)
  refine j_istore_n (lv' := [(2, .int r3), (1, .int v1), (0, .ref (q 3))]) X rfl (by decide) rfl dX3_readStatement_9 ?_
  refine j_iload_n X rfl 0 rfl dX3_readStatement_10 ?_
  refine j_iconst (v := (-1 : Int32)) X (by decide) dX3_readStatement_11 ?_
  refine j_icmp_eq (tgt := 28) X dX3_readStatement_12 (by decide) (fun c4 => ?_) (fun c4 => ?_)
  · have h := h.1 c4
    refine j_aload_n X rfl 2 rfl dX3_readStatement_28 ?_
    refine j_iconst (v := (1 : Int32)) X (by decide) dX3_readStatement_29 ?_
    refine j_iload_n X rfl 1 rfl dX3_readStatement_30 ?_
    refine j_Vv (st := []) X [.int (1 : Int32), .int v1] 3 (c_X3_fail l D i q A (1 : Int32) v1 S2 _ h) (cwV 2 X.ts gX3_readStatement_X3_fail rfl rfl rfl (by decide +kernel) ⟨Nat.le_of_ble_eq_true rfl, Nat.le_of_ble_eq_true rfl⟩) rfl rfl rfl rfl (Nat.le_of_ble_eq_true rfl) dX3_readStatement_31 (fun S5 h => ?_)
    exact j_vret X h dX3_readStatement_34
  · have h := h.2 c4
    refine j_iload_n X rfl 0 rfl dX3_readStatement_15 ?_
    refine j_if_eq (tgt := 35) X dX3_readStatement_16 (by decide) (fun c7 => ?_) (fun c7 => ?_)
    · have h := h.1 c7
      refine j_loc [2, 1, 0] rfl ?_
      exact w_X3_readStatement_35 X v1 r3 S2 h
    · have h := h.2 c7
      refine j_aload_n X rfl 2 rfl dX3_readStatement_19 ?_
      refine jgC_reader_counts X i_X3_readStatement_X3 (by decide +kernel) dX3_readStatement_20 ?_
      refine j_iconst (v := (0 : Int32)) X (by decide) dX3_readStatement_23 ?_
      refine jlC_reader_counts X (by unfold vp_in; decide) dX3_readStatement_24 ?_
      refine j_if_ne (tgt := 35) X dX3_readStatement_25 (by decide) (fun c8 => ?_) (fun c8 => ?_)
      · have h := h.1 c8
        refine j_loc [2, 1, 0] rfl ?_
        exact w_X3_readStatement_35 X v1 r3 S2 h
      · have h := h.2 c8
        refine j_aload_n X rfl 2 rfl dX3_readStatement_28 ?_
        refine j_iconst (v := (1 : Int32)) X (by decide) dX3_readStatement_29 ?_
        refine j_iload_n X rfl 1 rfl dX3_readStatement_30 ?_
        refine j_Vv (st := []) X [.int (1 : Int32), .int v1] 3 (c_X3_fail l D i q A (1 : Int32) v1 S2 _ h) (cwV 2 X.ts gX3_readStatement_X3_fail rfl rfl rfl (by decide +kernel) ⟨Nat.le_of_ble_eq_true rfl, Nat.le_of_ble_eq_true rfl⟩) rfl rfl rfl rfl (Nat.le_of_ble_eq_true rfl) dX3_readStatement_31 (fun S9 h => ?_)
        exact j_vret X h dX3_readStatement_34
set_option maxRecDepth 100000 in
theorem i_X3_readAll_X3 : ∀ w ∈ u_ws RX3 TX3 9, w ∈ wsX3_readAll := by decide +kernel
abbrev rm_X3_readAll : Room := { frames := 7, cells := 0, slots := 0, locals := 155 }
set_option maxRecDepth 100000 in
set_option maxHeartbeats 4000000 in
theorem w_X3_readAll_49 {D : va_G} {i : Nat → ClassId} {q : Nat → Nat} {A : Nat → Prop} {p : Program} {l : Launch} {e : Env} {s : State} {m : MethodId} {args : Array Value} {below : List Frame} {meth : Method} {c : Code} (X : cX D i A p s m args meth c cX3_readAll RX3 2 wsX3_readAll (some .boolean)) {Q : Int32 → vS → Prop} : ∀ (S : vS), e_X3_readAll_49 Q S → cJ D A p l e (headSpec wsX3_readAll rm_X3_readAll).room s m args below meth c (MQ below (va_Qi Q (vB D i A (wC q i)) A) args s 0 0 A) 2 (wC q i S) [(0, .ref (q 3))] 49 [] := by
  intro S h
  unfold e_X3_readAll_49 at h
  refine j_aload_n X rfl 0 rfl dX3_readAll_49 ?_
  refine j_iconst (v := (0 : Int32)) X (by decide) dX3_readAll_50 ?_
  refine jpC_reader_length X i_X3_readAll_X3 (by decide +kernel) dX3_readAll_51 (fun S13 eS13 => ?_)
  have h := h S13 eS13
  refine j_aload_n X rfl 0 rfl dX3_readAll_54 ?_
  refine jgC_reader_faultKind X i_X3_readAll_X3 (by decide +kernel) dX3_readAll_55 ?_
  refine j_if_ne (tgt := 65) X dX3_readAll_58 (by decide) (fun c14 => ?_) (fun c14 => ?_)
  · have h := h.1 c14
    refine j_iconst (v := (0 : Int32)) X (by decide) dX3_readAll_65 ?_
    exact j_zret X rfl h dX3_readAll_66
  · have h := h.2 c14
    refine j_iconst (v := (1 : Int32)) X (by decide) dX3_readAll_61 ?_
    refine j_goto (tgt := 66) X dX3_readAll_62 (by decide) ?_
    exact j_zret X rfl h dX3_readAll_66
set_option maxRecDepth 100000 in
set_option maxHeartbeats 4000000 in
theorem w_X3_readAll_10 {D : va_G} {i : Nat → ClassId} {q : Nat → Nat} {A : Nat → Prop} {p : Program} {l : Launch} {e : Env} {s : State} {m : MethodId} {args : Array Value} {below : List Frame} {meth : Method} {c : Code} (X : cX D i A p s m args meth c cX3_readAll RX3 2 wsX3_readAll (some .boolean)) {Q : Int32 → vS → Prop} : ∀ (n : Nat) (a1 : Int32) (S : vS), e_X3_readAll_10 Q n a1 S → cJ D A p l e (headSpec wsX3_readAll rm_X3_readAll).room s m args below meth c (MQ below (va_Qi Q (vB D i A (wC q i)) A) args s 0 0 A) 2 (wC q i S) [(0, .ref (q 3)), (1, .int a1)] 10 [] := by
  intro n
  induction n with
  | zero =>
    intro _ S h
    rw [e_X3_readAll_10.eq_1] at h
    exact h.elim
  | succ n ih =>
    intro a1 S h
    rw [e_X3_readAll_10.eq_2] at h
    refine j_iload_n X rfl 1 rfl dX3_readAll_10 ?_
    refine j_sipush (v := (500 : Int32)) X (by decide) dX3_readAll_11 ?_
    refine j_icmp_ge (tgt := 49) X dX3_readAll_14 (by decide) (fun c5 => ?_) (fun c5 => ?_)
    · have h := h.1 c5
      refine j_loc [0] rfl ?_
      exact w_X3_readAll_49 X S h
    · have h := h.2 c5
      refine j_aload_n X rfl 0 rfl dX3_readAll_17 ?_
      refine jgC_reader_faultKind X i_X3_readAll_X3 (by decide +kernel) dX3_readAll_18 ?_
      refine j_if_ne (tgt := 49) X dX3_readAll_21 (by decide) (fun c6 => ?_) (fun c6 => ?_)
      · have h := h.1 c6
        refine j_loc [0] rfl ?_
        exact w_X3_readAll_49 X S h
      · have h := h.2 c6
        refine j_aload_n X rfl 0 rfl dX3_readAll_24 ?_
        refine jgC_reader_at X i_X3_readAll_X3 (by decide +kernel) dX3_readAll_25 ?_
        refine j_aload_n X rfl 0 rfl dX3_readAll_28 ?_
        refine jgC_reader_length X i_X3_readAll_X3 (by decide +kernel) dX3_readAll_29 ?_
        refine j_icmp_ge (tgt := 49) X dX3_readAll_32 (by decide) (fun c7 => ?_) (fun c7 => ?_)
        · have h := h.1 c7
          refine j_loc [0] rfl ?_
          exact w_X3_readAll_49 X S h
        · have h := h.2 c7
          refine j_aload_n X rfl 0 rfl dX3_readAll_35 ?_
          refine j_Vv (st := []) X [] 3 (c_X3_readStatement l D i q A S _ h) (cwV 0 X.ts gX3_readAll_X3_readStatement rfl rfl rfl (by decide +kernel) ⟨Nat.le_of_ble_eq_true rfl, Nat.le_of_ble_eq_true rfl⟩) rfl rfl rfl rfl (Nat.le_of_ble_eq_true rfl) dX3_readAll_36 (fun S8 h => ?_)
          refine j_aload_n X rfl 0 rfl dX3_readAll_39 ?_
          refine j_Vv (st := []) X [] 3 (c_X3_skipBlanks l D i q A S8 _ h) (cwV 0 X.ts gX3_readAll_X3_skipBlanks rfl rfl rfl (by decide +kernel) ⟨Nat.le_of_ble_eq_true rfl, Nat.le_of_ble_eq_true rfl⟩) rfl rfl rfl rfl (Nat.le_of_ble_eq_true rfl) dX3_readAll_40 (fun S10 h => ?_)
          refine j_iinc (dv := (1 : Int32)) (lv' := fun v12 => [(1, .int v12), (0, .ref (q 3))]) X dX3_readAll_43 (pl := 1) rfl (by decide) (by decide) (fun _ => rfl) (fun v12 ev12 => ?_)
          have h := h v12 ev12
          refine j_goto (tgt := 10) X dX3_readAll_46 (by decide) ?_
          refine j_loc [1, 0] rfl ?_
          exact ih v12 S10 h
set_option maxRecDepth 100000 in
set_option maxHeartbeats 4000000 in
theorem c_X3_readAll (l : Launch) (D : va_G) (i : Nat → ClassId) (q : Nat → Nat) (A : Nat → Prop) (S : vS) (Q : Int32 → vS → Prop) (h : e_X3_readAll S Q) : Met l yX3_readAll wsX3_readAll rm_X3_readAll (va_Pc [.ref (q 3)] (vB D i A (wC q i) S)) (va_Qi Q (vB D i A (wC q i)) A) 0 0 A := by
  refine m_ofJ (own := RX3) (lv := [(0, .ref (q 3))]) rfl (by decide) rfl (Nat.le_of_ble_eq_true rfl) rfl ?_
  intro p e s m below meth c X
  unfold e_X3_readAll at h
  refine j_aload_n X rfl 0 rfl dX3_readAll_0 ?_
  refine j_Vv (st := []) X [] 3 (c_X3_restart l D i q A S _ h) (cwV 0 X.ts gX3_readAll_X3_restart rfl rfl rfl (by decide +kernel) ⟨Nat.le_of_ble_eq_true rfl, Nat.le_of_ble_eq_true rfl⟩) rfl rfl rfl rfl (Nat.le_of_ble_eq_true rfl) dX3_readAll_1 (fun S1 h => ?_)
  refine j_aload_n X rfl 0 rfl dX3_readAll_4 ?_
  refine j_Vv (st := []) X [] 3 (c_X3_skipBlanks l D i q A S1 _ h) (cwV 0 X.ts gX3_readAll_X3_skipBlanks rfl rfl rfl (by decide +kernel) ⟨Nat.le_of_ble_eq_true rfl, Nat.le_of_ble_eq_true rfl⟩) rfl rfl rfl rfl (Nat.le_of_ble_eq_true rfl) dX3_readAll_5 (fun S3 h => ?_)
  refine j_iconst (v := (0 : Int32)) X (by decide) dX3_readAll_8 ?_
  refine j_istore_n (lv' := [(1, .int (0 : Int32)), (0, .ref (q 3))]) X rfl (by decide) rfl dX3_readAll_9 ?_
  refine j_loc [1, 0] rfl ?_
  obtain ⟨j, h⟩ := h
  exact w_X3_readAll_10 X j (0 : Int32) S3 h
set_option maxRecDepth 100000 in
theorem i_X2_copyFrom_plan_draft_X2 : ∀ w ∈ u_ws RX2 TX2 14, w ∈ wsX2_copyFrom := by decide +kernel
abbrev rm_X2_copyFrom_plan_draft : Room := { frames := 1, cells := 0, slots := 0, locals := 128 }
set_option maxRecDepth 100000 in
set_option maxHeartbeats 4000000 in
theorem c_X2_copyFrom_plan_draft (l : Launch) (D : va_G) (i : Nat → ClassId) (q : Nat → Nat) (A : Nat → Prop) (S : vS) (Q : vS → Prop) (h : e_X2_copyFrom_plan_draft S Q) : Met l yX2_copyFrom wsX2_copyFrom rm_X2_copyFrom_plan_draft (va_Pc [.ref (q 1), .ref (q 2)] (vB D i A (wC q i) S)) (va_Qv Q (vB D i A (wC q i)) A) 0 0 A := by
  refine m_ofJ (own := RX2) (lv := [(0, .ref (q 1)), (1, .ref (q 2))]) rfl (by decide) rfl (Nat.le_of_ble_eq_true rfl) rfl ?_
  intro p e s m below meth c X
  unfold e_X2_copyFrom_plan_draft at h
  refine j_aload_n X rfl 0 rfl dX2_copyFrom_0 ?_
  refine j_aload_n X rfl 1 rfl dX2_copyFrom_1 ?_
  refine jgC_draft_width X i_X2_copyFrom_plan_draft_X2 (by decide +kernel) dX2_copyFrom_2 ?_
  refine jpC_plan_width X i_X2_copyFrom_plan_draft_X2 (by decide +kernel) dX2_copyFrom_5 (fun S1 eS1 => ?_)
  have h := h S1 eS1
  refine j_aload_n X rfl 0 rfl dX2_copyFrom_8 ?_
  refine j_aload_n X rfl 1 rfl dX2_copyFrom_9 ?_
  refine jgC_draft_height X i_X2_copyFrom_plan_draft_X2 (by decide +kernel) dX2_copyFrom_10 ?_
  refine jpC_plan_height X i_X2_copyFrom_plan_draft_X2 (by decide +kernel) dX2_copyFrom_13 (fun S2 eS2 => ?_)
  have h := h S2 eS2
  refine j_aload_n X rfl 0 rfl dX2_copyFrom_16 ?_
  refine j_aload_n X rfl 1 rfl dX2_copyFrom_17 ?_
  refine jgC_draft_men X i_X2_copyFrom_plan_draft_X2 (by decide +kernel) dX2_copyFrom_18 ?_
  refine jpC_plan_men X i_X2_copyFrom_plan_draft_X2 (by decide +kernel) dX2_copyFrom_21 (fun S3 eS3 => ?_)
  have h := h S3 eS3
  refine j_aload_n X rfl 0 rfl dX2_copyFrom_24 ?_
  refine j_aload_n X rfl 1 rfl dX2_copyFrom_25 ?_
  refine jgC_draft_mists X i_X2_copyFrom_plan_draft_X2 (by decide +kernel) dX2_copyFrom_26 ?_
  refine jpC_plan_mists X i_X2_copyFrom_plan_draft_X2 (by decide +kernel) dX2_copyFrom_29 (fun S4 eS4 => ?_)
  have h := h S4 eS4
  refine j_aload_n X rfl 0 rfl dX2_copyFrom_32 ?_
  refine j_aload_n X rfl 1 rfl dX2_copyFrom_33 ?_
  refine jgC_draft_storeyHigh X i_X2_copyFrom_plan_draft_X2 (by decide +kernel) dX2_copyFrom_34 ?_
  refine jpC_plan_storeyHigh X i_X2_copyFrom_plan_draft_X2 (by decide +kernel) dX2_copyFrom_37 (fun S5 eS5 => ?_)
  have h := h S5 eS5
  refine j_aload_n X rfl 0 rfl dX2_copyFrom_40 ?_
  refine j_aload_n X rfl 1 rfl dX2_copyFrom_41 ?_
  refine jgC_draft_storeyCost X i_X2_copyFrom_plan_draft_X2 (by decide +kernel) dX2_copyFrom_42 ?_
  refine jpC_plan_storeyCost X i_X2_copyFrom_plan_draft_X2 (by decide +kernel) dX2_copyFrom_45 (fun S6 eS6 => ?_)
  have h := h S6 eS6
  refine j_aload_n X rfl 1 rfl dX2_copyFrom_48 ?_
  refine jgC_draft_places X i_X2_copyFrom_plan_draft_X2 (by decide +kernel) dX2_copyFrom_49 ?_
  refine j_iconst (v := (0 : Int32)) X (by decide) dX2_copyFrom_52 ?_
  refine j_aload_n X rfl 0 rfl dX2_copyFrom_53 ?_
  refine jgC_plan_places X i_X2_copyFrom_plan_draft_X2 (by decide +kernel) dX2_copyFrom_54 ?_
  refine j_iconst (v := (0 : Int32)) X (by decide) dX2_copyFrom_57 ?_
  refine j_bipush (v := (6 : Int32)) X (by decide) dX2_copyFrom_58 ?_
  refine j_copyi (ws' := wC q i (sr S6 1 (va_cpy (S6.2.1 9) (S6.2.1 1) ((0 : Int32)).toNatClampNeg ((0 : Int32)).toNatClampNeg ((6 : Int32)).toNatClampNeg))) X 19 11 (by decide +kernel) rfl rfl (by decide) (by decide) (by decide) (by decide) (by decide) rfl (Nat.le_of_ble_eq_true rfl) (Nat.le_of_ble_eq_true rfl) dX2_copyFrom_60 ?_
  obtain ⟨S7, eS7⟩ : ∃ z, z = sr S6 1 (va_cpy (S6.2.1 9) (S6.2.1 1) ((0 : Int32)).toNatClampNeg ((0 : Int32)).toNatClampNeg ((6 : Int32)).toNatClampNeg) := ⟨_, rfl⟩
  rw [← eS7]
  have h := h S7 eS7
  refine j_aload_n X rfl 1 rfl dX2_copyFrom_63 ?_
  refine jgC_draft_grounds X i_X2_copyFrom_plan_draft_X2 (by decide +kernel) dX2_copyFrom_64 ?_
  refine j_iconst (v := (0 : Int32)) X (by decide) dX2_copyFrom_67 ?_
  refine j_aload_n X rfl 0 rfl dX2_copyFrom_68 ?_
  refine jgC_plan_grounds X i_X2_copyFrom_plan_draft_X2 (by decide +kernel) dX2_copyFrom_69 ?_
  refine j_iconst (v := (0 : Int32)) X (by decide) dX2_copyFrom_72 ?_
  refine j_bipush (v := (6 : Int32)) X (by decide) dX2_copyFrom_73 ?_
  refine j_copyi (ws' := wC q i (sr S7 2 (va_cpy (S7.2.1 10) (S7.2.1 2) ((0 : Int32)).toNatClampNeg ((0 : Int32)).toNatClampNeg ((6 : Int32)).toNatClampNeg))) X 20 12 (by decide +kernel) rfl rfl (by decide) (by decide) (by decide) (by decide) (by decide) rfl (Nat.le_of_ble_eq_true rfl) (Nat.le_of_ble_eq_true rfl) dX2_copyFrom_75 ?_
  obtain ⟨S8, eS8⟩ : ∃ z, z = sr S7 2 (va_cpy (S7.2.1 10) (S7.2.1 2) ((0 : Int32)).toNatClampNeg ((0 : Int32)).toNatClampNeg ((6 : Int32)).toNatClampNeg) := ⟨_, rfl⟩
  rw [← eS8]
  have h := h S8 eS8
  refine j_aload_n X rfl 1 rfl dX2_copyFrom_78 ?_
  refine jgC_draft_storeys X i_X2_copyFrom_plan_draft_X2 (by decide +kernel) dX2_copyFrom_79 ?_
  refine j_iconst (v := (0 : Int32)) X (by decide) dX2_copyFrom_82 ?_
  refine j_aload_n X rfl 0 rfl dX2_copyFrom_83 ?_
  refine jgC_plan_storeys X i_X2_copyFrom_plan_draft_X2 (by decide +kernel) dX2_copyFrom_84 ?_
  refine j_iconst (v := (0 : Int32)) X (by decide) dX2_copyFrom_87 ?_
  refine j_bipush (v := (6 : Int32)) X (by decide) dX2_copyFrom_88 ?_
  refine j_copyi (ws' := wC q i (sr S8 3 (va_cpy (S8.2.1 11) (S8.2.1 3) ((0 : Int32)).toNatClampNeg ((0 : Int32)).toNatClampNeg ((6 : Int32)).toNatClampNeg))) X 21 13 (by decide +kernel) rfl rfl (by decide) (by decide) (by decide) (by decide) (by decide) rfl (Nat.le_of_ble_eq_true rfl) (Nat.le_of_ble_eq_true rfl) dX2_copyFrom_90 ?_
  obtain ⟨S9, eS9⟩ : ∃ z, z = sr S8 3 (va_cpy (S8.2.1 11) (S8.2.1 3) ((0 : Int32)).toNatClampNeg ((0 : Int32)).toNatClampNeg ((6 : Int32)).toNatClampNeg) := ⟨_, rfl⟩
  rw [← eS9]
  have h := h S9 eS9
  refine j_aload_n X rfl 1 rfl dX2_copyFrom_93 ?_
  refine jgC_draft_stands X i_X2_copyFrom_plan_draft_X2 (by decide +kernel) dX2_copyFrom_94 ?_
  refine j_iconst (v := (0 : Int32)) X (by decide) dX2_copyFrom_97 ?_
  refine j_aload_n X rfl 0 rfl dX2_copyFrom_98 ?_
  refine jgC_plan_stands X i_X2_copyFrom_plan_draft_X2 (by decide +kernel) dX2_copyFrom_99 ?_
  refine j_iconst (v := (0 : Int32)) X (by decide) dX2_copyFrom_102 ?_
  refine j_bipush (v := (60 : Int32)) X (by decide) dX2_copyFrom_103 ?_
  refine j_copyi (ws' := wC q i (sr S9 4 (va_cpy (S9.2.1 12) (S9.2.1 4) ((0 : Int32)).toNatClampNeg ((0 : Int32)).toNatClampNeg ((60 : Int32)).toNatClampNeg))) X 22 14 (by decide +kernel) rfl rfl (by decide) (by decide) (by decide) (by decide) (by decide) rfl (Nat.le_of_ble_eq_true rfl) (Nat.le_of_ble_eq_true rfl) dX2_copyFrom_105 ?_
  obtain ⟨S10, eS10⟩ : ∃ z, z = sr S9 4 (va_cpy (S9.2.1 12) (S9.2.1 4) ((0 : Int32)).toNatClampNeg ((0 : Int32)).toNatClampNeg ((60 : Int32)).toNatClampNeg) := ⟨_, rfl⟩
  rw [← eS10]
  have h := h S10 eS10
  refine j_aload_n X rfl 1 rfl dX2_copyFrom_108 ?_
  refine jgC_draft_fish X i_X2_copyFrom_plan_draft_X2 (by decide +kernel) dX2_copyFrom_109 ?_
  refine j_iconst (v := (0 : Int32)) X (by decide) dX2_copyFrom_112 ?_
  refine j_aload_n X rfl 0 rfl dX2_copyFrom_113 ?_
  refine jgC_plan_fish X i_X2_copyFrom_plan_draft_X2 (by decide +kernel) dX2_copyFrom_114 ?_
  refine j_iconst (v := (0 : Int32)) X (by decide) dX2_copyFrom_117 ?_
  refine j_bipush (v := (60 : Int32)) X (by decide) dX2_copyFrom_118 ?_
  refine j_copyi (ws' := wC q i (sr S10 5 (va_cpy (S10.2.1 13) (S10.2.1 5) ((0 : Int32)).toNatClampNeg ((0 : Int32)).toNatClampNeg ((60 : Int32)).toNatClampNeg))) X 23 15 (by decide +kernel) rfl rfl (by decide) (by decide) (by decide) (by decide) (by decide) rfl (Nat.le_of_ble_eq_true rfl) (Nat.le_of_ble_eq_true rfl) dX2_copyFrom_120 ?_
  obtain ⟨S11, eS11⟩ : ∃ z, z = sr S10 5 (va_cpy (S10.2.1 13) (S10.2.1 5) ((0 : Int32)).toNatClampNeg ((0 : Int32)).toNatClampNeg ((60 : Int32)).toNatClampNeg) := ⟨_, rfl⟩
  rw [← eS11]
  have h := h S11 eS11
  refine j_aload_n X rfl 1 rfl dX2_copyFrom_123 ?_
  refine jgC_draft_mistFirst X i_X2_copyFrom_plan_draft_X2 (by decide +kernel) dX2_copyFrom_124 ?_
  refine j_iconst (v := (0 : Int32)) X (by decide) dX2_copyFrom_127 ?_
  refine j_aload_n X rfl 0 rfl dX2_copyFrom_128 ?_
  refine jgC_plan_mistFirst X i_X2_copyFrom_plan_draft_X2 (by decide +kernel) dX2_copyFrom_129 ?_
  refine j_iconst (v := (0 : Int32)) X (by decide) dX2_copyFrom_132 ?_
  refine j_bipush (v := (10 : Int32)) X (by decide) dX2_copyFrom_133 ?_
  refine j_copyi (ws' := wC q i (sr S11 6 (va_cpy (S11.2.1 14) (S11.2.1 6) ((0 : Int32)).toNatClampNeg ((0 : Int32)).toNatClampNeg ((10 : Int32)).toNatClampNeg))) X 24 16 (by decide +kernel) rfl rfl (by decide) (by decide) (by decide) (by decide) (by decide) rfl (Nat.le_of_ble_eq_true rfl) (Nat.le_of_ble_eq_true rfl) dX2_copyFrom_135 ?_
  obtain ⟨S12, eS12⟩ : ∃ z, z = sr S11 6 (va_cpy (S11.2.1 14) (S11.2.1 6) ((0 : Int32)).toNatClampNeg ((0 : Int32)).toNatClampNeg ((10 : Int32)).toNatClampNeg) := ⟨_, rfl⟩
  rw [← eS12]
  have h := h S12 eS12
  refine j_aload_n X rfl 1 rfl dX2_copyFrom_138 ?_
  refine jgC_draft_mistLast X i_X2_copyFrom_plan_draft_X2 (by decide +kernel) dX2_copyFrom_139 ?_
  refine j_iconst (v := (0 : Int32)) X (by decide) dX2_copyFrom_142 ?_
  refine j_aload_n X rfl 0 rfl dX2_copyFrom_143 ?_
  refine jgC_plan_mistLast X i_X2_copyFrom_plan_draft_X2 (by decide +kernel) dX2_copyFrom_144 ?_
  refine j_iconst (v := (0 : Int32)) X (by decide) dX2_copyFrom_147 ?_
  refine j_bipush (v := (10 : Int32)) X (by decide) dX2_copyFrom_148 ?_
  refine j_copyi (ws' := wC q i (sr S12 7 (va_cpy (S12.2.1 15) (S12.2.1 7) ((0 : Int32)).toNatClampNeg ((0 : Int32)).toNatClampNeg ((10 : Int32)).toNatClampNeg))) X 25 17 (by decide +kernel) rfl rfl (by decide) (by decide) (by decide) (by decide) (by decide) rfl (Nat.le_of_ble_eq_true rfl) (Nat.le_of_ble_eq_true rfl) dX2_copyFrom_150 ?_
  obtain ⟨S13, eS13⟩ : ∃ z, z = sr S12 7 (va_cpy (S12.2.1 15) (S12.2.1 7) ((0 : Int32)).toNatClampNeg ((0 : Int32)).toNatClampNeg ((10 : Int32)).toNatClampNeg) := ⟨_, rfl⟩
  rw [← eS13]
  have h := h S13 eS13
  refine j_aload_n X rfl 1 rfl dX2_copyFrom_153 ?_
  refine jgC_draft_mistFar X i_X2_copyFrom_plan_draft_X2 (by decide +kernel) dX2_copyFrom_154 ?_
  refine j_iconst (v := (0 : Int32)) X (by decide) dX2_copyFrom_157 ?_
  refine j_aload_n X rfl 0 rfl dX2_copyFrom_158 ?_
  refine jgC_plan_mistFar X i_X2_copyFrom_plan_draft_X2 (by decide +kernel) dX2_copyFrom_159 ?_
  refine j_iconst (v := (0 : Int32)) X (by decide) dX2_copyFrom_162 ?_
  refine j_bipush (v := (10 : Int32)) X (by decide) dX2_copyFrom_163 ?_
  refine j_copyi (ws' := wC q i (sr S13 8 (va_cpy (S13.2.1 16) (S13.2.1 8) ((0 : Int32)).toNatClampNeg ((0 : Int32)).toNatClampNeg ((10 : Int32)).toNatClampNeg))) X 26 18 (by decide +kernel) rfl rfl (by decide) (by decide) (by decide) (by decide) (by decide) rfl (Nat.le_of_ble_eq_true rfl) (Nat.le_of_ble_eq_true rfl) dX2_copyFrom_165 ?_
  obtain ⟨S14, eS14⟩ : ∃ z, z = sr S13 8 (va_cpy (S13.2.1 16) (S13.2.1 8) ((0 : Int32)).toNatClampNeg ((0 : Int32)).toNatClampNeg ((10 : Int32)).toNatClampNeg) := ⟨_, rfl⟩
  rw [← eS14]
  have h := h S14 eS14
  exact j_vret X h dX2_copyFrom_168
set_option maxRecDepth 100000 in
theorem i_X5_restart_now_plan_X2 : ∀ w ∈ u_ws RX2 TX2 14, w ∈ wsX5_restart := by decide +kernel
set_option maxRecDepth 100000 in
theorem i_X5_restart_now_plan_X5 : ∀ w ∈ u_ws RX5 TX5 7, w ∈ wsX5_restart := by decide +kernel
abbrev rm_X5_restart_now_plan : Room := { frames := 1, cells := 0, slots := 0, locals := 128 }
set_option maxRecDepth 100000 in
set_option maxHeartbeats 4000000 in
theorem w_X5_restart_now_plan_7 {D : va_G} {i : Nat → ClassId} {q : Nat → Nat} {A : Nat → Prop} {p : Program} {l : Launch} {e : Env} {s : State} {m : MethodId} {args : Array Value} {below : List Frame} {meth : Method} {c : Code} (X : cX D i A p s m args meth c cX5_restart RX5 3 wsX5_restart none) {Q : vS → Prop} : ∀ (n : Nat) (a2 : Int32) (S : vS), e_X5_restart_now_plan_7 Q n a2 S → cJ D A p l e (headSpec wsX5_restart rm_X5_restart_now_plan).room s m args below meth c (MQ below (va_Qv Q (vB D i A (wC q i)) A) args s 0 0 A) 3 (wC q i S) [(0, .ref (q 4)), (1, .ref (q 1)), (2, .int a2)] 7 [] := by
  intro n
  induction n with
  | zero =>
    intro _ S h
    rw [e_X5_restart_now_plan_7.eq_1] at h
    exact h.elim
  | succ n ih =>
    intro a2 S h
    rw [e_X5_restart_now_plan_7.eq_2] at h
    refine j_iload_n X rfl 2 rfl dX5_restart_7 ?_
    refine j_bipush (v := (6 : Int32)) X (by decide) dX5_restart_8 ?_
    refine j_icmp_ge (tgt := 26) X dX5_restart_10 (by decide) (fun c2 => ?_) (fun c2 => ?_)
    · have h := h.1 c2
      refine j_aload_n X rfl 1 rfl dX5_restart_26 ?_
      refine jgC_plan_storeys X i_X5_restart_now_plan_X2 (by decide +kernel) dX5_restart_27 ?_
      refine j_iconst (v := (0 : Int32)) X (by decide) dX5_restart_30 ?_
      refine j_aload_n X rfl 0 rfl dX5_restart_31 ?_
      refine jgC_now_storeys X i_X5_restart_now_plan_X5 (by decide +kernel) dX5_restart_32 ?_
      refine j_iconst (v := (0 : Int32)) X (by decide) dX5_restart_35 ?_
      refine j_bipush (v := (6 : Int32)) X (by decide) dX5_restart_36 ?_
      refine j_copyi (ws' := wC q i (sr S 21 (va_cpy (S.2.1 3) (S.2.1 21) ((0 : Int32)).toNatClampNeg ((0 : Int32)).toNatClampNeg ((6 : Int32)).toNatClampNeg))) X 13 31 (by decide +kernel) rfl rfl (by decide) (by decide) (by decide) (by decide) (by decide) rfl (Nat.le_of_ble_eq_true rfl) (Nat.le_of_ble_eq_true rfl) dX5_restart_38 ?_
      obtain ⟨S3, eS3⟩ : ∃ z, z = sr S 21 (va_cpy (S.2.1 3) (S.2.1 21) ((0 : Int32)).toNatClampNeg ((0 : Int32)).toNatClampNeg ((6 : Int32)).toNatClampNeg) := ⟨_, rfl⟩
      rw [← eS3]
      have h := h S3 eS3
      refine j_aload_n X rfl 1 rfl dX5_restart_41 ?_
      refine jgC_plan_stands X i_X5_restart_now_plan_X2 (by decide +kernel) dX5_restart_42 ?_
      refine j_iconst (v := (0 : Int32)) X (by decide) dX5_restart_45 ?_
      refine j_aload_n X rfl 0 rfl dX5_restart_46 ?_
      refine jgC_now_stands X i_X5_restart_now_plan_X5 (by decide +kernel) dX5_restart_47 ?_
      refine j_iconst (v := (0 : Int32)) X (by decide) dX5_restart_50 ?_
      refine j_bipush (v := (60 : Int32)) X (by decide) dX5_restart_51 ?_
      refine j_copyi (ws' := wC q i (sr S3 23 (va_cpy (S3.2.1 4) (S3.2.1 23) ((0 : Int32)).toNatClampNeg ((0 : Int32)).toNatClampNeg ((60 : Int32)).toNatClampNeg))) X 14 33 (by decide +kernel) rfl rfl (by decide) (by decide) (by decide) (by decide) (by decide) rfl (Nat.le_of_ble_eq_true rfl) (Nat.le_of_ble_eq_true rfl) dX5_restart_53 ?_
      obtain ⟨S4, eS4⟩ : ∃ z, z = sr S3 23 (va_cpy (S3.2.1 4) (S3.2.1 23) ((0 : Int32)).toNatClampNeg ((0 : Int32)).toNatClampNeg ((60 : Int32)).toNatClampNeg) := ⟨_, rfl⟩
      rw [← eS4]
      have h := h S4 eS4
      exact j_vret X h dX5_restart_56
    · have h := h.2 c2
      refine j_aload_n X rfl 0 rfl dX5_restart_13 ?_
      refine jgC_now_purses X i_X5_restart_now_plan_X5 (by decide +kernel) dX5_restart_14 ?_
      refine j_iload_n X rfl 2 rfl dX5_restart_17 ?_
      refine j_iconst (v := (0 : Int32)) X (by decide) dX5_restart_18 ?_
      obtain ⟨k5, h⟩ := h
      refine jsC_now_purses X k5 dX5_restart_19 (fun S6 eS6 => ?_)
      have h := h S6 eS6
      refine j_iinc (dv := (1 : Int32)) (lv' := fun v7 => [(2, .int v7), (0, .ref (q 4)), (1, .ref (q 1))]) X dX5_restart_20 (pl := 2) rfl (by decide) (by decide) (fun _ => rfl) (fun v7 ev7 => ?_)
      have h := h v7 ev7
      refine j_goto (tgt := 7) X dX5_restart_23 (by decide) ?_
      refine j_loc [1, 2, 0] rfl ?_
      exact ih v7 S6 h
set_option maxRecDepth 100000 in
set_option maxHeartbeats 4000000 in
theorem c_X5_restart_now_plan (l : Launch) (D : va_G) (i : Nat → ClassId) (q : Nat → Nat) (A : Nat → Prop) (S : vS) (Q : vS → Prop) (h : e_X5_restart_now_plan S Q) : Met l yX5_restart wsX5_restart rm_X5_restart_now_plan (va_Pc [.ref (q 4), .ref (q 1)] (vB D i A (wC q i) S)) (va_Qv Q (vB D i A (wC q i)) A) 0 0 A := by
  refine m_ofJ (own := RX5) (lv := [(0, .ref (q 4)), (1, .ref (q 1))]) rfl (by decide) rfl (Nat.le_of_ble_eq_true rfl) rfl ?_
  intro p e s m below meth c X
  unfold e_X5_restart_now_plan at h
  refine j_aload_n X rfl 0 rfl dX5_restart_0 ?_
  refine j_iconst (v := (0 : Int32)) X (by decide) dX5_restart_1 ?_
  refine jpC_now_today X i_X5_restart_now_plan_X5 (by decide +kernel) dX5_restart_2 (fun S1 eS1 => ?_)
  have h := h S1 eS1
  refine j_iconst (v := (0 : Int32)) X (by decide) dX5_restart_5 ?_
  refine j_istore_n (lv' := [(2, .int (0 : Int32)), (0, .ref (q 4)), (1, .ref (q 1))]) X rfl (by decide) rfl dX5_restart_6 ?_
  refine j_loc [1, 2, 0] rfl ?_
  obtain ⟨j, h⟩ := h
  exact w_X5_restart_now_plan_7 X j (0 : Int32) S1 h
set_option maxRecDepth 100000 in
theorem i_X2_cells_plan_X2 : ∀ w ∈ u_ws RX2 TX2 14, w ∈ wsX2_cells := by decide +kernel
abbrev rm_X2_cells_plan : Room := { frames := 0, cells := 0, slots := 0, locals := 0 }
set_option maxRecDepth 100000 in
set_option maxHeartbeats 4000000 in
theorem c_X2_cells_plan (l : Launch) (D : va_G) (i : Nat → ClassId) (q : Nat → Nat) (A : Nat → Prop) (S : vS) (Q : Int32 → vS → Prop) (h : e_X2_cells_plan S Q) : Met l yX2_cells wsX2_cells rm_X2_cells_plan (va_Pc [.ref (q 1)] (vB D i A (wC q i) S)) (va_Qi Q (vB D i A (wC q i)) A) 0 0 A := by
  refine m_ofJ (own := RX2) (lv := [(0, .ref (q 1))]) rfl (by decide) rfl (Nat.le_of_ble_eq_true rfl) rfl ?_
  intro p e s m below meth c X
  unfold e_X2_cells_plan at h
  refine j_aload_n X rfl 0 rfl dX2_cells_0 ?_
  refine jgC_plan_width X i_X2_cells_plan_X2 (by decide +kernel) dX2_cells_1 ?_
  refine j_aload_n X rfl 0 rfl dX2_cells_4 ?_
  refine jgC_plan_height X i_X2_cells_plan_X2 (by decide +kernel) dX2_cells_5 ?_
  refine j_imul X dX2_cells_8 ?_
  exact j_iret X h dX2_cells_9
set_option maxRecDepth 100000 in
theorem i_X6_lake_X1 : ∀ w ∈ u_ws RX1 TX1 4, w ∈ wsX6_lake := by decide +kernel
set_option maxRecDepth 100000 in
theorem i_X6_lake_X3 : ∀ w ∈ u_ws RX3 TX3 9, w ∈ wsX6_lake := by decide +kernel
set_option maxRecDepth 100000 in
theorem i_X6_lake_X5 : ∀ w ∈ u_ws RX5 TX5 7, w ∈ wsX6_lake := by decide +kernel
set_option maxRecDepth 100000 in
theorem i_X6_lake_X6 : ∀ w ∈ u_ws RX6 TX6 8, w ∈ wsX6_lake := by decide +kernel
abbrev rm_X6_lake : Room := { frames := 8, cells := 0, slots := 0, locals := 176 }
set_option maxRecDepth 100000 in
set_option maxHeartbeats 4000000 in
theorem w_X6_lake_56 {D : va_G} {i : Nat → ClassId} {q : Nat → Nat} {A : Nat → Prop} {p : Program} {l : Launch} {e : Env} {s : State} {m : MethodId} {args : Array Value} {below : List Frame} {meth : Method} {c : Code} (X : cX D i A p s m args meth c cX6_lake RX6 2 wsX6_lake (some .int)) {Q : Int32 → vS → Prop} : ∀ (n : Nat) (a1 : Int32) (S : vS), e_X6_lake_56 Q n a1 S → cJ D A p l e (headSpec wsX6_lake rm_X6_lake).room s m args below meth c (MQ below (va_Qi Q (vB D i A (wC q i)) A) args s 0 0 A) 2 (wC q i S) [(0, .ref (q 0)), (1, .int a1)] 56 [] := by
  intro n
  induction n with
  | zero =>
    intro _ S h
    rw [e_X6_lake_56.eq_1] at h
    exact h.elim
  | succ n ih =>
    intro a1 S h
    rw [e_X6_lake_56.eq_2] at h
    refine j_iload_n X rfl 1 rfl dX6_lake_56 ?_
    refine j_iconst (v := (2 : Int32)) X (by decide) dX6_lake_57 ?_
    refine j_icmp_ge (tgt := 77) X dX6_lake_58 (by decide) (fun c9 => ?_) (fun c9 => ?_)
    · have h := h.1 c9
      refine j_aload_n X rfl 0 rfl dX6_lake_77 ?_
      refine jgC_main_plan X i_X6_lake_X6 (by decide +kernel) dX6_lake_78 ?_
      refine j_Vi (st := []) X [] 1 (c_X2_cells_plan l D i q A S _ h) (cwV 0 X.ts gX6_lake_X2_cells rfl rfl rfl (by decide +kernel) ⟨Nat.le_of_ble_eq_true rfl, Nat.le_of_ble_eq_true rfl⟩) rfl rfl rfl rfl (Nat.le_of_ble_eq_true rfl) dX6_lake_81 (fun r11 S10 h => ?_)
      exact j_iret X h dX6_lake_84
    · have h := h.2 c9
      refine j_aload_n X rfl 0 rfl dX6_lake_61 ?_
      refine jgC_main_images X i_X6_lake_X6 (by decide +kernel) dX6_lake_62 ?_
      refine j_iload_n X rfl 1 rfl dX6_lake_65 ?_
      obtain ⟨k13, h⟩ := h
      rcases jrC_main_images_or k13 with c12 | c12
      · have h := h.1 c12
        refine jrC_main_images_0 X c12 dX6_lake_66 ?_
        refine j_iconst (v := (0 : Int32)) X (by decide) dX6_lake_67 ?_
        refine jpC_im0_kept X rfl rfl i_X6_lake_X5 (by decide +kernel) dX6_lake_68 (fun S14 eS14 => ?_)
        have h := h S14 eS14
        refine j_iinc (dv := (1 : Int32)) (lv' := fun v15 => [(1, .int v15), (0, .ref (q 0))]) X dX6_lake_71 (pl := 1) rfl (by decide) (by decide) (fun _ => rfl) (fun v15 ev15 => ?_)
        have h := h v15 ev15
        refine j_goto (tgt := 56) X dX6_lake_74 (by decide) ?_
        refine j_loc [1, 0] rfl ?_
        exact ih v15 S14 h
      · have h := h.2 c12
        refine jrC_main_images_1 X c12 dX6_lake_66 ?_
        refine j_iconst (v := (0 : Int32)) X (by decide) dX6_lake_67 ?_
        refine jpC_im1_kept X rfl rfl i_X6_lake_X5 (by decide +kernel) dX6_lake_68 (fun S16 eS16 => ?_)
        have h := h S16 eS16
        refine j_iinc (dv := (1 : Int32)) (lv' := fun v17 => [(1, .int v17), (0, .ref (q 0))]) X dX6_lake_71 (pl := 1) rfl (by decide) (by decide) (fun _ => rfl) (fun v17 ev17 => ?_)
        have h := h v17 ev17
        refine j_goto (tgt := 56) X dX6_lake_74 (by decide) ?_
        refine j_loc [1, 0] rfl ?_
        exact ih v17 S16 h
set_option maxRecDepth 100000 in
set_option maxHeartbeats 4000000 in
theorem c_X6_lake (l : Launch) (D : va_G) (i : Nat → ClassId) (q : Nat → Nat) (A : Nat → Prop) (S : vS) (Q : Int32 → vS → Prop) (h : e_X6_lake S Q) : Met l yX6_lake wsX6_lake rm_X6_lake (va_Pc [.ref (q 0)] (vB D i A (wC q i) S)) (va_Qi Q (vB D i A (wC q i)) A) 0 0 A := by
  refine m_ofJ (own := RX6) (lv := [(0, .ref (q 0))]) rfl (by decide) rfl (Nat.le_of_ble_eq_true rfl) rfl ?_
  intro p e s m below meth c X
  unfold e_X6_lake at h
  refine j_aload_n X rfl 0 rfl dX6_lake_0 ?_
  refine jgC_main_reader X i_X6_lake_X6 (by decide +kernel) dX6_lake_1 ?_
  refine j_Vi (st := []) X [] 3 (c_X3_readAll l D i q A S _ h) (cwV 0 X.ts gX6_lake_X3_readAll rfl rfl rfl (by decide +kernel) ⟨Nat.le_of_ble_eq_true rfl, Nat.le_of_ble_eq_true rfl⟩) rfl rfl rfl rfl (Nat.le_of_ble_eq_true rfl) dX6_lake_4 (fun r2 S1 h => ?_)
  refine j_if_ne (tgt := 21) X dX6_lake_7 (by decide) (fun c3 => ?_) (fun c3 => ?_)
  · have h := h.1 c3
    refine j_aload_n X rfl 0 rfl dX6_lake_21 ?_
    refine jgC_main_plan X i_X6_lake_X6 (by decide +kernel) dX6_lake_22 ?_
    refine j_aload_n X rfl 0 rfl dX6_lake_25 ?_
    refine jgC_main_reader X i_X6_lake_X6 (by decide +kernel) dX6_lake_26 ?_
    refine jgC_reader_draft X i_X6_lake_X3 (by decide +kernel) dX6_lake_29 ?_
    refine j_Vv (st := []) X [.ref (q 2)] 1 (c_X2_copyFrom_plan_draft l D i q A S1 _ h) (cwV 1 X.ts gX6_lake_X2_copyFrom rfl rfl rfl (by decide +kernel) ⟨Nat.le_of_ble_eq_true rfl, Nat.le_of_ble_eq_true rfl⟩) rfl rfl rfl rfl (Nat.le_of_ble_eq_true rfl) dX6_lake_32 (fun S4 h => ?_)
    refine j_aload_n X rfl 0 rfl dX6_lake_35 ?_
    refine jgC_main_now X i_X6_lake_X6 (by decide +kernel) dX6_lake_36 ?_
    refine j_aload_n X rfl 0 rfl dX6_lake_39 ?_
    refine jgC_main_plan X i_X6_lake_X6 (by decide +kernel) dX6_lake_40 ?_
    refine j_Vv (st := []) X [.ref (q 1)] 4 (c_X5_restart_now_plan l D i q A S4 _ h) (cwV 1 X.ts gX6_lake_X5_restart rfl rfl rfl (by decide +kernel) ⟨Nat.le_of_ble_eq_true rfl, Nat.le_of_ble_eq_true rfl⟩) rfl rfl rfl rfl (Nat.le_of_ble_eq_true rfl) dX6_lake_43 (fun S6 h => ?_)
    refine j_aload_n X rfl 0 rfl dX6_lake_46 ?_
    refine jgC_main_book X i_X6_lake_X6 (by decide +kernel) dX6_lake_47 ?_
    refine j_iconst (v := (0 : Int32)) X (by decide) dX6_lake_50 ?_
    refine jpC_book_claims X i_X6_lake_X1 (by decide +kernel) dX6_lake_51 (fun S8 eS8 => ?_)
    have h := h S8 eS8
    refine j_iconst (v := (0 : Int32)) X (by decide) dX6_lake_54 ?_
    refine j_istore_n (lv' := [(1, .int (0 : Int32)), (0, .ref (q 0))]) X rfl (by decide) rfl dX6_lake_55 ?_
    refine j_loc [1, 0] rfl ?_
    obtain ⟨j, h⟩ := h
    exact w_X6_lake_56 X j (0 : Int32) S8 h
  · have h := h.2 c3
    refine j_bipush (v := (-10 : Int32)) X (by decide) dX6_lake_10 ?_
    refine j_aload_n X rfl 0 rfl dX6_lake_12 ?_
    refine jgC_main_reader X i_X6_lake_X6 (by decide +kernel) dX6_lake_13 ?_
    refine jgC_reader_faultKind X i_X6_lake_X3 (by decide +kernel) dX6_lake_16 ?_
    refine j_isub X dX6_lake_19 ?_
    exact j_iret X h dX6_lake_20
set_option maxRecDepth 100000 in
theorem i_X6_fault_X3 : ∀ w ∈ u_ws RX3 TX3 9, w ∈ wsX6_fault := by decide +kernel
set_option maxRecDepth 100000 in
theorem i_X6_fault_X6 : ∀ w ∈ u_ws RX6 TX6 8, w ∈ wsX6_fault := by decide +kernel
abbrev rm_X6_fault : Room := { frames := 0, cells := 0, slots := 0, locals := 0 }
set_option maxRecDepth 100000 in
set_option maxHeartbeats 4000000 in
theorem c_X6_fault (l : Launch) (D : va_G) (i : Nat → ClassId) (q : Nat → Nat) (A : Nat → Prop) (S : vS) (Q : Int32 → vS → Prop) (h : e_X6_fault S Q) : Met l yX6_fault wsX6_fault rm_X6_fault (va_Pc [.ref (q 0)] (vB D i A (wC q i) S)) (va_Qi Q (vB D i A (wC q i)) A) 0 0 A := by
  refine m_ofJ (own := RX6) (lv := [(0, .ref (q 0))]) rfl (by decide) rfl (Nat.le_of_ble_eq_true rfl) rfl ?_
  intro p e s m below meth c X
  unfold e_X6_fault at h
  refine j_aload_n X rfl 0 rfl dX6_fault_0 ?_
  refine jgC_main_reader X i_X6_fault_X6 (by decide +kernel) dX6_fault_1 ?_
  refine jgC_reader_faultAt X i_X6_fault_X3 (by decide +kernel) dX6_fault_4 ?_
  exact j_iret X h dX6_fault_7
set_option maxRecDepth 100000 in
theorem i_X2_farOn_plan_X2 : ∀ w ∈ u_ws RX2 TX2 14, w ∈ wsX2_farOn := by decide +kernel
abbrev rm_X2_farOn_plan : Room := { frames := 0, cells := 0, slots := 0, locals := 0 }
set_option maxRecDepth 100000 in
set_option maxHeartbeats 4000000 in
theorem w_X2_farOn_plan_37 {D : va_G} {i : Nat → ClassId} {q : Nat → Nat} {A : Nat → Prop} {p : Program} {l : Launch} {e : Env} {s : State} {m : MethodId} {args : Array Value} {below : List Frame} {meth : Method} {c : Code} (X : cX D i A p s m args meth c cX2_farOn RX2 5 wsX2_farOn (some .int)) {K4 : Int32 → Int32 → Int32 → vS → Prop} {Q : Int32 → vS → Prop} (hK4 : ∀ (a1 : Int32) (a2 : Int32) (a3 : Int32) (S : vS), K4 a1 a2 a3 S → cJ D A p l e (headSpec wsX2_farOn rm_X2_farOn_plan).room s m args below meth c (MQ below (va_Qi Q (vB D i A (wC q i)) A) args s 0 0 A) 5 (wC q i S) [(0, .ref (q 1)), (1, .int a1), (2, .int a2), (3, .int a3)] 4 []) : ∀ (a1 : Int32) (a2 : Int32) (a3 : Int32) (t0 : Int32) (S : vS), e_X2_farOn_plan_37 K4 Q a1 a2 a3 t0 S → cJ D A p l e (headSpec wsX2_farOn rm_X2_farOn_plan).room s m args below meth c (MQ below (va_Qi Q (vB D i A (wC q i)) A) args s 0 0 A) 5 (wC q i S) [(0, .ref (q 1)), (1, .int a1), (2, .int a2), (3, .int a3)] 37 [.int t0] := by
  intro a1 a2 a3 t0 S h
  unfold e_X2_farOn_plan_37 at h
  refine j_istore (lv' := [(4, .int t0), (0, .ref (q 1)), (1, .int a1), (2, .int a2), (3, .int a3)]) X (by decide) rfl dX2_farOn_37 ?_
  refine j_iload X 0 rfl dX2_farOn_39 ?_
  refine j_if_eq (tgt := 66) X dX2_farOn_41 (by decide) (fun c5 => ?_) (fun c5 => ?_)
  · have h := h.1 c5
    refine j_iinc (dv := (1 : Int32)) (lv' := fun v6 => [(3, .int v6), (4, .int t0), (0, .ref (q 1)), (1, .int a1), (2, .int a2)]) X dX2_farOn_66 (pl := 4) rfl (by decide) (by decide) (fun _ => rfl) (fun v6 ev6 => ?_)
    have h := h v6 ev6
    refine j_goto (tgt := 4) X dX2_farOn_69 (by decide) ?_
    refine j_loc [2, 3, 4, 0] rfl ?_
    exact hK4 a1 a2 v6 S h
  · have h := h.2 c5
    refine j_iload_n X rfl 3 rfl dX2_farOn_44 ?_
    refine j_iconst (v := (-1 : Int32)) X (by decide) dX2_farOn_45 ?_
    refine j_icmp_eq (tgt := 59) X dX2_farOn_46 (by decide) (fun c7 => ?_) (fun c7 => ?_)
    · have h := h.1 c7
      refine j_aload_n X rfl 1 rfl dX2_farOn_59 ?_
      refine jgC_plan_mistFar X i_X2_farOn_plan_X2 (by decide +kernel) dX2_farOn_60 ?_
      refine j_iload_n X rfl 4 rfl dX2_farOn_63 ?_
      obtain ⟨k8, h⟩ := h
      refine jlC_plan_mistFar X k8 dX2_farOn_64 ?_
      refine j_topi (fun v9 ev9 => ?_)
      have h := h v9 ev9
      refine j_istore_n (lv' := [(2, .int v9), (4, .int t0), (0, .ref (q 1)), (1, .int a1), (3, .int a3)]) X rfl (by decide) rfl dX2_farOn_65 ?_
      refine j_iinc (dv := (1 : Int32)) (lv' := fun v10 => [(3, .int v10), (2, .int v9), (4, .int t0), (0, .ref (q 1)), (1, .int a1)]) X dX2_farOn_66 (pl := 4) rfl (by decide) (by decide) (fun _ => rfl) (fun v10 ev10 => ?_)
      have h := h v10 ev10
      refine j_goto (tgt := 4) X dX2_farOn_69 (by decide) ?_
      refine j_loc [3, 4, 1, 0] rfl ?_
      exact hK4 a1 v9 v10 S h
    · have h := h.2 c7
      refine j_aload_n X rfl 1 rfl dX2_farOn_49 ?_
      refine jgC_plan_mistFar X i_X2_farOn_plan_X2 (by decide +kernel) dX2_farOn_50 ?_
      refine j_iload_n X rfl 4 rfl dX2_farOn_53 ?_
      obtain ⟨k11, h⟩ := h
      refine jlC_plan_mistFar X k11 dX2_farOn_54 ?_
      refine j_iload_n X rfl 3 rfl dX2_farOn_55 ?_
      refine j_icmp_ge (tgt := 66) X dX2_farOn_56 (by decide) (fun c12 => ?_) (fun c12 => ?_)
      · have h := h.1 c12
        refine j_iinc (dv := (1 : Int32)) (lv' := fun v13 => [(3, .int v13), (4, .int t0), (0, .ref (q 1)), (1, .int a1), (2, .int a2)]) X dX2_farOn_66 (pl := 4) rfl (by decide) (by decide) (fun _ => rfl) (fun v13 ev13 => ?_)
        have h := h v13 ev13
        refine j_goto (tgt := 4) X dX2_farOn_69 (by decide) ?_
        refine j_loc [2, 3, 4, 0] rfl ?_
        exact hK4 a1 a2 v13 S h
      · have h := h.2 c12
        refine j_aload_n X rfl 1 rfl dX2_farOn_59 ?_
        refine jgC_plan_mistFar X i_X2_farOn_plan_X2 (by decide +kernel) dX2_farOn_60 ?_
        refine j_iload_n X rfl 4 rfl dX2_farOn_63 ?_
        refine jlC_plan_mistFar X k11 dX2_farOn_64 ?_
        refine j_topi (fun v14 ev14 => ?_)
        have h := h v14 ev14
        refine j_istore_n (lv' := [(2, .int v14), (4, .int t0), (0, .ref (q 1)), (1, .int a1), (3, .int a3)]) X rfl (by decide) rfl dX2_farOn_65 ?_
        refine j_iinc (dv := (1 : Int32)) (lv' := fun v15 => [(3, .int v15), (2, .int v14), (4, .int t0), (0, .ref (q 1)), (1, .int a1)]) X dX2_farOn_66 (pl := 4) rfl (by decide) (by decide) (fun _ => rfl) (fun v15 ev15 => ?_)
        have h := h v15 ev15
        refine j_goto (tgt := 4) X dX2_farOn_69 (by decide) ?_
        refine j_loc [3, 4, 1, 0] rfl ?_
        exact hK4 a1 v14 v15 S h
set_option maxRecDepth 100000 in
set_option maxHeartbeats 4000000 in
theorem w_X2_farOn_plan_4 {D : va_G} {i : Nat → ClassId} {q : Nat → Nat} {A : Nat → Prop} {p : Program} {l : Launch} {e : Env} {s : State} {m : MethodId} {args : Array Value} {below : List Frame} {meth : Method} {c : Code} (X : cX D i A p s m args meth c cX2_farOn RX2 5 wsX2_farOn (some .int)) {Q : Int32 → vS → Prop} : ∀ (n : Nat) (a1 : Int32) (a2 : Int32) (a3 : Int32) (S : vS), e_X2_farOn_plan_4 Q n a1 a2 a3 S → cJ D A p l e (headSpec wsX2_farOn rm_X2_farOn_plan).room s m args below meth c (MQ below (va_Qi Q (vB D i A (wC q i)) A) args s 0 0 A) 5 (wC q i S) [(0, .ref (q 1)), (1, .int a1), (2, .int a2), (3, .int a3)] 4 [] := by
  intro n
  induction n with
  | zero =>
    intro _ _ _ S h
    rw [e_X2_farOn_plan_4.eq_1] at h
    exact h.elim
  | succ n ih =>
    intro a1 a2 a3 S h
    rw [e_X2_farOn_plan_4.eq_2] at h
    refine j_iload_n X rfl 3 rfl dX2_farOn_4 ?_
    refine j_aload_n X rfl 0 rfl dX2_farOn_5 ?_
    refine jgC_plan_mists X i_X2_farOn_plan_X2 (by decide +kernel) dX2_farOn_6 ?_
    refine j_icmp_ge (tgt := 72) X dX2_farOn_9 (by decide) (fun c1 => ?_) (fun c1 => ?_)
    · have h := h.1 c1
      refine j_iload_n X rfl 2 rfl dX2_farOn_72 ?_
      exact j_iret X h dX2_farOn_73
    · have h := h.2 c1
      refine j_iload_n X rfl 1 rfl dX2_farOn_12 ?_
      refine j_aload_n X rfl 0 rfl dX2_farOn_13 ?_
      refine jgC_plan_mistFirst X i_X2_farOn_plan_X2 (by decide +kernel) dX2_farOn_14 ?_
      refine j_iload_n X rfl 3 rfl dX2_farOn_17 ?_
      obtain ⟨k2, h⟩ := h
      refine jlC_plan_mistFirst X k2 dX2_farOn_18 ?_
      refine j_icmp_lt (tgt := 36) X dX2_farOn_19 (by decide) (fun c3 => ?_) (fun c3 => ?_)
      · have h := h.1 c3
        refine j_iconst (v := (0 : Int32)) X (by decide) dX2_farOn_36 ?_
        exact w_X2_farOn_plan_37 X (fun y0 y1 y2 S h => ih y0 y1 y2 S h) a1 a2 a3 (0 : Int32) S h
      · have h := h.2 c3
        refine j_iload_n X rfl 1 rfl dX2_farOn_22 ?_
        refine j_aload_n X rfl 0 rfl dX2_farOn_23 ?_
        refine jgC_plan_mistLast X i_X2_farOn_plan_X2 (by decide +kernel) dX2_farOn_24 ?_
        refine j_iload_n X rfl 3 rfl dX2_farOn_27 ?_
        refine jlC_plan_mistLast X k2 dX2_farOn_28 ?_
        refine j_icmp_gt (tgt := 36) X dX2_farOn_29 (by decide) (fun c4 => ?_) (fun c4 => ?_)
        · have h := h.1 c4
          refine j_iconst (v := (0 : Int32)) X (by decide) dX2_farOn_36 ?_
          exact w_X2_farOn_plan_37 X (fun y0 y1 y2 S h => ih y0 y1 y2 S h) a1 a2 a3 (0 : Int32) S h
        · have h := h.2 c4
          refine j_iconst (v := (1 : Int32)) X (by decide) dX2_farOn_32 ?_
          refine j_goto (tgt := 37) X dX2_farOn_33 (by decide) ?_
          exact w_X2_farOn_plan_37 X (fun y0 y1 y2 S h => ih y0 y1 y2 S h) a1 a2 a3 (1 : Int32) S h
set_option maxRecDepth 100000 in
set_option maxHeartbeats 4000000 in
theorem c_X2_farOn_plan (l : Launch) (D : va_G) (i : Nat → ClassId) (q : Nat → Nat) (A : Nat → Prop) (x1 : Int32) (S : vS) (Q : Int32 → vS → Prop) (h : e_X2_farOn_plan x1 S Q) : Met l yX2_farOn wsX2_farOn rm_X2_farOn_plan (va_Pc [.ref (q 1), .int x1] (vB D i A (wC q i) S)) (va_Qi Q (vB D i A (wC q i)) A) 0 0 A := by
  refine m_ofJ (own := RX2) (lv := [(0, .ref (q 1)), (1, .int x1)]) rfl (by decide) rfl (Nat.le_of_ble_eq_true rfl) rfl ?_
  intro p e s m below meth c X
  unfold e_X2_farOn_plan at h
  refine j_iconst (v := (-1 : Int32)) X (by decide) dX2_farOn_0 ?_
  refine j_istore_n (lv' := [(2, .int (-1 : Int32)), (0, .ref (q 1)), (1, .int x1)]) X rfl (by decide) rfl dX2_farOn_1 ?_
  refine j_iconst (v := (0 : Int32)) X (by decide) dX2_farOn_2 ?_
  refine j_istore_n (lv' := [(3, .int (0 : Int32)), (2, .int (-1 : Int32)), (0, .ref (q 1)), (1, .int x1)]) X rfl (by decide) rfl dX2_farOn_3 ?_
  refine j_loc [2, 3, 1, 0] rfl ?_
  obtain ⟨j, h⟩ := h
  exact w_X2_farOn_plan_4 X j x1 (-1 : Int32) (0 : Int32) S h
set_option maxRecDepth 100000 in
theorem i_X4_inReach_X2 : ∀ w ∈ u_ws RX2 TX2 14, w ∈ wsX4_inReach := by decide +kernel
set_option maxRecDepth 100000 in
theorem i_X4_inReach_X4 : ∀ w ∈ u_ws RX4 TX4 8, w ∈ wsX4_inReach := by decide +kernel
abbrev rm_X4_inReach : Room := { frames := 1, cells := 0, slots := 0, locals := 21 }
set_option maxRecDepth 100000 in
set_option maxHeartbeats 4000000 in
theorem c_X4_inReach (l : Launch) (D : va_G) (i : Nat → ClassId) (q : Nat → Nat) (A : Nat → Prop) (x1 : Int32) (x2 : Int32) (x3 : Int32) (x4 : Int32) (S : vS) (Q : Int32 → vS → Prop) (h : e_X4_inReach x1 x2 x3 x4 S Q) : Met l yX4_inReach wsX4_inReach rm_X4_inReach (va_Pc [.ref (q 7), .int x1, .int x2, .int x3, .int x4] (vB D i A (wC q i) S)) (va_Qi Q (vB D i A (wC q i)) A) 0 0 A := by
  refine m_ofJ (own := RX4) (lv := [(0, .ref (q 7)), (1, .int x1), (2, .int x2), (3, .int x3), (4, .int x4)]) rfl (by decide) rfl (Nat.le_of_ble_eq_true rfl) rfl ?_
  intro p e s m below meth c X
  unfold e_X4_inReach at h
  refine j_iload X 4 rfl dX4_inReach_0 ?_
  refine j_iconst (v := (-1 : Int32)) X (by decide) dX4_inReach_2 ?_
  refine j_icmp_eq (tgt := 31) X dX4_inReach_3 (by decide) (fun c1 => ?_) (fun c1 => ?_)
  · have h := h.1 c1
    refine j_iconst (v := (1 : Int32)) X (by decide) dX4_inReach_31 ?_
    refine j_goto (tgt := 36) X dX4_inReach_32 (by decide) ?_
    exact j_zret X rfl h dX4_inReach_36
  · have h := h.2 c1
    refine j_iload_n X rfl 2 rfl dX4_inReach_6 ?_
    refine j_aload_n X rfl 0 rfl dX4_inReach_7 ?_
    refine jgC_sight_plan X i_X4_inReach_X4 (by decide +kernel) dX4_inReach_8 ?_
    refine jgC_plan_places X i_X4_inReach_X2 (by decide +kernel) dX4_inReach_11 ?_
    refine j_iload_n X rfl 1 rfl dX4_inReach_14 ?_
    obtain ⟨k2, h⟩ := h
    refine jlC_plan_places X k2 dX4_inReach_15 ?_
    refine j_isub X dX4_inReach_16 ?_
    refine j_mabs X (by decide +kernel) (Nat.le_of_ble_eq_true rfl) (Nat.le_of_ble_eq_true rfl) dX4_inReach_17 ?_
    refine j_iload_n X rfl 3 rfl dX4_inReach_20 ?_
    refine j_iconst (v := (1 : Int32)) X (by decide) dX4_inReach_21 ?_
    refine j_iadd X dX4_inReach_22 ?_
    refine j_mmax X (by decide +kernel) (Nat.le_of_ble_eq_true rfl) (Nat.le_of_ble_eq_true rfl) dX4_inReach_23 ?_
    refine j_iload X 4 rfl dX4_inReach_26 ?_
    refine j_icmp_gt (tgt := 35) X dX4_inReach_28 (by decide) (fun c3 => ?_) (fun c3 => ?_)
    · have h := h.1 c3
      refine j_iconst (v := (0 : Int32)) X (by decide) dX4_inReach_35 ?_
      exact j_zret X rfl h dX4_inReach_36
    · have h := h.2 c3
      refine j_iconst (v := (1 : Int32)) X (by decide) dX4_inReach_31 ?_
      refine j_goto (tgt := 36) X dX4_inReach_32 (by decide) ?_
      exact j_zret X rfl h dX4_inReach_36
set_option maxRecDepth 100000 in
theorem i_X4_eyeOf_X2 : ∀ w ∈ u_ws RX2 TX2 14, w ∈ wsX4_eyeOf := by decide +kernel
set_option maxRecDepth 100000 in
theorem i_X4_eyeOf_X4 : ∀ w ∈ u_ws RX4 TX4 8, w ∈ wsX4_eyeOf := by decide +kernel
set_option maxRecDepth 100000 in
theorem i_X4_eyeOf_X5 : ∀ w ∈ u_ws RX5 TX5 7, w ∈ wsX4_eyeOf := by decide +kernel
abbrev rm_X4_eyeOf : Room := { frames := 0, cells := 0, slots := 0, locals := 0 }
set_option maxRecDepth 100000 in
set_option maxHeartbeats 4000000 in
theorem c_X4_eyeOf (l : Launch) (D : va_G) (i : Nat → ClassId) (q : Nat → Nat) (A : Nat → Prop) (x1 : Int32) (S : vS) (Q : Int32 → vS → Prop) (h : e_X4_eyeOf x1 S Q) : Met l yX4_eyeOf wsX4_eyeOf rm_X4_eyeOf (va_Pc [.ref (q 7), .int x1] (vB D i A (wC q i) S)) (va_Qi Q (vB D i A (wC q i)) A) 0 0 A := by
  refine m_ofJ (own := RX4) (lv := [(0, .ref (q 7)), (1, .int x1)]) rfl (by decide) rfl (Nat.le_of_ble_eq_true rfl) rfl ?_
  intro p e s m below meth c X
  unfold e_X4_eyeOf at h
  refine j_aload_n X rfl 0 rfl dX4_eyeOf_0 ?_
  refine jgC_sight_plan X i_X4_eyeOf_X4 (by decide +kernel) dX4_eyeOf_1 ?_
  refine jgC_plan_grounds X i_X4_eyeOf_X2 (by decide +kernel) dX4_eyeOf_4 ?_
  refine j_iload_n X rfl 1 rfl dX4_eyeOf_7 ?_
  obtain ⟨k1, h⟩ := h
  refine jlC_plan_grounds X k1 dX4_eyeOf_8 ?_
  refine j_aload_n X rfl 0 rfl dX4_eyeOf_9 ?_
  refine jgC_sight_now X i_X4_eyeOf_X4 (by decide +kernel) dX4_eyeOf_10 ?_
  refine jgC_now_storeys X i_X4_eyeOf_X5 (by decide +kernel) dX4_eyeOf_13 ?_
  refine j_iload_n X rfl 1 rfl dX4_eyeOf_16 ?_
  refine jlC_now_storeys X k1 dX4_eyeOf_17 ?_
  refine j_aload_n X rfl 0 rfl dX4_eyeOf_18 ?_
  refine jgC_sight_plan X i_X4_eyeOf_X4 (by decide +kernel) dX4_eyeOf_19 ?_
  refine jgC_plan_storeyHigh X i_X4_eyeOf_X2 (by decide +kernel) dX4_eyeOf_22 ?_
  refine j_imul X dX4_eyeOf_25 ?_
  refine j_iadd X dX4_eyeOf_26 ?_
  refine j_iconst (v := (1 : Int32)) X (by decide) dX4_eyeOf_27 ?_
  refine j_iadd X dX4_eyeOf_28 ?_
  exact j_iret X h dX4_eyeOf_29
set_option maxRecDepth 100000 in
theorem i_X4_lineX_X2 : ∀ w ∈ u_ws RX2 TX2 14, w ∈ wsX4_lineX := by decide +kernel
set_option maxRecDepth 100000 in
theorem i_X4_lineX_X4 : ∀ w ∈ u_ws RX4 TX4 8, w ∈ wsX4_lineX := by decide +kernel
abbrev rm_X4_lineX : Room := { frames := 0, cells := 0, slots := 0, locals := 0 }
set_option maxRecDepth 100000 in
set_option maxHeartbeats 4000000 in
theorem c_X4_lineX (l : Launch) (D : va_G) (i : Nat → ClassId) (q : Nat → Nat) (A : Nat → Prop) (x1 : Int32) (x2 : Int32) (x3 : Int32) (x4 : Int32) (S : vS) (Q : Int32 → vS → Prop) (h : e_X4_lineX x1 x2 x3 x4 S Q) : Met l yX4_lineX wsX4_lineX rm_X4_lineX (va_Pc [.ref (q 7), .int x1, .int x2, .int x3, .int x4] (vB D i A (wC q i) S)) (va_Qi Q (vB D i A (wC q i)) A) 0 0 A := by
  refine m_ofJ (own := RX4) (lv := [(0, .ref (q 7)), (1, .int x1), (2, .int x2), (3, .int x3), (4, .int x4)]) rfl (by decide) rfl (Nat.le_of_ble_eq_true rfl) rfl ?_
  intro p e s m below meth c X
  unfold e_X4_lineX at h
  refine j_aload_n X rfl 0 rfl dX4_lineX_0 ?_
  refine jgC_sight_plan X i_X4_lineX_X4 (by decide +kernel) dX4_lineX_1 ?_
  refine jgC_plan_places X i_X4_lineX_X2 (by decide +kernel) dX4_lineX_4 ?_
  refine j_iload_n X rfl 1 rfl dX4_lineX_7 ?_
  obtain ⟨k1, h⟩ := h
  refine jlC_plan_places X k1 dX4_lineX_8 ?_
  refine j_topi (fun v2 ev2 => ?_)
  have h := h v2 ev2
  refine j_istore (lv' := [(5, .int v2), (0, .ref (q 7)), (1, .int x1), (2, .int x2), (3, .int x3), (4, .int x4)]) X (by decide) rfl dX4_lineX_9 ?_
  refine j_iload_n X rfl 4 rfl dX4_lineX_11 ?_
  refine j_iconst (v := (1 : Int32)) X (by decide) dX4_lineX_12 ?_
  refine j_iadd X dX4_lineX_13 ?_
  refine j_topi (fun v3 ev3 => ?_)
  have h := h v3 ev3
  refine j_istore (lv' := [(6, .int v3), (5, .int v2), (0, .ref (q 7)), (1, .int x1), (2, .int x2), (3, .int x3), (4, .int x4)]) X (by decide) rfl dX4_lineX_14 ?_
  refine j_iload X 1 rfl dX4_lineX_16 ?_
  refine j_iload X 0 rfl dX4_lineX_18 ?_
  refine j_imul X dX4_lineX_20 ?_
  refine j_iload_n X rfl 4 rfl dX4_lineX_21 ?_
  refine j_iload X 1 rfl dX4_lineX_22 ?_
  refine j_isub X dX4_lineX_24 ?_
  refine j_iload X 6 rfl dX4_lineX_25 ?_
  refine j_iconst (v := (1 : Int32)) X (by decide) dX4_lineX_27 ?_
  refine j_iadd X dX4_lineX_28 ?_
  refine j_imul X dX4_lineX_29 ?_
  refine j_iadd X dX4_lineX_30 ?_
  refine j_topi (fun v4 ev4 => ?_)
  have h := h v4 ev4
  refine j_istore (lv' := [(7, .int v4), (6, .int v3), (5, .int v2), (0, .ref (q 7)), (1, .int x1), (2, .int x2), (3, .int x3), (4, .int x4)]) X (by decide) rfl dX4_lineX_31 ?_
  refine j_iconst (v := (2 : Int32)) X (by decide) dX4_lineX_33 ?_
  refine j_iload X 0 rfl dX4_lineX_34 ?_
  refine j_imul X dX4_lineX_36 ?_
  refine j_iload X 1 rfl dX4_lineX_37 ?_
  refine j_iadd X dX4_lineX_39 ?_
  refine j_iconst (v := (2 : Int32)) X (by decide) dX4_lineX_40 ?_
  refine j_iload X 1 rfl dX4_lineX_41 ?_
  refine j_imul X dX4_lineX_43 ?_
  obtain ⟨k5, h⟩ := h
  refine j_idiv X k5 dX4_lineX_44 ?_
  exact j_iret X h dX4_lineX_45
set_option maxRecDepth 100000 in
theorem i_X2_numberOf_plan_X2 : ∀ w ∈ u_ws RX2 TX2 14, w ∈ wsX2_numberOf := by decide +kernel
abbrev rm_X2_numberOf_plan : Room := { frames := 0, cells := 0, slots := 0, locals := 0 }
set_option maxRecDepth 100000 in
set_option maxHeartbeats 4000000 in
theorem c_X2_numberOf_plan (l : Launch) (D : va_G) (i : Nat → ClassId) (q : Nat → Nat) (A : Nat → Prop) (x1 : Int32) (x2 : Int32) (S : vS) (Q : Int32 → vS → Prop) (h : e_X2_numberOf_plan x1 x2 S Q) : Met l yX2_numberOf wsX2_numberOf rm_X2_numberOf_plan (va_Pc [.ref (q 1), .int x1, .int x2] (vB D i A (wC q i) S)) (va_Qi Q (vB D i A (wC q i)) A) 0 0 A := by
  refine m_ofJ (own := RX2) (lv := [(0, .ref (q 1)), (1, .int x1), (2, .int x2)]) rfl (by decide) rfl (Nat.le_of_ble_eq_true rfl) rfl ?_
  intro p e s m below meth c X
  unfold e_X2_numberOf_plan at h
  refine j_iload_n X rfl 2 rfl dX2_numberOf_0 ?_
  refine j_aload_n X rfl 0 rfl dX2_numberOf_1 ?_
  refine jgC_plan_width X i_X2_numberOf_plan_X2 (by decide +kernel) dX2_numberOf_2 ?_
  refine j_imul X dX2_numberOf_5 ?_
  refine j_iload_n X rfl 1 rfl dX2_numberOf_6 ?_
  refine j_iadd X dX2_numberOf_7 ?_
  exact j_iret X h dX2_numberOf_8
abbrev rm_X6_placeOf : Room := { frames := 0, cells := 0, slots := 0, locals := 0 }
set_option maxRecDepth 100000 in
set_option maxHeartbeats 4000000 in
theorem c_X6_placeOf (l : Launch) (D : va_G) (i : Nat → ClassId) (q : Nat → Nat) (A : Nat → Prop) (x0 : Int32) (x1 : Int32) (S : vS) (Q : Int32 → vS → Prop) (h : e_X6_placeOf x0 x1 S Q) : Met l yX6_placeOf wsX6_placeOf rm_X6_placeOf (va_Pc [.int x0, .int x1] (vB D i A (wC q i) S)) (va_Qi Q (vB D i A (wC q i)) A) 0 0 A := by
  refine m_ofJ (own := RX6) (lv := [(0, .int x0), (1, .int x1)]) rfl (by decide) rfl (Nat.le_of_ble_eq_true rfl) rfl ?_
  intro p e s m below meth c X
  unfold e_X6_placeOf at h
  refine j_bipush (v := (100 : Int32)) X (by decide) dX6_placeOf_0 ?_
  refine j_iload_n X rfl 0 rfl dX6_placeOf_2 ?_
  refine j_imul X dX6_placeOf_3 ?_
  refine j_iload_n X rfl 1 rfl dX6_placeOf_4 ?_
  refine j_iadd X dX6_placeOf_5 ?_
  exact j_iret X h dX6_placeOf_6
set_option maxRecDepth 100000 in
theorem i_X4_firstBlock_X4 : ∀ w ∈ u_ws RX4 TX4 8, w ∈ wsX4_firstBlock := by decide +kernel
set_option maxRecDepth 100000 in
theorem i_X4_firstBlock_X5 : ∀ w ∈ u_ws RX5 TX5 7, w ∈ wsX4_firstBlock := by decide +kernel
abbrev rm_X4_firstBlock : Room := { frames := 1, cells := 0, slots := 0, locals := 27 }
set_option maxRecDepth 100000 in
set_option maxHeartbeats 4000000 in
theorem w_X4_firstBlock_10 {D : va_G} {i : Nat → ClassId} {q : Nat → Nat} {A : Nat → Prop} {p : Program} {l : Launch} {e : Env} {s : State} {m : MethodId} {args : Array Value} {below : List Frame} {meth : Method} {c : Code} (X : cX D i A p s m args meth c cX4_firstBlock RX4 7 wsX4_firstBlock (some .int)) {Q : Int32 → vS → Prop} : ∀ (n : Nat) (a1 : Int32) (a2 : Int32) (a3 : Int32) (a4 : Int32) (a5 : Int32) (S : vS), e_X4_firstBlock_10 Q n a1 a2 a3 a4 a5 S → cJ D A p l e (headSpec wsX4_firstBlock rm_X4_firstBlock).room s m args below meth c (MQ below (va_Qi Q (vB D i A (wC q i)) A) args s 0 0 A) 7 (wC q i S) [(0, .ref (q 7)), (1, .int a1), (2, .int a2), (3, .int a3), (4, .int a4), (5, .int a5)] 10 [] := by
  intro n
  induction n with
  | zero =>
    intro _ _ _ _ _ S h
    rw [e_X4_firstBlock_10.eq_1] at h
    exact h.elim
  | succ n ih =>
    intro a1 a2 a3 a4 a5 S h
    rw [e_X4_firstBlock_10.eq_2] at h
    refine j_iload X 5 rfl dX4_firstBlock_10 ?_
    refine j_iload_n X rfl 3 rfl dX4_firstBlock_12 ?_
    refine j_icmp_ge (tgt := 74) X dX4_firstBlock_13 (by decide) (fun c3 => ?_) (fun c3 => ?_)
    · have h := h.1 c3
      refine j_iconst (v := (-1 : Int32)) X (by decide) dX4_firstBlock_74 ?_
      exact j_iret X h dX4_firstBlock_75
    · have h := h.2 c3
      refine j_aload_n X rfl 0 rfl dX4_firstBlock_16 ?_
      refine j_iload_n X rfl 1 rfl dX4_firstBlock_17 ?_
      refine j_iload_n X rfl 2 rfl dX4_firstBlock_18 ?_
      refine j_iload_n X rfl 3 rfl dX4_firstBlock_19 ?_
      refine j_iload X 5 rfl dX4_firstBlock_20 ?_
      refine j_Vi (st := []) X [.int a1, .int a2, .int a3, .int a5] 7 (c_X4_lineX l D i q A a1 a2 a3 a5 S _ h) (cwV 4 X.ts gX4_firstBlock_X4_lineX rfl rfl rfl (by decide +kernel) ⟨Nat.le_of_ble_eq_true rfl, Nat.le_of_ble_eq_true rfl⟩) rfl rfl rfl rfl (Nat.le_of_ble_eq_true rfl) dX4_firstBlock_22 (fun r5 S4 h => ?_)
      refine j_istore (lv' := [(6, .int r5), (0, .ref (q 7)), (1, .int a1), (2, .int a2), (3, .int a3), (4, .int a4), (5, .int a5)]) X (by decide) rfl dX4_firstBlock_25 ?_
      refine j_aload_n X rfl 1 rfl dX4_firstBlock_27 ?_
      refine jgC_sight_now X i_X4_firstBlock_X4 (by decide +kernel) dX4_firstBlock_28 ?_
      refine jgC_now_stands X i_X4_firstBlock_X5 (by decide +kernel) dX4_firstBlock_31 ?_
      refine j_aload_n X rfl 1 rfl dX4_firstBlock_34 ?_
      refine jgC_sight_plan X i_X4_firstBlock_X4 (by decide +kernel) dX4_firstBlock_35 ?_
      refine j_iload X 0 rfl dX4_firstBlock_38 ?_
      refine j_iload X 6 rfl dX4_firstBlock_40 ?_
      refine j_Vi (st := [.ref (q 33)]) X [.int r5, .int a5] 1 (c_X2_numberOf_plan l D i q A r5 a5 S4 _ h) (cwV 2 X.ts gX4_firstBlock_X2_numberOf rfl rfl rfl (by decide +kernel) ⟨Nat.le_of_ble_eq_true rfl, Nat.le_of_ble_eq_true rfl⟩) rfl rfl rfl rfl (Nat.le_of_ble_eq_true rfl) dX4_firstBlock_42 (fun r7 S6 h => ?_)
      obtain ⟨k8, h⟩ := h
      refine jlC_now_stands X k8 dX4_firstBlock_45 ?_
      refine j_iload_n X rfl 4 rfl dX4_firstBlock_46 ?_
      refine j_iconst (v := (1 : Int32)) X (by decide) dX4_firstBlock_47 ?_
      refine j_iadd X dX4_firstBlock_48 ?_
      refine j_imul X dX4_firstBlock_49 ?_
      refine j_iload X 5 rfl dX4_firstBlock_50 ?_
      refine j_iload_n X rfl 4 rfl dX4_firstBlock_52 ?_
      refine j_iload X 6 rfl dX4_firstBlock_53 ?_
      refine j_isub X dX4_firstBlock_55 ?_
      refine j_imul X dX4_firstBlock_56 ?_
      refine j_icmp_le (tgt := 68) X dX4_firstBlock_57 (by decide) (fun c9 => ?_) (fun c9 => ?_)
      · have h := h.1 c9
        refine j_iinc (dv := (1 : Int32)) (lv' := fun v10 => [(5, .int v10), (6, .int r5), (0, .ref (q 7)), (1, .int a1), (2, .int a2), (3, .int a3), (4, .int a4)]) X dX4_firstBlock_68 (pl := 6) rfl (by decide) (by decide) (fun _ => rfl) (fun v10 ev10 => ?_)
        have h := h v10 ev10
        refine j_goto (tgt := 10) X dX4_firstBlock_71 (by decide) ?_
        refine j_loc [2, 3, 4, 5, 6, 0] rfl ?_
        exact ih a1 a2 a3 a4 v10 S6 h
      · have h := h.2 c9
        refine j_iload X 0 rfl dX4_firstBlock_60 ?_
        refine j_iload X 6 rfl dX4_firstBlock_62 ?_
        refine j_Ni (st := []) X [.int r5, .int a5] (c_X6_placeOf l D i q A r5 a5 S6 _ h) ⟨va_cnB 2 X.ts gX4_firstBlock_X6_placeOf_n61 rfl rfl rfl X.n2 (X.ts _ (by decide +kernel)) (by decide +kernel) ⟨Nat.le_of_ble_eq_true rfl, Nat.le_of_ble_eq_true rfl⟩, X.ts _ (by decide +kernel), trivial⟩ rfl rfl (Nat.le_of_ble_eq_true rfl) dX4_firstBlock_64 (fun r12 S11 h => ?_)
        exact j_iret X h dX4_firstBlock_67
set_option maxRecDepth 100000 in
set_option maxHeartbeats 4000000 in
theorem c_X4_firstBlock (l : Launch) (D : va_G) (i : Nat → ClassId) (q : Nat → Nat) (A : Nat → Prop) (x1 : Int32) (x2 : Int32) (x3 : Int32) (S : vS) (Q : Int32 → vS → Prop) (h : e_X4_firstBlock x1 x2 x3 S Q) : Met l yX4_firstBlock wsX4_firstBlock rm_X4_firstBlock (va_Pc [.ref (q 7), .int x1, .int x2, .int x3] (vB D i A (wC q i) S)) (va_Qi Q (vB D i A (wC q i)) A) 0 0 A := by
  refine m_ofJ (own := RX4) (lv := [(0, .ref (q 7)), (1, .int x1), (2, .int x2), (3, .int x3)]) rfl (by decide) rfl (Nat.le_of_ble_eq_true rfl) rfl ?_
  intro p e s m below meth c X
  unfold e_X4_firstBlock at h
  refine j_aload_n X rfl 0 rfl dX4_firstBlock_0 ?_
  refine j_iload_n X rfl 1 rfl dX4_firstBlock_1 ?_
  refine j_Vi (st := []) X [.int x1] 7 (c_X4_eyeOf l D i q A x1 S _ h) (cwV 1 X.ts gX4_firstBlock_X4_eyeOf rfl rfl rfl (by decide +kernel) ⟨Nat.le_of_ble_eq_true rfl, Nat.le_of_ble_eq_true rfl⟩) rfl rfl rfl rfl (Nat.le_of_ble_eq_true rfl) dX4_firstBlock_2 (fun r2 S1 h => ?_)
  refine j_istore (lv' := [(4, .int r2), (0, .ref (q 7)), (1, .int x1), (2, .int x2), (3, .int x3)]) X (by decide) rfl dX4_firstBlock_5 ?_
  refine j_iconst (v := (0 : Int32)) X (by decide) dX4_firstBlock_7 ?_
  refine j_istore (lv' := [(5, .int (0 : Int32)), (4, .int r2), (0, .ref (q 7)), (1, .int x1), (2, .int x2), (3, .int x3)]) X (by decide) rfl dX4_firstBlock_8 ?_
  refine j_loc [2, 3, 4, 5, 1, 0] rfl ?_
  obtain ⟨j, h⟩ := h
  exact w_X4_firstBlock_10 X j x1 x2 x3 r2 (0 : Int32) S1 h
abbrev rm_X4_canSee : Room := { frames := 2, cells := 0, slots := 0, locals := 53 }
set_option maxRecDepth 100000 in
set_option maxHeartbeats 4000000 in
theorem c_X4_canSee (l : Launch) (D : va_G) (i : Nat → ClassId) (q : Nat → Nat) (A : Nat → Prop) (x1 : Int32) (x2 : Int32) (x3 : Int32) (x4 : Int32) (S : vS) (Q : Int32 → vS → Prop) (h : e_X4_canSee x1 x2 x3 x4 S Q) : Met l yX4_canSee wsX4_canSee rm_X4_canSee (va_Pc [.ref (q 7), .int x1, .int x2, .int x3, .int x4] (vB D i A (wC q i) S)) (va_Qi Q (vB D i A (wC q i)) A) 0 0 A := by
  refine m_ofJ (own := RX4) (lv := [(0, .ref (q 7)), (1, .int x1), (2, .int x2), (3, .int x3), (4, .int x4)]) rfl (by decide) rfl (Nat.le_of_ble_eq_true rfl) rfl ?_
  intro p e s m below meth c X
  unfold e_X4_canSee at h
  refine j_aload_n X rfl 0 rfl dX4_canSee_0 ?_
  refine j_iload_n X rfl 1 rfl dX4_canSee_1 ?_
  refine j_iload_n X rfl 2 rfl dX4_canSee_2 ?_
  refine j_iload_n X rfl 3 rfl dX4_canSee_3 ?_
  refine j_iload X 4 rfl dX4_canSee_4 ?_
  refine j_Vi (st := []) X [.int x1, .int x2, .int x3, .int x4] 7 (c_X4_inReach l D i q A x1 x2 x3 x4 S _ h) (cwV 4 X.ts gX4_canSee_X4_inReach rfl rfl rfl (by decide +kernel) ⟨Nat.le_of_ble_eq_true rfl, Nat.le_of_ble_eq_true rfl⟩) rfl rfl rfl rfl (Nat.le_of_ble_eq_true rfl) dX4_canSee_6 (fun r2 S1 h => ?_)
  refine j_if_eq (tgt := 27) X dX4_canSee_9 (by decide) (fun c3 => ?_) (fun c3 => ?_)
  · have h := h.1 c3
    refine j_iconst (v := (0 : Int32)) X (by decide) dX4_canSee_27 ?_
    exact j_zret X rfl h dX4_canSee_28
  · have h := h.2 c3
    refine j_aload_n X rfl 0 rfl dX4_canSee_12 ?_
    refine j_iload_n X rfl 1 rfl dX4_canSee_13 ?_
    refine j_iload_n X rfl 2 rfl dX4_canSee_14 ?_
    refine j_iload_n X rfl 3 rfl dX4_canSee_15 ?_
    refine j_Vi (st := []) X [.int x1, .int x2, .int x3] 7 (c_X4_firstBlock l D i q A x1 x2 x3 S1 _ h) (cwV 3 X.ts gX4_canSee_X4_firstBlock rfl rfl rfl (by decide +kernel) ⟨Nat.le_of_ble_eq_true rfl, Nat.le_of_ble_eq_true rfl⟩) rfl rfl rfl rfl (Nat.le_of_ble_eq_true rfl) dX4_canSee_16 (fun r5 S4 h => ?_)
    refine j_iconst (v := (-1 : Int32)) X (by decide) dX4_canSee_19 ?_
    refine j_icmp_ne (tgt := 27) X dX4_canSee_20 (by decide) (fun c6 => ?_) (fun c6 => ?_)
    · have h := h.1 c6
      refine j_iconst (v := (0 : Int32)) X (by decide) dX4_canSee_27 ?_
      exact j_zret X rfl h dX4_canSee_28
    · have h := h.2 c6
      refine j_iconst (v := (1 : Int32)) X (by decide) dX4_canSee_23 ?_
      refine j_goto (tgt := 28) X dX4_canSee_24 (by decide) ?_
      exact j_zret X rfl h dX4_canSee_28
set_option maxRecDepth 100000 in
theorem i_X4_note_X4 : ∀ w ∈ u_ws RX4 TX4 8, w ∈ wsX4_note := by decide +kernel
abbrev rm_X4_note : Room := { frames := 1, cells := 0, slots := 0, locals := 22 }
set_option maxRecDepth 100000 in
set_option maxHeartbeats 4000000 in
theorem c_X4_note (l : Launch) (D : va_G) (i : Nat → ClassId) (q : Nat → Nat) (A : Nat → Prop) (x1 : Int32) (x2 : Int32) (x3 : Int32) (x4 : Int32) (S : vS) (Q : vS → Prop) (h : e_X4_note x1 x2 x3 x4 S Q) : Met l yX4_note wsX4_note rm_X4_note (va_Pc [.ref (q 7), .int x1, .int x2, .int x3, .int x4] (vB D i A (wC q i) S)) (va_Qv Q (vB D i A (wC q i)) A) 0 0 A := by
  refine m_ofJ (own := RX4) (lv := [(0, .ref (q 7)), (1, .int x1), (2, .int x2), (3, .int x3), (4, .int x4)]) rfl (by decide) rfl (Nat.le_of_ble_eq_true rfl) rfl ?_
  intro p e s m below meth c X
  unfold e_X4_note at h
  refine j_aload_n X rfl 0 rfl dX4_note_0 ?_
  refine jgC_sight_plan X i_X4_note_X4 (by decide +kernel) dX4_note_1 ?_
  refine j_iload_n X rfl 2 rfl dX4_note_4 ?_
  refine j_iload_n X rfl 3 rfl dX4_note_5 ?_
  refine j_Vi (st := []) X [.int x2, .int x3] 1 (c_X2_numberOf_plan l D i q A x2 x3 S _ h) (cwV 2 X.ts gX4_note_X2_numberOf rfl rfl rfl (by decide +kernel) ⟨Nat.le_of_ble_eq_true rfl, Nat.le_of_ble_eq_true rfl⟩) rfl rfl rfl rfl (Nat.le_of_ble_eq_true rfl) dX4_note_6 (fun r2 S1 h => ?_)
  refine j_istore (lv' := [(5, .int r2), (0, .ref (q 7)), (1, .int x1), (2, .int x2), (3, .int x3), (4, .int x4)]) X (by decide) rfl dX4_note_9 ?_
  refine j_iload X 5 rfl dX4_note_11 ?_
  refine j_if_eq (tgt := 32) X dX4_note_13 (by decide) (fun c3 => ?_) (fun c3 => ?_)
  · have h := h.1 c3
    refine j_aload_n X rfl 1 rfl dX4_note_32 ?_
    refine jgC_sight_seers X i_X4_note_X4 (by decide +kernel) dX4_note_33 ?_
    refine j_iload X 0 rfl dX4_note_36 ?_
    refine j_dup2 X rfl rfl dX4_note_38 ?_
    obtain ⟨k4, h⟩ := h
    refine jlC_sight_seers X k4 dX4_note_39 ?_
    refine j_iconst (v := (1 : Int32)) X (by decide) dX4_note_40 ?_
    refine j_iload_n X rfl 2 rfl dX4_note_41 ?_
    refine j_ishl X dX4_note_42 ?_
    refine j_iconst (v := (-1 : Int32)) X (by decide) dX4_note_43 ?_
    refine j_ixor X dX4_note_44 ?_
    refine j_iand X dX4_note_45 ?_
    refine jsC_sight_seers X k4 dX4_note_46 (fun S5 eS5 => ?_)
    have h := h S5 eS5
    exact j_vret X h dX4_note_47
  · have h := h.2 c3
    refine j_aload_n X rfl 1 rfl dX4_note_16 ?_
    refine jgC_sight_seers X i_X4_note_X4 (by decide +kernel) dX4_note_17 ?_
    refine j_iload X 0 rfl dX4_note_20 ?_
    refine j_dup2 X rfl rfl dX4_note_22 ?_
    obtain ⟨k6, h⟩ := h
    refine jlC_sight_seers X k6 dX4_note_23 ?_
    refine j_iconst (v := (1 : Int32)) X (by decide) dX4_note_24 ?_
    refine j_iload_n X rfl 2 rfl dX4_note_25 ?_
    refine j_ishl X dX4_note_26 ?_
    refine j_ior X dX4_note_27 ?_
    refine jsC_sight_seers X k6 dX4_note_28 (fun S7 eS7 => ?_)
    have h := h S7 eS7
    refine j_goto (tgt := 47) X dX4_note_29 (by decide) ?_
    exact j_vret X h dX4_note_47
set_option maxRecDepth 100000 in
theorem i_X4_lookBy_X2 : ∀ w ∈ u_ws RX2 TX2 14, w ∈ wsX4_lookBy := by decide +kernel
set_option maxRecDepth 100000 in
theorem i_X4_lookBy_X4 : ∀ w ∈ u_ws RX4 TX4 8, w ∈ wsX4_lookBy := by decide +kernel
set_option maxRecDepth 100000 in
theorem i_X4_lookBy_X5 : ∀ w ∈ u_ws RX5 TX5 7, w ∈ wsX4_lookBy := by decide +kernel
abbrev rm_X4_lookBy : Room := { frames := 3, cells := 0, slots := 0, locals := 77 }
set_option maxRecDepth 100000 in
set_option maxHeartbeats 4000000 in
theorem w_X4_lookBy_31 {D : va_G} {i : Nat → ClassId} {q : Nat → Nat} {A : Nat → Prop} {p : Program} {l : Launch} {e : Env} {s : State} {m : MethodId} {args : Array Value} {below : List Frame} {meth : Method} {c : Code} (X : cX D i A p s m args meth c cX4_lookBy RX4 5 wsX4_lookBy none) {K17 : Int32 → Int32 → Int32 → vS → Prop} {Q : vS → Prop} (hK17 : ∀ (a1 : Int32) (a2 : Int32) (a3 : Int32) (S : vS), K17 a1 a2 a3 S → cJ D A p l e (headSpec wsX4_lookBy rm_X4_lookBy).room s m args below meth c (MQ below (va_Qv Q (vB D i A (wC q i)) A) args s 0 0 A) 5 (wC q i S) [(0, .ref (q 7)), (1, .int a1), (2, .int a2), (3, .int a3)] 17 []) : ∀ (n : Nat) (a1 : Int32) (a2 : Int32) (a3 : Int32) (a4 : Int32) (S : vS), e_X4_lookBy_31 K17 Q n a1 a2 a3 a4 S → cJ D A p l e (headSpec wsX4_lookBy rm_X4_lookBy).room s m args below meth c (MQ below (va_Qv Q (vB D i A (wC q i)) A) args s 0 0 A) 5 (wC q i S) [(0, .ref (q 7)), (1, .int a1), (2, .int a2), (3, .int a3), (4, .int a4)] 31 [] := by
  intro n
  induction n with
  | zero =>
    intro _ _ _ _ S h
    rw [e_X4_lookBy_31.eq_1] at h
    exact h.elim
  | succ n ih =>
    intro a1 a2 a3 a4 S h
    rw [e_X4_lookBy_31.eq_2] at h
    refine j_iload X 4 rfl dX4_lookBy_31 ?_
    refine j_aload_n X rfl 0 rfl dX4_lookBy_33 ?_
    refine jgC_sight_plan X i_X4_lookBy_X4 (by decide +kernel) dX4_lookBy_34 ?_
    refine jgC_plan_width X i_X4_lookBy_X2 (by decide +kernel) dX4_lookBy_37 ?_
    refine j_icmp_ge (tgt := 66) X dX4_lookBy_40 (by decide) (fun c4 => ?_) (fun c4 => ?_)
    · have h := h.1 c4
      refine j_iinc (dv := (1 : Int32)) (lv' := fun v5 => [(3, .int v5), (0, .ref (q 7)), (1, .int a1), (2, .int a2), (4, .int a4)]) X dX4_lookBy_66 (pl := 3) rfl (by decide) (by decide) (fun _ => rfl) (fun v5 ev5 => ?_)
      have h := h v5 ev5
      refine j_goto (tgt := 17) X dX4_lookBy_69 (by decide) ?_
      refine j_loc [1, 2, 3, 0] rfl ?_
      exact hK17 a1 a2 v5 S h
    · have h := h.2 c4
      refine j_aload_n X rfl 0 rfl dX4_lookBy_43 ?_
      refine j_iload_n X rfl 1 rfl dX4_lookBy_44 ?_
      refine j_iload X 4 rfl dX4_lookBy_45 ?_
      refine j_iload_n X rfl 3 rfl dX4_lookBy_47 ?_
      refine j_aload_n X rfl 0 rfl dX4_lookBy_48 ?_
      refine j_iload_n X rfl 1 rfl dX4_lookBy_49 ?_
      refine j_iload X 4 rfl dX4_lookBy_50 ?_
      refine j_iload_n X rfl 3 rfl dX4_lookBy_52 ?_
      refine j_iload_n X rfl 2 rfl dX4_lookBy_53 ?_
      refine j_Vi (st := [.int a3, .int a4, .int a1, .ref (q 7)]) X [.int a1, .int a4, .int a3, .int a2] 7 (c_X4_canSee l D i q A a1 a4 a3 a2 S _ h) (cwV 4 X.ts gX4_lookBy_X4_canSee rfl rfl rfl (by decide +kernel) ⟨Nat.le_of_ble_eq_true rfl, Nat.le_of_ble_eq_true rfl⟩) rfl rfl rfl rfl (Nat.le_of_ble_eq_true rfl) dX4_lookBy_54 (fun r7 S6 h => ?_)
      refine j_Vv (st := []) X [.int a1, .int a4, .int a3, .int r7] 7 (c_X4_note l D i q A a1 a4 a3 r7 S6 _ h) (cwV 4 X.ts gX4_lookBy_X4_note rfl rfl rfl (by decide +kernel) ⟨Nat.le_of_ble_eq_true rfl, Nat.le_of_ble_eq_true rfl⟩) rfl rfl rfl rfl (Nat.le_of_ble_eq_true rfl) dX4_lookBy_57 (fun S8 h => ?_)
      refine j_iinc (dv := (1 : Int32)) (lv' := fun v10 => [(4, .int v10), (0, .ref (q 7)), (1, .int a1), (2, .int a2), (3, .int a3)]) X dX4_lookBy_60 (pl := 4) rfl (by decide) (by decide) (fun _ => rfl) (fun v10 ev10 => ?_)
      have h := h v10 ev10
      refine j_goto (tgt := 31) X dX4_lookBy_63 (by decide) ?_
      refine j_loc [1, 2, 3, 4, 0] rfl ?_
      exact ih a1 a2 a3 v10 S8 h
set_option maxRecDepth 100000 in
set_option maxHeartbeats 4000000 in
theorem w_X4_lookBy_17 {D : va_G} {i : Nat → ClassId} {q : Nat → Nat} {A : Nat → Prop} {p : Program} {l : Launch} {e : Env} {s : State} {m : MethodId} {args : Array Value} {below : List Frame} {meth : Method} {c : Code} (X : cX D i A p s m args meth c cX4_lookBy RX4 5 wsX4_lookBy none) {Q : vS → Prop} : ∀ (n : Nat) (a1 : Int32) (a2 : Int32) (a3 : Int32) (S : vS), e_X4_lookBy_17 Q n a1 a2 a3 S → cJ D A p l e (headSpec wsX4_lookBy rm_X4_lookBy).room s m args below meth c (MQ below (va_Qv Q (vB D i A (wC q i)) A) args s 0 0 A) 5 (wC q i S) [(0, .ref (q 7)), (1, .int a1), (2, .int a2), (3, .int a3)] 17 [] := by
  intro n
  induction n with
  | zero =>
    intro _ _ _ S h
    rw [e_X4_lookBy_17.eq_1] at h
    exact h.elim
  | succ n ih =>
    intro a1 a2 a3 S h
    rw [e_X4_lookBy_17.eq_2] at h
    refine j_iload_n X rfl 3 rfl dX4_lookBy_17 ?_
    refine j_aload_n X rfl 0 rfl dX4_lookBy_18 ?_
    refine jgC_sight_plan X i_X4_lookBy_X4 (by decide +kernel) dX4_lookBy_19 ?_
    refine jgC_plan_height X i_X4_lookBy_X2 (by decide +kernel) dX4_lookBy_22 ?_
    refine j_icmp_ge (tgt := 72) X dX4_lookBy_25 (by decide) (fun c3 => ?_) (fun c3 => ?_)
    · have h := h.1 c3
      exact j_vret X h dX4_lookBy_72
    · have h := h.2 c3
      refine j_iconst (v := (0 : Int32)) X (by decide) dX4_lookBy_28 ?_
      refine j_istore (lv' := [(4, .int (0 : Int32)), (0, .ref (q 7)), (1, .int a1), (2, .int a2), (3, .int a3)]) X (by decide) rfl dX4_lookBy_29 ?_
      refine j_loc [1, 2, 3, 4, 0] rfl ?_
      obtain ⟨j, h⟩ := h
      exact w_X4_lookBy_31 X (fun y0 y1 y2 S h => ih y0 y1 y2 S h) j a1 a2 a3 (0 : Int32) S h
set_option maxRecDepth 100000 in
set_option maxHeartbeats 4000000 in
theorem c_X4_lookBy (l : Launch) (D : va_G) (i : Nat → ClassId) (q : Nat → Nat) (A : Nat → Prop) (x1 : Int32) (S : vS) (Q : vS → Prop) (h : e_X4_lookBy x1 S Q) : Met l yX4_lookBy wsX4_lookBy rm_X4_lookBy (va_Pc [.ref (q 7), .int x1] (vB D i A (wC q i) S)) (va_Qv Q (vB D i A (wC q i)) A) 0 0 A := by
  refine m_ofJ (own := RX4) (lv := [(0, .ref (q 7)), (1, .int x1)]) rfl (by decide) rfl (Nat.le_of_ble_eq_true rfl) rfl ?_
  intro p e s m below meth c X
  unfold e_X4_lookBy at h
  refine j_aload_n X rfl 0 rfl dX4_lookBy_0 ?_
  refine jgC_sight_plan X i_X4_lookBy_X4 (by decide +kernel) dX4_lookBy_1 ?_
  refine j_aload_n X rfl 0 rfl dX4_lookBy_4 ?_
  refine jgC_sight_now X i_X4_lookBy_X4 (by decide +kernel) dX4_lookBy_5 ?_
  refine jgC_now_today X i_X4_lookBy_X5 (by decide +kernel) dX4_lookBy_8 ?_
  refine j_Vi (st := []) X [.int (S.1 16)] 1 (c_X2_farOn_plan l D i q A (S.1 16) S _ h) (cwV 1 X.ts gX4_lookBy_X2_farOn rfl rfl rfl (by decide +kernel) ⟨Nat.le_of_ble_eq_true rfl, Nat.le_of_ble_eq_true rfl⟩) rfl rfl rfl rfl (Nat.le_of_ble_eq_true rfl) dX4_lookBy_11 (fun r2 S1 h => ?_)
  refine j_istore_n (lv' := [(2, .int r2), (0, .ref (q 7)), (1, .int x1)]) X rfl (by decide) rfl dX4_lookBy_14 ?_
  refine j_iconst (v := (0 : Int32)) X (by decide) dX4_lookBy_15 ?_
  refine j_istore_n (lv' := [(3, .int (0 : Int32)), (2, .int r2), (0, .ref (q 7)), (1, .int x1)]) X rfl (by decide) rfl dX4_lookBy_16 ?_
  refine j_loc [2, 3, 1, 0] rfl ?_
  obtain ⟨j, h⟩ := h
  exact w_X4_lookBy_17 X j x1 r2 (0 : Int32) S1 h
set_option maxRecDepth 100000 in
theorem i_X4_lookAll_X2 : ∀ w ∈ u_ws RX2 TX2 14, w ∈ wsX4_lookAll := by decide +kernel
set_option maxRecDepth 100000 in
theorem i_X4_lookAll_X4 : ∀ w ∈ u_ws RX4 TX4 8, w ∈ wsX4_lookAll := by decide +kernel
abbrev rm_X4_lookAll : Room := { frames := 4, cells := 0, slots := 0, locals := 101 }
set_option maxRecDepth 100000 in
set_option maxHeartbeats 4000000 in
theorem w_X4_lookAll_23 {D : va_G} {i : Nat → ClassId} {q : Nat → Nat} {A : Nat → Prop} {p : Program} {l : Launch} {e : Env} {s : State} {m : MethodId} {args : Array Value} {below : List Frame} {meth : Method} {c : Code} (X : cX D i A p s m args meth c cX4_lookAll RX4 2 wsX4_lookAll none) {Q : vS → Prop} : ∀ (n : Nat) (a1 : Int32) (S : vS), e_X4_lookAll_23 Q n a1 S → cJ D A p l e (headSpec wsX4_lookAll rm_X4_lookAll).room s m args below meth c (MQ below (va_Qv Q (vB D i A (wC q i)) A) args s 0 0 A) 2 (wC q i S) [(0, .ref (q 7)), (1, .int a1)] 23 [] := by
  intro n
  induction n with
  | zero =>
    intro _ S h
    rw [e_X4_lookAll_23.eq_1] at h
    exact h.elim
  | succ n ih =>
    intro a1 S h
    rw [e_X4_lookAll_23.eq_2] at h
    refine j_iload_n X rfl 1 rfl dX4_lookAll_23 ?_
    refine j_aload_n X rfl 0 rfl dX4_lookAll_24 ?_
    refine jgC_sight_plan X i_X4_lookAll_X4 (by decide +kernel) dX4_lookAll_25 ?_
    refine jgC_plan_men X i_X4_lookAll_X2 (by decide +kernel) dX4_lookAll_28 ?_
    refine j_icmp_ge (tgt := 45) X dX4_lookAll_31 (by decide) (fun c5 => ?_) (fun c5 => ?_)
    · have h := h.1 c5
      exact j_vret X h dX4_lookAll_45
    · have h := h.2 c5
      refine j_aload_n X rfl 0 rfl dX4_lookAll_34 ?_
      refine j_iload_n X rfl 1 rfl dX4_lookAll_35 ?_
      refine j_Vv (st := []) X [.int a1] 7 (c_X4_lookBy l D i q A a1 S _ h) (cwV 1 X.ts gX4_lookAll_X4_lookBy rfl rfl rfl (by decide +kernel) ⟨Nat.le_of_ble_eq_true rfl, Nat.le_of_ble_eq_true rfl⟩) rfl rfl rfl rfl (Nat.le_of_ble_eq_true rfl) dX4_lookAll_36 (fun S6 h => ?_)
      refine j_iinc (dv := (1 : Int32)) (lv' := fun v8 => [(1, .int v8), (0, .ref (q 7))]) X dX4_lookAll_39 (pl := 1) rfl (by decide) (by decide) (fun _ => rfl) (fun v8 ev8 => ?_)
      have h := h v8 ev8
      refine j_goto (tgt := 23) X dX4_lookAll_42 (by decide) ?_
      refine j_loc [1, 0] rfl ?_
      exact ih v8 S6 h
set_option maxRecDepth 100000 in
set_option maxHeartbeats 4000000 in
theorem w_X4_lookAll_2 {D : va_G} {i : Nat → ClassId} {q : Nat → Nat} {A : Nat → Prop} {p : Program} {l : Launch} {e : Env} {s : State} {m : MethodId} {args : Array Value} {below : List Frame} {meth : Method} {c : Code} (X : cX D i A p s m args meth c cX4_lookAll RX4 2 wsX4_lookAll none) {Q : vS → Prop} : ∀ (n : Nat) (a1 : Int32) (S : vS), e_X4_lookAll_2 Q n a1 S → cJ D A p l e (headSpec wsX4_lookAll rm_X4_lookAll).room s m args below meth c (MQ below (va_Qv Q (vB D i A (wC q i)) A) args s 0 0 A) 2 (wC q i S) [(0, .ref (q 7)), (1, .int a1)] 2 [] := by
  intro n
  induction n with
  | zero =>
    intro _ S h
    rw [e_X4_lookAll_2.eq_1] at h
    exact h.elim
  | succ n ih =>
    intro a1 S h
    rw [e_X4_lookAll_2.eq_2] at h
    refine j_iload_n X rfl 1 rfl dX4_lookAll_2 ?_
    refine j_bipush (v := (60 : Int32)) X (by decide) dX4_lookAll_3 ?_
    refine j_icmp_ge (tgt := 21) X dX4_lookAll_5 (by decide) (fun c1 => ?_) (fun c1 => ?_)
    · have h := h.1 c1
      refine j_iconst (v := (0 : Int32)) X (by decide) dX4_lookAll_21 ?_
      refine j_istore_n (lv' := [(1, .int (0 : Int32)), (0, .ref (q 7))]) X rfl (by decide) rfl dX4_lookAll_22 ?_
      refine j_loc [1, 0] rfl ?_
      obtain ⟨j, h⟩ := h
      exact w_X4_lookAll_23 X j (0 : Int32) S h
    · have h := h.2 c1
      refine j_aload_n X rfl 0 rfl dX4_lookAll_8 ?_
      refine jgC_sight_seers X i_X4_lookAll_X4 (by decide +kernel) dX4_lookAll_9 ?_
      refine j_iload_n X rfl 1 rfl dX4_lookAll_12 ?_
      refine j_iconst (v := (0 : Int32)) X (by decide) dX4_lookAll_13 ?_
      obtain ⟨k2, h⟩ := h
      refine jsC_sight_seers X k2 dX4_lookAll_14 (fun S3 eS3 => ?_)
      have h := h S3 eS3
      refine j_iinc (dv := (1 : Int32)) (lv' := fun v4 => [(1, .int v4), (0, .ref (q 7))]) X dX4_lookAll_15 (pl := 1) rfl (by decide) (by decide) (fun _ => rfl) (fun v4 ev4 => ?_)
      have h := h v4 ev4
      refine j_goto (tgt := 2) X dX4_lookAll_18 (by decide) ?_
      refine j_loc [1, 0] rfl ?_
      exact ih v4 S3 h
set_option maxRecDepth 100000 in
set_option maxHeartbeats 4000000 in
theorem c_X4_lookAll (l : Launch) (D : va_G) (i : Nat → ClassId) (q : Nat → Nat) (A : Nat → Prop) (S : vS) (Q : vS → Prop) (h : e_X4_lookAll S Q) : Met l yX4_lookAll wsX4_lookAll rm_X4_lookAll (va_Pc [.ref (q 7)] (vB D i A (wC q i) S)) (va_Qv Q (vB D i A (wC q i)) A) 0 0 A := by
  refine m_ofJ (own := RX4) (lv := [(0, .ref (q 7))]) rfl (by decide) rfl (Nat.le_of_ble_eq_true rfl) rfl ?_
  intro p e s m below meth c X
  unfold e_X4_lookAll at h
  refine j_iconst (v := (0 : Int32)) X (by decide) dX4_lookAll_0 ?_
  refine j_istore_n (lv' := [(1, .int (0 : Int32)), (0, .ref (q 7))]) X rfl (by decide) rfl dX4_lookAll_1 ?_
  refine j_loc [1, 0] rfl ?_
  obtain ⟨j, h⟩ := h
  exact w_X4_lookAll_2 X j (0 : Int32) S h
set_option maxRecDepth 100000 in
theorem i_X6_countFree_X4 : ∀ w ∈ u_ws RX4 TX4 8, w ∈ wsX6_countFree := by decide +kernel
set_option maxRecDepth 100000 in
theorem i_X6_countFree_X6 : ∀ w ∈ u_ws RX6 TX6 8, w ∈ wsX6_countFree := by decide +kernel
abbrev rm_X6_countFree : Room := { frames := 5, cells := 0, slots := 0, locals := 122 }
set_option maxRecDepth 100000 in
set_option maxHeartbeats 4000000 in
theorem w_X6_countFree_11 {D : va_G} {i : Nat → ClassId} {q : Nat → Nat} {A : Nat → Prop} {p : Program} {l : Launch} {e : Env} {s : State} {m : MethodId} {args : Array Value} {below : List Frame} {meth : Method} {c : Code} (X : cX D i A p s m args meth c cX6_countFree RX6 3 wsX6_countFree (some .int)) {Q : Int32 → vS → Prop} : ∀ (n : Nat) (a1 : Int32) (a2 : Int32) (S : vS), e_X6_countFree_11 Q n a1 a2 S → cJ D A p l e (headSpec wsX6_countFree rm_X6_countFree).room s m args below meth c (MQ below (va_Qi Q (vB D i A (wC q i)) A) args s 0 0 A) 3 (wC q i S) [(0, .ref (q 0)), (1, .int a1), (2, .int a2)] 11 [] := by
  intro n
  induction n with
  | zero =>
    intro _ _ S h
    rw [e_X6_countFree_11.eq_1] at h
    exact h.elim
  | succ n ih =>
    intro a1 a2 S h
    rw [e_X6_countFree_11.eq_2] at h
    refine j_iload_n X rfl 2 rfl dX6_countFree_11 ?_
    refine j_aload_n X rfl 0 rfl dX6_countFree_12 ?_
    refine jgC_main_plan X i_X6_countFree_X6 (by decide +kernel) dX6_countFree_13 ?_
    refine j_Vi (st := [.int a2]) X [] 1 (c_X2_cells_plan l D i q A S _ h) (cwV 0 X.ts gX6_countFree_X2_cells rfl rfl rfl (by decide +kernel) ⟨Nat.le_of_ble_eq_true rfl, Nat.le_of_ble_eq_true rfl⟩) rfl rfl rfl rfl (Nat.le_of_ble_eq_true rfl) dX6_countFree_16 (fun r4 S3 h => ?_)
    refine j_icmp_ge (tgt := 43) X dX6_countFree_19 (by decide) (fun c5 => ?_) (fun c5 => ?_)
    · have h := h.1 c5
      refine j_iload_n X rfl 1 rfl dX6_countFree_43 ?_
      exact j_iret X h dX6_countFree_44
    · have h := h.2 c5
      refine j_aload_n X rfl 0 rfl dX6_countFree_22 ?_
      refine jgC_main_sight X i_X6_countFree_X6 (by decide +kernel) dX6_countFree_23 ?_
      refine jgC_sight_seers X i_X6_countFree_X4 (by decide +kernel) dX6_countFree_26 ?_
      refine j_iload_n X rfl 2 rfl dX6_countFree_29 ?_
      obtain ⟨k6, h⟩ := h
      refine jlC_sight_seers X k6 dX6_countFree_30 ?_
      refine j_if_ne (tgt := 37) X dX6_countFree_31 (by decide) (fun c7 => ?_) (fun c7 => ?_)
      · have h := h.1 c7
        refine j_iinc (dv := (1 : Int32)) (lv' := fun v8 => [(2, .int v8), (0, .ref (q 0)), (1, .int a1)]) X dX6_countFree_37 (pl := 2) rfl (by decide) (by decide) (fun _ => rfl) (fun v8 ev8 => ?_)
        have h := h v8 ev8
        refine j_goto (tgt := 11) X dX6_countFree_40 (by decide) ?_
        refine j_loc [1, 2, 0] rfl ?_
        exact ih a1 v8 S3 h
      · have h := h.2 c7
        refine j_iinc (dv := (1 : Int32)) (lv' := fun v9 => [(1, .int v9), (0, .ref (q 0)), (2, .int a2)]) X dX6_countFree_34 (pl := 1) rfl (by decide) (by decide) (fun _ => rfl) (fun v9 ev9 => ?_)
        have h := h v9 ev9
        refine j_iinc (dv := (1 : Int32)) (lv' := fun v10 => [(2, .int v10), (1, .int v9), (0, .ref (q 0))]) X dX6_countFree_37 (pl := 2) rfl (by decide) (by decide) (fun _ => rfl) (fun v10 ev10 => ?_)
        have h := h v10 ev10
        refine j_goto (tgt := 11) X dX6_countFree_40 (by decide) ?_
        refine j_loc [2, 1, 0] rfl ?_
        exact ih v9 v10 S3 h
set_option maxRecDepth 100000 in
set_option maxHeartbeats 4000000 in
theorem c_X6_countFree (l : Launch) (D : va_G) (i : Nat → ClassId) (q : Nat → Nat) (A : Nat → Prop) (S : vS) (Q : Int32 → vS → Prop) (h : e_X6_countFree S Q) : Met l yX6_countFree wsX6_countFree rm_X6_countFree (va_Pc [.ref (q 0)] (vB D i A (wC q i) S)) (va_Qi Q (vB D i A (wC q i)) A) 0 0 A := by
  refine m_ofJ (own := RX6) (lv := [(0, .ref (q 0))]) rfl (by decide) rfl (Nat.le_of_ble_eq_true rfl) rfl ?_
  intro p e s m below meth c X
  unfold e_X6_countFree at h
  refine j_aload_n X rfl 0 rfl dX6_countFree_0 ?_
  refine jgC_main_sight X i_X6_countFree_X6 (by decide +kernel) dX6_countFree_1 ?_
  refine j_Vv (st := []) X [] 7 (c_X4_lookAll l D i q A S _ h) (cwV 0 X.ts gX6_countFree_X4_lookAll rfl rfl rfl (by decide +kernel) ⟨Nat.le_of_ble_eq_true rfl, Nat.le_of_ble_eq_true rfl⟩) rfl rfl rfl rfl (Nat.le_of_ble_eq_true rfl) dX6_countFree_4 (fun S1 h => ?_)
  refine j_iconst (v := (0 : Int32)) X (by decide) dX6_countFree_7 ?_
  refine j_istore_n (lv' := [(1, .int (0 : Int32)), (0, .ref (q 0))]) X rfl (by decide) rfl dX6_countFree_8 ?_
  refine j_iconst (v := (0 : Int32)) X (by decide) dX6_countFree_9 ?_
  refine j_istore_n (lv' := [(2, .int (0 : Int32)), (1, .int (0 : Int32)), (0, .ref (q 0))]) X rfl (by decide) rfl dX6_countFree_10 ?_
  refine j_loc [2, 1, 0] rfl ?_
  obtain ⟨j, h⟩ := h
  exact w_X6_countFree_11 X j (0 : Int32) (0 : Int32) S1 h
set_option maxRecDepth 100000 in
theorem i_X6_told_X1 : ∀ w ∈ u_ws RX1 TX1 4, w ∈ wsX6_told := by decide +kernel
set_option maxRecDepth 100000 in
theorem i_X6_told_X2 : ∀ w ∈ u_ws RX2 TX2 14, w ∈ wsX6_told := by decide +kernel
set_option maxRecDepth 100000 in
theorem i_X6_told_X3 : ∀ w ∈ u_ws RX3 TX3 9, w ∈ wsX6_told := by decide +kernel
set_option maxRecDepth 100000 in
theorem i_X6_told_X5 : ∀ w ∈ u_ws RX5 TX5 7, w ∈ wsX6_told := by decide +kernel
set_option maxRecDepth 100000 in
theorem i_X6_told_X6 : ∀ w ∈ u_ws RX6 TX6 8, w ∈ wsX6_told := by decide +kernel
abbrev rm_X6_told : Room := { frames := 6, cells := 0, slots := 0, locals := 144 }
set_option maxRecDepth 100000 in
set_option maxHeartbeats 4000000 in
theorem c_X6_told (l : Launch) (D : va_G) (i : Nat → ClassId) (q : Nat → Nat) (A : Nat → Prop) (x1 : Int32) (S : vS) (Q : Int32 → vS → Prop) (h : e_X6_told x1 S Q) : Met l yX6_told wsX6_told rm_X6_told (va_Pc [.ref (q 0), .int x1] (vB D i A (wC q i) S)) (va_Qi Q (vB D i A (wC q i)) A) 0 0 A := by
  refine m_ofJ (own := RX6) (lv := [(0, .ref (q 0)), (1, .int x1)]) rfl (by decide) rfl (Nat.le_of_ble_eq_true rfl) rfl ?_
  intro p e s m below meth c X
  unfold e_X6_told at h
  refine j_iload_n X rfl 1 rfl dX6_told_0 ?_
  rcases (show (x1.toInt < 0 ∨ 10 < x1.toInt) ∨ x1.toInt = 0 ∨ x1.toInt = 1 ∨ x1.toInt = 2 ∨ x1.toInt = 3 ∨ x1.toInt = 4 ∨ x1.toInt = 5 ∨ x1.toInt = 6 ∨ x1.toInt = 7 ∨ x1.toInt = 8 ∨ x1.toInt = 9 ∨ x1.toInt = 10 by omega) with c1 | c1 | c1 | c1 | c1 | c1 | c1 | c1 | c1 | c1 | c1 | c1
  · have h := h.1 c1
    refine j_tabOut (tgt := 152) X dX6_told_1 c1 (by decide) ?_
    refine j_ldc (v := (-1000000002 : Int32)) X (by decide +kernel) dX6_told_152 ?_
    exact j_iret X h dX6_told_154
  · have h := h.2.1 c1
    refine j_tabIn (tgt := 60) X dX6_told_1 c1 (by decide) (by decide) rfl (by decide) ?_
    refine j_aload_n X rfl 0 rfl dX6_told_60 ?_
    refine jgC_main_plan X i_X6_told_X6 (by decide +kernel) dX6_told_61 ?_
    refine jgC_plan_width X i_X6_told_X2 (by decide +kernel) dX6_told_64 ?_
    exact j_iret X h dX6_told_67
  · have h := h.2.2.1 c1
    refine j_tabIn (tgt := 68) X dX6_told_1 c1 (by decide) (by decide) rfl (by decide) ?_
    refine j_aload_n X rfl 0 rfl dX6_told_68 ?_
    refine jgC_main_plan X i_X6_told_X6 (by decide +kernel) dX6_told_69 ?_
    refine jgC_plan_height X i_X6_told_X2 (by decide +kernel) dX6_told_72 ?_
    exact j_iret X h dX6_told_75
  · have h := h.2.2.2.1 c1
    refine j_tabIn (tgt := 76) X dX6_told_1 c1 (by decide) (by decide) rfl (by decide) ?_
    refine j_aload_n X rfl 0 rfl dX6_told_76 ?_
    refine jgC_main_plan X i_X6_told_X6 (by decide +kernel) dX6_told_77 ?_
    refine jgC_plan_men X i_X6_told_X2 (by decide +kernel) dX6_told_80 ?_
    exact j_iret X h dX6_told_83
  · have h := h.2.2.2.2.1 c1
    refine j_tabIn (tgt := 84) X dX6_told_1 c1 (by decide) (by decide) rfl (by decide) ?_
    refine j_aload_n X rfl 0 rfl dX6_told_84 ?_
    refine jgC_main_reader X i_X6_told_X6 (by decide +kernel) dX6_told_85 ?_
    refine jgC_reader_length X i_X6_told_X3 (by decide +kernel) dX6_told_88 ?_
    exact j_iret X h dX6_told_91
  · have h := h.2.2.2.2.2.1 c1
    refine j_tabIn (tgt := 92) X dX6_told_1 c1 (by decide) (by decide) rfl (by decide) ?_
    refine j_aload_n X rfl 0 rfl dX6_told_92 ?_
    refine jgC_main_now X i_X6_told_X6 (by decide +kernel) dX6_told_93 ?_
    refine jgC_now_rule X i_X6_told_X5 (by decide +kernel) dX6_told_96 ?_
    exact j_iret X h dX6_told_99
  · have h := h.2.2.2.2.2.2.1 c1
    refine j_tabIn (tgt := 100) X dX6_told_1 c1 (by decide) (by decide) rfl (by decide) ?_
    refine j_aload_n X rfl 0 rfl dX6_told_100 ?_
    refine jgC_main_now X i_X6_told_X6 (by decide +kernel) dX6_told_101 ?_
    refine jgC_now_today X i_X6_told_X5 (by decide +kernel) dX6_told_104 ?_
    exact j_iret X h dX6_told_107
  · have h := h.2.2.2.2.2.2.2.1 c1
    refine j_tabIn (tgt := 108) X dX6_told_1 c1 (by decide) (by decide) rfl (by decide) ?_
    refine j_aload_n X rfl 0 rfl dX6_told_108 ?_
    refine jgC_main_plan X i_X6_told_X6 (by decide +kernel) dX6_told_109 ?_
    refine j_aload_n X rfl 0 rfl dX6_told_112 ?_
    refine jgC_main_now X i_X6_told_X6 (by decide +kernel) dX6_told_113 ?_
    refine jgC_now_today X i_X6_told_X5 (by decide +kernel) dX6_told_116 ?_
    refine j_Vi (st := []) X [.int (S.1 16)] 1 (c_X2_farOn_plan l D i q A (S.1 16) S _ h) (cwV 1 X.ts gX6_told_X2_farOn rfl rfl rfl (by decide +kernel) ⟨Nat.le_of_ble_eq_true rfl, Nat.le_of_ble_eq_true rfl⟩) rfl rfl rfl rfl (Nat.le_of_ble_eq_true rfl) dX6_told_119 (fun r3 S2 h => ?_)
    exact j_iret X h dX6_told_122
  · have h := h.2.2.2.2.2.2.2.2.1 c1
    refine j_tabIn (tgt := 123) X dX6_told_1 c1 (by decide) (by decide) rfl (by decide) ?_
    refine j_aload_n X rfl 0 rfl dX6_told_123 ?_
    refine jgC_main_book X i_X6_told_X6 (by decide +kernel) dX6_told_124 ?_
    refine jgC_book_claims X i_X6_told_X1 (by decide +kernel) dX6_told_127 ?_
    exact j_iret X h dX6_told_130
  · have h := h.2.2.2.2.2.2.2.2.2.1 c1
    refine j_tabIn (tgt := 131) X dX6_told_1 c1 (by decide) (by decide) rfl (by decide) ?_
    refine j_aload_n X rfl 0 rfl dX6_told_131 ?_
    refine jgC_main_plan X i_X6_told_X6 (by decide +kernel) dX6_told_132 ?_
    refine jgC_plan_storeyHigh X i_X6_told_X2 (by decide +kernel) dX6_told_135 ?_
    exact j_iret X h dX6_told_138
  · have h := h.2.2.2.2.2.2.2.2.2.2.1 c1
    refine j_tabIn (tgt := 139) X dX6_told_1 c1 (by decide) (by decide) rfl (by decide) ?_
    refine j_aload_n X rfl 0 rfl dX6_told_139 ?_
    refine jgC_main_plan X i_X6_told_X6 (by decide +kernel) dX6_told_140 ?_
    refine jgC_plan_storeyCost X i_X6_told_X2 (by decide +kernel) dX6_told_143 ?_
    exact j_iret X h dX6_told_146
  · have h := h.2.2.2.2.2.2.2.2.2.2.2 c1
    refine j_tabIn (tgt := 147) X dX6_told_1 c1 (by decide) (by decide) rfl (by decide) ?_
    refine j_aload_n X rfl 0 rfl dX6_told_147 ?_
    refine j_Vi (st := []) X [] 0 (c_X6_countFree l D i q A S _ h) (cwV 0 X.ts gX6_told_X6_countFree rfl rfl rfl (by decide +kernel) ⟨Nat.le_of_ble_eq_true rfl, Nat.le_of_ble_eq_true rfl⟩) rfl rfl rfl rfl (Nat.le_of_ble_eq_true rfl) dX6_told_148 (fun r5 S4 h => ?_)
    exact j_iret X h dX6_told_151
