abbrev rm_X7_in : Room := { frames := 0, cells := 0, slots := 0, locals := 0 }
set_option maxRecDepth 100000 in
set_option maxHeartbeats 4000000 in
theorem c_X7_in (l : Launch) (D : va_G) (i : Nat → ClassId) (q : Nat → Nat) (A : Nat → Prop) (x0 : Int64) (x2 : Int64) (x4 : Int64) (S : vS) (Q : Int32 → vS → Prop) (h : e_X7_in x0 x2 x4 S Q) : Met l yX7_in wsX7_in rm_X7_in (va_Pc [.long x0, .long x2, .long x4] (vB D i A (wM q i) S)) (va_Qi Q (vB D i A (wM q i)) A) 0 0 A := by
  refine m_ofJ (own := RX7) (lv := [(0, .long x0), (2, .long x2), (4, .long x4)]) rfl (by decide) rfl (Nat.le_of_ble_eq_true rfl) rfl ?_
  intro p e s m below meth c X
  unfold e_X7_in at h
  refine j_lload_n X rfl 0 rfl dX7_in_0 ?_
  refine j_lload_n X rfl 1 rfl dX7_in_1 ?_
  refine j_lcmp X dX7_in_2 ?_
  refine j_if_lt (tgt := 17) X dX7_in_3 (by decide) (fun c1 => ?_) (fun c1 => ?_)
  · have h := h.1 c1
    refine j_iconst (v := (0 : Int32)) X (by decide) dX7_in_17 ?_
    exact j_zret X rfl h dX7_in_18
  · have h := h.2 c1
    refine j_lload_n X rfl 0 rfl dX7_in_6 ?_
    refine j_lload X 2 rfl dX7_in_7 ?_
    refine j_lcmp X dX7_in_9 ?_
    refine j_if_gt (tgt := 17) X dX7_in_10 (by decide) (fun c2 => ?_) (fun c2 => ?_)
    · have h := h.1 c2
      refine j_iconst (v := (0 : Int32)) X (by decide) dX7_in_17 ?_
      exact j_zret X rfl h dX7_in_18
    · have h := h.2 c2
      refine j_iconst (v := (1 : Int32)) X (by decide) dX7_in_13 ?_
      refine j_goto (tgt := 18) X dX7_in_14 (by decide) ?_
      exact j_zret X rfl h dX7_in_18
set_option maxRecDepth 100000 in
theorem i_X7_feed_X7 : ∀ w ∈ u_ws RX7 TX7 48, w ∈ wsX7_feed := by decide +kernel
abbrev rm_X7_feed : Room := { frames := 1, cells := 0, slots := 0, locals := 25 }
set_option maxRecDepth 100000 in
set_option maxHeartbeats 4000000 in
theorem w_X7_feed_35 {D : va_G} {i : Nat → ClassId} {q : Nat → Nat} {A : Nat → Prop} {p : Program} {l : Launch} {e : Env} {s : State} {m : MethodId} {args : Array Value} {below : List Frame} {meth : Method} {c : Code} (X : cX D i A p s m args meth c cX7_feed RX7 5 wsX7_feed (some .int)) {Q : Int32 → vS → Prop} : ∀ (n : Nat) (a2 : Int64) (a4 : Int32) (S : vS), e_X7_feed_35 Q n a2 a4 S → cJ D A p l e (headSpec wsX7_feed rm_X7_feed).room s m args below meth c (MQ below (va_Qi Q (vB D i A (wM q i)) A) args s 0 0 A) 5 (wM q i S) [(0, .ref (q 0)), (2, .long a2), (4, .int a4)] 35 [] := by
  intro n
  induction n with
  | zero =>
    intro _ _ S h
    rw [e_X7_feed_35.eq_1] at h
    exact h.elim
  | succ n ih =>
    intro a2 a4 S h
    rw [e_X7_feed_35.eq_2] at h
    refine j_iload X 2 rfl dX7_feed_35 ?_
    refine j_if_lt (tgt := 77) X dX7_feed_37 (by decide) (fun c6 => ?_) (fun c6 => ?_)
    · have h := h.1 c6
      refine j_aload_n X rfl 0 rfl dX7_feed_77 ?_
      refine jgM_mod_texted X i_X7_feed_X7 (by decide +kernel) dX7_feed_78 ?_
      exact j_iret X h dX7_feed_81
    · have h := h.2 c6
      refine j_aload_n X rfl 0 rfl dX7_feed_40 ?_
      refine jgM_mod_text X i_X7_feed_X7 (by decide +kernel) dX7_feed_41 ?_
      refine j_aload_n X rfl 0 rfl dX7_feed_44 ?_
      refine jgM_mod_texted X i_X7_feed_X7 (by decide +kernel) dX7_feed_45 ?_
      refine j_lload_n X rfl 1 rfl dX7_feed_48 ?_
      refine j_bipush (v := (8 : Int32)) X (by decide) dX7_feed_49 ?_
      refine j_iload X 2 rfl dX7_feed_51 ?_
      refine j_imul X dX7_feed_53 ?_
      refine j_lshr X dX7_feed_54 ?_
      refine j_ldc2 (v := (255 : Int64)) X (by decide +kernel) dX7_feed_55 ?_
      refine j_land X dX7_feed_58 ?_
      refine j_l2i X dX7_feed_59 ?_
      obtain ⟨k7, h⟩ := h
      refine jsM_mod_text X k7 dX7_feed_60 (fun S8 eS8 => ?_)
      have h := h S8 eS8
      refine j_aload_n X rfl 0 rfl dX7_feed_61 ?_
      refine j_dup X rfl dX7_feed_62 ?_
      refine jgM_mod_texted X i_X7_feed_X7 (by decide +kernel) dX7_feed_63 ?_
      refine j_iconst (v := (1 : Int32)) X (by decide) dX7_feed_66 ?_
      refine j_iadd X dX7_feed_67 ?_
      refine jpM_mod_texted X i_X7_feed_X7 (by decide +kernel) dX7_feed_68 (fun S9 eS9 => ?_)
      have h := h S9 eS9
      refine j_iinc (dv := (-1 : Int32)) (lv' := fun v10 => [(4, .int v10), (0, .ref (q 0)), (2, .long a2)]) X dX7_feed_71 (pl := 2) rfl (by decide) (by decide) (fun _ => rfl) (fun v10 ev10 => ?_)
      have h := h v10 ev10
      refine j_goto (tgt := 35) X dX7_feed_74 (by decide) ?_
      refine j_loc [1, 2, 0] rfl ?_
      exact ih a2 v10 S9 h
set_option maxRecDepth 100000 in
set_option maxHeartbeats 4000000 in
theorem c_X7_feed (l : Launch) (D : va_G) (i : Nat → ClassId) (q : Nat → Nat) (A : Nat → Prop) (x1 : Int32) (x2 : Int64) (S : vS) (Q : Int32 → vS → Prop) (h : e_X7_feed x1 x2 S Q) : Met l yX7_feed wsX7_feed rm_X7_feed (va_Pc [.ref (q 0), .int x1, .long x2] (vB D i A (wM q i) S)) (va_Qi Q (vB D i A (wM q i)) A) 0 0 A := by
  refine m_ofJ (own := RX7) (lv := [(0, .ref (q 0)), (1, .int x1), (2, .long x2)]) rfl (by decide) rfl (Nat.le_of_ble_eq_true rfl) rfl ?_
  intro p e s m below meth c X
  unfold e_X7_feed at h
  refine j_iload_n X rfl 1 rfl dX7_feed_0 ?_
  refine j_i2l X dX7_feed_1 ?_
  refine j_lconst (v := (1 : Int64)) X (by decide) dX7_feed_2 ?_
  refine j_ldc2 (v := (8 : Int64)) X (by decide +kernel) dX7_feed_3 ?_
  refine j_Si (st := []) X [.long (x1).toInt64, .long (1 : Int64), .long (8 : Int64)] (c_X7_in l D i q A (x1).toInt64 (1 : Int64) (8 : Int64) S _ h) (va_cwS 3 X.ts gX7_feed_X7_in rfl rfl rfl (by decide +kernel) ⟨Nat.le_of_ble_eq_true rfl, Nat.le_of_ble_eq_true rfl⟩) rfl rfl (Nat.le_of_ble_eq_true rfl) dX7_feed_6 (fun r2 S1 h => ?_)
  refine j_if_ne (tgt := 15) X dX7_feed_9 (by decide) (fun c3 => ?_) (fun c3 => ?_)
  · have h := h.1 c3
    refine j_aload_n X rfl 0 rfl dX7_feed_15 ?_
    refine jgM_mod_texted X i_X7_feed_X7 (by decide +kernel) dX7_feed_16 ?_
    refine j_iload_n X rfl 1 rfl dX7_feed_19 ?_
    refine j_iadd X dX7_feed_20 ?_
    refine j_sipush (v := (500 : Int32)) X (by decide) dX7_feed_21 ?_
    refine j_icmp_le (tgt := 30) X dX7_feed_24 (by decide) (fun c4 => ?_) (fun c4 => ?_)
    · have h := h.1 c4
      refine j_iload_n X rfl 1 rfl dX7_feed_30 ?_
      refine j_iconst (v := (1 : Int32)) X (by decide) dX7_feed_31 ?_
      refine j_isub X dX7_feed_32 ?_
      refine j_topi (fun v5 ev5 => ?_)
      have h := h v5 ev5
      refine j_istore (lv' := [(4, .int v5), (0, .ref (q 0)), (1, .int x1), (2, .long x2)]) X (by decide) rfl dX7_feed_33 ?_
      refine j_loc [1, 3, 0] rfl ?_
      obtain ⟨j, h⟩ := h
      exact w_X7_feed_35 X j x2 v5 S1 h
    · have h := h.2 c4
      refine j_ldc (v := (-1000000004 : Int32)) X (by decide +kernel) dX7_feed_27 ?_
      exact j_iret X h dX7_feed_29
  · have h := h.2 c3
    refine j_ldc (v := (-1000000002 : Int32)) X (by decide +kernel) dX7_feed_12 ?_
    exact j_iret X h dX7_feed_14
set_option maxRecDepth 100000 in
theorem i_X7_clear_X7 : ∀ w ∈ u_ws RX7 TX7 48, w ∈ wsX7_clear := by decide +kernel
abbrev rm_X7_clear : Room := { frames := 0, cells := 0, slots := 0, locals := 0 }
set_option maxRecDepth 100000 in
set_option maxHeartbeats 4000000 in
theorem w_X7_clear_37 {D : va_G} {i : Nat → ClassId} {q : Nat → Nat} {A : Nat → Prop} {p : Program} {l : Launch} {e : Env} {s : State} {m : MethodId} {args : Array Value} {below : List Frame} {meth : Method} {c : Code} (X : cX D i A p s m args meth c cX7_clear RX7 2 wsX7_clear none) {Q : vS → Prop} : ∀ (n : Nat) (a1 : Int32) (S : vS), e_X7_clear_37 Q n a1 S → cJ D A p l e (headSpec wsX7_clear rm_X7_clear).room s m args below meth c (MQ below (va_Qv Q (vB D i A (wM q i)) A) args s 0 0 A) 2 (wM q i S) [(0, .ref (q 0)), (1, .int a1)] 37 [] := by
  intro n
  induction n with
  | zero =>
    intro _ S h
    rw [e_X7_clear_37.eq_1] at h
    exact h.elim
  | succ n ih =>
    intro a1 S h
    rw [e_X7_clear_37.eq_2] at h
    refine j_iload_n X rfl 1 rfl dX7_clear_37 ?_
    refine j_bipush (v := (60 : Int32)) X (by decide) dX7_clear_38 ?_
    refine j_icmp_ge (tgt := 63) X dX7_clear_40 (by decide) (fun c8 => ?_) (fun c8 => ?_)
    · have h := h.1 c8
      exact j_vret X h dX7_clear_63
    · have h := h.2 c8
      refine j_aload_n X rfl 0 rfl dX7_clear_43 ?_
      refine jgM_mod_readStand X i_X7_clear_X7 (by decide +kernel) dX7_clear_44 ?_
      refine j_iload_n X rfl 1 rfl dX7_clear_47 ?_
      refine j_iconst (v := (-1 : Int32)) X (by decide) dX7_clear_48 ?_
      obtain ⟨k9, h⟩ := h
      refine jsM_mod_readStand X k9 dX7_clear_49 (fun S10 eS10 => ?_)
      have h := h S10 eS10
      refine j_aload_n X rfl 0 rfl dX7_clear_50 ?_
      refine jgM_mod_readFish X i_X7_clear_X7 (by decide +kernel) dX7_clear_51 ?_
      refine j_iload_n X rfl 1 rfl dX7_clear_54 ?_
      refine j_iconst (v := (-1 : Int32)) X (by decide) dX7_clear_55 ?_
      refine jsM_mod_readFish X k9 dX7_clear_56 (fun S11 eS11 => ?_)
      have h := h S11 eS11
      refine j_iinc (dv := (1 : Int32)) (lv' := fun v12 => [(1, .int v12), (0, .ref (q 0))]) X dX7_clear_57 (pl := 1) rfl (by decide) (by decide) (fun _ => rfl) (fun v12 ev12 => ?_)
      have h := h v12 ev12
      refine j_goto (tgt := 37) X dX7_clear_60 (by decide) ?_
      refine j_loc [1, 0] rfl ?_
      exact ih v12 S11 h
set_option maxRecDepth 100000 in
set_option maxHeartbeats 4000000 in
theorem c_X7_clear (l : Launch) (D : va_G) (i : Nat → ClassId) (q : Nat → Nat) (A : Nat → Prop) (S : vS) (Q : vS → Prop) (h : e_X7_clear S Q) : Met l yX7_clear wsX7_clear rm_X7_clear (va_Pc [.ref (q 0)] (vB D i A (wM q i) S)) (va_Qv Q (vB D i A (wM q i)) A) 0 0 A := by
  refine m_ofJ (own := RX7) (lv := [(0, .ref (q 0))]) rfl (by decide) rfl (Nat.le_of_ble_eq_true rfl) rfl ?_
  intro p e s m below meth c X
  unfold e_X7_clear at h
  refine j_aload_n X rfl 0 rfl dX7_clear_0 ?_
  refine j_iconst (v := (0 : Int32)) X (by decide) dX7_clear_1 ?_
  refine jpM_mod_readWide X i_X7_clear_X7 (by decide +kernel) dX7_clear_2 (fun S1 eS1 => ?_)
  have h := h S1 eS1
  refine j_aload_n X rfl 0 rfl dX7_clear_5 ?_
  refine j_iconst (v := (0 : Int32)) X (by decide) dX7_clear_6 ?_
  refine jpM_mod_readDeep X i_X7_clear_X7 (by decide +kernel) dX7_clear_7 (fun S2 eS2 => ?_)
  have h := h S2 eS2
  refine j_aload_n X rfl 0 rfl dX7_clear_10 ?_
  refine j_iconst (v := (0 : Int32)) X (by decide) dX7_clear_11 ?_
  refine jpM_mod_readMen X i_X7_clear_X7 (by decide +kernel) dX7_clear_12 (fun S3 eS3 => ?_)
  have h := h S3 eS3
  refine j_aload_n X rfl 0 rfl dX7_clear_15 ?_
  refine j_iconst (v := (0 : Int32)) X (by decide) dX7_clear_16 ?_
  refine jpM_mod_readStands X i_X7_clear_X7 (by decide +kernel) dX7_clear_17 (fun S4 eS4 => ?_)
  have h := h S4 eS4
  refine j_aload_n X rfl 0 rfl dX7_clear_20 ?_
  refine j_iconst (v := (0 : Int32)) X (by decide) dX7_clear_21 ?_
  refine jpM_mod_readFishes X i_X7_clear_X7 (by decide +kernel) dX7_clear_22 (fun S5 eS5 => ?_)
  have h := h S5 eS5
  refine j_aload_n X rfl 0 rfl dX7_clear_25 ?_
  refine j_iconst (v := (0 : Int32)) X (by decide) dX7_clear_26 ?_
  refine jpM_mod_readMists X i_X7_clear_X7 (by decide +kernel) dX7_clear_27 (fun S6 eS6 => ?_)
  have h := h S6 eS6
  refine j_aload_n X rfl 0 rfl dX7_clear_30 ?_
  refine j_iconst (v := (0 : Int32)) X (by decide) dX7_clear_31 ?_
  refine jpM_mod_readHigh X i_X7_clear_X7 (by decide +kernel) dX7_clear_32 (fun S7 eS7 => ?_)
  have h := h S7 eS7
  refine j_iconst (v := (0 : Int32)) X (by decide) dX7_clear_35 ?_
  refine j_istore_n (lv' := [(1, .int (0 : Int32)), (0, .ref (q 0))]) X rfl (by decide) rfl dX7_clear_36 ?_
  refine j_loc [1, 0] rfl ?_
  obtain ⟨j, h⟩ := h
  exact w_X7_clear_37 X j (0 : Int32) S7 h
set_option maxRecDepth 100000 in
theorem i_X7_here_X7 : ∀ w ∈ u_ws RX7 TX7 48, w ∈ wsX7_here := by decide +kernel
abbrev rm_X7_here : Room := { frames := 0, cells := 0, slots := 0, locals := 0 }
set_option maxRecDepth 100000 in
set_option maxHeartbeats 4000000 in
theorem w_X7_here_38 {D : va_G} {i : Nat → ClassId} {q : Nat → Nat} {A : Nat → Prop} {p : Program} {l : Launch} {e : Env} {s : State} {m : MethodId} {args : Array Value} {below : List Frame} {meth : Method} {c : Code} (X : cX D i A p s m args meth c cX7_here RX7 1 wsX7_here (some .int)) {Q : Int32 → vS → Prop} : ∀ (S : vS), e_X7_here_38 Q S → cJ D A p l e (headSpec wsX7_here rm_X7_here).room s m args below meth c (MQ below (va_Qi Q (vB D i A (wM q i)) A) args s 0 0 A) 1 (wM q i S) [(0, .ref (q 0))] 38 [] := by
  intro S h
  unfold e_X7_here_38 at h
  refine j_aload_n X rfl 0 rfl dX7_here_38 ?_
  refine jgM_mod_at0 X i_X7_here_X7 (by decide +kernel) dX7_here_39 ?_
  refine j_aload_n X rfl 0 rfl dX7_here_42 ?_
  refine jgM_mod_texted X i_X7_here_X7 (by decide +kernel) dX7_here_43 ?_
  refine j_icmp_ge (tgt := 61) X dX7_here_46 (by decide) (fun c5 => ?_) (fun c5 => ?_)
  · have h := h.1 c5
    refine j_iconst (v := (-1 : Int32)) X (by decide) dX7_here_61 ?_
    exact j_iret X h dX7_here_62
  · have h := h.2 c5
    refine j_aload_n X rfl 0 rfl dX7_here_49 ?_
    refine jgM_mod_text X i_X7_here_X7 (by decide +kernel) dX7_here_50 ?_
    refine j_aload_n X rfl 0 rfl dX7_here_53 ?_
    refine jgM_mod_at0 X i_X7_here_X7 (by decide +kernel) dX7_here_54 ?_
    obtain ⟨k6, h⟩ := h
    refine jlM_mod_text X k6 dX7_here_57 ?_
    refine j_goto (tgt := 62) X dX7_here_58 (by decide) ?_
    exact j_iret X h dX7_here_62
set_option maxRecDepth 100000 in
set_option maxHeartbeats 4000000 in
theorem w_X7_here_0 {D : va_G} {i : Nat → ClassId} {q : Nat → Nat} {A : Nat → Prop} {p : Program} {l : Launch} {e : Env} {s : State} {m : MethodId} {args : Array Value} {below : List Frame} {meth : Method} {c : Code} (X : cX D i A p s m args meth c cX7_here RX7 1 wsX7_here (some .int)) {Q : Int32 → vS → Prop} : ∀ (n : Nat) (S : vS), e_X7_here_0 Q n S → cJ D A p l e (headSpec wsX7_here rm_X7_here).room s m args below meth c (MQ below (va_Qi Q (vB D i A (wM q i)) A) args s 0 0 A) 1 (wM q i S) [(0, .ref (q 0))] 0 [] := by
  intro n
  induction n with
  | zero =>
    intro S h
    rw [e_X7_here_0.eq_1] at h
    exact h.elim
  | succ n ih =>
    intro S h
    rw [e_X7_here_0.eq_2] at h
    refine j_aload_n X rfl 0 rfl dX7_here_0 ?_
    refine jgM_mod_at0 X i_X7_here_X7 (by decide +kernel) dX7_here_1 ?_
    refine j_aload_n X rfl 0 rfl dX7_here_4 ?_
    refine jgM_mod_texted X i_X7_here_X7 (by decide +kernel) dX7_here_5 ?_
    refine j_icmp_ge (tgt := 38) X dX7_here_8 (by decide) (fun c7 => ?_) (fun c7 => ?_)
    · have h := h.1 c7
      exact w_X7_here_38 X S h
    · have h := h.2 c7
      refine j_aload_n X rfl 0 rfl dX7_here_11 ?_
      refine jgM_mod_text X i_X7_here_X7 (by decide +kernel) dX7_here_12 ?_
      refine j_aload_n X rfl 0 rfl dX7_here_15 ?_
      refine jgM_mod_at0 X i_X7_here_X7 (by decide +kernel) dX7_here_16 ?_
      obtain ⟨k8, h⟩ := h
      refine jlM_mod_text X k8 dX7_here_19 ?_
      refine j_bipush (v := (32 : Int32)) X (by decide) dX7_here_20 ?_
      refine j_icmp_ne (tgt := 38) X dX7_here_22 (by decide) (fun c9 => ?_) (fun c9 => ?_)
      · have h := h.1 c9
        exact w_X7_here_38 X S h
      · have h := h.2 c9
        refine j_aload_n X rfl 0 rfl dX7_here_25 ?_
        refine j_dup X rfl dX7_here_26 ?_
        refine jgM_mod_at0 X i_X7_here_X7 (by decide +kernel) dX7_here_27 ?_
        refine j_iconst (v := (1 : Int32)) X (by decide) dX7_here_30 ?_
        refine j_iadd X dX7_here_31 ?_
        refine jpM_mod_at0 X i_X7_here_X7 (by decide +kernel) dX7_here_32 (fun S10 eS10 => ?_)
        have h := h S10 eS10
        refine j_goto (tgt := 0) X dX7_here_35 (by decide) ?_
        exact ih S10 h
set_option maxRecDepth 100000 in
set_option maxHeartbeats 4000000 in
theorem c_X7_here (l : Launch) (D : va_G) (i : Nat → ClassId) (q : Nat → Nat) (A : Nat → Prop) (S : vS) (Q : Int32 → vS → Prop) (h : e_X7_here S Q) : Met l yX7_here wsX7_here rm_X7_here (va_Pc [.ref (q 0)] (vB D i A (wM q i) S)) (va_Qi Q (vB D i A (wM q i)) A) 0 0 A := by
  refine m_ofJ (own := RX7) (lv := [(0, .ref (q 0))]) rfl (by decide) rfl (Nat.le_of_ble_eq_true rfl) rfl ?_
  intro p e s m below meth c X
  unfold e_X7_here at h
  refine j_aload_n X rfl 0 rfl dX7_here_0 ?_
  refine jgM_mod_at0 X i_X7_here_X7 (by decide +kernel) dX7_here_1 ?_
  refine j_aload_n X rfl 0 rfl dX7_here_4 ?_
  refine jgM_mod_texted X i_X7_here_X7 (by decide +kernel) dX7_here_5 ?_
  refine j_icmp_ge (tgt := 38) X dX7_here_8 (by decide) (fun c1 => ?_) (fun c1 => ?_)
  · have h := h.1 c1
    exact w_X7_here_38 X S h
  · have h := h.2 c1
    refine j_aload_n X rfl 0 rfl dX7_here_11 ?_
    refine jgM_mod_text X i_X7_here_X7 (by decide +kernel) dX7_here_12 ?_
    refine j_aload_n X rfl 0 rfl dX7_here_15 ?_
    refine jgM_mod_at0 X i_X7_here_X7 (by decide +kernel) dX7_here_16 ?_
    obtain ⟨k2, h⟩ := h
    refine jlM_mod_text X k2 dX7_here_19 ?_
    refine j_bipush (v := (32 : Int32)) X (by decide) dX7_here_20 ?_
    refine j_icmp_ne (tgt := 38) X dX7_here_22 (by decide) (fun c3 => ?_) (fun c3 => ?_)
    · have h := h.1 c3
      exact w_X7_here_38 X S h
    · have h := h.2 c3
      refine j_aload_n X rfl 0 rfl dX7_here_25 ?_
      refine j_dup X rfl dX7_here_26 ?_
      refine jgM_mod_at0 X i_X7_here_X7 (by decide +kernel) dX7_here_27 ?_
      refine j_iconst (v := (1 : Int32)) X (by decide) dX7_here_30 ?_
      refine j_iadd X dX7_here_31 ?_
      refine jpM_mod_at0 X i_X7_here_X7 (by decide +kernel) dX7_here_32 (fun S4 eS4 => ?_)
      have h := h S4 eS4
      refine j_goto (tgt := 0) X dX7_here_35 (by decide) ?_
      obtain ⟨j, h⟩ := h
      exact w_X7_here_0 X j S4 h
set_option maxRecDepth 100000 in
theorem i_X7_readWord_X7 : ∀ w ∈ u_ws RX7 TX7 48, w ∈ wsX7_readWord := by decide +kernel
abbrev rm_X7_readWord : Room := { frames := 1, cells := 0, slots := 0, locals := 25 }
set_option maxRecDepth 100000 in
set_option maxHeartbeats 4000000 in
theorem w_X7_readWord_92 {D : va_G} {i : Nat → ClassId} {q : Nat → Nat} {A : Nat → Prop} {p : Program} {l : Launch} {e : Env} {s : State} {m : MethodId} {args : Array Value} {below : List Frame} {meth : Method} {c : Code} (X : cX D i A p s m args meth c cX7_readWord RX7 2 wsX7_readWord none) {K18 : vS → Prop} {Q : vS → Prop} (hK18 : ∀ (S : vS), K18 S → cJ D A p l e (headSpec wsX7_readWord rm_X7_readWord).room s m args below meth c (MQ below (va_Qv Q (vB D i A (wM q i)) A) args s 0 0 A) 2 (wM q i S) [(0, .ref (q 0))] 18 []) : ∀ (t0 : Int64) (S : vS), e_X7_readWord_92 K18 Q t0 S → cJ D A p l e (headSpec wsX7_readWord rm_X7_readWord).room s m args below meth c (MQ below (va_Qv Q (vB D i A (wM q i)) A) args s 0 0 A) 2 (wM q i S) [(0, .ref (q 0))] 92 [.long t0, .ref (q 0)] := by
  intro t0 S h
  unfold e_X7_readWord_92 at h
  refine jpM_mod_said X i_X7_readWord_X7 (by decide +kernel) dX7_readWord_92 (fun S12 eS12 => ?_)
  have h := h S12 eS12
  refine j_aload_n X rfl 0 rfl dX7_readWord_95 ?_
  refine j_dup X rfl dX7_readWord_96 ?_
  refine jgM_mod_wordEnd X i_X7_readWord_X7 (by decide +kernel) dX7_readWord_97 ?_
  refine j_iconst (v := (1 : Int32)) X (by decide) dX7_readWord_100 ?_
  refine j_iadd X dX7_readWord_101 ?_
  refine jpM_mod_wordEnd X i_X7_readWord_X7 (by decide +kernel) dX7_readWord_102 (fun S13 eS13 => ?_)
  have h := h S13 eS13
  refine j_goto (tgt := 18) X dX7_readWord_105 (by decide) ?_
  exact hK18 S13 h
set_option maxRecDepth 100000 in
set_option maxHeartbeats 4000000 in
theorem w_X7_readWord_18 {D : va_G} {i : Nat → ClassId} {q : Nat → Nat} {A : Nat → Prop} {p : Program} {l : Launch} {e : Env} {s : State} {m : MethodId} {args : Array Value} {below : List Frame} {meth : Method} {c : Code} (X : cX D i A p s m args meth c cX7_readWord RX7 2 wsX7_readWord none) {Q : vS → Prop} : ∀ (n : Nat) (S : vS), e_X7_readWord_18 Q n S → cJ D A p l e (headSpec wsX7_readWord rm_X7_readWord).room s m args below meth c (MQ below (va_Qv Q (vB D i A (wM q i)) A) args s 0 0 A) 2 (wM q i S) [(0, .ref (q 0))] 18 [] := by
  intro n
  induction n with
  | zero =>
    intro S h
    rw [e_X7_readWord_18.eq_1] at h
    exact h.elim
  | succ n ih =>
    intro S h
    rw [e_X7_readWord_18.eq_2] at h
    refine j_aload_n X rfl 0 rfl dX7_readWord_18 ?_
    refine jgM_mod_wordEnd X i_X7_readWord_X7 (by decide +kernel) dX7_readWord_19 ?_
    refine j_aload_n X rfl 0 rfl dX7_readWord_22 ?_
    refine jgM_mod_texted X i_X7_readWord_X7 (by decide +kernel) dX7_readWord_23 ?_
    refine j_icmp_ge (tgt := 108) X dX7_readWord_26 (by decide) (fun c5 => ?_) (fun c5 => ?_)
    · have h := h.1 c5
      exact j_vret X h dX7_readWord_108
    · have h := h.2 c5
      refine j_aload_n X rfl 0 rfl dX7_readWord_29 ?_
      refine jgM_mod_text X i_X7_readWord_X7 (by decide +kernel) dX7_readWord_30 ?_
      refine j_aload_n X rfl 0 rfl dX7_readWord_33 ?_
      refine jgM_mod_wordEnd X i_X7_readWord_X7 (by decide +kernel) dX7_readWord_34 ?_
      obtain ⟨k6, h⟩ := h
      refine jlM_mod_text X k6 dX7_readWord_37 ?_
      refine j_i2l X dX7_readWord_38 ?_
      refine j_ldc2 (v := (97 : Int64)) X (by decide +kernel) dX7_readWord_39 ?_
      refine j_ldc2 (v := (122 : Int64)) X (by decide +kernel) dX7_readWord_42 ?_
      refine j_Si (st := []) X [.long ((S.2.1 9 ((S.1 12)).toNatClampNeg)).toInt64, .long (97 : Int64), .long (122 : Int64)] (c_X7_in l D i q A ((S.2.1 9 ((S.1 12)).toNatClampNeg)).toInt64 (97 : Int64) (122 : Int64) S _ h) (va_cwS 3 X.ts gX7_readWord_X7_in rfl rfl rfl (by decide +kernel) ⟨Nat.le_of_ble_eq_true rfl, Nat.le_of_ble_eq_true rfl⟩) rfl rfl (Nat.le_of_ble_eq_true rfl) dX7_readWord_45 (fun r8 S7 h => ?_)
      refine j_if_eq (tgt := 108) X dX7_readWord_48 (by decide) (fun c9 => ?_) (fun c9 => ?_)
      · have h := h.1 c9
        exact j_vret X h dX7_readWord_108
      · have h := h.2 c9
        refine j_aload_n X rfl 0 rfl dX7_readWord_51 ?_
        refine j_aload_n X rfl 0 rfl dX7_readWord_52 ?_
        refine jgM_mod_said X i_X7_readWord_X7 (by decide +kernel) dX7_readWord_53 ?_
        refine j_ldc2 (v := (10000000000000 : Int64)) X (by decide +kernel) dX7_readWord_56 ?_
        refine j_lcmp X dX7_readWord_59 ?_
        refine j_if_le (tgt := 69) X dX7_readWord_60 (by decide) (fun c10 => ?_) (fun c10 => ?_)
        · have h := h.1 c10
          refine j_ldc2 (v := (27 : Int64)) X (by decide +kernel) dX7_readWord_69 ?_
          refine j_aload_n X rfl 0 rfl dX7_readWord_72 ?_
          refine jgM_mod_said X i_X7_readWord_X7 (by decide +kernel) dX7_readWord_73 ?_
          refine j_lmul X dX7_readWord_76 ?_
          refine j_aload_n X rfl 0 rfl dX7_readWord_77 ?_
          refine jgM_mod_text X i_X7_readWord_X7 (by decide +kernel) dX7_readWord_78 ?_
          refine j_aload_n X rfl 0 rfl dX7_readWord_81 ?_
          refine jgM_mod_wordEnd X i_X7_readWord_X7 (by decide +kernel) dX7_readWord_82 ?_
          obtain ⟨k11, h⟩ := h
          refine jlM_mod_text X k11 dX7_readWord_85 ?_
          refine j_i2l X dX7_readWord_86 ?_
          refine j_ladd X dX7_readWord_87 ?_
          refine j_ldc2 (v := (96 : Int64)) X (by decide +kernel) dX7_readWord_88 ?_
          refine j_lsub X dX7_readWord_91 ?_
          exact w_X7_readWord_92 X (fun  S h => ih  S h) ((((27 : Int64) * (S7.2.2 0)) + ((S7.2.1 9 ((S7.1 12)).toNatClampNeg)).toInt64) - (96 : Int64)) S7 h
        · have h := h.2 c10
          refine j_ldc2 (v := (20000000000000 : Int64)) X (by decide +kernel) dX7_readWord_63 ?_
          refine j_goto (tgt := 92) X dX7_readWord_66 (by decide) ?_
          exact w_X7_readWord_92 X (fun  S h => ih  S h) (20000000000000 : Int64) S7 h
set_option maxRecDepth 100000 in
set_option maxHeartbeats 4000000 in
theorem c_X7_readWord (l : Launch) (D : va_G) (i : Nat → ClassId) (q : Nat → Nat) (A : Nat → Prop) (S : vS) (Q : vS → Prop) (h : e_X7_readWord S Q) : Met l yX7_readWord wsX7_readWord rm_X7_readWord (va_Pc [.ref (q 0)] (vB D i A (wM q i) S)) (va_Qv Q (vB D i A (wM q i)) A) 0 0 A := by
  refine m_ofJ (own := RX7) (lv := [(0, .ref (q 0))]) rfl (by decide) rfl (Nat.le_of_ble_eq_true rfl) rfl ?_
  intro p e s m below meth c X
  unfold e_X7_readWord at h
  refine j_aload_n X rfl 0 rfl dX7_readWord_0 ?_
  refine j_Vi (st := []) X [] 0 (c_X7_here l D i q A S _ h) (cwV 0 X.ts gX7_readWord_X7_here rfl rfl rfl (by decide +kernel) ⟨Nat.le_of_ble_eq_true rfl, Nat.le_of_ble_eq_true rfl⟩) rfl rfl rfl rfl (Nat.le_of_ble_eq_true rfl) dX7_readWord_1 (fun r2 S1 h => ?_)
  refine j_istore_n (lv' := [(1, .int r2), (0, .ref (q 0))]) X rfl (by decide) rfl dX7_readWord_4 ?_
  refine j_aload_n X rfl 1 rfl dX7_readWord_5 ?_
  refine j_lconst (v := (0 : Int64)) X (by decide) dX7_readWord_6 ?_
  refine jpM_mod_said X i_X7_readWord_X7 (by decide +kernel) dX7_readWord_7 (fun S3 eS3 => ?_)
  have h := h S3 eS3
  refine j_aload_n X rfl 1 rfl dX7_readWord_10 ?_
  refine j_aload_n X rfl 1 rfl dX7_readWord_11 ?_
  refine jgM_mod_at0 X i_X7_readWord_X7 (by decide +kernel) dX7_readWord_12 ?_
  refine jpM_mod_wordEnd X i_X7_readWord_X7 (by decide +kernel) dX7_readWord_15 (fun S4 eS4 => ?_)
  have h := h S4 eS4
  refine j_loc [1] rfl ?_
  obtain ⟨j, h⟩ := h
  exact w_X7_readWord_18 X j S4 h
abbrev rm_X7_code : Room := { frames := 0, cells := 0, slots := 0, locals := 0 }
set_option maxRecDepth 100000 in
set_option maxHeartbeats 4000000 in
theorem c_X7_code (l : Launch) (D : va_G) (i : Nat → ClassId) (q : Nat → Nat) (A : Nat → Prop) (x0 : Int32) (x1 : Int32) (x2 : Int32) (x3 : Int32) (S : vS) (Q : Int64 → vS → Prop) (h : e_X7_code x0 x1 x2 x3 S Q) : Met l yX7_code wsX7_code rm_X7_code (va_Pc [.int x0, .int x1, .int x2, .int x3] (vB D i A (wM q i) S)) (va_Ql Q (vB D i A (wM q i)) A) 0 0 A := by
  refine m_ofJ (own := RX7) (lv := [(0, .int x0), (1, .int x1), (2, .int x2), (3, .int x3)]) rfl (by decide) rfl (Nat.le_of_ble_eq_true rfl) rfl ?_
  intro p e s m below meth c X
  unfold e_X7_code at h
  refine j_ldc2 (v := (27 : Int64)) X (by decide +kernel) dX7_code_0 ?_
  refine j_ldc2 (v := (27 : Int64)) X (by decide +kernel) dX7_code_3 ?_
  refine j_ldc2 (v := (27 : Int64)) X (by decide +kernel) dX7_code_6 ?_
  refine j_iload_n X rfl 0 rfl dX7_code_9 ?_
  refine j_i2l X dX7_code_10 ?_
  refine j_ldc2 (v := (96 : Int64)) X (by decide +kernel) dX7_code_11 ?_
  refine j_lsub X dX7_code_14 ?_
  refine j_lmul X dX7_code_15 ?_
  refine j_iload_n X rfl 1 rfl dX7_code_16 ?_
  refine j_i2l X dX7_code_17 ?_
  refine j_ladd X dX7_code_18 ?_
  refine j_ldc2 (v := (96 : Int64)) X (by decide +kernel) dX7_code_19 ?_
  refine j_lsub X dX7_code_22 ?_
  refine j_lmul X dX7_code_23 ?_
  refine j_iload_n X rfl 2 rfl dX7_code_24 ?_
  refine j_i2l X dX7_code_25 ?_
  refine j_ladd X dX7_code_26 ?_
  refine j_ldc2 (v := (96 : Int64)) X (by decide +kernel) dX7_code_27 ?_
  refine j_lsub X dX7_code_30 ?_
  refine j_lmul X dX7_code_31 ?_
  refine j_iload_n X rfl 3 rfl dX7_code_32 ?_
  refine j_i2l X dX7_code_33 ?_
  refine j_ladd X dX7_code_34 ?_
  refine j_ldc2 (v := (96 : Int64)) X (by decide +kernel) dX7_code_35 ?_
  refine j_lsub X dX7_code_38 ?_
  exact j_lret X h dX7_code_39
abbrev rm_X7_longer : Room := { frames := 0, cells := 0, slots := 0, locals := 0 }
set_option maxRecDepth 100000 in
set_option maxHeartbeats 4000000 in
theorem c_X7_longer (l : Launch) (D : va_G) (i : Nat → ClassId) (q : Nat → Nat) (A : Nat → Prop) (x0 : Int64) (x2 : Int32) (S : vS) (Q : Int64 → vS → Prop) (h : e_X7_longer x0 x2 S Q) : Met l yX7_longer wsX7_longer rm_X7_longer (va_Pc [.long x0, .int x2] (vB D i A (wM q i) S)) (va_Ql Q (vB D i A (wM q i)) A) 0 0 A := by
  refine m_ofJ (own := RX7) (lv := [(0, .long x0), (2, .int x2)]) rfl (by decide) rfl (Nat.le_of_ble_eq_true rfl) rfl ?_
  intro p e s m below meth c X
  unfold e_X7_longer at h
  refine j_ldc2 (v := (27 : Int64)) X (by decide +kernel) dX7_longer_0 ?_
  refine j_lload_n X rfl 0 rfl dX7_longer_3 ?_
  refine j_lmul X dX7_longer_4 ?_
  refine j_iload_n X rfl 1 rfl dX7_longer_5 ?_
  refine j_i2l X dX7_longer_6 ?_
  refine j_ladd X dX7_longer_7 ?_
  refine j_ldc2 (v := (96 : Int64)) X (by decide +kernel) dX7_longer_8 ?_
  refine j_lsub X dX7_longer_11 ?_
  exact j_lret X h dX7_longer_12
set_option maxRecDepth 100000 in
theorem i_X7_fails_X7 : ∀ w ∈ u_ws RX7 TX7 48, w ∈ wsX7_fails := by decide +kernel
abbrev rm_X7_fails : Room := { frames := 0, cells := 0, slots := 0, locals := 0 }
set_option maxRecDepth 100000 in
set_option maxHeartbeats 4000000 in
theorem c_X7_fails (l : Launch) (D : va_G) (i : Nat → ClassId) (q : Nat → Nat) (A : Nat → Prop) (x1 : Int32) (x2 : Int32) (S : vS) (Q : Int32 → vS → Prop) (h : e_X7_fails x1 x2 S Q) : Met l yX7_fails wsX7_fails rm_X7_fails (va_Pc [.ref (q 0), .int x1, .int x2] (vB D i A (wM q i) S)) (va_Qi Q (vB D i A (wM q i)) A) 0 0 A := by
  refine m_ofJ (own := RX7) (lv := [(0, .ref (q 0)), (1, .int x1), (2, .int x2)]) rfl (by decide) rfl (Nat.le_of_ble_eq_true rfl) rfl ?_
  intro p e s m below meth c X
  unfold e_X7_fails at h
  refine j_aload_n X rfl 0 rfl dX7_fails_0 ?_
  refine j_iload_n X rfl 2 rfl dX7_fails_1 ?_
  refine jpM_mod_faultPlace X i_X7_fails_X7 (by decide +kernel) dX7_fails_2 (fun S1 eS1 => ?_)
  have h := h S1 eS1
  refine j_iload_n X rfl 1 rfl dX7_fails_5 ?_
  exact j_iret X h dX7_fails_6
set_option maxRecDepth 100000 in
theorem i_X7_takeNumber_X7 : ∀ w ∈ u_ws RX7 TX7 48, w ∈ wsX7_takeNumber := by decide +kernel
abbrev rm_X7_takeNumber : Room := { frames := 1, cells := 0, slots := 0, locals := 25 }
set_option maxRecDepth 100000 in
set_option maxHeartbeats 4000000 in
theorem w_X7_takeNumber_113 {D : va_G} {i : Nat → ClassId} {q : Nat → Nat} {A : Nat → Prop} {p : Program} {l : Launch} {e : Env} {s : State} {m : MethodId} {args : Array Value} {below : List Frame} {meth : Method} {c : Code} (X : cX D i A p s m args meth c cX7_takeNumber RX7 4 wsX7_takeNumber (some .int)) {K42 : Int32 → Int32 → vS → Prop} {Q : Int32 → vS → Prop} (hK42 : ∀ (a1 : Int32) (a2 : Int32) (S : vS), K42 a1 a2 S → cJ D A p l e (headSpec wsX7_takeNumber rm_X7_takeNumber).room s m args below meth c (MQ below (va_Qi Q (vB D i A (wM q i)) A) args s 0 0 A) 4 (wM q i S) [(0, .ref (q 0)), (1, .int a1), (2, .int a2)] 42 []) : ∀ (a1 : Int32) (a2 : Int32) (t0 : Int32) (S : vS), e_X7_takeNumber_113 K42 Q a1 a2 t0 S → cJ D A p l e (headSpec wsX7_takeNumber rm_X7_takeNumber).room s m args below meth c (MQ below (va_Qi Q (vB D i A (wM q i)) A) args s 0 0 A) 4 (wM q i S) [(0, .ref (q 0)), (1, .int a1), (2, .int a2)] 113 [.int t0, .ref (q 0)] := by
  intro a1 a2 t0 S h
  unfold e_X7_takeNumber_113 at h
  refine jpM_mod_number X i_X7_takeNumber_X7 (by decide +kernel) dX7_takeNumber_113 (fun S25 eS25 => ?_)
  have h := h S25 eS25
  refine j_aload_n X rfl 0 rfl dX7_takeNumber_116 ?_
  refine j_dup X rfl dX7_takeNumber_117 ?_
  refine jgM_mod_at0 X i_X7_takeNumber_X7 (by decide +kernel) dX7_takeNumber_118 ?_
  refine j_iconst (v := (1 : Int32)) X (by decide) dX7_takeNumber_121 ?_
  refine j_iadd X dX7_takeNumber_122 ?_
  refine jpM_mod_at0 X i_X7_takeNumber_X7 (by decide +kernel) dX7_takeNumber_123 (fun S26 eS26 => ?_)
  have h := h S26 eS26
  refine j_goto (tgt := 42) X dX7_takeNumber_126 (by decide) ?_
  exact hK42 a1 a2 S26 h
set_option maxRecDepth 100000 in
set_option maxHeartbeats 4000000 in
theorem w_X7_takeNumber_129 {D : va_G} {i : Nat → ClassId} {q : Nat → Nat} {A : Nat → Prop} {p : Program} {l : Launch} {e : Env} {s : State} {m : MethodId} {args : Array Value} {below : List Frame} {meth : Method} {c : Code} (X : cX D i A p s m args meth c cX7_takeNumber RX7 4 wsX7_takeNumber (some .int)) {Q : Int32 → vS → Prop} : ∀ (a1 : Int32) (a2 : Int32) (S : vS), e_X7_takeNumber_129 Q a1 a2 S → cJ D A p l e (headSpec wsX7_takeNumber rm_X7_takeNumber).room s m args below meth c (MQ below (va_Qi Q (vB D i A (wM q i)) A) args s 0 0 A) 4 (wM q i S) [(0, .ref (q 0)), (1, .int a1), (2, .int a2)] 129 [] := by
  intro a1 a2 S h
  unfold e_X7_takeNumber_129 at h
  refine j_aload_n X rfl 0 rfl dX7_takeNumber_129 ?_
  refine jgM_mod_at0 X i_X7_takeNumber_X7 (by decide +kernel) dX7_takeNumber_130 ?_
  refine j_aload_n X rfl 0 rfl dX7_takeNumber_133 ?_
  refine jgM_mod_numberAt X i_X7_takeNumber_X7 (by decide +kernel) dX7_takeNumber_134 ?_
  refine j_isub X dX7_takeNumber_137 ?_
  refine j_iconst (v := (3 : Int32)) X (by decide) dX7_takeNumber_138 ?_
  refine j_icmp_gt (tgt := 157) X dX7_takeNumber_139 (by decide) (fun c17 => ?_) (fun c17 => ?_)
  · have h := h.1 c17
    refine j_aload_n X rfl 0 rfl dX7_takeNumber_157 ?_
    refine j_iconst (v := (2 : Int32)) X (by decide) dX7_takeNumber_158 ?_
    refine j_aload_n X rfl 0 rfl dX7_takeNumber_159 ?_
    refine jgM_mod_numberAt X i_X7_takeNumber_X7 (by decide +kernel) dX7_takeNumber_160 ?_
    refine j_Vi (st := []) X [.int (2 : Int32), .int (S.1 14)] 0 (c_X7_fails l D i q A (2 : Int32) (S.1 14) S _ h) (cwV 2 X.ts gX7_takeNumber_X7_fails rfl rfl rfl (by decide +kernel) ⟨Nat.le_of_ble_eq_true rfl, Nat.le_of_ble_eq_true rfl⟩) rfl rfl rfl rfl (Nat.le_of_ble_eq_true rfl) dX7_takeNumber_163 (fun r19 S18 h => ?_)
    refine j_goto (tgt := 170) X dX7_takeNumber_166 (by decide) ?_
    exact j_iret X h dX7_takeNumber_170
  · have h := h.2 c17
    refine j_aload_n X rfl 0 rfl dX7_takeNumber_142 ?_
    refine jgM_mod_number X i_X7_takeNumber_X7 (by decide +kernel) dX7_takeNumber_143 ?_
    refine j_i2l X dX7_takeNumber_146 ?_
    refine j_iload_n X rfl 1 rfl dX7_takeNumber_147 ?_
    refine j_i2l X dX7_takeNumber_148 ?_
    refine j_iload_n X rfl 2 rfl dX7_takeNumber_149 ?_
    refine j_i2l X dX7_takeNumber_150 ?_
    refine j_Si (st := []) X [.long ((S.1 13)).toInt64, .long (a1).toInt64, .long (a2).toInt64] (c_X7_in l D i q A ((S.1 13)).toInt64 (a1).toInt64 (a2).toInt64 S _ h) (va_cwS 3 X.ts gX7_takeNumber_X7_in rfl rfl rfl (by decide +kernel) ⟨Nat.le_of_ble_eq_true rfl, Nat.le_of_ble_eq_true rfl⟩) rfl rfl (Nat.le_of_ble_eq_true rfl) dX7_takeNumber_151 (fun r21 S20 h => ?_)
    refine j_if_ne (tgt := 169) X dX7_takeNumber_154 (by decide) (fun c22 => ?_) (fun c22 => ?_)
    · have h := h.1 c22
      refine j_iconst (v := (0 : Int32)) X (by decide) dX7_takeNumber_169 ?_
      exact j_iret X h dX7_takeNumber_170
    · have h := h.2 c22
      refine j_aload_n X rfl 0 rfl dX7_takeNumber_157 ?_
      refine j_iconst (v := (2 : Int32)) X (by decide) dX7_takeNumber_158 ?_
      refine j_aload_n X rfl 0 rfl dX7_takeNumber_159 ?_
      refine jgM_mod_numberAt X i_X7_takeNumber_X7 (by decide +kernel) dX7_takeNumber_160 ?_
      refine j_Vi (st := []) X [.int (2 : Int32), .int (S20.1 14)] 0 (c_X7_fails l D i q A (2 : Int32) (S20.1 14) S20 _ h) (cwV 2 X.ts gX7_takeNumber_X7_fails rfl rfl rfl (by decide +kernel) ⟨Nat.le_of_ble_eq_true rfl, Nat.le_of_ble_eq_true rfl⟩) rfl rfl rfl rfl (Nat.le_of_ble_eq_true rfl) dX7_takeNumber_163 (fun r24 S23 h => ?_)
      refine j_goto (tgt := 170) X dX7_takeNumber_166 (by decide) ?_
      exact j_iret X h dX7_takeNumber_170
set_option maxRecDepth 100000 in
set_option maxHeartbeats 4000000 in
theorem w_X7_takeNumber_42 {D : va_G} {i : Nat → ClassId} {q : Nat → Nat} {A : Nat → Prop} {p : Program} {l : Launch} {e : Env} {s : State} {m : MethodId} {args : Array Value} {below : List Frame} {meth : Method} {c : Code} (X : cX D i A p s m args meth c cX7_takeNumber RX7 4 wsX7_takeNumber (some .int)) {Q : Int32 → vS → Prop} : ∀ (n : Nat) (a1 : Int32) (a2 : Int32) (S : vS), e_X7_takeNumber_42 Q n a1 a2 S → cJ D A p l e (headSpec wsX7_takeNumber rm_X7_takeNumber).room s m args below meth c (MQ below (va_Qi Q (vB D i A (wM q i)) A) args s 0 0 A) 4 (wM q i S) [(0, .ref (q 0)), (1, .int a1), (2, .int a2)] 42 [] := by
  intro n
  induction n with
  | zero =>
    intro _ _ S h
    rw [e_X7_takeNumber_42.eq_1] at h
    exact h.elim
  | succ n ih =>
    intro a1 a2 S h
    rw [e_X7_takeNumber_42.eq_2] at h
    refine j_aload_n X rfl 0 rfl dX7_takeNumber_42 ?_
    refine jgM_mod_at0 X i_X7_takeNumber_X7 (by decide +kernel) dX7_takeNumber_43 ?_
    refine j_aload_n X rfl 0 rfl dX7_takeNumber_46 ?_
    refine jgM_mod_texted X i_X7_takeNumber_X7 (by decide +kernel) dX7_takeNumber_47 ?_
    refine j_icmp_ge (tgt := 129) X dX7_takeNumber_50 (by decide) (fun c10 => ?_) (fun c10 => ?_)
    · have h := h.1 c10
      exact w_X7_takeNumber_129 X a1 a2 S h
    · have h := h.2 c10
      refine j_aload_n X rfl 0 rfl dX7_takeNumber_53 ?_
      refine jgM_mod_text X i_X7_takeNumber_X7 (by decide +kernel) dX7_takeNumber_54 ?_
      refine j_aload_n X rfl 0 rfl dX7_takeNumber_57 ?_
      refine jgM_mod_at0 X i_X7_takeNumber_X7 (by decide +kernel) dX7_takeNumber_58 ?_
      obtain ⟨k11, h⟩ := h
      refine jlM_mod_text X k11 dX7_takeNumber_61 ?_
      refine j_i2l X dX7_takeNumber_62 ?_
      refine j_ldc2 (v := (48 : Int64)) X (by decide +kernel) dX7_takeNumber_63 ?_
      refine j_ldc2 (v := (57 : Int64)) X (by decide +kernel) dX7_takeNumber_66 ?_
      refine j_Si (st := []) X [.long ((S.2.1 9 ((S.1 11)).toNatClampNeg)).toInt64, .long (48 : Int64), .long (57 : Int64)] (c_X7_in l D i q A ((S.2.1 9 ((S.1 11)).toNatClampNeg)).toInt64 (48 : Int64) (57 : Int64) S _ h) (va_cwS 3 X.ts gX7_takeNumber_X7_in rfl rfl rfl (by decide +kernel) ⟨Nat.le_of_ble_eq_true rfl, Nat.le_of_ble_eq_true rfl⟩) rfl rfl (Nat.le_of_ble_eq_true rfl) dX7_takeNumber_69 (fun r13 S12 h => ?_)
      refine j_if_eq (tgt := 129) X dX7_takeNumber_72 (by decide) (fun c14 => ?_) (fun c14 => ?_)
      · have h := h.1 c14
        exact w_X7_takeNumber_129 X a1 a2 S12 h
      · have h := h.2 c14
        refine j_aload_n X rfl 0 rfl dX7_takeNumber_75 ?_
        refine j_aload_n X rfl 0 rfl dX7_takeNumber_76 ?_
        refine jgM_mod_number X i_X7_takeNumber_X7 (by decide +kernel) dX7_takeNumber_77 ?_
        refine j_sipush (v := (10000 : Int32)) X (by decide) dX7_takeNumber_80 ?_
        refine j_icmp_le (tgt := 93) X dX7_takeNumber_83 (by decide) (fun c15 => ?_) (fun c15 => ?_)
        · have h := h.1 c15
          refine j_bipush (v := (10 : Int32)) X (by decide) dX7_takeNumber_93 ?_
          refine j_aload_n X rfl 0 rfl dX7_takeNumber_95 ?_
          refine jgM_mod_number X i_X7_takeNumber_X7 (by decide +kernel) dX7_takeNumber_96 ?_
          refine j_imul X dX7_takeNumber_99 ?_
          refine j_aload_n X rfl 0 rfl dX7_takeNumber_100 ?_
          refine jgM_mod_text X i_X7_takeNumber_X7 (by decide +kernel) dX7_takeNumber_101 ?_
          refine j_aload_n X rfl 0 rfl dX7_takeNumber_104 ?_
          refine jgM_mod_at0 X i_X7_takeNumber_X7 (by decide +kernel) dX7_takeNumber_105 ?_
          obtain ⟨k16, h⟩ := h
          refine jlM_mod_text X k16 dX7_takeNumber_108 ?_
          refine j_iadd X dX7_takeNumber_109 ?_
          refine j_bipush (v := (48 : Int32)) X (by decide) dX7_takeNumber_110 ?_
          refine j_isub X dX7_takeNumber_112 ?_
          exact w_X7_takeNumber_113 X (fun y0 y1 S h => ih y0 y1 S h) a1 a2 ((((10 : Int32) * (S12.1 13)) + (S12.2.1 9 ((S12.1 11)).toNatClampNeg)) - (48 : Int32)) S12 h
        · have h := h.2 c15
          refine j_aload_n X rfl 0 rfl dX7_takeNumber_86 ?_
          refine jgM_mod_number X i_X7_takeNumber_X7 (by decide +kernel) dX7_takeNumber_87 ?_
          refine j_goto (tgt := 113) X dX7_takeNumber_90 (by decide) ?_
          exact w_X7_takeNumber_113 X (fun y0 y1 S h => ih y0 y1 S h) a1 a2 (S12.1 13) S12 h
set_option maxRecDepth 100000 in
set_option maxHeartbeats 4000000 in
theorem c_X7_takeNumber (l : Launch) (D : va_G) (i : Nat → ClassId) (q : Nat → Nat) (A : Nat → Prop) (x1 : Int32) (x2 : Int32) (S : vS) (Q : Int32 → vS → Prop) (h : e_X7_takeNumber x1 x2 S Q) : Met l yX7_takeNumber wsX7_takeNumber rm_X7_takeNumber (va_Pc [.ref (q 0), .int x1, .int x2] (vB D i A (wM q i) S)) (va_Qi Q (vB D i A (wM q i)) A) 0 0 A := by
  refine m_ofJ (own := RX7) (lv := [(0, .ref (q 0)), (1, .int x1), (2, .int x2)]) rfl (by decide) rfl (Nat.le_of_ble_eq_true rfl) rfl ?_
  intro p e s m below meth c X
  unfold e_X7_takeNumber at h
  refine j_aload_n X rfl 0 rfl dX7_takeNumber_0 ?_
  refine j_Vi (st := []) X [] 0 (c_X7_here l D i q A S _ h) (cwV 0 X.ts gX7_takeNumber_X7_here rfl rfl rfl (by decide +kernel) ⟨Nat.le_of_ble_eq_true rfl, Nat.le_of_ble_eq_true rfl⟩) rfl rfl rfl rfl (Nat.le_of_ble_eq_true rfl) dX7_takeNumber_1 (fun r2 S1 h => ?_)
  refine j_istore_n (lv' := [(3, .int r2), (0, .ref (q 0)), (1, .int x1), (2, .int x2)]) X rfl (by decide) rfl dX7_takeNumber_4 ?_
  refine j_iload_n X rfl 0 rfl dX7_takeNumber_5 ?_
  refine j_i2l X dX7_takeNumber_6 ?_
  refine j_ldc2 (v := (48 : Int64)) X (by decide +kernel) dX7_takeNumber_7 ?_
  refine j_ldc2 (v := (57 : Int64)) X (by decide +kernel) dX7_takeNumber_10 ?_
  refine j_Si (st := []) X [.long (r2).toInt64, .long (48 : Int64), .long (57 : Int64)] (c_X7_in l D i q A (r2).toInt64 (48 : Int64) (57 : Int64) S1 _ h) (va_cwS 3 X.ts gX7_takeNumber_X7_in rfl rfl rfl (by decide +kernel) ⟨Nat.le_of_ble_eq_true rfl, Nat.le_of_ble_eq_true rfl⟩) rfl rfl (Nat.le_of_ble_eq_true rfl) dX7_takeNumber_13 (fun r4 S3 h => ?_)
  refine j_if_ne (tgt := 29) X dX7_takeNumber_16 (by decide) (fun c5 => ?_) (fun c5 => ?_)
  · have h := h.1 c5
    refine j_aload_n X rfl 1 rfl dX7_takeNumber_29 ?_
    refine j_aload_n X rfl 1 rfl dX7_takeNumber_30 ?_
    refine jgM_mod_at0 X i_X7_takeNumber_X7 (by decide +kernel) dX7_takeNumber_31 ?_
    refine jpM_mod_numberAt X i_X7_takeNumber_X7 (by decide +kernel) dX7_takeNumber_34 (fun S6 eS6 => ?_)
    have h := h S6 eS6
    refine j_aload_n X rfl 1 rfl dX7_takeNumber_37 ?_
    refine j_iconst (v := (0 : Int32)) X (by decide) dX7_takeNumber_38 ?_
    refine jpM_mod_number X i_X7_takeNumber_X7 (by decide +kernel) dX7_takeNumber_39 (fun S7 eS7 => ?_)
    have h := h S7 eS7
    refine j_loc [1, 2, 3] rfl ?_
    obtain ⟨j, h⟩ := h
    exact w_X7_takeNumber_42 X j x1 x2 S7 h
  · have h := h.2 c5
    refine j_aload_n X rfl 1 rfl dX7_takeNumber_19 ?_
    refine j_iconst (v := (1 : Int32)) X (by decide) dX7_takeNumber_20 ?_
    refine j_aload_n X rfl 1 rfl dX7_takeNumber_21 ?_
    refine jgM_mod_at0 X i_X7_takeNumber_X7 (by decide +kernel) dX7_takeNumber_22 ?_
    refine j_Vi (st := []) X [.int (1 : Int32), .int (S3.1 11)] 0 (c_X7_fails l D i q A (1 : Int32) (S3.1 11) S3 _ h) (cwV 2 X.ts gX7_takeNumber_X7_fails rfl rfl rfl (by decide +kernel) ⟨Nat.le_of_ble_eq_true rfl, Nat.le_of_ble_eq_true rfl⟩) rfl rfl rfl rfl (Nat.le_of_ble_eq_true rfl) dX7_takeNumber_25 (fun r9 S8 h => ?_)
    exact j_iret X h dX7_takeNumber_28
set_option maxRecDepth 100000 in
theorem i_X7_takeStorey_X7 : ∀ w ∈ u_ws RX7 TX7 48, w ∈ wsX7_takeStorey := by decide +kernel
abbrev rm_X7_takeStorey : Room := { frames := 2, cells := 0, slots := 0, locals := 48 }
set_option maxRecDepth 100000 in
set_option maxHeartbeats 4000000 in
theorem c_X7_takeStorey (l : Launch) (D : va_G) (i : Nat → ClassId) (q : Nat → Nat) (A : Nat → Prop) (S : vS) (Q : Int32 → vS → Prop) (h : e_X7_takeStorey S Q) : Met l yX7_takeStorey wsX7_takeStorey rm_X7_takeStorey (va_Pc [.ref (q 0)] (vB D i A (wM q i) S)) (va_Qi Q (vB D i A (wM q i)) A) 0 0 A := by
  refine m_ofJ (own := RX7) (lv := [(0, .ref (q 0))]) rfl (by decide) rfl (Nat.le_of_ble_eq_true rfl) rfl ?_
  intro p e s m below meth c X
  unfold e_X7_takeStorey at h
  refine j_aload_n X rfl 0 rfl dX7_takeStorey_0 ?_
  refine j_iconst (v := (1 : Int32)) X (by decide) dX7_takeStorey_1 ?_
  refine j_bipush (v := (20 : Int32)) X (by decide) dX7_takeStorey_2 ?_
  refine j_Vi (st := []) X [.int (1 : Int32), .int (20 : Int32)] 0 (c_X7_takeNumber l D i q A (1 : Int32) (20 : Int32) S _ h) (cwV 2 X.ts gX7_takeStorey_X7_takeNumber rfl rfl rfl (by decide +kernel) ⟨Nat.le_of_ble_eq_true rfl, Nat.le_of_ble_eq_true rfl⟩) rfl rfl rfl rfl (Nat.le_of_ble_eq_true rfl) dX7_takeStorey_4 (fun r2 S1 h => ?_)
  refine j_istore_n (lv' := [(1, .int r2), (0, .ref (q 0))]) X rfl (by decide) rfl dX7_takeStorey_7 ?_
  refine j_aload_n X rfl 1 rfl dX7_takeStorey_8 ?_
  refine j_aload_n X rfl 1 rfl dX7_takeStorey_9 ?_
  refine jgM_mod_number X i_X7_takeStorey_X7 (by decide +kernel) dX7_takeStorey_10 ?_
  refine jpM_mod_readHigh X i_X7_takeStorey_X7 (by decide +kernel) dX7_takeStorey_13 (fun S3 eS3 => ?_)
  have h := h S3 eS3
  refine j_iload_n X rfl 0 rfl dX7_takeStorey_16 ?_
  refine j_if_le (tgt := 24) X dX7_takeStorey_17 (by decide) (fun c4 => ?_) (fun c4 => ?_)
  · have h := h.1 c4
    refine j_aload_n X rfl 1 rfl dX7_takeStorey_24 ?_
    refine j_iconst (v := (0 : Int32)) X (by decide) dX7_takeStorey_25 ?_
    refine j_sipush (v := (999 : Int32)) X (by decide) dX7_takeStorey_26 ?_
    refine j_Vi (st := []) X [.int (0 : Int32), .int (999 : Int32)] 0 (c_X7_takeNumber l D i q A (0 : Int32) (999 : Int32) S3 _ h) (cwV 2 X.ts gX7_takeStorey_X7_takeNumber rfl rfl rfl (by decide +kernel) ⟨Nat.le_of_ble_eq_true rfl, Nat.le_of_ble_eq_true rfl⟩) rfl rfl rfl rfl (Nat.le_of_ble_eq_true rfl) dX7_takeStorey_29 (fun r6 S5 h => ?_)
    refine j_istore_n (lv' := [(1, .int r6), (0, .ref (q 0))]) X rfl (by decide) rfl dX7_takeStorey_32 ?_
    refine j_aload_n X rfl 1 rfl dX7_takeStorey_33 ?_
    refine j_aload_n X rfl 1 rfl dX7_takeStorey_34 ?_
    refine jgM_mod_number X i_X7_takeStorey_X7 (by decide +kernel) dX7_takeStorey_35 ?_
    refine jpM_mod_readCost X i_X7_takeStorey_X7 (by decide +kernel) dX7_takeStorey_38 (fun S7 eS7 => ?_)
    have h := h S7 eS7
    refine j_iload_n X rfl 0 rfl dX7_takeStorey_41 ?_
    exact j_iret X h dX7_takeStorey_42
  · have h := h.2 c4
    refine j_iload_n X rfl 0 rfl dX7_takeStorey_20 ?_
    refine j_goto (tgt := 32) X dX7_takeStorey_21 (by decide) ?_
    refine j_istore_n (lv' := [(1, .int r2), (0, .ref (q 0))]) X rfl (by decide) rfl dX7_takeStorey_32 ?_
    refine j_aload_n X rfl 1 rfl dX7_takeStorey_33 ?_
    refine j_aload_n X rfl 1 rfl dX7_takeStorey_34 ?_
    refine jgM_mod_number X i_X7_takeStorey_X7 (by decide +kernel) dX7_takeStorey_35 ?_
    refine jpM_mod_readCost X i_X7_takeStorey_X7 (by decide +kernel) dX7_takeStorey_38 (fun S8 eS8 => ?_)
    have h := h S8 eS8
    refine j_iload_n X rfl 0 rfl dX7_takeStorey_41 ?_
    exact j_iret X h dX7_takeStorey_42
set_option maxRecDepth 100000 in
theorem i_X7_into_mod_readMist_X7 : ∀ w ∈ u_ws RX7 TX7 48, w ∈ wsX7_into := by decide +kernel
abbrev rm_X7_into_mod_readMist : Room := { frames := 2, cells := 0, slots := 0, locals := 48 }
set_option maxRecDepth 100000 in
set_option maxHeartbeats 4000000 in
theorem c_X7_into_mod_readMist (l : Launch) (D : va_G) (i : Nat → ClassId) (q : Nat → Nat) (A : Nat → Prop) (x2 : Int32) (x3 : Int32) (x4 : Int32) (S : vS) (Q : Int32 → vS → Prop) (h : e_X7_into_mod_readMist x2 x3 x4 S Q) : Met l yX7_into wsX7_into rm_X7_into_mod_readMist (va_Pc [.ref (q 0), .ref (q 16), .int x2, .int x3, .int x4] (vB D i A (wM q i) S)) (va_Qi Q (vB D i A (wM q i)) A) 0 0 A := by
  refine m_ofJ (own := RX7) (lv := [(0, .ref (q 0)), (1, .ref (q 16)), (2, .int x2), (3, .int x3), (4, .int x4)]) rfl (by decide) rfl (Nat.le_of_ble_eq_true rfl) rfl ?_
  intro p e s m below meth c X
  unfold e_X7_into_mod_readMist at h
  refine j_aload_n X rfl 0 rfl dX7_into_0 ?_
  refine j_iload_n X rfl 3 rfl dX7_into_1 ?_
  refine j_iload X 4 rfl dX7_into_2 ?_
  refine j_Vi (st := []) X [.int x3, .int x4] 0 (c_X7_takeNumber l D i q A x3 x4 S _ h) (cwV 2 X.ts gX7_into_X7_takeNumber rfl rfl rfl (by decide +kernel) ⟨Nat.le_of_ble_eq_true rfl, Nat.le_of_ble_eq_true rfl⟩) rfl rfl rfl rfl (Nat.le_of_ble_eq_true rfl) dX7_into_4 (fun r2 S1 h => ?_)
  refine j_istore (lv' := [(5, .int r2), (0, .ref (q 0)), (1, .ref (q 16)), (2, .int x2), (3, .int x3), (4, .int x4)]) X (by decide) rfl dX7_into_7 ?_
  refine j_aload_n X rfl 2 rfl dX7_into_9 ?_
  refine j_iload_n X rfl 3 rfl dX7_into_10 ?_
  refine j_aload_n X rfl 1 rfl dX7_into_11 ?_
  refine jgM_mod_number X i_X7_into_mod_readMist_X7 (by decide +kernel) dX7_into_12 ?_
  obtain ⟨k3, h⟩ := h
  refine jsM_mod_readMist X k3 dX7_into_15 (fun S4 eS4 => ?_)
  have h := h S4 eS4
  refine j_iload X 0 rfl dX7_into_16 ?_
  exact j_iret X h dX7_into_18
set_option maxRecDepth 100000 in
theorem i_X7_takeMist_X7 : ∀ w ∈ u_ws RX7 TX7 48, w ∈ wsX7_takeMist := by decide +kernel
abbrev rm_X7_takeMist : Room := { frames := 3, cells := 0, slots := 0, locals := 73 }
set_option maxRecDepth 100000 in
set_option maxHeartbeats 4000000 in
theorem w_X7_takeMist_89 {D : va_G} {i : Nat → ClassId} {q : Nat → Nat} {A : Nat → Prop} {p : Program} {l : Launch} {e : Env} {s : State} {m : MethodId} {args : Array Value} {below : List Frame} {meth : Method} {c : Code} (X : cX D i A p s m args meth c cX7_takeMist RX7 3 wsX7_takeMist (some .int)) {Q : Int32 → vS → Prop} : ∀ (a1 : Int32) (t0 : Int32) (S : vS), e_X7_takeMist_89 Q a1 t0 S → cJ D A p l e (headSpec wsX7_takeMist rm_X7_takeMist).room s m args below meth c (MQ below (va_Qi Q (vB D i A (wM q i)) A) args s 0 0 A) 3 (wM q i S) [(0, .ref (q 0)), (1, .int a1)] 89 [.int t0] := by
  intro a1 t0 S h
  unfold e_X7_takeMist_89 at h
  refine j_istore_n (lv' := [(2, .int t0), (0, .ref (q 0)), (1, .int a1)]) X rfl (by decide) rfl dX7_takeMist_89 ?_
  refine j_iload_n X rfl 0 rfl dX7_takeMist_90 ?_
  refine j_if_le (tgt := 98) X dX7_takeMist_91 (by decide) (fun c14 => ?_) (fun c14 => ?_)
  · have h := h.1 c14
    refine j_aload_n X rfl 1 rfl dX7_takeMist_98 ?_
    refine j_aload_n X rfl 1 rfl dX7_takeMist_99 ?_
    refine jgM_mod_readMist X i_X7_takeMist_X7 (by decide +kernel) dX7_takeMist_100 ?_
    refine j_iload_n X rfl 2 rfl dX7_takeMist_103 ?_
    refine j_iconst (v := (2 : Int32)) X (by decide) dX7_takeMist_104 ?_
    refine j_iadd X dX7_takeMist_105 ?_
    refine j_iconst (v := (0 : Int32)) X (by decide) dX7_takeMist_106 ?_
    refine j_bipush (v := (20 : Int32)) X (by decide) dX7_takeMist_107 ?_
    refine j_Vi (st := []) X [.ref (q 16), .int (a1 + (2 : Int32)), .int (0 : Int32), .int (20 : Int32)] 0 (c_X7_into_mod_readMist l D i q A (a1 + (2 : Int32)) (0 : Int32) (20 : Int32) S _ h) (cwV 4 X.ts gX7_takeMist_X7_into rfl rfl rfl (by decide +kernel) ⟨Nat.le_of_ble_eq_true rfl, Nat.le_of_ble_eq_true rfl⟩) rfl rfl rfl rfl (Nat.le_of_ble_eq_true rfl) dX7_takeMist_109 (fun r16 S15 h => ?_)
    exact j_iret X h dX7_takeMist_112
  · have h := h.2 c14
    refine j_iload_n X rfl 0 rfl dX7_takeMist_94 ?_
    refine j_goto (tgt := 112) X dX7_takeMist_95 (by decide) ?_
    exact j_iret X h dX7_takeMist_112
set_option maxRecDepth 100000 in
set_option maxHeartbeats 4000000 in
theorem w_X7_takeMist_54 {D : va_G} {i : Nat → ClassId} {q : Nat → Nat} {A : Nat → Prop} {p : Program} {l : Launch} {e : Env} {s : State} {m : MethodId} {args : Array Value} {below : List Frame} {meth : Method} {c : Code} (X : cX D i A p s m args meth c cX7_takeMist RX7 3 wsX7_takeMist (some .int)) {Q : Int32 → vS → Prop} : ∀ (a1 : Int32) (t0 : Int32) (S : vS), e_X7_takeMist_54 Q a1 t0 S → cJ D A p l e (headSpec wsX7_takeMist rm_X7_takeMist).room s m args below meth c (MQ below (va_Qi Q (vB D i A (wM q i)) A) args s 0 0 A) 3 (wM q i S) [(0, .ref (q 0)), (1, .int a1)] 54 [.int t0] := by
  intro a1 t0 S h
  unfold e_X7_takeMist_54 at h
  refine j_istore_n (lv' := [(2, .int t0), (0, .ref (q 0)), (1, .int a1)]) X rfl (by decide) rfl dX7_takeMist_54 ?_
  refine j_iload_n X rfl 0 rfl dX7_takeMist_55 ?_
  refine j_if_ne (tgt := 88) X dX7_takeMist_56 (by decide) (fun c8 => ?_) (fun c8 => ?_)
  · have h := h.1 c8
    refine j_iload_n X rfl 0 rfl dX7_takeMist_88 ?_
    refine j_loc [1, 2] rfl ?_
    exact w_X7_takeMist_89 X a1 t0 S h
  · have h := h.2 c8
    refine j_aload_n X rfl 1 rfl dX7_takeMist_59 ?_
    refine jgM_mod_readMist X i_X7_takeMist_X7 (by decide +kernel) dX7_takeMist_60 ?_
    refine j_iload_n X rfl 2 rfl dX7_takeMist_63 ?_
    refine j_iconst (v := (1 : Int32)) X (by decide) dX7_takeMist_64 ?_
    refine j_iadd X dX7_takeMist_65 ?_
    obtain ⟨k9, h⟩ := h
    refine jlM_mod_readMist X k9 dX7_takeMist_66 ?_
    refine j_aload_n X rfl 1 rfl dX7_takeMist_67 ?_
    refine jgM_mod_readMist X i_X7_takeMist_X7 (by decide +kernel) dX7_takeMist_68 ?_
    refine j_iload_n X rfl 2 rfl dX7_takeMist_71 ?_
    obtain ⟨k10, h⟩ := h
    refine jlM_mod_readMist X k10 dX7_takeMist_72 ?_
    refine j_icmp_ge (tgt := 88) X dX7_takeMist_73 (by decide) (fun c11 => ?_) (fun c11 => ?_)
    · have h := h.1 c11
      refine j_iload_n X rfl 0 rfl dX7_takeMist_88 ?_
      refine j_loc [1, 2] rfl ?_
      exact w_X7_takeMist_89 X a1 t0 S h
    · have h := h.2 c11
      refine j_aload_n X rfl 1 rfl dX7_takeMist_76 ?_
      refine j_iconst (v := (4 : Int32)) X (by decide) dX7_takeMist_77 ?_
      refine j_aload_n X rfl 1 rfl dX7_takeMist_78 ?_
      refine jgM_mod_numberAt X i_X7_takeMist_X7 (by decide +kernel) dX7_takeMist_79 ?_
      refine j_Vi (st := []) X [.int (4 : Int32), .int (S.1 14)] 0 (c_X7_fails l D i q A (4 : Int32) (S.1 14) S _ h) (cwV 2 X.ts gX7_takeMist_X7_fails rfl rfl rfl (by decide +kernel) ⟨Nat.le_of_ble_eq_true rfl, Nat.le_of_ble_eq_true rfl⟩) rfl rfl rfl rfl (Nat.le_of_ble_eq_true rfl) dX7_takeMist_82 (fun r13 S12 h => ?_)
      refine j_goto (tgt := 89) X dX7_takeMist_85 (by decide) ?_
      refine j_loc [1, 2] rfl ?_
      exact w_X7_takeMist_89 X a1 r13 S12 h
set_option maxRecDepth 100000 in
set_option maxHeartbeats 4000000 in
theorem c_X7_takeMist (l : Launch) (D : va_G) (i : Nat → ClassId) (q : Nat → Nat) (A : Nat → Prop) (S : vS) (Q : Int32 → vS → Prop) (h : e_X7_takeMist S Q) : Met l yX7_takeMist wsX7_takeMist rm_X7_takeMist (va_Pc [.ref (q 0)] (vB D i A (wM q i) S)) (va_Qi Q (vB D i A (wM q i)) A) 0 0 A := by
  refine m_ofJ (own := RX7) (lv := [(0, .ref (q 0))]) rfl (by decide) rfl (Nat.le_of_ble_eq_true rfl) rfl ?_
  intro p e s m below meth c X
  unfold e_X7_takeMist at h
  refine j_iconst (v := (3 : Int32)) X (by decide) dX7_takeMist_0 ?_
  refine j_aload_n X rfl 0 rfl dX7_takeMist_1 ?_
  refine jgM_mod_readMists X i_X7_takeMist_X7 (by decide +kernel) dX7_takeMist_2 ?_
  refine j_imul X dX7_takeMist_5 ?_
  refine j_topi (fun v1 ev1 => ?_)
  have h := h v1 ev1
  refine j_istore_n (lv' := [(1, .int v1), (0, .ref (q 0))]) X rfl (by decide) rfl dX7_takeMist_6 ?_
  refine j_aload_n X rfl 1 rfl dX7_takeMist_7 ?_
  refine j_dup X rfl dX7_takeMist_8 ?_
  refine jgM_mod_readMists X i_X7_takeMist_X7 (by decide +kernel) dX7_takeMist_9 ?_
  refine j_iconst (v := (1 : Int32)) X (by decide) dX7_takeMist_12 ?_
  refine j_iadd X dX7_takeMist_13 ?_
  refine jpM_mod_readMists X i_X7_takeMist_X7 (by decide +kernel) dX7_takeMist_14 (fun S2 eS2 => ?_)
  have h := h S2 eS2
  refine j_aload_n X rfl 1 rfl dX7_takeMist_17 ?_
  refine j_aload_n X rfl 1 rfl dX7_takeMist_18 ?_
  refine jgM_mod_readMist X i_X7_takeMist_X7 (by decide +kernel) dX7_takeMist_19 ?_
  refine j_iload_n X rfl 0 rfl dX7_takeMist_22 ?_
  refine j_iconst (v := (0 : Int32)) X (by decide) dX7_takeMist_23 ?_
  refine j_sipush (v := (999 : Int32)) X (by decide) dX7_takeMist_24 ?_
  refine j_Vi (st := []) X [.ref (q 16), .int v1, .int (0 : Int32), .int (999 : Int32)] 0 (c_X7_into_mod_readMist l D i q A v1 (0 : Int32) (999 : Int32) S2 _ h) (cwV 4 X.ts gX7_takeMist_X7_into rfl rfl rfl (by decide +kernel) ⟨Nat.le_of_ble_eq_true rfl, Nat.le_of_ble_eq_true rfl⟩) rfl rfl rfl rfl (Nat.le_of_ble_eq_true rfl) dX7_takeMist_27 (fun r4 S3 h => ?_)
  refine j_istore_n (lv' := [(2, .int r4), (1, .int v1), (0, .ref (q 0))]) X rfl (by decide) rfl dX7_takeMist_30 ?_
  refine j_iload_n X rfl 0 rfl dX7_takeMist_31 ?_
  refine j_if_le (tgt := 39) X dX7_takeMist_32 (by decide) (fun c5 => ?_) (fun c5 => ?_)
  · have h := h.1 c5
    refine j_aload_n X rfl 2 rfl dX7_takeMist_39 ?_
    refine j_aload_n X rfl 2 rfl dX7_takeMist_40 ?_
    refine jgM_mod_readMist X i_X7_takeMist_X7 (by decide +kernel) dX7_takeMist_41 ?_
    refine j_iload_n X rfl 1 rfl dX7_takeMist_44 ?_
    refine j_iconst (v := (1 : Int32)) X (by decide) dX7_takeMist_45 ?_
    refine j_iadd X dX7_takeMist_46 ?_
    refine j_iconst (v := (0 : Int32)) X (by decide) dX7_takeMist_47 ?_
    refine j_sipush (v := (999 : Int32)) X (by decide) dX7_takeMist_48 ?_
    refine j_Vi (st := []) X [.ref (q 16), .int (v1 + (1 : Int32)), .int (0 : Int32), .int (999 : Int32)] 0 (c_X7_into_mod_readMist l D i q A (v1 + (1 : Int32)) (0 : Int32) (999 : Int32) S3 _ h) (cwV 4 X.ts gX7_takeMist_X7_into rfl rfl rfl (by decide +kernel) ⟨Nat.le_of_ble_eq_true rfl, Nat.le_of_ble_eq_true rfl⟩) rfl rfl rfl rfl (Nat.le_of_ble_eq_true rfl) dX7_takeMist_51 (fun r7 S6 h => ?_)
    refine j_loc [2, 1] rfl ?_
    exact w_X7_takeMist_54 X v1 r7 S6 h
  · have h := h.2 c5
    refine j_iload_n X rfl 0 rfl dX7_takeMist_35 ?_
    refine j_goto (tgt := 54) X dX7_takeMist_36 (by decide) ?_
    refine j_loc [2, 1] rfl ?_
    exact w_X7_takeMist_54 X v1 r4 S3 h
set_option maxRecDepth 100000 in
theorem i_X7_into_mod_readFish_X7 : ∀ w ∈ u_ws RX7 TX7 48, w ∈ wsX7_into := by decide +kernel
abbrev rm_X7_into_mod_readFish : Room := { frames := 2, cells := 0, slots := 0, locals := 48 }
set_option maxRecDepth 100000 in
set_option maxHeartbeats 4000000 in
theorem c_X7_into_mod_readFish (l : Launch) (D : va_G) (i : Nat → ClassId) (q : Nat → Nat) (A : Nat → Prop) (x2 : Int32) (x3 : Int32) (x4 : Int32) (S : vS) (Q : Int32 → vS → Prop) (h : e_X7_into_mod_readFish x2 x3 x4 S Q) : Met l yX7_into wsX7_into rm_X7_into_mod_readFish (va_Pc [.ref (q 0), .ref (q 15), .int x2, .int x3, .int x4] (vB D i A (wM q i) S)) (va_Qi Q (vB D i A (wM q i)) A) 0 0 A := by
  refine m_ofJ (own := RX7) (lv := [(0, .ref (q 0)), (1, .ref (q 15)), (2, .int x2), (3, .int x3), (4, .int x4)]) rfl (by decide) rfl (Nat.le_of_ble_eq_true rfl) rfl ?_
  intro p e s m below meth c X
  unfold e_X7_into_mod_readFish at h
  refine j_aload_n X rfl 0 rfl dX7_into_0 ?_
  refine j_iload_n X rfl 3 rfl dX7_into_1 ?_
  refine j_iload X 4 rfl dX7_into_2 ?_
  refine j_Vi (st := []) X [.int x3, .int x4] 0 (c_X7_takeNumber l D i q A x3 x4 S _ h) (cwV 2 X.ts gX7_into_X7_takeNumber rfl rfl rfl (by decide +kernel) ⟨Nat.le_of_ble_eq_true rfl, Nat.le_of_ble_eq_true rfl⟩) rfl rfl rfl rfl (Nat.le_of_ble_eq_true rfl) dX7_into_4 (fun r2 S1 h => ?_)
  refine j_istore (lv' := [(5, .int r2), (0, .ref (q 0)), (1, .ref (q 15)), (2, .int x2), (3, .int x3), (4, .int x4)]) X (by decide) rfl dX7_into_7 ?_
  refine j_aload_n X rfl 2 rfl dX7_into_9 ?_
  refine j_iload_n X rfl 3 rfl dX7_into_10 ?_
  refine j_aload_n X rfl 1 rfl dX7_into_11 ?_
  refine jgM_mod_number X i_X7_into_mod_readFish_X7 (by decide +kernel) dX7_into_12 ?_
  obtain ⟨k3, h⟩ := h
  refine jsM_mod_readFish X k3 dX7_into_15 (fun S4 eS4 => ?_)
  have h := h S4 eS4
  refine j_iload X 0 rfl dX7_into_16 ?_
  exact j_iret X h dX7_into_18
set_option maxRecDepth 100000 in
theorem i_X7_takeCell_mod_readFish_X7 : ∀ w ∈ u_ws RX7 TX7 48, w ∈ wsX7_takeCell := by decide +kernel
abbrev rm_X7_takeCell_mod_readFish : Room := { frames := 3, cells := 0, slots := 0, locals := 73 }
set_option maxRecDepth 100000 in
set_option maxHeartbeats 4000000 in
theorem w_X7_takeCell_mod_readFish_37 {D : va_G} {i : Nat → ClassId} {q : Nat → Nat} {A : Nat → Prop} {p : Program} {l : Launch} {e : Env} {s : State} {m : MethodId} {args : Array Value} {below : List Frame} {meth : Method} {c : Code} (X : cX D i A p s m args meth c cX7_takeCell RX7 6 wsX7_takeCell (some .int)) {Q : Int32 → vS → Prop} : ∀ (a2 : Int32) (a4 : Int32) (t0 : Int32) (S : vS), e_X7_takeCell_mod_readFish_37 Q a2 a4 t0 S → cJ D A p l e (headSpec wsX7_takeCell rm_X7_takeCell_mod_readFish).room s m args below meth c (MQ below (va_Qi Q (vB D i A (wM q i)) A) args s 0 0 A) 6 (wM q i S) [(0, .ref (q 0)), (1, .ref (q 15)), (2, .int a2), (4, .int a4)] 37 [.int t0] := by
  intro a2 a4 t0 S h
  unfold e_X7_takeCell_mod_readFish_37 at h
  refine j_istore_n (lv' := [(3, .int t0), (0, .ref (q 0)), (1, .ref (q 15)), (2, .int a2), (4, .int a4)]) X rfl (by decide) rfl dX7_takeCell_37 ?_
  refine j_iload_n X rfl 0 rfl dX7_takeCell_38 ?_
  refine j_if_le (tgt := 44) X dX7_takeCell_39 (by decide) (fun c7 => ?_) (fun c7 => ?_)
  · have h := h.1 c7
    refine j_aload_n X rfl 1 rfl dX7_takeCell_44 ?_
    refine jgM_mod_readWide X i_X7_takeCell_mod_readFish_X7 (by decide +kernel) dX7_takeCell_45 ?_
    refine j_aload_n X rfl 1 rfl dX7_takeCell_48 ?_
    refine jgM_mod_number X i_X7_takeCell_mod_readFish_X7 (by decide +kernel) dX7_takeCell_49 ?_
    refine j_imul X dX7_takeCell_52 ?_
    refine j_iload X 4 rfl dX7_takeCell_53 ?_
    refine j_iadd X dX7_takeCell_55 ?_
    refine j_topi (fun v8 ev8 => ?_)
    have h := h v8 ev8
    refine j_istore (lv' := [(5, .int v8), (3, .int t0), (0, .ref (q 0)), (1, .ref (q 15)), (2, .int a2), (4, .int a4)]) X (by decide) rfl dX7_takeCell_56 ?_
    refine j_aload_n X rfl 3 rfl dX7_takeCell_58 ?_
    refine j_iload X 0 rfl dX7_takeCell_59 ?_
    obtain ⟨k9, h⟩ := h
    refine jlM_mod_readFish X k9 dX7_takeCell_61 ?_
    refine j_if_lt (tgt := 75) X dX7_takeCell_62 (by decide) (fun c10 => ?_) (fun c10 => ?_)
    · have h := h.1 c10
      refine j_aload_n X rfl 2 rfl dX7_takeCell_75 ?_
      refine j_aload_n X rfl 3 rfl dX7_takeCell_76 ?_
      refine j_iload X 0 rfl dX7_takeCell_77 ?_
      refine j_iload_n X rfl 4 rfl dX7_takeCell_79 ?_
      refine j_bipush (v := (99 : Int32)) X (by decide) dX7_takeCell_80 ?_
      refine j_Vi (st := []) X [.ref (q 15), .int v8, .int a2, .int (99 : Int32)] 0 (c_X7_into_mod_readFish l D i q A v8 a2 (99 : Int32) S _ h) (cwV 4 X.ts gX7_takeCell_X7_into rfl rfl rfl (by decide +kernel) ⟨Nat.le_of_ble_eq_true rfl, Nat.le_of_ble_eq_true rfl⟩) rfl rfl rfl rfl (Nat.le_of_ble_eq_true rfl) dX7_takeCell_82 (fun r12 S11 h => ?_)
      exact j_iret X h dX7_takeCell_85
    · have h := h.2 c10
      refine j_aload_n X rfl 2 rfl dX7_takeCell_65 ?_
      refine j_iconst (v := (4 : Int32)) X (by decide) dX7_takeCell_66 ?_
      refine j_aload_n X rfl 2 rfl dX7_takeCell_67 ?_
      refine jgM_mod_numberAt X i_X7_takeCell_mod_readFish_X7 (by decide +kernel) dX7_takeCell_68 ?_
      refine j_Vi (st := []) X [.int (4 : Int32), .int (S.1 14)] 0 (c_X7_fails l D i q A (4 : Int32) (S.1 14) S _ h) (cwV 2 X.ts gX7_takeCell_X7_fails rfl rfl rfl (by decide +kernel) ⟨Nat.le_of_ble_eq_true rfl, Nat.le_of_ble_eq_true rfl⟩) rfl rfl rfl rfl (Nat.le_of_ble_eq_true rfl) dX7_takeCell_71 (fun r14 S13 h => ?_)
      exact j_iret X h dX7_takeCell_74
  · have h := h.2 c7
    refine j_iload_n X rfl 0 rfl dX7_takeCell_42 ?_
    exact j_iret X h dX7_takeCell_43
set_option maxRecDepth 100000 in
set_option maxHeartbeats 4000000 in
theorem c_X7_takeCell_mod_readFish (l : Launch) (D : va_G) (i : Nat → ClassId) (q : Nat → Nat) (A : Nat → Prop) (x2 : Int32) (S : vS) (Q : Int32 → vS → Prop) (h : e_X7_takeCell_mod_readFish x2 S Q) : Met l yX7_takeCell wsX7_takeCell rm_X7_takeCell_mod_readFish (va_Pc [.ref (q 0), .ref (q 15), .int x2] (vB D i A (wM q i) S)) (va_Qi Q (vB D i A (wM q i)) A) 0 0 A := by
  refine m_ofJ (own := RX7) (lv := [(0, .ref (q 0)), (1, .ref (q 15)), (2, .int x2)]) rfl (by decide) rfl (Nat.le_of_ble_eq_true rfl) rfl ?_
  intro p e s m below meth c X
  unfold e_X7_takeCell_mod_readFish at h
  refine j_aload_n X rfl 0 rfl dX7_takeCell_0 ?_
  refine j_iconst (v := (0 : Int32)) X (by decide) dX7_takeCell_1 ?_
  refine j_aload_n X rfl 0 rfl dX7_takeCell_2 ?_
  refine jgM_mod_readWide X i_X7_takeCell_mod_readFish_X7 (by decide +kernel) dX7_takeCell_3 ?_
  refine j_iconst (v := (1 : Int32)) X (by decide) dX7_takeCell_6 ?_
  refine j_isub X dX7_takeCell_7 ?_
  refine j_Vi (st := []) X [.int (0 : Int32), .int ((S.1 15) - (1 : Int32))] 0 (c_X7_takeNumber l D i q A (0 : Int32) ((S.1 15) - (1 : Int32)) S _ h) (cwV 2 X.ts gX7_takeCell_X7_takeNumber rfl rfl rfl (by decide +kernel) ⟨Nat.le_of_ble_eq_true rfl, Nat.le_of_ble_eq_true rfl⟩) rfl rfl rfl rfl (Nat.le_of_ble_eq_true rfl) dX7_takeCell_8 (fun r2 S1 h => ?_)
  refine j_istore_n (lv' := [(3, .int r2), (0, .ref (q 0)), (1, .ref (q 15)), (2, .int x2)]) X rfl (by decide) rfl dX7_takeCell_11 ?_
  refine j_aload_n X rfl 1 rfl dX7_takeCell_12 ?_
  refine jgM_mod_number X i_X7_takeCell_mod_readFish_X7 (by decide +kernel) dX7_takeCell_13 ?_
  refine j_topi (fun v3 ev3 => ?_)
  have h := h v3 ev3
  refine j_istore (lv' := [(4, .int v3), (3, .int r2), (0, .ref (q 0)), (1, .ref (q 15)), (2, .int x2)]) X (by decide) rfl dX7_takeCell_16 ?_
  refine j_iload_n X rfl 1 rfl dX7_takeCell_18 ?_
  refine j_if_le (tgt := 26) X dX7_takeCell_19 (by decide) (fun c4 => ?_) (fun c4 => ?_)
  · have h := h.1 c4
    refine j_aload_n X rfl 2 rfl dX7_takeCell_26 ?_
    refine j_iconst (v := (0 : Int32)) X (by decide) dX7_takeCell_27 ?_
    refine j_aload_n X rfl 2 rfl dX7_takeCell_28 ?_
    refine jgM_mod_readDeep X i_X7_takeCell_mod_readFish_X7 (by decide +kernel) dX7_takeCell_29 ?_
    refine j_iconst (v := (1 : Int32)) X (by decide) dX7_takeCell_32 ?_
    refine j_isub X dX7_takeCell_33 ?_
    refine j_Vi (st := []) X [.int (0 : Int32), .int ((S1.1 16) - (1 : Int32))] 0 (c_X7_takeNumber l D i q A (0 : Int32) ((S1.1 16) - (1 : Int32)) S1 _ h) (cwV 2 X.ts gX7_takeCell_X7_takeNumber rfl rfl rfl (by decide +kernel) ⟨Nat.le_of_ble_eq_true rfl, Nat.le_of_ble_eq_true rfl⟩) rfl rfl rfl rfl (Nat.le_of_ble_eq_true rfl) dX7_takeCell_34 (fun r6 S5 h => ?_)
    refine j_loc [2, 3, 4, 0] rfl ?_
    exact w_X7_takeCell_mod_readFish_37 X x2 v3 r6 S5 h
  · have h := h.2 c4
    refine j_iload_n X rfl 1 rfl dX7_takeCell_22 ?_
    refine j_goto (tgt := 37) X dX7_takeCell_23 (by decide) ?_
    refine j_loc [2, 3, 4, 0] rfl ?_
    exact w_X7_takeCell_mod_readFish_37 X x2 v3 r2 S1 h
set_option maxRecDepth 100000 in
theorem i_X7_into_mod_readStand_X7 : ∀ w ∈ u_ws RX7 TX7 48, w ∈ wsX7_into := by decide +kernel
abbrev rm_X7_into_mod_readStand : Room := { frames := 2, cells := 0, slots := 0, locals := 48 }
set_option maxRecDepth 100000 in
set_option maxHeartbeats 4000000 in
theorem c_X7_into_mod_readStand (l : Launch) (D : va_G) (i : Nat → ClassId) (q : Nat → Nat) (A : Nat → Prop) (x2 : Int32) (x3 : Int32) (x4 : Int32) (S : vS) (Q : Int32 → vS → Prop) (h : e_X7_into_mod_readStand x2 x3 x4 S Q) : Met l yX7_into wsX7_into rm_X7_into_mod_readStand (va_Pc [.ref (q 0), .ref (q 14), .int x2, .int x3, .int x4] (vB D i A (wM q i) S)) (va_Qi Q (vB D i A (wM q i)) A) 0 0 A := by
  refine m_ofJ (own := RX7) (lv := [(0, .ref (q 0)), (1, .ref (q 14)), (2, .int x2), (3, .int x3), (4, .int x4)]) rfl (by decide) rfl (Nat.le_of_ble_eq_true rfl) rfl ?_
  intro p e s m below meth c X
  unfold e_X7_into_mod_readStand at h
  refine j_aload_n X rfl 0 rfl dX7_into_0 ?_
  refine j_iload_n X rfl 3 rfl dX7_into_1 ?_
  refine j_iload X 4 rfl dX7_into_2 ?_
  refine j_Vi (st := []) X [.int x3, .int x4] 0 (c_X7_takeNumber l D i q A x3 x4 S _ h) (cwV 2 X.ts gX7_into_X7_takeNumber rfl rfl rfl (by decide +kernel) ⟨Nat.le_of_ble_eq_true rfl, Nat.le_of_ble_eq_true rfl⟩) rfl rfl rfl rfl (Nat.le_of_ble_eq_true rfl) dX7_into_4 (fun r2 S1 h => ?_)
  refine j_istore (lv' := [(5, .int r2), (0, .ref (q 0)), (1, .ref (q 14)), (2, .int x2), (3, .int x3), (4, .int x4)]) X (by decide) rfl dX7_into_7 ?_
  refine j_aload_n X rfl 2 rfl dX7_into_9 ?_
  refine j_iload_n X rfl 3 rfl dX7_into_10 ?_
  refine j_aload_n X rfl 1 rfl dX7_into_11 ?_
  refine jgM_mod_number X i_X7_into_mod_readStand_X7 (by decide +kernel) dX7_into_12 ?_
  obtain ⟨k3, h⟩ := h
  refine jsM_mod_readStand X k3 dX7_into_15 (fun S4 eS4 => ?_)
  have h := h S4 eS4
  refine j_iload X 0 rfl dX7_into_16 ?_
  exact j_iret X h dX7_into_18
set_option maxRecDepth 100000 in
theorem i_X7_takeCell_mod_readStand_X7 : ∀ w ∈ u_ws RX7 TX7 48, w ∈ wsX7_takeCell := by decide +kernel
abbrev rm_X7_takeCell_mod_readStand : Room := { frames := 3, cells := 0, slots := 0, locals := 73 }
set_option maxRecDepth 100000 in
set_option maxHeartbeats 4000000 in
theorem w_X7_takeCell_mod_readStand_37 {D : va_G} {i : Nat → ClassId} {q : Nat → Nat} {A : Nat → Prop} {p : Program} {l : Launch} {e : Env} {s : State} {m : MethodId} {args : Array Value} {below : List Frame} {meth : Method} {c : Code} (X : cX D i A p s m args meth c cX7_takeCell RX7 6 wsX7_takeCell (some .int)) {Q : Int32 → vS → Prop} : ∀ (a2 : Int32) (a4 : Int32) (t0 : Int32) (S : vS), e_X7_takeCell_mod_readStand_37 Q a2 a4 t0 S → cJ D A p l e (headSpec wsX7_takeCell rm_X7_takeCell_mod_readStand).room s m args below meth c (MQ below (va_Qi Q (vB D i A (wM q i)) A) args s 0 0 A) 6 (wM q i S) [(0, .ref (q 0)), (1, .ref (q 14)), (2, .int a2), (4, .int a4)] 37 [.int t0] := by
  intro a2 a4 t0 S h
  unfold e_X7_takeCell_mod_readStand_37 at h
  refine j_istore_n (lv' := [(3, .int t0), (0, .ref (q 0)), (1, .ref (q 14)), (2, .int a2), (4, .int a4)]) X rfl (by decide) rfl dX7_takeCell_37 ?_
  refine j_iload_n X rfl 0 rfl dX7_takeCell_38 ?_
  refine j_if_le (tgt := 44) X dX7_takeCell_39 (by decide) (fun c7 => ?_) (fun c7 => ?_)
  · have h := h.1 c7
    refine j_aload_n X rfl 1 rfl dX7_takeCell_44 ?_
    refine jgM_mod_readWide X i_X7_takeCell_mod_readStand_X7 (by decide +kernel) dX7_takeCell_45 ?_
    refine j_aload_n X rfl 1 rfl dX7_takeCell_48 ?_
    refine jgM_mod_number X i_X7_takeCell_mod_readStand_X7 (by decide +kernel) dX7_takeCell_49 ?_
    refine j_imul X dX7_takeCell_52 ?_
    refine j_iload X 4 rfl dX7_takeCell_53 ?_
    refine j_iadd X dX7_takeCell_55 ?_
    refine j_topi (fun v8 ev8 => ?_)
    have h := h v8 ev8
    refine j_istore (lv' := [(5, .int v8), (3, .int t0), (0, .ref (q 0)), (1, .ref (q 14)), (2, .int a2), (4, .int a4)]) X (by decide) rfl dX7_takeCell_56 ?_
    refine j_aload_n X rfl 3 rfl dX7_takeCell_58 ?_
    refine j_iload X 0 rfl dX7_takeCell_59 ?_
    obtain ⟨k9, h⟩ := h
    refine jlM_mod_readStand X k9 dX7_takeCell_61 ?_
    refine j_if_lt (tgt := 75) X dX7_takeCell_62 (by decide) (fun c10 => ?_) (fun c10 => ?_)
    · have h := h.1 c10
      refine j_aload_n X rfl 2 rfl dX7_takeCell_75 ?_
      refine j_aload_n X rfl 3 rfl dX7_takeCell_76 ?_
      refine j_iload X 0 rfl dX7_takeCell_77 ?_
      refine j_iload_n X rfl 4 rfl dX7_takeCell_79 ?_
      refine j_bipush (v := (99 : Int32)) X (by decide) dX7_takeCell_80 ?_
      refine j_Vi (st := []) X [.ref (q 14), .int v8, .int a2, .int (99 : Int32)] 0 (c_X7_into_mod_readStand l D i q A v8 a2 (99 : Int32) S _ h) (cwV 4 X.ts gX7_takeCell_X7_into rfl rfl rfl (by decide +kernel) ⟨Nat.le_of_ble_eq_true rfl, Nat.le_of_ble_eq_true rfl⟩) rfl rfl rfl rfl (Nat.le_of_ble_eq_true rfl) dX7_takeCell_82 (fun r12 S11 h => ?_)
      exact j_iret X h dX7_takeCell_85
    · have h := h.2 c10
      refine j_aload_n X rfl 2 rfl dX7_takeCell_65 ?_
      refine j_iconst (v := (4 : Int32)) X (by decide) dX7_takeCell_66 ?_
      refine j_aload_n X rfl 2 rfl dX7_takeCell_67 ?_
      refine jgM_mod_numberAt X i_X7_takeCell_mod_readStand_X7 (by decide +kernel) dX7_takeCell_68 ?_
      refine j_Vi (st := []) X [.int (4 : Int32), .int (S.1 14)] 0 (c_X7_fails l D i q A (4 : Int32) (S.1 14) S _ h) (cwV 2 X.ts gX7_takeCell_X7_fails rfl rfl rfl (by decide +kernel) ⟨Nat.le_of_ble_eq_true rfl, Nat.le_of_ble_eq_true rfl⟩) rfl rfl rfl rfl (Nat.le_of_ble_eq_true rfl) dX7_takeCell_71 (fun r14 S13 h => ?_)
      exact j_iret X h dX7_takeCell_74
  · have h := h.2 c7
    refine j_iload_n X rfl 0 rfl dX7_takeCell_42 ?_
    exact j_iret X h dX7_takeCell_43
set_option maxRecDepth 100000 in
set_option maxHeartbeats 4000000 in
theorem c_X7_takeCell_mod_readStand (l : Launch) (D : va_G) (i : Nat → ClassId) (q : Nat → Nat) (A : Nat → Prop) (x2 : Int32) (S : vS) (Q : Int32 → vS → Prop) (h : e_X7_takeCell_mod_readStand x2 S Q) : Met l yX7_takeCell wsX7_takeCell rm_X7_takeCell_mod_readStand (va_Pc [.ref (q 0), .ref (q 14), .int x2] (vB D i A (wM q i) S)) (va_Qi Q (vB D i A (wM q i)) A) 0 0 A := by
  refine m_ofJ (own := RX7) (lv := [(0, .ref (q 0)), (1, .ref (q 14)), (2, .int x2)]) rfl (by decide) rfl (Nat.le_of_ble_eq_true rfl) rfl ?_
  intro p e s m below meth c X
  unfold e_X7_takeCell_mod_readStand at h
  refine j_aload_n X rfl 0 rfl dX7_takeCell_0 ?_
  refine j_iconst (v := (0 : Int32)) X (by decide) dX7_takeCell_1 ?_
  refine j_aload_n X rfl 0 rfl dX7_takeCell_2 ?_
  refine jgM_mod_readWide X i_X7_takeCell_mod_readStand_X7 (by decide +kernel) dX7_takeCell_3 ?_
  refine j_iconst (v := (1 : Int32)) X (by decide) dX7_takeCell_6 ?_
  refine j_isub X dX7_takeCell_7 ?_
  refine j_Vi (st := []) X [.int (0 : Int32), .int ((S.1 15) - (1 : Int32))] 0 (c_X7_takeNumber l D i q A (0 : Int32) ((S.1 15) - (1 : Int32)) S _ h) (cwV 2 X.ts gX7_takeCell_X7_takeNumber rfl rfl rfl (by decide +kernel) ⟨Nat.le_of_ble_eq_true rfl, Nat.le_of_ble_eq_true rfl⟩) rfl rfl rfl rfl (Nat.le_of_ble_eq_true rfl) dX7_takeCell_8 (fun r2 S1 h => ?_)
  refine j_istore_n (lv' := [(3, .int r2), (0, .ref (q 0)), (1, .ref (q 14)), (2, .int x2)]) X rfl (by decide) rfl dX7_takeCell_11 ?_
  refine j_aload_n X rfl 1 rfl dX7_takeCell_12 ?_
  refine jgM_mod_number X i_X7_takeCell_mod_readStand_X7 (by decide +kernel) dX7_takeCell_13 ?_
  refine j_topi (fun v3 ev3 => ?_)
  have h := h v3 ev3
  refine j_istore (lv' := [(4, .int v3), (3, .int r2), (0, .ref (q 0)), (1, .ref (q 14)), (2, .int x2)]) X (by decide) rfl dX7_takeCell_16 ?_
  refine j_iload_n X rfl 1 rfl dX7_takeCell_18 ?_
  refine j_if_le (tgt := 26) X dX7_takeCell_19 (by decide) (fun c4 => ?_) (fun c4 => ?_)
  · have h := h.1 c4
    refine j_aload_n X rfl 2 rfl dX7_takeCell_26 ?_
    refine j_iconst (v := (0 : Int32)) X (by decide) dX7_takeCell_27 ?_
    refine j_aload_n X rfl 2 rfl dX7_takeCell_28 ?_
    refine jgM_mod_readDeep X i_X7_takeCell_mod_readStand_X7 (by decide +kernel) dX7_takeCell_29 ?_
    refine j_iconst (v := (1 : Int32)) X (by decide) dX7_takeCell_32 ?_
    refine j_isub X dX7_takeCell_33 ?_
    refine j_Vi (st := []) X [.int (0 : Int32), .int ((S1.1 16) - (1 : Int32))] 0 (c_X7_takeNumber l D i q A (0 : Int32) ((S1.1 16) - (1 : Int32)) S1 _ h) (cwV 2 X.ts gX7_takeCell_X7_takeNumber rfl rfl rfl (by decide +kernel) ⟨Nat.le_of_ble_eq_true rfl, Nat.le_of_ble_eq_true rfl⟩) rfl rfl rfl rfl (Nat.le_of_ble_eq_true rfl) dX7_takeCell_34 (fun r6 S5 h => ?_)
    refine j_loc [2, 3, 4, 0] rfl ?_
    exact w_X7_takeCell_mod_readStand_37 X x2 v3 r6 S5 h
  · have h := h.2 c4
    refine j_iload_n X rfl 1 rfl dX7_takeCell_22 ?_
    refine j_goto (tgt := 37) X dX7_takeCell_23 (by decide) ?_
    refine j_loc [2, 3, 4, 0] rfl ?_
    exact w_X7_takeCell_mod_readStand_37 X x2 v3 r2 S1 h
set_option maxRecDepth 100000 in
theorem i_X7_into_mod_readShore_X7 : ∀ w ∈ u_ws RX7 TX7 48, w ∈ wsX7_into := by decide +kernel
abbrev rm_X7_into_mod_readShore : Room := { frames := 2, cells := 0, slots := 0, locals := 48 }
set_option maxRecDepth 100000 in
set_option maxHeartbeats 4000000 in
theorem c_X7_into_mod_readShore (l : Launch) (D : va_G) (i : Nat → ClassId) (q : Nat → Nat) (A : Nat → Prop) (x2 : Int32) (x3 : Int32) (x4 : Int32) (S : vS) (Q : Int32 → vS → Prop) (h : e_X7_into_mod_readShore x2 x3 x4 S Q) : Met l yX7_into wsX7_into rm_X7_into_mod_readShore (va_Pc [.ref (q 0), .ref (q 11), .int x2, .int x3, .int x4] (vB D i A (wM q i) S)) (va_Qi Q (vB D i A (wM q i)) A) 0 0 A := by
  refine m_ofJ (own := RX7) (lv := [(0, .ref (q 0)), (1, .ref (q 11)), (2, .int x2), (3, .int x3), (4, .int x4)]) rfl (by decide) rfl (Nat.le_of_ble_eq_true rfl) rfl ?_
  intro p e s m below meth c X
  unfold e_X7_into_mod_readShore at h
  refine j_aload_n X rfl 0 rfl dX7_into_0 ?_
  refine j_iload_n X rfl 3 rfl dX7_into_1 ?_
  refine j_iload X 4 rfl dX7_into_2 ?_
  refine j_Vi (st := []) X [.int x3, .int x4] 0 (c_X7_takeNumber l D i q A x3 x4 S _ h) (cwV 2 X.ts gX7_into_X7_takeNumber rfl rfl rfl (by decide +kernel) ⟨Nat.le_of_ble_eq_true rfl, Nat.le_of_ble_eq_true rfl⟩) rfl rfl rfl rfl (Nat.le_of_ble_eq_true rfl) dX7_into_4 (fun r2 S1 h => ?_)
  refine j_istore (lv' := [(5, .int r2), (0, .ref (q 0)), (1, .ref (q 11)), (2, .int x2), (3, .int x3), (4, .int x4)]) X (by decide) rfl dX7_into_7 ?_
  refine j_aload_n X rfl 2 rfl dX7_into_9 ?_
  refine j_iload_n X rfl 3 rfl dX7_into_10 ?_
  refine j_aload_n X rfl 1 rfl dX7_into_11 ?_
  refine jgM_mod_number X i_X7_into_mod_readShore_X7 (by decide +kernel) dX7_into_12 ?_
  obtain ⟨k3, h⟩ := h
  refine jsM_mod_readShore X k3 dX7_into_15 (fun S4 eS4 => ?_)
  have h := h S4 eS4
  refine j_iload X 0 rfl dX7_into_16 ?_
  exact j_iret X h dX7_into_18
set_option maxRecDepth 100000 in
theorem i_X7_into_mod_readGround_X7 : ∀ w ∈ u_ws RX7 TX7 48, w ∈ wsX7_into := by decide +kernel
abbrev rm_X7_into_mod_readGround : Room := { frames := 2, cells := 0, slots := 0, locals := 48 }
set_option maxRecDepth 100000 in
set_option maxHeartbeats 4000000 in
theorem c_X7_into_mod_readGround (l : Launch) (D : va_G) (i : Nat → ClassId) (q : Nat → Nat) (A : Nat → Prop) (x2 : Int32) (x3 : Int32) (x4 : Int32) (S : vS) (Q : Int32 → vS → Prop) (h : e_X7_into_mod_readGround x2 x3 x4 S Q) : Met l yX7_into wsX7_into rm_X7_into_mod_readGround (va_Pc [.ref (q 0), .ref (q 12), .int x2, .int x3, .int x4] (vB D i A (wM q i) S)) (va_Qi Q (vB D i A (wM q i)) A) 0 0 A := by
  refine m_ofJ (own := RX7) (lv := [(0, .ref (q 0)), (1, .ref (q 12)), (2, .int x2), (3, .int x3), (4, .int x4)]) rfl (by decide) rfl (Nat.le_of_ble_eq_true rfl) rfl ?_
  intro p e s m below meth c X
  unfold e_X7_into_mod_readGround at h
  refine j_aload_n X rfl 0 rfl dX7_into_0 ?_
  refine j_iload_n X rfl 3 rfl dX7_into_1 ?_
  refine j_iload X 4 rfl dX7_into_2 ?_
  refine j_Vi (st := []) X [.int x3, .int x4] 0 (c_X7_takeNumber l D i q A x3 x4 S _ h) (cwV 2 X.ts gX7_into_X7_takeNumber rfl rfl rfl (by decide +kernel) ⟨Nat.le_of_ble_eq_true rfl, Nat.le_of_ble_eq_true rfl⟩) rfl rfl rfl rfl (Nat.le_of_ble_eq_true rfl) dX7_into_4 (fun r2 S1 h => ?_)
  refine j_istore (lv' := [(5, .int r2), (0, .ref (q 0)), (1, .ref (q 12)), (2, .int x2), (3, .int x3), (4, .int x4)]) X (by decide) rfl dX7_into_7 ?_
  refine j_aload_n X rfl 2 rfl dX7_into_9 ?_
  refine j_iload_n X rfl 3 rfl dX7_into_10 ?_
  refine j_aload_n X rfl 1 rfl dX7_into_11 ?_
  refine jgM_mod_number X i_X7_into_mod_readGround_X7 (by decide +kernel) dX7_into_12 ?_
  obtain ⟨k3, h⟩ := h
  refine jsM_mod_readGround X k3 dX7_into_15 (fun S4 eS4 => ?_)
  have h := h S4 eS4
  refine j_iload X 0 rfl dX7_into_16 ?_
  exact j_iret X h dX7_into_18
set_option maxRecDepth 100000 in
theorem i_X7_into_mod_readStoreys_X7 : ∀ w ∈ u_ws RX7 TX7 48, w ∈ wsX7_into := by decide +kernel
abbrev rm_X7_into_mod_readStoreys : Room := { frames := 2, cells := 0, slots := 0, locals := 48 }
set_option maxRecDepth 100000 in
set_option maxHeartbeats 4000000 in
theorem c_X7_into_mod_readStoreys (l : Launch) (D : va_G) (i : Nat → ClassId) (q : Nat → Nat) (A : Nat → Prop) (x2 : Int32) (x3 : Int32) (x4 : Int32) (S : vS) (Q : Int32 → vS → Prop) (h : e_X7_into_mod_readStoreys x2 x3 x4 S Q) : Met l yX7_into wsX7_into rm_X7_into_mod_readStoreys (va_Pc [.ref (q 0), .ref (q 13), .int x2, .int x3, .int x4] (vB D i A (wM q i) S)) (va_Qi Q (vB D i A (wM q i)) A) 0 0 A := by
  refine m_ofJ (own := RX7) (lv := [(0, .ref (q 0)), (1, .ref (q 13)), (2, .int x2), (3, .int x3), (4, .int x4)]) rfl (by decide) rfl (Nat.le_of_ble_eq_true rfl) rfl ?_
  intro p e s m below meth c X
  unfold e_X7_into_mod_readStoreys at h
  refine j_aload_n X rfl 0 rfl dX7_into_0 ?_
  refine j_iload_n X rfl 3 rfl dX7_into_1 ?_
  refine j_iload X 4 rfl dX7_into_2 ?_
  refine j_Vi (st := []) X [.int x3, .int x4] 0 (c_X7_takeNumber l D i q A x3 x4 S _ h) (cwV 2 X.ts gX7_into_X7_takeNumber rfl rfl rfl (by decide +kernel) ⟨Nat.le_of_ble_eq_true rfl, Nat.le_of_ble_eq_true rfl⟩) rfl rfl rfl rfl (Nat.le_of_ble_eq_true rfl) dX7_into_4 (fun r2 S1 h => ?_)
  refine j_istore (lv' := [(5, .int r2), (0, .ref (q 0)), (1, .ref (q 13)), (2, .int x2), (3, .int x3), (4, .int x4)]) X (by decide) rfl dX7_into_7 ?_
  refine j_aload_n X rfl 2 rfl dX7_into_9 ?_
  refine j_iload_n X rfl 3 rfl dX7_into_10 ?_
  refine j_aload_n X rfl 1 rfl dX7_into_11 ?_
  refine jgM_mod_number X i_X7_into_mod_readStoreys_X7 (by decide +kernel) dX7_into_12 ?_
  obtain ⟨k3, h⟩ := h
  refine jsM_mod_readStoreys X k3 dX7_into_15 (fun S4 eS4 => ?_)
  have h := h S4 eS4
  refine j_iload X 0 rfl dX7_into_16 ?_
  exact j_iret X h dX7_into_18
set_option maxRecDepth 100000 in
theorem i_X7_takeDoor_X7 : ∀ w ∈ u_ws RX7 TX7 48, w ∈ wsX7_takeDoor := by decide +kernel
abbrev rm_X7_takeDoor : Room := { frames := 3, cells := 0, slots := 0, locals := 73 }
set_option maxRecDepth 100000 in
set_option maxHeartbeats 4000000 in
theorem w_X7_takeDoor_52 {D : va_G} {i : Nat → ClassId} {q : Nat → Nat} {A : Nat → Prop} {p : Program} {l : Launch} {e : Env} {s : State} {m : MethodId} {args : Array Value} {below : List Frame} {meth : Method} {c : Code} (X : cX D i A p s m args meth c cX7_takeDoor RX7 3 wsX7_takeDoor (some .int)) {Q : Int32 → vS → Prop} : ∀ (a1 : Int32) (t0 : Int32) (S : vS), e_X7_takeDoor_52 Q a1 t0 S → cJ D A p l e (headSpec wsX7_takeDoor rm_X7_takeDoor).room s m args below meth c (MQ below (va_Qi Q (vB D i A (wM q i)) A) args s 0 0 A) 3 (wM q i S) [(0, .ref (q 0)), (1, .int a1)] 52 [.int t0] := by
  intro a1 t0 S h
  unfold e_X7_takeDoor_52 at h
  refine j_istore_n (lv' := [(2, .int t0), (0, .ref (q 0)), (1, .int a1)]) X rfl (by decide) rfl dX7_takeDoor_52 ?_
  refine j_iload_n X rfl 0 rfl dX7_takeDoor_53 ?_
  refine j_if_le (tgt := 61) X dX7_takeDoor_54 (by decide) (fun c8 => ?_) (fun c8 => ?_)
  · have h := h.1 c8
    refine j_aload_n X rfl 1 rfl dX7_takeDoor_61 ?_
    refine j_aload_n X rfl 1 rfl dX7_takeDoor_62 ?_
    refine jgM_mod_readStoreys X i_X7_takeDoor_X7 (by decide +kernel) dX7_takeDoor_63 ?_
    refine j_iload_n X rfl 2 rfl dX7_takeDoor_66 ?_
    refine j_iconst (v := (0 : Int32)) X (by decide) dX7_takeDoor_67 ?_
    refine j_bipush (v := (9 : Int32)) X (by decide) dX7_takeDoor_68 ?_
    refine j_Vi (st := []) X [.ref (q 13), .int a1, .int (0 : Int32), .int (9 : Int32)] 0 (c_X7_into_mod_readStoreys l D i q A a1 (0 : Int32) (9 : Int32) S _ h) (cwV 4 X.ts gX7_takeDoor_X7_into rfl rfl rfl (by decide +kernel) ⟨Nat.le_of_ble_eq_true rfl, Nat.le_of_ble_eq_true rfl⟩) rfl rfl rfl rfl (Nat.le_of_ble_eq_true rfl) dX7_takeDoor_70 (fun r10 S9 h => ?_)
    exact j_iret X h dX7_takeDoor_73
  · have h := h.2 c8
    refine j_iload_n X rfl 0 rfl dX7_takeDoor_57 ?_
    refine j_goto (tgt := 73) X dX7_takeDoor_58 (by decide) ?_
    exact j_iret X h dX7_takeDoor_73
set_option maxRecDepth 100000 in
set_option maxHeartbeats 4000000 in
theorem c_X7_takeDoor (l : Launch) (D : va_G) (i : Nat → ClassId) (q : Nat → Nat) (A : Nat → Prop) (S : vS) (Q : Int32 → vS → Prop) (h : e_X7_takeDoor S Q) : Met l yX7_takeDoor wsX7_takeDoor rm_X7_takeDoor (va_Pc [.ref (q 0)] (vB D i A (wM q i) S)) (va_Qi Q (vB D i A (wM q i)) A) 0 0 A := by
  refine m_ofJ (own := RX7) (lv := [(0, .ref (q 0))]) rfl (by decide) rfl (Nat.le_of_ble_eq_true rfl) rfl ?_
  intro p e s m below meth c X
  unfold e_X7_takeDoor at h
  refine j_aload_n X rfl 0 rfl dX7_takeDoor_0 ?_
  refine jgM_mod_readMen X i_X7_takeDoor_X7 (by decide +kernel) dX7_takeDoor_1 ?_
  refine j_topi (fun v1 ev1 => ?_)
  have h := h v1 ev1
  refine j_istore_n (lv' := [(1, .int v1), (0, .ref (q 0))]) X rfl (by decide) rfl dX7_takeDoor_4 ?_
  refine j_aload_n X rfl 1 rfl dX7_takeDoor_5 ?_
  refine j_dup X rfl dX7_takeDoor_6 ?_
  refine jgM_mod_readMen X i_X7_takeDoor_X7 (by decide +kernel) dX7_takeDoor_7 ?_
  refine j_iconst (v := (1 : Int32)) X (by decide) dX7_takeDoor_10 ?_
  refine j_iadd X dX7_takeDoor_11 ?_
  refine jpM_mod_readMen X i_X7_takeDoor_X7 (by decide +kernel) dX7_takeDoor_12 (fun S2 eS2 => ?_)
  have h := h S2 eS2
  refine j_aload_n X rfl 1 rfl dX7_takeDoor_15 ?_
  refine j_aload_n X rfl 1 rfl dX7_takeDoor_16 ?_
  refine jgM_mod_readShore X i_X7_takeDoor_X7 (by decide +kernel) dX7_takeDoor_17 ?_
  refine j_iload_n X rfl 0 rfl dX7_takeDoor_20 ?_
  refine j_iconst (v := (0 : Int32)) X (by decide) dX7_takeDoor_21 ?_
  refine j_aload_n X rfl 1 rfl dX7_takeDoor_22 ?_
  refine jgM_mod_readWide X i_X7_takeDoor_X7 (by decide +kernel) dX7_takeDoor_23 ?_
  refine j_iconst (v := (1 : Int32)) X (by decide) dX7_takeDoor_26 ?_
  refine j_isub X dX7_takeDoor_27 ?_
  refine j_Vi (st := []) X [.ref (q 11), .int v1, .int (0 : Int32), .int ((S2.1 15) - (1 : Int32))] 0 (c_X7_into_mod_readShore l D i q A v1 (0 : Int32) ((S2.1 15) - (1 : Int32)) S2 _ h) (cwV 4 X.ts gX7_takeDoor_X7_into rfl rfl rfl (by decide +kernel) ⟨Nat.le_of_ble_eq_true rfl, Nat.le_of_ble_eq_true rfl⟩) rfl rfl rfl rfl (Nat.le_of_ble_eq_true rfl) dX7_takeDoor_28 (fun r4 S3 h => ?_)
  refine j_istore_n (lv' := [(2, .int r4), (1, .int v1), (0, .ref (q 0))]) X rfl (by decide) rfl dX7_takeDoor_31 ?_
  refine j_iload_n X rfl 0 rfl dX7_takeDoor_32 ?_
  refine j_if_le (tgt := 40) X dX7_takeDoor_33 (by decide) (fun c5 => ?_) (fun c5 => ?_)
  · have h := h.1 c5
    refine j_aload_n X rfl 2 rfl dX7_takeDoor_40 ?_
    refine j_aload_n X rfl 2 rfl dX7_takeDoor_41 ?_
    refine jgM_mod_readGround X i_X7_takeDoor_X7 (by decide +kernel) dX7_takeDoor_42 ?_
    refine j_iload_n X rfl 1 rfl dX7_takeDoor_45 ?_
    refine j_iconst (v := (0 : Int32)) X (by decide) dX7_takeDoor_46 ?_
    refine j_bipush (v := (99 : Int32)) X (by decide) dX7_takeDoor_47 ?_
    refine j_Vi (st := []) X [.ref (q 12), .int v1, .int (0 : Int32), .int (99 : Int32)] 0 (c_X7_into_mod_readGround l D i q A v1 (0 : Int32) (99 : Int32) S3 _ h) (cwV 4 X.ts gX7_takeDoor_X7_into rfl rfl rfl (by decide +kernel) ⟨Nat.le_of_ble_eq_true rfl, Nat.le_of_ble_eq_true rfl⟩) rfl rfl rfl rfl (Nat.le_of_ble_eq_true rfl) dX7_takeDoor_49 (fun r7 S6 h => ?_)
    refine j_loc [2, 1] rfl ?_
    exact w_X7_takeDoor_52 X v1 r7 S6 h
  · have h := h.2 c5
    refine j_iload_n X rfl 0 rfl dX7_takeDoor_36 ?_
    refine j_goto (tgt := 52) X dX7_takeDoor_37 (by decide) ?_
    refine j_loc [2, 1] rfl ?_
    exact w_X7_takeDoor_52 X v1 r4 S3 h
set_option maxRecDepth 100000 in
theorem i_X7_takeLake_X7 : ∀ w ∈ u_ws RX7 TX7 48, w ∈ wsX7_takeLake := by decide +kernel
abbrev rm_X7_takeLake : Room := { frames := 2, cells := 0, slots := 0, locals := 48 }
set_option maxRecDepth 100000 in
set_option maxHeartbeats 4000000 in
theorem w_X7_takeLake_28 {D : va_G} {i : Nat → ClassId} {q : Nat → Nat} {A : Nat → Prop} {p : Program} {l : Launch} {e : Env} {s : State} {m : MethodId} {args : Array Value} {below : List Frame} {meth : Method} {c : Code} (X : cX D i A p s m args meth c cX7_takeLake RX7 3 wsX7_takeLake (some .int)) {Q : Int32 → vS → Prop} : ∀ (a2 : Int32) (t0 : Int32) (S : vS), e_X7_takeLake_28 Q a2 t0 S → cJ D A p l e (headSpec wsX7_takeLake rm_X7_takeLake).room s m args below meth c (MQ below (va_Qi Q (vB D i A (wM q i)) A) args s 0 0 A) 3 (wM q i S) [(0, .ref (q 0)), (2, .int a2)] 28 [.int t0] := by
  intro a2 t0 S h
  unfold e_X7_takeLake_28 at h
  refine j_istore_n (lv' := [(1, .int t0), (0, .ref (q 0)), (2, .int a2)]) X rfl (by decide) rfl dX7_takeLake_28 ?_
  refine j_iload_n X rfl 0 rfl dX7_takeLake_29 ?_
  refine j_if_le (tgt := 35) X dX7_takeLake_30 (by decide) (fun c7 => ?_) (fun c7 => ?_)
  · have h := h.1 c7
    refine j_iload_n X rfl 2 rfl dX7_takeLake_35 ?_
    refine j_aload_n X rfl 1 rfl dX7_takeLake_36 ?_
    refine jgM_mod_number X i_X7_takeLake_X7 (by decide +kernel) dX7_takeLake_37 ?_
    refine j_imul X dX7_takeLake_40 ?_
    refine j_bipush (v := (60 : Int32)) X (by decide) dX7_takeLake_41 ?_
    refine j_icmp_le (tgt := 56) X dX7_takeLake_43 (by decide) (fun c8 => ?_) (fun c8 => ?_)
    · have h := h.1 c8
      refine j_aload_n X rfl 1 rfl dX7_takeLake_56 ?_
      refine j_iload_n X rfl 2 rfl dX7_takeLake_57 ?_
      refine jpM_mod_readWide X i_X7_takeLake_X7 (by decide +kernel) dX7_takeLake_58 (fun S9 eS9 => ?_)
      have h := h S9 eS9
      refine j_aload_n X rfl 1 rfl dX7_takeLake_61 ?_
      refine j_aload_n X rfl 1 rfl dX7_takeLake_62 ?_
      refine jgM_mod_number X i_X7_takeLake_X7 (by decide +kernel) dX7_takeLake_63 ?_
      refine jpM_mod_readDeep X i_X7_takeLake_X7 (by decide +kernel) dX7_takeLake_66 (fun S10 eS10 => ?_)
      have h := h S10 eS10
      refine j_iconst (v := (0 : Int32)) X (by decide) dX7_takeLake_69 ?_
      exact j_iret X h dX7_takeLake_70
    · have h := h.2 c8
      refine j_aload_n X rfl 1 rfl dX7_takeLake_46 ?_
      refine j_iconst (v := (2 : Int32)) X (by decide) dX7_takeLake_47 ?_
      refine j_aload_n X rfl 1 rfl dX7_takeLake_48 ?_
      refine jgM_mod_numberAt X i_X7_takeLake_X7 (by decide +kernel) dX7_takeLake_49 ?_
      refine j_Vi (st := []) X [.int (2 : Int32), .int (S.1 14)] 0 (c_X7_fails l D i q A (2 : Int32) (S.1 14) S _ h) (cwV 2 X.ts gX7_takeLake_X7_fails rfl rfl rfl (by decide +kernel) ⟨Nat.le_of_ble_eq_true rfl, Nat.le_of_ble_eq_true rfl⟩) rfl rfl rfl rfl (Nat.le_of_ble_eq_true rfl) dX7_takeLake_52 (fun r12 S11 h => ?_)
      exact j_iret X h dX7_takeLake_55
  · have h := h.2 c7
    refine j_iload_n X rfl 0 rfl dX7_takeLake_33 ?_
    exact j_iret X h dX7_takeLake_34
set_option maxRecDepth 100000 in
set_option maxHeartbeats 4000000 in
theorem c_X7_takeLake (l : Launch) (D : va_G) (i : Nat → ClassId) (q : Nat → Nat) (A : Nat → Prop) (S : vS) (Q : Int32 → vS → Prop) (h : e_X7_takeLake S Q) : Met l yX7_takeLake wsX7_takeLake rm_X7_takeLake (va_Pc [.ref (q 0)] (vB D i A (wM q i) S)) (va_Qi Q (vB D i A (wM q i)) A) 0 0 A := by
  refine m_ofJ (own := RX7) (lv := [(0, .ref (q 0))]) rfl (by decide) rfl (Nat.le_of_ble_eq_true rfl) rfl ?_
  intro p e s m below meth c X
  unfold e_X7_takeLake at h
  refine j_aload_n X rfl 0 rfl dX7_takeLake_0 ?_
  refine j_iconst (v := (1 : Int32)) X (by decide) dX7_takeLake_1 ?_
  refine j_bipush (v := (12 : Int32)) X (by decide) dX7_takeLake_2 ?_
  refine j_Vi (st := []) X [.int (1 : Int32), .int (12 : Int32)] 0 (c_X7_takeNumber l D i q A (1 : Int32) (12 : Int32) S _ h) (cwV 2 X.ts gX7_takeLake_X7_takeNumber rfl rfl rfl (by decide +kernel) ⟨Nat.le_of_ble_eq_true rfl, Nat.le_of_ble_eq_true rfl⟩) rfl rfl rfl rfl (Nat.le_of_ble_eq_true rfl) dX7_takeLake_4 (fun r2 S1 h => ?_)
  refine j_istore_n (lv' := [(1, .int r2), (0, .ref (q 0))]) X rfl (by decide) rfl dX7_takeLake_7 ?_
  refine j_aload_n X rfl 1 rfl dX7_takeLake_8 ?_
  refine jgM_mod_number X i_X7_takeLake_X7 (by decide +kernel) dX7_takeLake_9 ?_
  refine j_topi (fun v3 ev3 => ?_)
  have h := h v3 ev3
  refine j_istore_n (lv' := [(2, .int v3), (1, .int r2), (0, .ref (q 0))]) X rfl (by decide) rfl dX7_takeLake_12 ?_
  refine j_iload_n X rfl 1 rfl dX7_takeLake_13 ?_
  refine j_if_le (tgt := 21) X dX7_takeLake_14 (by decide) (fun c4 => ?_) (fun c4 => ?_)
  · have h := h.1 c4
    refine j_aload_n X rfl 2 rfl dX7_takeLake_21 ?_
    refine j_iconst (v := (1 : Int32)) X (by decide) dX7_takeLake_22 ?_
    refine j_bipush (v := (12 : Int32)) X (by decide) dX7_takeLake_23 ?_
    refine j_Vi (st := []) X [.int (1 : Int32), .int (12 : Int32)] 0 (c_X7_takeNumber l D i q A (1 : Int32) (12 : Int32) S1 _ h) (cwV 2 X.ts gX7_takeLake_X7_takeNumber rfl rfl rfl (by decide +kernel) ⟨Nat.le_of_ble_eq_true rfl, Nat.le_of_ble_eq_true rfl⟩) rfl rfl rfl rfl (Nat.le_of_ble_eq_true rfl) dX7_takeLake_25 (fun r6 S5 h => ?_)
    refine j_loc [2, 0] rfl ?_
    exact w_X7_takeLake_28 X v3 r6 S5 h
  · have h := h.2 c4
    refine j_iload_n X rfl 1 rfl dX7_takeLake_17 ?_
    refine j_goto (tgt := 28) X dX7_takeLake_18 (by decide) ?_
    refine j_loc [2, 0] rfl ?_
    exact w_X7_takeLake_28 X v3 r2 S1 h
set_option maxRecDepth 100000 in
theorem i_X7_takeKind_X7 : ∀ w ∈ u_ws RX7 TX7 48, w ∈ wsX7_takeKind := by decide +kernel
abbrev rm_X7_takeKind : Room := { frames := 4, cells := 0, slots := 0, locals := 98 }
set_option maxRecDepth 100000 in
set_option maxHeartbeats 4000000 in
theorem c_X7_takeKind (l : Launch) (D : va_G) (i : Nat → ClassId) (q : Nat → Nat) (A : Nat → Prop) (x1 : Int32) (S : vS) (Q : Int32 → vS → Prop) (h : e_X7_takeKind x1 S Q) : Met l yX7_takeKind wsX7_takeKind rm_X7_takeKind (va_Pc [.ref (q 0), .int x1] (vB D i A (wM q i) S)) (va_Qi Q (vB D i A (wM q i)) A) 0 0 A := by
  refine m_ofJ (own := RX7) (lv := [(0, .ref (q 0)), (1, .int x1)]) rfl (by decide) rfl (Nat.le_of_ble_eq_true rfl) rfl ?_
  intro p e s m below meth c X
  unfold e_X7_takeKind at h
  refine j_iload_n X rfl 1 rfl dX7_takeKind_0 ?_
  refine j_if_ne (tgt := 9) X dX7_takeKind_1 (by decide) (fun c1 => ?_) (fun c1 => ?_)
  · have h := h.1 c1
    refine j_iload_n X rfl 1 rfl dX7_takeKind_9 ?_
    refine j_iconst (v := (1 : Int32)) X (by decide) dX7_takeKind_10 ?_
    refine j_icmp_ne (tgt := 19) X dX7_takeKind_11 (by decide) (fun c2 => ?_) (fun c2 => ?_)
    · have h := h.1 c2
      refine j_iload_n X rfl 1 rfl dX7_takeKind_19 ?_
      refine j_iconst (v := (2 : Int32)) X (by decide) dX7_takeKind_20 ?_
      refine j_icmp_ne (tgt := 44) X dX7_takeKind_21 (by decide) (fun c3 => ?_) (fun c3 => ?_)
      · have h := h.1 c3
        refine j_iload_n X rfl 1 rfl dX7_takeKind_44 ?_
        refine j_iconst (v := (3 : Int32)) X (by decide) dX7_takeKind_45 ?_
        refine j_icmp_ne (tgt := 69) X dX7_takeKind_46 (by decide) (fun c4 => ?_) (fun c4 => ?_)
        · have h := h.1 c4
          refine j_iload_n X rfl 1 rfl dX7_takeKind_69 ?_
          refine j_iconst (v := (4 : Int32)) X (by decide) dX7_takeKind_70 ?_
          refine j_icmp_ne (tgt := 81) X dX7_takeKind_71 (by decide) (fun c5 => ?_) (fun c5 => ?_)
          · have h := h.1 c5
            refine j_aload_n X rfl 0 rfl dX7_takeKind_81 ?_
            refine j_Vi (st := []) X [] 0 (c_X7_takeStorey l D i q A S _ h) (cwV 0 X.ts gX7_takeKind_X7_takeStorey rfl rfl rfl (by decide +kernel) ⟨Nat.le_of_ble_eq_true rfl, Nat.le_of_ble_eq_true rfl⟩) rfl rfl rfl rfl (Nat.le_of_ble_eq_true rfl) dX7_takeKind_82 (fun r7 S6 h => ?_)
            exact j_iret X h dX7_takeKind_85
          · have h := h.2 c5
            refine j_aload_n X rfl 0 rfl dX7_takeKind_74 ?_
            refine j_Vi (st := []) X [] 0 (c_X7_takeMist l D i q A S _ h) (cwV 0 X.ts gX7_takeKind_X7_takeMist rfl rfl rfl (by decide +kernel) ⟨Nat.le_of_ble_eq_true rfl, Nat.le_of_ble_eq_true rfl⟩) rfl rfl rfl rfl (Nat.le_of_ble_eq_true rfl) dX7_takeKind_75 (fun r9 S8 h => ?_)
            refine j_goto (tgt := 85) X dX7_takeKind_78 (by decide) ?_
            exact j_iret X h dX7_takeKind_85
        · have h := h.2 c4
          refine j_aload_n X rfl 0 rfl dX7_takeKind_49 ?_
          refine j_dup X rfl dX7_takeKind_50 ?_
          refine jgM_mod_readFishes X i_X7_takeKind_X7 (by decide +kernel) dX7_takeKind_51 ?_
          refine j_iconst (v := (1 : Int32)) X (by decide) dX7_takeKind_54 ?_
          refine j_iadd X dX7_takeKind_55 ?_
          refine jpM_mod_readFishes X i_X7_takeKind_X7 (by decide +kernel) dX7_takeKind_56 (fun S10 eS10 => ?_)
          have h := h S10 eS10
          refine j_aload_n X rfl 0 rfl dX7_takeKind_59 ?_
          refine j_aload_n X rfl 0 rfl dX7_takeKind_60 ?_
          refine jgM_mod_readFish X i_X7_takeKind_X7 (by decide +kernel) dX7_takeKind_61 ?_
          refine j_iconst (v := (0 : Int32)) X (by decide) dX7_takeKind_64 ?_
          refine j_Vi (st := []) X [.ref (q 15), .int (0 : Int32)] 0 (c_X7_takeCell_mod_readFish l D i q A (0 : Int32) S10 _ h) (cwV 2 X.ts gX7_takeKind_X7_takeCell rfl rfl rfl (by decide +kernel) ⟨Nat.le_of_ble_eq_true rfl, Nat.le_of_ble_eq_true rfl⟩) rfl rfl rfl rfl (Nat.le_of_ble_eq_true rfl) dX7_takeKind_65 (fun r12 S11 h => ?_)
          exact j_iret X h dX7_takeKind_68
      · have h := h.2 c3
        refine j_aload_n X rfl 0 rfl dX7_takeKind_24 ?_
        refine j_dup X rfl dX7_takeKind_25 ?_
        refine jgM_mod_readStands X i_X7_takeKind_X7 (by decide +kernel) dX7_takeKind_26 ?_
        refine j_iconst (v := (1 : Int32)) X (by decide) dX7_takeKind_29 ?_
        refine j_iadd X dX7_takeKind_30 ?_
        refine jpM_mod_readStands X i_X7_takeKind_X7 (by decide +kernel) dX7_takeKind_31 (fun S13 eS13 => ?_)
        have h := h S13 eS13
        refine j_aload_n X rfl 0 rfl dX7_takeKind_34 ?_
        refine j_aload_n X rfl 0 rfl dX7_takeKind_35 ?_
        refine jgM_mod_readStand X i_X7_takeKind_X7 (by decide +kernel) dX7_takeKind_36 ?_
        refine j_iconst (v := (1 : Int32)) X (by decide) dX7_takeKind_39 ?_
        refine j_Vi (st := []) X [.ref (q 14), .int (1 : Int32)] 0 (c_X7_takeCell_mod_readStand l D i q A (1 : Int32) S13 _ h) (cwV 2 X.ts gX7_takeKind_X7_takeCell rfl rfl rfl (by decide +kernel) ⟨Nat.le_of_ble_eq_true rfl, Nat.le_of_ble_eq_true rfl⟩) rfl rfl rfl rfl (Nat.le_of_ble_eq_true rfl) dX7_takeKind_40 (fun r15 S14 h => ?_)
        exact j_iret X h dX7_takeKind_43
    · have h := h.2 c2
      refine j_aload_n X rfl 0 rfl dX7_takeKind_14 ?_
      refine j_Vi (st := []) X [] 0 (c_X7_takeDoor l D i q A S _ h) (cwV 0 X.ts gX7_takeKind_X7_takeDoor rfl rfl rfl (by decide +kernel) ⟨Nat.le_of_ble_eq_true rfl, Nat.le_of_ble_eq_true rfl⟩) rfl rfl rfl rfl (Nat.le_of_ble_eq_true rfl) dX7_takeKind_15 (fun r17 S16 h => ?_)
      exact j_iret X h dX7_takeKind_18
  · have h := h.2 c1
    refine j_aload_n X rfl 0 rfl dX7_takeKind_4 ?_
    refine j_Vi (st := []) X [] 0 (c_X7_takeLake l D i q A S _ h) (cwV 0 X.ts gX7_takeKind_X7_takeLake rfl rfl rfl (by decide +kernel) ⟨Nat.le_of_ble_eq_true rfl, Nat.le_of_ble_eq_true rfl⟩) rfl rfl rfl rfl (Nat.le_of_ble_eq_true rfl) dX7_takeKind_5 (fun r19 S18 h => ?_)
    exact j_iret X h dX7_takeKind_8
