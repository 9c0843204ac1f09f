set_option maxRecDepth 100000 in
theorem i_X4_countShares_X2 : ∀ w ∈ u_ws RX2 TX2 14, w ∈ wsX4_countShares := by decide +kernel
set_option maxRecDepth 100000 in
theorem i_X4_countShares_X4 : ∀ w ∈ u_ws RX4 TX4 8, w ∈ wsX4_countShares := by decide +kernel
abbrev rm_X4_countShares : Room := { frames := 3, cells := 0, slots := 0, locals := 72 }
set_option maxRecDepth 100000 in
set_option maxHeartbeats 4000000 in
theorem w_X4_countShares_36 {D : va_G} {i : Nat → ClassId} {q : Nat → Nat} {A : Nat → Prop} {p : Program} {l : Launch} {e : Env} {s : State} {m : MethodId} {args : Array Value} {below : List Frame} {meth : Method} {c : Code} (X : cX D i A p s m args meth c cX4_countShares RX4 3 wsX4_countShares none) {K23 : Int32 → vS → Prop} {Q : vS → Prop} (hK23 : ∀ (a1 : Int32) (S : vS), K23 a1 S → cJ D A p l e (headSpec wsX4_countShares rm_X4_countShares).room s m args below meth c (MQ below (va_Qv Q (vB D i A (wC q i)) A) args s 0 0 A) 3 (wC q i S) [(0, .ref (q 7)), (1, .int a1)] 23 []) : ∀ (n : Nat) (a1 : Int32) (a2 : Int32) (S : vS), e_X4_countShares_36 K23 Q n a1 a2 S → cJ D A p l e (headSpec wsX4_countShares rm_X4_countShares).room s m args below meth c (MQ below (va_Qv Q (vB D i A (wC q i)) A) args s 0 0 A) 3 (wC q i S) [(0, .ref (q 7)), (1, .int a1), (2, .int a2)] 36 [] := by
  intro n
  induction n with
  | zero =>
    intro _ _ S h
    rw [e_X4_countShares_36.eq_1] at h
    exact h.elim
  | succ n ih =>
    intro a1 a2 S h
    rw [e_X4_countShares_36.eq_2] at h
    refine j_iload_n X rfl 2 rfl dX4_countShares_36 ?_
    refine j_aload_n X rfl 0 rfl dX4_countShares_37 ?_
    refine jgC_sight_plan X i_X4_countShares_X4 (by decide +kernel) dX4_countShares_38 ?_
    refine jgC_plan_width X i_X4_countShares_X2 (by decide +kernel) dX4_countShares_41 ?_
    refine j_icmp_ge (tgt := 65) X dX4_countShares_44 (by decide) (fun c6 => ?_) (fun c6 => ?_)
    · have h := h.1 c6
      refine j_iinc (dv := (1 : Int32)) (lv' := fun v7 => [(1, .int v7), (0, .ref (q 7)), (2, .int a2)]) X dX4_countShares_65 (pl := 1) rfl (by decide) (by decide) (fun _ => rfl) (fun v7 ev7 => ?_)
      have h := h v7 ev7
      refine j_goto (tgt := 23) X dX4_countShares_68 (by decide) ?_
      refine j_loc [1, 0] rfl ?_
      exact hK23 v7 S h
    · have h := h.2 c6
      refine j_aload_n X rfl 0 rfl dX4_countShares_47 ?_
      refine j_aload_n X rfl 0 rfl dX4_countShares_48 ?_
      refine j_iload_n X rfl 2 rfl dX4_countShares_49 ?_
      refine j_iload_n X rfl 1 rfl dX4_countShares_50 ?_
      refine j_Vi (st := [.ref (q 7)]) X [.int a2, .int a1] 7 (c_X4_ownersOf l D i q A a2 a1 S _ h) (cwV 2 X.ts gX4_countShares_X4_ownersOf rfl rfl rfl (by decide +kernel) ⟨Nat.le_of_ble_eq_true rfl, Nat.le_of_ble_eq_true rfl⟩) rfl rfl rfl rfl (Nat.le_of_ble_eq_true rfl) dX4_countShares_51 (fun r9 S8 h => ?_)
      refine j_iload_n X rfl 2 rfl dX4_countShares_54 ?_
      refine j_iload_n X rfl 1 rfl dX4_countShares_55 ?_
      refine j_Vv (st := []) X [.int r9, .int a2, .int a1] 7 (c_X4_addParts l D i q A r9 a2 a1 S8 _ h) (cwV 3 X.ts gX4_countShares_X4_addParts rfl rfl rfl (by decide +kernel) ⟨Nat.le_of_ble_eq_true rfl, Nat.le_of_ble_eq_true rfl⟩) rfl rfl rfl rfl (Nat.le_of_ble_eq_true rfl) dX4_countShares_56 (fun S10 h => ?_)
      refine j_iinc (dv := (1 : Int32)) (lv' := fun v12 => [(2, .int v12), (0, .ref (q 7)), (1, .int a1)]) X dX4_countShares_59 (pl := 2) rfl (by decide) (by decide) (fun _ => rfl) (fun v12 ev12 => ?_)
      have h := h v12 ev12
      refine j_goto (tgt := 36) X dX4_countShares_62 (by decide) ?_
      refine j_loc [1, 2, 0] rfl ?_
      exact ih a1 v12 S10 h
set_option maxRecDepth 100000 in
set_option maxHeartbeats 4000000 in
theorem w_X4_countShares_23 {D : va_G} {i : Nat → ClassId} {q : Nat → Nat} {A : Nat → Prop} {p : Program} {l : Launch} {e : Env} {s : State} {m : MethodId} {args : Array Value} {below : List Frame} {meth : Method} {c : Code} (X : cX D i A p s m args meth c cX4_countShares RX4 3 wsX4_countShares none) {Q : vS → Prop} : ∀ (n : Nat) (a1 : Int32) (S : vS), e_X4_countShares_23 Q n a1 S → cJ D A p l e (headSpec wsX4_countShares rm_X4_countShares).room s m args below meth c (MQ below (va_Qv Q (vB D i A (wC q i)) A) args s 0 0 A) 3 (wC q i S) [(0, .ref (q 7)), (1, .int a1)] 23 [] := by
  intro n
  induction n with
  | zero =>
    intro _ S h
    rw [e_X4_countShares_23.eq_1] at h
    exact h.elim
  | succ n ih =>
    intro a1 S h
    rw [e_X4_countShares_23.eq_2] at h
    refine j_iload_n X rfl 1 rfl dX4_countShares_23 ?_
    refine j_aload_n X rfl 0 rfl dX4_countShares_24 ?_
    refine jgC_sight_plan X i_X4_countShares_X4 (by decide +kernel) dX4_countShares_25 ?_
    refine jgC_plan_height X i_X4_countShares_X2 (by decide +kernel) dX4_countShares_28 ?_
    refine j_icmp_ge (tgt := 71) X dX4_countShares_31 (by decide) (fun c5 => ?_) (fun c5 => ?_)
    · have h := h.1 c5
      exact j_vret X h dX4_countShares_71
    · have h := h.2 c5
      refine j_iconst (v := (0 : Int32)) X (by decide) dX4_countShares_34 ?_
      refine j_istore_n (lv' := [(2, .int (0 : Int32)), (0, .ref (q 7)), (1, .int a1)]) X rfl (by decide) rfl dX4_countShares_35 ?_
      refine j_loc [1, 2, 0] rfl ?_
      obtain ⟨j, h⟩ := h
      exact w_X4_countShares_36 X (fun y0 S h => ih y0 S h) j a1 (0 : Int32) S h
set_option maxRecDepth 100000 in
set_option maxHeartbeats 4000000 in
theorem w_X4_countShares_2 {D : va_G} {i : Nat → ClassId} {q : Nat → Nat} {A : Nat → Prop} {p : Program} {l : Launch} {e : Env} {s : State} {m : MethodId} {args : Array Value} {below : List Frame} {meth : Method} {c : Code} (X : cX D i A p s m args meth c cX4_countShares RX4 3 wsX4_countShares none) {Q : vS → Prop} : ∀ (n : Nat) (a1 : Int32) (S : vS), e_X4_countShares_2 Q n a1 S → cJ D A p l e (headSpec wsX4_countShares rm_X4_countShares).room s m args below meth c (MQ below (va_Qv Q (vB D i A (wC q i)) A) args s 0 0 A) 3 (wC q i S) [(0, .ref (q 7)), (1, .int a1)] 2 [] := by
  intro n
  induction n with
  | zero =>
    intro _ S h
    rw [e_X4_countShares_2.eq_1] at h
    exact h.elim
  | succ n ih =>
    intro a1 S h
    rw [e_X4_countShares_2.eq_2] at h
    refine j_iload_n X rfl 1 rfl dX4_countShares_2 ?_
    refine j_bipush (v := (6 : Int32)) X (by decide) dX4_countShares_3 ?_
    refine j_icmp_ge (tgt := 21) X dX4_countShares_5 (by decide) (fun c1 => ?_) (fun c1 => ?_)
    · have h := h.1 c1
      refine j_iconst (v := (0 : Int32)) X (by decide) dX4_countShares_21 ?_
      refine j_istore_n (lv' := [(1, .int (0 : Int32)), (0, .ref (q 7))]) X rfl (by decide) rfl dX4_countShares_22 ?_
      refine j_loc [1, 0] rfl ?_
      obtain ⟨j, h⟩ := h
      exact w_X4_countShares_23 X j (0 : Int32) S h
    · have h := h.2 c1
      refine j_aload_n X rfl 0 rfl dX4_countShares_8 ?_
      refine jgC_sight_shares X i_X4_countShares_X4 (by decide +kernel) dX4_countShares_9 ?_
      refine j_iload_n X rfl 1 rfl dX4_countShares_12 ?_
      refine j_iconst (v := (0 : Int32)) X (by decide) dX4_countShares_13 ?_
      obtain ⟨k2, h⟩ := h
      refine jsC_sight_shares X k2 dX4_countShares_14 (fun S3 eS3 => ?_)
      have h := h S3 eS3
      refine j_iinc (dv := (1 : Int32)) (lv' := fun v4 => [(1, .int v4), (0, .ref (q 7))]) X dX4_countShares_15 (pl := 1) rfl (by decide) (by decide) (fun _ => rfl) (fun v4 ev4 => ?_)
      have h := h v4 ev4
      refine j_goto (tgt := 2) X dX4_countShares_18 (by decide) ?_
      refine j_loc [1, 0] rfl ?_
      exact ih v4 S3 h
set_option maxRecDepth 100000 in
set_option maxHeartbeats 4000000 in
theorem c_X4_countShares (l : Launch) (D : va_G) (i : Nat → ClassId) (q : Nat → Nat) (A : Nat → Prop) (S : vS) (Q : vS → Prop) (h : e_X4_countShares S Q) : Met l yX4_countShares wsX4_countShares rm_X4_countShares (va_Pc [.ref (q 7)] (vB D i A (wC q i) S)) (va_Qv Q (vB D i A (wC q i)) A) 0 0 A := by
  refine m_ofJ (own := RX4) (lv := [(0, .ref (q 7))]) rfl (by decide) rfl (Nat.le_of_ble_eq_true rfl) rfl ?_
  intro p e s m below meth c X
  unfold e_X4_countShares at h
  refine j_iconst (v := (0 : Int32)) X (by decide) dX4_countShares_0 ?_
  refine j_istore_n (lv' := [(1, .int (0 : Int32)), (0, .ref (q 7))]) X rfl (by decide) rfl dX4_countShares_1 ?_
  refine j_loc [1, 0] rfl ?_
  obtain ⟨j, h⟩ := h
  exact w_X4_countShares_2 X j (0 : Int32) S h
set_option maxRecDepth 100000 in
theorem i_X5_earn_now_sight_shares_X5 : ∀ w ∈ u_ws RX5 TX5 7, w ∈ wsX5_earn := by decide +kernel
abbrev rm_X5_earn_now_sight_shares : Room := { frames := 0, cells := 0, slots := 0, locals := 0 }
set_option maxRecDepth 100000 in
set_option maxHeartbeats 4000000 in
theorem w_X5_earn_now_sight_shares_2 {D : va_G} {i : Nat → ClassId} {q : Nat → Nat} {A : Nat → Prop} {p : Program} {l : Launch} {e : Env} {s : State} {m : MethodId} {args : Array Value} {below : List Frame} {meth : Method} {c : Code} (X : cX D i A p s m args meth c cX5_earn RX5 3 wsX5_earn none) {Q : vS → Prop} : ∀ (n : Nat) (a2 : Int32) (S : vS), e_X5_earn_now_sight_shares_2 Q n a2 S → cJ D A p l e (headSpec wsX5_earn rm_X5_earn_now_sight_shares).room s m args below meth c (MQ below (va_Qv Q (vB D i A (wC q i)) A) args s 0 0 A) 3 (wC q i S) [(0, .ref (q 4)), (1, .ref (q 41)), (2, .int a2)] 2 [] := by
  intro n
  induction n with
  | zero =>
    intro _ S h
    rw [e_X5_earn_now_sight_shares_2.eq_1] at h
    exact h.elim
  | succ n ih =>
    intro a2 S h
    rw [e_X5_earn_now_sight_shares_2.eq_2] at h
    refine j_iload_n X rfl 2 rfl dX5_earn_2 ?_
    refine j_bipush (v := (6 : Int32)) X (by decide) dX5_earn_3 ?_
    refine j_icmp_ge (tgt := 26) X dX5_earn_5 (by decide) (fun c1 => ?_) (fun c1 => ?_)
    · have h := h.1 c1
      exact j_vret X h dX5_earn_26
    · have h := h.2 c1
      refine j_aload_n X rfl 0 rfl dX5_earn_8 ?_
      refine jgC_now_purses X i_X5_earn_now_sight_shares_X5 (by decide +kernel) dX5_earn_9 ?_
      refine j_iload_n X rfl 2 rfl dX5_earn_12 ?_
      refine j_dup2 X rfl rfl dX5_earn_13 ?_
      obtain ⟨k2, h⟩ := h
      refine jlC_now_purses X k2 dX5_earn_14 ?_
      refine j_aload_n X rfl 1 rfl dX5_earn_15 ?_
      refine j_iload_n X rfl 2 rfl dX5_earn_16 ?_
      refine jlC_sight_shares X k2 dX5_earn_17 ?_
      refine j_iadd X dX5_earn_18 ?_
      refine jsC_now_purses X k2 dX5_earn_19 (fun S3 eS3 => ?_)
      have h := h S3 eS3
      refine j_iinc (dv := (1 : Int32)) (lv' := fun v4 => [(2, .int v4), (0, .ref (q 4)), (1, .ref (q 41))]) X dX5_earn_20 (pl := 2) rfl (by decide) (by decide) (fun _ => rfl) (fun v4 ev4 => ?_)
      have h := h v4 ev4
      refine j_goto (tgt := 2) X dX5_earn_23 (by decide) ?_
      refine j_loc [1, 2, 0] rfl ?_
      exact ih v4 S3 h
set_option maxRecDepth 100000 in
set_option maxHeartbeats 4000000 in
theorem c_X5_earn_now_sight_shares (l : Launch) (D : va_G) (i : Nat → ClassId) (q : Nat → Nat) (A : Nat → Prop) (S : vS) (Q : vS → Prop) (h : e_X5_earn_now_sight_shares S Q) : Met l yX5_earn wsX5_earn rm_X5_earn_now_sight_shares (va_Pc [.ref (q 4), .ref (q 41)] (vB D i A (wC q i) S)) (va_Qv Q (vB D i A (wC q i)) A) 0 0 A := by
  refine m_ofJ (own := RX5) (lv := [(0, .ref (q 4)), (1, .ref (q 41))]) rfl (by decide) rfl (Nat.le_of_ble_eq_true rfl) rfl ?_
  intro p e s m below meth c X
  unfold e_X5_earn_now_sight_shares at h
  refine j_iconst (v := (0 : Int32)) X (by decide) dX5_earn_0 ?_
  refine j_istore_n (lv' := [(2, .int (0 : Int32)), (0, .ref (q 4)), (1, .ref (q 41))]) X rfl (by decide) rfl dX5_earn_1 ?_
  refine j_loc [1, 2, 0] rfl ?_
  obtain ⟨j, h⟩ := h
  exact w_X5_earn_now_sight_shares_2 X j (0 : Int32) S h
set_option maxRecDepth 100000 in
theorem i_X6_turnDay_X5 : ∀ w ∈ u_ws RX5 TX5 7, w ∈ wsX6_turnDay := by decide +kernel
set_option maxRecDepth 100000 in
theorem i_X6_turnDay_X6 : ∀ w ∈ u_ws RX6 TX6 8, w ∈ wsX6_turnDay := by decide +kernel
abbrev rm_X6_turnDay : Room := { frames := 5, cells := 0, slots := 0, locals := 122 }
set_option maxRecDepth 100000 in
set_option maxHeartbeats 4000000 in
theorem c_X6_turnDay (l : Launch) (D : va_G) (i : Nat → ClassId) (q : Nat → Nat) (A : Nat → Prop) (S : vS) (Q : Int32 → vS → Prop) (h : e_X6_turnDay S Q) : Met l yX6_turnDay wsX6_turnDay rm_X6_turnDay (va_Pc [.ref (q 0)] (vB D i A (wC q i) S)) (va_Qi Q (vB D i A (wC q i)) A) 0 0 A := by
  refine m_ofJ (own := RX6) (lv := [(0, .ref (q 0))]) rfl (by decide) rfl (Nat.le_of_ble_eq_true rfl) rfl ?_
  intro p e s m below meth c X
  unfold e_X6_turnDay at h
  refine j_aload_n X rfl 0 rfl dX6_turnDay_0 ?_
  refine jgC_main_plan X i_X6_turnDay_X6 (by decide +kernel) dX6_turnDay_1 ?_
  refine j_aload_n X rfl 0 rfl dX6_turnDay_4 ?_
  refine jgC_main_now X i_X6_turnDay_X6 (by decide +kernel) dX6_turnDay_5 ?_
  refine jgC_now_today X i_X6_turnDay_X5 (by decide +kernel) dX6_turnDay_8 ?_
  refine j_Vi (st := []) X [.int (S.1 16)] 1 (c_X2_farOn_plan l D i q A (S.1 16) S _ h) (cwV 1 X.ts gX6_turnDay_X2_farOn rfl rfl rfl (by decide +kernel) ⟨Nat.le_of_ble_eq_true rfl, Nat.le_of_ble_eq_true rfl⟩) rfl rfl rfl rfl (Nat.le_of_ble_eq_true rfl) dX6_turnDay_11 (fun r2 S1 h => ?_)
  refine j_istore_n (lv' := [(1, .int r2), (0, .ref (q 0))]) X rfl (by decide) rfl dX6_turnDay_14 ?_
  refine j_aload_n X rfl 1 rfl dX6_turnDay_15 ?_
  refine jgC_main_now X i_X6_turnDay_X6 (by decide +kernel) dX6_turnDay_16 ?_
  refine j_dup X rfl dX6_turnDay_19 ?_
  refine jgC_now_today X i_X6_turnDay_X5 (by decide +kernel) dX6_turnDay_20 ?_
  refine j_iconst (v := (1 : Int32)) X (by decide) dX6_turnDay_23 ?_
  refine j_iadd X dX6_turnDay_24 ?_
  refine jpC_now_today X i_X6_turnDay_X5 (by decide +kernel) dX6_turnDay_25 (fun S3 eS3 => ?_)
  have h := h S3 eS3
  refine j_aload_n X rfl 1 rfl dX6_turnDay_28 ?_
  refine jgC_main_plan X i_X6_turnDay_X6 (by decide +kernel) dX6_turnDay_29 ?_
  refine j_aload_n X rfl 1 rfl dX6_turnDay_32 ?_
  refine jgC_main_now X i_X6_turnDay_X6 (by decide +kernel) dX6_turnDay_33 ?_
  refine jgC_now_today X i_X6_turnDay_X5 (by decide +kernel) dX6_turnDay_36 ?_
  refine j_Vi (st := []) X [.int (S3.1 16)] 1 (c_X2_farOn_plan l D i q A (S3.1 16) S3 _ h) (cwV 1 X.ts gX6_turnDay_X2_farOn rfl rfl rfl (by decide +kernel) ⟨Nat.le_of_ble_eq_true rfl, Nat.le_of_ble_eq_true rfl⟩) rfl rfl rfl rfl (Nat.le_of_ble_eq_true rfl) dX6_turnDay_39 (fun r5 S4 h => ?_)
  refine j_iload_n X rfl 0 rfl dX6_turnDay_42 ?_
  refine j_icmp_ne (tgt := 48) X dX6_turnDay_43 (by decide) (fun c6 => ?_) (fun c6 => ?_)
  · have h := h.1 c6
    refine j_aload_n X rfl 1 rfl dX6_turnDay_48 ?_
    refine jgC_main_sight X i_X6_turnDay_X6 (by decide +kernel) dX6_turnDay_49 ?_
    refine j_Vv (st := []) X [] 7 (c_X4_lookAll l D i q A S4 _ h) (cwV 0 X.ts gX6_turnDay_X4_lookAll rfl rfl rfl (by decide +kernel) ⟨Nat.le_of_ble_eq_true rfl, Nat.le_of_ble_eq_true rfl⟩) rfl rfl rfl rfl (Nat.le_of_ble_eq_true rfl) dX6_turnDay_52 (fun S7 h => ?_)
    refine j_iconst (v := (1 : Int32)) X (by decide) dX6_turnDay_55 ?_
    exact j_zret X rfl h dX6_turnDay_56
  · have h := h.2 c6
    refine j_iconst (v := (0 : Int32)) X (by decide) dX6_turnDay_46 ?_
    exact j_zret X rfl h dX6_turnDay_47
set_option maxRecDepth 100000 in
theorem i_X6_day_X4 : ∀ w ∈ u_ws RX4 TX4 8, w ∈ wsX6_day := by decide +kernel
set_option maxRecDepth 100000 in
theorem i_X6_day_X5 : ∀ w ∈ u_ws RX5 TX5 7, w ∈ wsX6_day := by decide +kernel
set_option maxRecDepth 100000 in
theorem i_X6_day_X6 : ∀ w ∈ u_ws RX6 TX6 8, w ∈ wsX6_day := by decide +kernel
abbrev rm_X6_day : Room := { frames := 6, cells := 0, slots := 0, locals := 143 }
set_option maxRecDepth 100000 in
set_option maxHeartbeats 4000000 in
theorem w_X6_day_43 {D : va_G} {i : Nat → ClassId} {q : Nat → Nat} {A : Nat → Prop} {p : Program} {l : Launch} {e : Env} {s : State} {m : MethodId} {args : Array Value} {below : List Frame} {meth : Method} {c : Code} (X : cX D i A p s m args meth c cX6_day RX6 3 wsX6_day (some .int)) {Q : Int32 → vS → Prop} : ∀ (n : Nat) (a1 : Int32) (a2 : Int32) (S : vS), e_X6_day_43 Q n a1 a2 S → cJ D A p l e (headSpec wsX6_day rm_X6_day).room s m args below meth c (MQ below (va_Qi Q (vB D i A (wC q i)) A) args s 0 0 A) 3 (wC q i S) [(0, .ref (q 0)), (1, .int a1), (2, .int a2)] 43 [] := by
  intro n
  induction n with
  | zero =>
    intro _ _ S h
    rw [e_X6_day_43.eq_1] at h
    exact h.elim
  | succ n ih =>
    intro a1 a2 S h
    rw [e_X6_day_43.eq_2] at h
    refine j_iload_n X rfl 2 rfl dX6_day_43 ?_
    refine j_iload_n X rfl 1 rfl dX6_day_44 ?_
    refine j_icmp_ge (tgt := 82) X dX6_day_45 (by decide) (fun c10 => ?_) (fun c10 => ?_)
    · have h := h.1 c10
      refine j_aload_n X rfl 0 rfl dX6_day_82 ?_
      refine jgC_main_now X i_X6_day_X6 (by decide +kernel) dX6_day_83 ?_
      refine jgC_now_today X i_X6_day_X5 (by decide +kernel) dX6_day_86 ?_
      exact j_iret X h dX6_day_89
    · have h := h.2 c10
      refine j_aload_n X rfl 0 rfl dX6_day_48 ?_
      refine jgC_main_now X i_X6_day_X6 (by decide +kernel) dX6_day_49 ?_
      refine j_aload_n X rfl 0 rfl dX6_day_52 ?_
      refine jgC_main_sight X i_X6_day_X6 (by decide +kernel) dX6_day_53 ?_
      refine jgC_sight_shares X i_X6_day_X4 (by decide +kernel) dX6_day_56 ?_
      refine j_Vv (st := []) X [.ref (q 41)] 4 (c_X5_earn_now_sight_shares l D i q A S _ h) (cwV 1 X.ts gX6_day_X5_earn rfl rfl rfl (by decide +kernel) ⟨Nat.le_of_ble_eq_true rfl, Nat.le_of_ble_eq_true rfl⟩) rfl rfl rfl rfl (Nat.le_of_ble_eq_true rfl) dX6_day_59 (fun S11 h => ?_)
      refine j_aload_n X rfl 0 rfl dX6_day_62 ?_
      refine j_Vi (st := []) X [] 0 (c_X6_turnDay l D i q A S11 _ h) (cwV 0 X.ts gX6_day_X6_turnDay rfl rfl rfl (by decide +kernel) ⟨Nat.le_of_ble_eq_true rfl, Nat.le_of_ble_eq_true rfl⟩) rfl rfl rfl rfl (Nat.le_of_ble_eq_true rfl) dX6_day_63 (fun r14 S13 h => ?_)
      refine j_if_eq (tgt := 76) X dX6_day_66 (by decide) (fun c15 => ?_) (fun c15 => ?_)
      · have h := h.1 c15
        refine j_iinc (dv := (1 : Int32)) (lv' := fun v16 => [(2, .int v16), (0, .ref (q 0)), (1, .int a1)]) X dX6_day_76 (pl := 2) rfl (by decide) (by decide) (fun _ => rfl) (fun v16 ev16 => ?_)
        have h := h v16 ev16
        refine j_goto (tgt := 43) X dX6_day_79 (by decide) ?_
        refine j_loc [1, 2, 0] rfl ?_
        exact ih a1 v16 S13 h
      · have h := h.2 c15
        refine j_aload_n X rfl 0 rfl dX6_day_69 ?_
        refine jgC_main_sight X i_X6_day_X6 (by decide +kernel) dX6_day_70 ?_
        refine j_Vv (st := []) X [] 7 (c_X4_countShares l D i q A S13 _ h) (cwV 0 X.ts gX6_day_X4_countShares rfl rfl rfl (by decide +kernel) ⟨Nat.le_of_ble_eq_true rfl, Nat.le_of_ble_eq_true rfl⟩) rfl rfl rfl rfl (Nat.le_of_ble_eq_true rfl) dX6_day_73 (fun S17 h => ?_)
        refine j_iinc (dv := (1 : Int32)) (lv' := fun v19 => [(2, .int v19), (0, .ref (q 0)), (1, .int a1)]) X dX6_day_76 (pl := 2) rfl (by decide) (by decide) (fun _ => rfl) (fun v19 ev19 => ?_)
        have h := h v19 ev19
        refine j_goto (tgt := 43) X dX6_day_79 (by decide) ?_
        refine j_loc [1, 2, 0] rfl ?_
        exact ih a1 v19 S17 h
set_option maxRecDepth 100000 in
set_option maxHeartbeats 4000000 in
theorem c_X6_day (l : Launch) (D : va_G) (i : Nat → ClassId) (q : Nat → Nat) (A : Nat → Prop) (x1 : Int32) (S : vS) (Q : Int32 → vS → Prop) (h : e_X6_day x1 S Q) : Met l yX6_day wsX6_day rm_X6_day (va_Pc [.ref (q 0), .int x1] (vB D i A (wC q i) S)) (va_Qi Q (vB D i A (wC q i)) A) 0 0 A := by
  refine m_ofJ (own := RX6) (lv := [(0, .ref (q 0)), (1, .int x1)]) rfl (by decide) rfl (Nat.le_of_ble_eq_true rfl) rfl ?_
  intro p e s m below meth c X
  unfold e_X6_day at h
  refine j_iload_n X rfl 1 rfl dX6_day_0 ?_
  refine j_iconst (v := (1 : Int32)) X (by decide) dX6_day_1 ?_
  refine j_icmp_lt (tgt := 11) X dX6_day_2 (by decide) (fun c1 => ?_) (fun c1 => ?_)
  · have h := h.1 c1
    refine j_ldc (v := (-1000000002 : Int32)) X (by decide +kernel) dX6_day_11 ?_
    exact j_iret X h dX6_day_13
  · have h := h.2 c1
    refine j_iload_n X rfl 1 rfl dX6_day_5 ?_
    refine j_bipush (v := (99 : Int32)) X (by decide) dX6_day_6 ?_
    refine j_icmp_le (tgt := 14) X dX6_day_8 (by decide) (fun c2 => ?_) (fun c2 => ?_)
    · have h := h.1 c2
      refine j_aload_n X rfl 0 rfl dX6_day_14 ?_
      refine jgC_main_plan X i_X6_day_X6 (by decide +kernel) dX6_day_15 ?_
      refine j_Vi (st := []) X [] 1 (c_X2_cells_plan l D i q A S _ h) (cwV 0 X.ts gX6_day_X2_cells rfl rfl rfl (by decide +kernel) ⟨Nat.le_of_ble_eq_true rfl, Nat.le_of_ble_eq_true rfl⟩) rfl rfl rfl rfl (Nat.le_of_ble_eq_true rfl) dX6_day_18 (fun r4 S3 h => ?_)
      refine j_if_ne (tgt := 27) X dX6_day_21 (by decide) (fun c5 => ?_) (fun c5 => ?_)
      · have h := h.1 c5
        refine j_aload_n X rfl 0 rfl dX6_day_27 ?_
        refine jgC_main_sight X i_X6_day_X6 (by decide +kernel) dX6_day_28 ?_
        refine j_Vv (st := []) X [] 7 (c_X4_lookAll l D i q A S3 _ h) (cwV 0 X.ts gX6_day_X4_lookAll rfl rfl rfl (by decide +kernel) ⟨Nat.le_of_ble_eq_true rfl, Nat.le_of_ble_eq_true rfl⟩) rfl rfl rfl rfl (Nat.le_of_ble_eq_true rfl) dX6_day_31 (fun S6 h => ?_)
        refine j_aload_n X rfl 0 rfl dX6_day_34 ?_
        refine jgC_main_sight X i_X6_day_X6 (by decide +kernel) dX6_day_35 ?_
        refine j_Vv (st := []) X [] 7 (c_X4_countShares l D i q A S6 _ h) (cwV 0 X.ts gX6_day_X4_countShares rfl rfl rfl (by decide +kernel) ⟨Nat.le_of_ble_eq_true rfl, Nat.le_of_ble_eq_true rfl⟩) rfl rfl rfl rfl (Nat.le_of_ble_eq_true rfl) dX6_day_38 (fun S8 h => ?_)
        refine j_iconst (v := (0 : Int32)) X (by decide) dX6_day_41 ?_
        refine j_istore_n (lv' := [(2, .int (0 : Int32)), (0, .ref (q 0)), (1, .int x1)]) X rfl (by decide) rfl dX6_day_42 ?_
        refine j_loc [1, 2, 0] rfl ?_
        obtain ⟨j, h⟩ := h
        exact w_X6_day_43 X j x1 (0 : Int32) S8 h
      · have h := h.2 c5
        refine j_ldc (v := (-1000000003 : Int32)) X (by decide +kernel) dX6_day_24 ?_
        exact j_iret X h dX6_day_26
    · have h := h.2 c2
      refine j_ldc (v := (-1000000002 : Int32)) X (by decide +kernel) dX6_day_11 ?_
      exact j_iret X h dX6_day_13
set_option maxRecDepth 100000 in
theorem i_X5_draw_now_X5 : ∀ w ∈ u_ws RX5 TX5 7, w ∈ wsX5_draw := by decide +kernel
abbrev rm_X5_draw_now : Room := { frames := 0, cells := 0, slots := 0, locals := 0 }
set_option maxRecDepth 100000 in
set_option maxHeartbeats 4000000 in
theorem c_X5_draw_now (l : Launch) (D : va_G) (i : Nat → ClassId) (q : Nat → Nat) (A : Nat → Prop) (x1 : Int32) (S : vS) (Q : Int32 → vS → Prop) (h : e_X5_draw_now x1 S Q) : Met l yX5_draw wsX5_draw rm_X5_draw_now (va_Pc [.ref (q 4), .int x1] (vB D i A (wC q i) S)) (va_Qi Q (vB D i A (wC q i)) A) 0 0 A := by
  refine m_ofJ (own := RX5) (lv := [(0, .ref (q 4)), (1, .int x1)]) rfl (by decide) rfl (Nat.le_of_ble_eq_true rfl) rfl ?_
  intro p e s m below meth c X
  unfold e_X5_draw_now at h
  refine j_aload_n X rfl 0 rfl dX5_draw_0 ?_
  refine j_aload_n X rfl 0 rfl dX5_draw_1 ?_
  refine jgC_now_drawn X i_X5_draw_now_X5 (by decide +kernel) dX5_draw_2 ?_
  refine j_i2l X dX5_draw_5 ?_
  refine j_ldc2 (v := (1103515245 : Int64)) X (by decide +kernel) dX5_draw_6 ?_
  refine j_lmul X dX5_draw_9 ?_
  refine j_ldc2 (v := (12345 : Int64)) X (by decide +kernel) dX5_draw_10 ?_
  refine j_ladd X dX5_draw_13 ?_
  refine j_ldc2 (v := (2147483647 : Int64)) X (by decide +kernel) dX5_draw_14 ?_
  refine j_land X dX5_draw_17 ?_
  refine j_l2i X dX5_draw_18 ?_
  refine jpC_now_drawn X i_X5_draw_now_X5 (by decide +kernel) dX5_draw_19 (fun S1 eS1 => ?_)
  have h := h S1 eS1
  refine j_iload_n X rfl 1 rfl dX5_draw_22 ?_
  refine j_iconst (v := (1 : Int32)) X (by decide) dX5_draw_23 ?_
  refine j_icmp_ge (tgt := 31) X dX5_draw_24 (by decide) (fun c2 => ?_) (fun c2 => ?_)
  · have h := h.1 c2
    refine j_aload_n X rfl 0 rfl dX5_draw_31 ?_
    refine jgC_now_drawn X i_X5_draw_now_X5 (by decide +kernel) dX5_draw_32 ?_
    refine j_ldc (v := (65536 : Int32)) X (by decide +kernel) dX5_draw_35 ?_
    refine j_idiv X (by decide) dX5_draw_37 ?_
    refine j_iload_n X rfl 1 rfl dX5_draw_38 ?_
    obtain ⟨k3, h⟩ := h
    refine j_irem X k3 dX5_draw_39 ?_
    exact j_iret X h dX5_draw_40
  · have h := h.2 c2
    refine j_iconst (v := (0 : Int32)) X (by decide) dX5_draw_27 ?_
    refine j_goto (tgt := 40) X dX5_draw_28 (by decide) ?_
    exact j_iret X h dX5_draw_40
set_option maxRecDepth 100000 in
theorem i_X4_lookOver_X2 : ∀ w ∈ u_ws RX2 TX2 14, w ∈ wsX4_lookOver := by decide +kernel
set_option maxRecDepth 100000 in
theorem i_X4_lookOver_X4 : ∀ w ∈ u_ws RX4 TX4 8, w ∈ wsX4_lookOver := by decide +kernel
set_option maxRecDepth 100000 in
theorem i_X4_lookOver_X5 : ∀ w ∈ u_ws RX5 TX5 7, w ∈ wsX4_lookOver := by decide +kernel
abbrev rm_X4_lookOver : Room := { frames := 3, cells := 0, slots := 0, locals := 77 }
set_option maxRecDepth 100000 in
set_option maxHeartbeats 4000000 in
theorem w_X4_lookOver_50 {D : va_G} {i : Nat → ClassId} {q : Nat → Nat} {A : Nat → Prop} {p : Program} {l : Launch} {e : Env} {s : State} {m : MethodId} {args : Array Value} {below : List Frame} {meth : Method} {c : Code} (X : cX D i A p s m args meth c cX4_lookOver RX4 7 wsX4_lookOver none) {K18 : Int32 → Int32 → Int32 → Int32 → vS → Prop} {K35 : Int32 → Int32 → Int32 → Int32 → Int32 → vS → Prop} {Q : vS → Prop} (hK18 : ∀ (a1 : Int32) (a2 : Int32) (a3 : Int32) (a4 : Int32) (S : vS), K18 a1 a2 a3 a4 S → cJ D A p l e (headSpec wsX4_lookOver rm_X4_lookOver).room s m args below meth c (MQ below (va_Qv Q (vB D i A (wC q i)) A) args s 0 0 A) 7 (wC q i S) [(0, .ref (q 7)), (1, .int a1), (2, .int a2), (3, .int a3), (4, .int a4)] 18 []) (hK35 : ∀ (a1 : Int32) (a2 : Int32) (a3 : Int32) (a4 : Int32) (a5 : Int32) (S : vS), K35 a1 a2 a3 a4 a5 S → cJ D A p l e (headSpec wsX4_lookOver rm_X4_lookOver).room s m args below meth c (MQ below (va_Qv Q (vB D i A (wC q i)) A) args s 0 0 A) 7 (wC q i S) [(0, .ref (q 7)), (1, .int a1), (2, .int a2), (3, .int a3), (4, .int a4), (5, .int a5)] 35 []) : ∀ (n : Nat) (a1 : Int32) (a2 : Int32) (a3 : Int32) (a4 : Int32) (a5 : Int32) (a6 : Int32) (S : vS), e_X4_lookOver_50 K18 K35 Q n a1 a2 a3 a4 a5 a6 S → cJ D A p l e (headSpec wsX4_lookOver rm_X4_lookOver).room s m args below meth c (MQ below (va_Qv Q (vB D i A (wC q i)) A) args s 0 0 A) 7 (wC q i S) [(0, .ref (q 7)), (1, .int a1), (2, .int a2), (3, .int a3), (4, .int a4), (5, .int a5), (6, .int a6)] 50 [] := by
  intro n
  induction n with
  | zero =>
    intro _ _ _ _ _ _ S h
    rw [e_X4_lookOver_50.eq_1] at h
    exact h.elim
  | succ n ih =>
    intro a1 a2 a3 a4 a5 a6 S h
    rw [e_X4_lookOver_50.eq_2] at h
    refine j_iload X 6 rfl dX4_lookOver_50 ?_
    refine j_aload_n X rfl 0 rfl dX4_lookOver_52 ?_
    refine jgC_sight_plan X i_X4_lookOver_X4 (by decide +kernel) dX4_lookOver_53 ?_
    refine jgC_plan_width X i_X4_lookOver_X2 (by decide +kernel) dX4_lookOver_56 ?_
    refine j_icmp_ge (tgt := 104) X dX4_lookOver_59 (by decide) (fun c7 => ?_) (fun c7 => ?_)
    · have h := h.1 c7
      refine j_iinc (dv := (1 : Int32)) (lv' := fun v8 => [(5, .int v8), (0, .ref (q 7)), (1, .int a1), (2, .int a2), (3, .int a3), (4, .int a4), (6, .int a6)]) X dX4_lookOver_104 (pl := 5) rfl (by decide) (by decide) (fun _ => rfl) (fun v8 ev8 => ?_)
      have h := h v8 ev8
      refine j_goto (tgt := 35) X dX4_lookOver_107 (by decide) ?_
      refine j_loc [1, 2, 3, 4, 5, 0] rfl ?_
      exact hK35 a1 a2 a3 a4 v8 S h
    · have h := h.2 c7
      refine j_aload_n X rfl 0 rfl dX4_lookOver_62 ?_
      refine j_iload X 4 rfl dX4_lookOver_63 ?_
      refine j_iload X 6 rfl dX4_lookOver_65 ?_
      refine j_iload X 5 rfl dX4_lookOver_67 ?_
      refine j_iload_n X rfl 2 rfl dX4_lookOver_69 ?_
      refine j_Vi (st := []) X [.int a4, .int a6, .int a5, .int a2] 7 (c_X4_lineX l D i q A a4 a6 a5 a2 S _ h) (cwV 4 X.ts gX4_lookOver_X4_lineX rfl rfl rfl (by decide +kernel) ⟨Nat.le_of_ble_eq_true rfl, Nat.le_of_ble_eq_true rfl⟩) rfl rfl rfl rfl (Nat.le_of_ble_eq_true rfl) dX4_lookOver_70 (fun r10 S9 h => ?_)
      refine j_iload_n X rfl 1 rfl dX4_lookOver_73 ?_
      refine j_icmp_ne (tgt := 98) X dX4_lookOver_74 (by decide) (fun c11 => ?_) (fun c11 => ?_)
      · have h := h.1 c11
        refine j_iinc (dv := (1 : Int32)) (lv' := fun v12 => [(6, .int v12), (0, .ref (q 7)), (1, .int a1), (2, .int a2), (3, .int a3), (4, .int a4), (5, .int a5)]) X dX4_lookOver_98 (pl := 6) rfl (by decide) (by decide) (fun _ => rfl) (fun v12 ev12 => ?_)
        have h := h v12 ev12
        refine j_goto (tgt := 50) X dX4_lookOver_101 (by decide) ?_
        refine j_loc [1, 2, 3, 4, 5, 6, 0] rfl ?_
        exact ih a1 a2 a3 a4 a5 v12 S9 h
      · have h := h.2 c11
        refine j_aload_n X rfl 0 rfl dX4_lookOver_77 ?_
        refine j_iload X 4 rfl dX4_lookOver_78 ?_
        refine j_iload X 6 rfl dX4_lookOver_80 ?_
        refine j_iload X 5 rfl dX4_lookOver_82 ?_
        refine j_aload_n X rfl 0 rfl dX4_lookOver_84 ?_
        refine j_iload X 4 rfl dX4_lookOver_85 ?_
        refine j_iload X 6 rfl dX4_lookOver_87 ?_
        refine j_iload X 5 rfl dX4_lookOver_89 ?_
        refine j_iload_n X rfl 3 rfl dX4_lookOver_91 ?_
        refine j_Vi (st := [.int a5, .int a6, .int a4, .ref (q 7)]) X [.int a4, .int a6, .int a5, .int a3] 7 (c_X4_canSee l D i q A a4 a6 a5 a3 S9 _ h) (cwV 4 X.ts gX4_lookOver_X4_canSee rfl rfl rfl (by decide +kernel) ⟨Nat.le_of_ble_eq_true rfl, Nat.le_of_ble_eq_true rfl⟩) rfl rfl rfl rfl (Nat.le_of_ble_eq_true rfl) dX4_lookOver_92 (fun r14 S13 h => ?_)
        refine j_Vv (st := []) X [.int a4, .int a6, .int a5, .int r14] 7 (c_X4_note l D i q A a4 a6 a5 r14 S13 _ h) (cwV 4 X.ts gX4_lookOver_X4_note rfl rfl rfl (by decide +kernel) ⟨Nat.le_of_ble_eq_true rfl, Nat.le_of_ble_eq_true rfl⟩) rfl rfl rfl rfl (Nat.le_of_ble_eq_true rfl) dX4_lookOver_95 (fun S15 h => ?_)
        refine j_iinc (dv := (1 : Int32)) (lv' := fun v17 => [(6, .int v17), (0, .ref (q 7)), (1, .int a1), (2, .int a2), (3, .int a3), (4, .int a4), (5, .int a5)]) X dX4_lookOver_98 (pl := 6) rfl (by decide) (by decide) (fun _ => rfl) (fun v17 ev17 => ?_)
        have h := h v17 ev17
        refine j_goto (tgt := 50) X dX4_lookOver_101 (by decide) ?_
        refine j_loc [1, 2, 3, 4, 5, 6, 0] rfl ?_
        exact ih a1 a2 a3 a4 a5 v17 S15 h
set_option maxRecDepth 100000 in
set_option maxHeartbeats 4000000 in
theorem w_X4_lookOver_35 {D : va_G} {i : Nat → ClassId} {q : Nat → Nat} {A : Nat → Prop} {p : Program} {l : Launch} {e : Env} {s : State} {m : MethodId} {args : Array Value} {below : List Frame} {meth : Method} {c : Code} (X : cX D i A p s m args meth c cX4_lookOver RX4 7 wsX4_lookOver none) {K18 : Int32 → Int32 → Int32 → Int32 → vS → Prop} {Q : vS → Prop} (hK18 : ∀ (a1 : Int32) (a2 : Int32) (a3 : Int32) (a4 : Int32) (S : vS), K18 a1 a2 a3 a4 S → cJ D A p l e (headSpec wsX4_lookOver rm_X4_lookOver).room s m args below meth c (MQ below (va_Qv Q (vB D i A (wC q i)) A) args s 0 0 A) 7 (wC q i S) [(0, .ref (q 7)), (1, .int a1), (2, .int a2), (3, .int a3), (4, .int a4)] 18 []) : ∀ (n : Nat) (a1 : Int32) (a2 : Int32) (a3 : Int32) (a4 : Int32) (a5 : Int32) (S : vS), e_X4_lookOver_35 K18 Q n a1 a2 a3 a4 a5 S → cJ D A p l e (headSpec wsX4_lookOver rm_X4_lookOver).room s m args below meth c (MQ below (va_Qv Q (vB D i A (wC q i)) A) args s 0 0 A) 7 (wC q i S) [(0, .ref (q 7)), (1, .int a1), (2, .int a2), (3, .int a3), (4, .int a4), (5, .int a5)] 35 [] := by
  intro n
  induction n with
  | zero =>
    intro _ _ _ _ _ S h
    rw [e_X4_lookOver_35.eq_1] at h
    exact h.elim
  | succ n ih =>
    intro a1 a2 a3 a4 a5 S h
    rw [e_X4_lookOver_35.eq_2] at h
    refine j_iload X 5 rfl dX4_lookOver_35 ?_
    refine j_aload_n X rfl 0 rfl dX4_lookOver_37 ?_
    refine jgC_sight_plan X i_X4_lookOver_X4 (by decide +kernel) dX4_lookOver_38 ?_
    refine jgC_plan_height X i_X4_lookOver_X2 (by decide +kernel) dX4_lookOver_41 ?_
    refine j_icmp_ge (tgt := 110) X dX4_lookOver_44 (by decide) (fun c5 => ?_) (fun c5 => ?_)
    · have h := h.1 c5
      refine j_iinc (dv := (1 : Int32)) (lv' := fun v6 => [(4, .int v6), (0, .ref (q 7)), (1, .int a1), (2, .int a2), (3, .int a3), (5, .int a5)]) X dX4_lookOver_110 (pl := 4) rfl (by decide) (by decide) (fun _ => rfl) (fun v6 ev6 => ?_)
      have h := h v6 ev6
      refine j_goto (tgt := 18) X dX4_lookOver_113 (by decide) ?_
      refine j_loc [1, 2, 3, 4, 0] rfl ?_
      exact hK18 a1 a2 a3 v6 S h
    · have h := h.2 c5
      refine j_iconst (v := (0 : Int32)) X (by decide) dX4_lookOver_47 ?_
      refine j_istore (lv' := [(6, .int (0 : Int32)), (0, .ref (q 7)), (1, .int a1), (2, .int a2), (3, .int a3), (4, .int a4), (5, .int a5)]) X (by decide) rfl dX4_lookOver_48 ?_
      refine j_loc [1, 2, 3, 4, 5, 6, 0] rfl ?_
      obtain ⟨j, h⟩ := h
      exact w_X4_lookOver_50 X hK18 (fun y0 y1 y2 y3 y4 S h => ih y0 y1 y2 y3 y4 S h) j a1 a2 a3 a4 a5 (0 : Int32) S h
set_option maxRecDepth 100000 in
set_option maxHeartbeats 4000000 in
theorem w_X4_lookOver_18 {D : va_G} {i : Nat → ClassId} {q : Nat → Nat} {A : Nat → Prop} {p : Program} {l : Launch} {e : Env} {s : State} {m : MethodId} {args : Array Value} {below : List Frame} {meth : Method} {c : Code} (X : cX D i A p s m args meth c cX4_lookOver RX4 7 wsX4_lookOver none) {Q : vS → Prop} : ∀ (n : Nat) (a1 : Int32) (a2 : Int32) (a3 : Int32) (a4 : Int32) (S : vS), e_X4_lookOver_18 Q n a1 a2 a3 a4 S → cJ D A p l e (headSpec wsX4_lookOver rm_X4_lookOver).room s m args below meth c (MQ below (va_Qv Q (vB D i A (wC q i)) A) args s 0 0 A) 7 (wC q i S) [(0, .ref (q 7)), (1, .int a1), (2, .int a2), (3, .int a3), (4, .int a4)] 18 [] := by
  intro n
  induction n with
  | zero =>
    intro _ _ _ _ S h
    rw [e_X4_lookOver_18.eq_1] at h
    exact h.elim
  | succ n ih =>
    intro a1 a2 a3 a4 S h
    rw [e_X4_lookOver_18.eq_2] at h
    refine j_iload X 4 rfl dX4_lookOver_18 ?_
    refine j_aload_n X rfl 0 rfl dX4_lookOver_20 ?_
    refine jgC_sight_plan X i_X4_lookOver_X4 (by decide +kernel) dX4_lookOver_21 ?_
    refine jgC_plan_men X i_X4_lookOver_X2 (by decide +kernel) dX4_lookOver_24 ?_
    refine j_icmp_ge (tgt := 116) X dX4_lookOver_27 (by decide) (fun c3 => ?_) (fun c3 => ?_)
    · have h := h.1 c3
      exact j_vret X h dX4_lookOver_116
    · have h := h.2 c3
      refine j_iload_n X rfl 2 rfl dX4_lookOver_30 ?_
      refine j_iconst (v := (1 : Int32)) X (by decide) dX4_lookOver_31 ?_
      refine j_iadd X dX4_lookOver_32 ?_
      refine j_topi (fun v4 ev4 => ?_)
      have h := h v4 ev4
      refine j_istore (lv' := [(5, .int v4), (0, .ref (q 7)), (1, .int a1), (2, .int a2), (3, .int a3), (4, .int a4)]) X (by decide) rfl dX4_lookOver_33 ?_
      refine j_loc [1, 2, 3, 4, 5, 0] rfl ?_
      obtain ⟨j, h⟩ := h
      exact w_X4_lookOver_35 X (fun y0 y1 y2 y3 S h => ih y0 y1 y2 y3 S h) j a1 a2 a3 a4 v4 S h
set_option maxRecDepth 100000 in
set_option maxHeartbeats 4000000 in
theorem c_X4_lookOver (l : Launch) (D : va_G) (i : Nat → ClassId) (q : Nat → Nat) (A : Nat → Prop) (x1 : Int32) (x2 : Int32) (S : vS) (Q : vS → Prop) (h : e_X4_lookOver x1 x2 S Q) : Met l yX4_lookOver wsX4_lookOver rm_X4_lookOver (va_Pc [.ref (q 7), .int x1, .int x2] (vB D i A (wC q i) S)) (va_Qv Q (vB D i A (wC q i)) A) 0 0 A := by
  refine m_ofJ (own := RX4) (lv := [(0, .ref (q 7)), (1, .int x1), (2, .int x2)]) rfl (by decide) rfl (Nat.le_of_ble_eq_true rfl) rfl ?_
  intro p e s m below meth c X
  unfold e_X4_lookOver at h
  refine j_aload_n X rfl 0 rfl dX4_lookOver_0 ?_
  refine jgC_sight_plan X i_X4_lookOver_X4 (by decide +kernel) dX4_lookOver_1 ?_
  refine j_aload_n X rfl 0 rfl dX4_lookOver_4 ?_
  refine jgC_sight_now X i_X4_lookOver_X4 (by decide +kernel) dX4_lookOver_5 ?_
  refine jgC_now_today X i_X4_lookOver_X5 (by decide +kernel) dX4_lookOver_8 ?_
  refine j_Vi (st := []) X [.int (S.1 16)] 1 (c_X2_farOn_plan l D i q A (S.1 16) S _ h) (cwV 1 X.ts gX4_lookOver_X2_farOn rfl rfl rfl (by decide +kernel) ⟨Nat.le_of_ble_eq_true rfl, Nat.le_of_ble_eq_true rfl⟩) rfl rfl rfl rfl (Nat.le_of_ble_eq_true rfl) dX4_lookOver_11 (fun r2 S1 h => ?_)
  refine j_istore_n (lv' := [(3, .int r2), (0, .ref (q 7)), (1, .int x1), (2, .int x2)]) X rfl (by decide) rfl dX4_lookOver_14 ?_
  refine j_iconst (v := (0 : Int32)) X (by decide) dX4_lookOver_15 ?_
  refine j_istore (lv' := [(4, .int (0 : Int32)), (3, .int r2), (0, .ref (q 7)), (1, .int x1), (2, .int x2)]) X (by decide) rfl dX4_lookOver_16 ?_
  refine j_loc [2, 3, 4, 1, 0] rfl ?_
  obtain ⟨j, h⟩ := h
  exact w_X4_lookOver_18 X j x1 x2 r2 (0 : Int32) S1 h
set_option maxRecDepth 100000 in
theorem i_X6_actByDraws_X2 : ∀ w ∈ u_ws RX2 TX2 14, w ∈ wsX6_actByDraws := by decide +kernel
set_option maxRecDepth 100000 in
theorem i_X6_actByDraws_X5 : ∀ w ∈ u_ws RX5 TX5 7, w ∈ wsX6_actByDraws := by decide +kernel
set_option maxRecDepth 100000 in
theorem i_X6_actByDraws_X6 : ∀ w ∈ u_ws RX6 TX6 8, w ∈ wsX6_actByDraws := by decide +kernel
abbrev rm_X6_actByDraws : Room := { frames := 4, cells := 0, slots := 0, locals := 103 }
set_option maxRecDepth 100000 in
set_option maxHeartbeats 4000000 in
theorem w_X6_actByDraws_72 {D : va_G} {i : Nat → ClassId} {q : Nat → Nat} {A : Nat → Prop} {p : Program} {l : Launch} {e : Env} {s : State} {m : MethodId} {args : Array Value} {below : List Frame} {meth : Method} {c : Code} (X : cX D i A p s m args meth c cX6_actByDraws RX6 4 wsX6_actByDraws none) {Q : vS → Prop} : ∀ (S : vS), e_X6_actByDraws_72 Q S → cJ D A p l e (headSpec wsX6_actByDraws rm_X6_actByDraws).room s m args below meth c (MQ below (va_Qv Q (vB D i A (wC q i)) A) args s 0 0 A) 4 (wC q i S) [(0, .ref (q 0))] 72 [] := by
  intro S h
  unfold e_X6_actByDraws_72 at h
  refine j_aload_n X rfl 0 rfl dX6_actByDraws_72 ?_
  refine jgC_main_now X i_X6_actByDraws_X6 (by decide +kernel) dX6_actByDraws_73 ?_
  refine j_aload_n X rfl 0 rfl dX6_actByDraws_76 ?_
  refine jgC_main_plan X i_X6_actByDraws_X6 (by decide +kernel) dX6_actByDraws_77 ?_
  refine j_Vi (st := [.ref (q 4)]) X [] 1 (c_X2_cells_plan l D i q A S _ h) (cwV 0 X.ts gX6_actByDraws_X2_cells rfl rfl rfl (by decide +kernel) ⟨Nat.le_of_ble_eq_true rfl, Nat.le_of_ble_eq_true rfl⟩) rfl rfl rfl rfl (Nat.le_of_ble_eq_true rfl) dX6_actByDraws_80 (fun r11 S10 h => ?_)
  refine j_Vi (st := []) X [.int r11] 4 (c_X5_draw_now l D i q A r11 S10 _ h) (cwV 1 X.ts gX6_actByDraws_X5_draw rfl rfl rfl (by decide +kernel) ⟨Nat.le_of_ble_eq_true rfl, Nat.le_of_ble_eq_true rfl⟩) rfl rfl rfl rfl (Nat.le_of_ble_eq_true rfl) dX6_actByDraws_83 (fun r13 S12 h => ?_)
  refine j_istore_n (lv' := [(2, .int r13), (0, .ref (q 0))]) X rfl (by decide) rfl dX6_actByDraws_86 ?_
  refine j_aload_n X rfl 1 rfl dX6_actByDraws_87 ?_
  refine jgC_main_now X i_X6_actByDraws_X6 (by decide +kernel) dX6_actByDraws_88 ?_
  refine jgC_now_stands X i_X6_actByDraws_X5 (by decide +kernel) dX6_actByDraws_91 ?_
  refine j_iload_n X rfl 0 rfl dX6_actByDraws_94 ?_
  refine j_aload_n X rfl 1 rfl dX6_actByDraws_95 ?_
  refine jgC_main_now X i_X6_actByDraws_X6 (by decide +kernel) dX6_actByDraws_96 ?_
  refine j_bipush (v := (10 : Int32)) X (by decide) dX6_actByDraws_99 ?_
  refine j_Vi (st := [.int r13, .ref (q 33)]) X [.int (10 : Int32)] 4 (c_X5_draw_now l D i q A (10 : Int32) S12 _ h) (cwV 1 X.ts gX6_actByDraws_X5_draw rfl rfl rfl (by decide +kernel) ⟨Nat.le_of_ble_eq_true rfl, Nat.le_of_ble_eq_true rfl⟩) rfl rfl rfl rfl (Nat.le_of_ble_eq_true rfl) dX6_actByDraws_101 (fun r15 S14 h => ?_)
  obtain ⟨k16, h⟩ := h
  refine jsC_now_stands X k16 dX6_actByDraws_104 (fun S17 eS17 => ?_)
  have h := h S17 eS17
  refine j_iconst (v := (1 : Int32)) X (by decide) dX6_actByDraws_105 ?_
  refine j_aload_n X rfl 1 rfl dX6_actByDraws_106 ?_
  refine jgC_main_plan X i_X6_actByDraws_X6 (by decide +kernel) dX6_actByDraws_107 ?_
  refine jgC_plan_width X i_X6_actByDraws_X2 (by decide +kernel) dX6_actByDraws_110 ?_
  refine j_mmax X (by decide +kernel) (Nat.le_of_ble_eq_true rfl) (Nat.le_of_ble_eq_true rfl) dX6_actByDraws_113 ?_
  refine j_topi (fun v18 ev18 => ?_)
  have h := h v18 ev18
  refine j_istore_n (lv' := [(3, .int v18), (2, .int r13), (0, .ref (q 0))]) X rfl (by decide) rfl dX6_actByDraws_116 ?_
  refine j_aload_n X rfl 2 rfl dX6_actByDraws_117 ?_
  refine jgC_main_sight X i_X6_actByDraws_X6 (by decide +kernel) dX6_actByDraws_118 ?_
  refine j_iload_n X rfl 1 rfl dX6_actByDraws_121 ?_
  refine j_iload_n X rfl 0 rfl dX6_actByDraws_122 ?_
  obtain ⟨k19, h⟩ := h
  refine j_irem X k19 dX6_actByDraws_123 ?_
  refine j_iload_n X rfl 1 rfl dX6_actByDraws_124 ?_
  refine j_iload_n X rfl 0 rfl dX6_actByDraws_125 ?_
  refine j_idiv X k19 dX6_actByDraws_126 ?_
  refine j_Vv (st := []) X [.int (r13 - r13 / v18 * v18), .int (r13 / v18)] 7 (c_X4_lookOver l D i q A (r13 - r13 / v18 * v18) (r13 / v18) S17 _ h) (cwV 2 X.ts gX6_actByDraws_X4_lookOver rfl rfl rfl (by decide +kernel) ⟨Nat.le_of_ble_eq_true rfl, Nat.le_of_ble_eq_true rfl⟩) rfl rfl rfl rfl (Nat.le_of_ble_eq_true rfl) dX6_actByDraws_127 (fun S20 h => ?_)
  exact j_vret X h dX6_actByDraws_130
set_option maxRecDepth 100000 in
set_option maxHeartbeats 4000000 in
theorem c_X6_actByDraws (l : Launch) (D : va_G) (i : Nat → ClassId) (q : Nat → Nat) (A : Nat → Prop) (S : vS) (Q : vS → Prop) (h : e_X6_actByDraws S Q) : Met l yX6_actByDraws wsX6_actByDraws rm_X6_actByDraws (va_Pc [.ref (q 0)] (vB D i A (wC q i) S)) (va_Qv Q (vB D i A (wC q i)) A) 0 0 A := by
  refine m_ofJ (own := RX6) (lv := [(0, .ref (q 0))]) rfl (by decide) rfl (Nat.le_of_ble_eq_true rfl) rfl ?_
  intro p e s m below meth c X
  unfold e_X6_actByDraws at h
  refine j_aload_n X rfl 0 rfl dX6_actByDraws_0 ?_
  refine jgC_main_now X i_X6_actByDraws_X6 (by decide +kernel) dX6_actByDraws_1 ?_
  refine j_aload_n X rfl 0 rfl dX6_actByDraws_4 ?_
  refine jgC_main_plan X i_X6_actByDraws_X6 (by decide +kernel) dX6_actByDraws_5 ?_
  refine jgC_plan_men X i_X6_actByDraws_X2 (by decide +kernel) dX6_actByDraws_8 ?_
  refine j_Vi (st := []) X [.int (S.1 2)] 4 (c_X5_draw_now l D i q A (S.1 2) S _ h) (cwV 1 X.ts gX6_actByDraws_X5_draw rfl rfl rfl (by decide +kernel) ⟨Nat.le_of_ble_eq_true rfl, Nat.le_of_ble_eq_true rfl⟩) rfl rfl rfl rfl (Nat.le_of_ble_eq_true rfl) dX6_actByDraws_11 (fun r2 S1 h => ?_)
  refine j_istore_n (lv' := [(1, .int r2), (0, .ref (q 0))]) X rfl (by decide) rfl dX6_actByDraws_14 ?_
  refine j_aload_n X rfl 1 rfl dX6_actByDraws_15 ?_
  refine jgC_main_now X i_X6_actByDraws_X6 (by decide +kernel) dX6_actByDraws_16 ?_
  refine jgC_now_purses X i_X6_actByDraws_X5 (by decide +kernel) dX6_actByDraws_19 ?_
  refine j_iload_n X rfl 0 rfl dX6_actByDraws_22 ?_
  obtain ⟨k3, h⟩ := h
  refine jlC_now_purses X k3 dX6_actByDraws_23 ?_
  refine j_aload_n X rfl 1 rfl dX6_actByDraws_24 ?_
  refine jgC_main_plan X i_X6_actByDraws_X6 (by decide +kernel) dX6_actByDraws_25 ?_
  refine jgC_plan_storeyCost X i_X6_actByDraws_X2 (by decide +kernel) dX6_actByDraws_28 ?_
  refine j_icmp_lt (tgt := 72) X dX6_actByDraws_31 (by decide) (fun c4 => ?_) (fun c4 => ?_)
  · have h := h.1 c4
    refine j_loc [1] rfl ?_
    exact w_X6_actByDraws_72 X S1 h
  · have h := h.2 c4
    refine j_aload_n X rfl 1 rfl dX6_actByDraws_34 ?_
    refine jgC_main_now X i_X6_actByDraws_X6 (by decide +kernel) dX6_actByDraws_35 ?_
    refine jgC_now_storeys X i_X6_actByDraws_X5 (by decide +kernel) dX6_actByDraws_38 ?_
    refine j_iload_n X rfl 0 rfl dX6_actByDraws_41 ?_
    refine jlC_now_storeys X k3 dX6_actByDraws_42 ?_
    refine j_bipush (v := (9 : Int32)) X (by decide) dX6_actByDraws_43 ?_
    refine j_icmp_ge (tgt := 72) X dX6_actByDraws_45 (by decide) (fun c5 => ?_) (fun c5 => ?_)
    · have h := h.1 c5
      refine j_loc [1] rfl ?_
      exact w_X6_actByDraws_72 X S1 h
    · have h := h.2 c5
      refine j_aload_n X rfl 1 rfl dX6_actByDraws_48 ?_
      refine jgC_main_now X i_X6_actByDraws_X6 (by decide +kernel) dX6_actByDraws_49 ?_
      refine j_iload_n X rfl 0 rfl dX6_actByDraws_52 ?_
      refine j_aload_n X rfl 1 rfl dX6_actByDraws_53 ?_
      refine jgC_main_plan X i_X6_actByDraws_X6 (by decide +kernel) dX6_actByDraws_54 ?_
      refine jgC_plan_storeyCost X i_X6_actByDraws_X2 (by decide +kernel) dX6_actByDraws_57 ?_
      refine j_Vv (st := []) X [.int r2, .int (S1.1 5)] 4 (c_X5_addStorey_now l D i q A r2 (S1.1 5) S1 _ h) (cwV 2 X.ts gX6_actByDraws_X5_addStorey rfl rfl rfl (by decide +kernel) ⟨Nat.le_of_ble_eq_true rfl, Nat.le_of_ble_eq_true rfl⟩) rfl rfl rfl rfl (Nat.le_of_ble_eq_true rfl) dX6_actByDraws_60 (fun S6 h => ?_)
      refine j_aload_n X rfl 1 rfl dX6_actByDraws_63 ?_
      refine jgC_main_sight X i_X6_actByDraws_X6 (by decide +kernel) dX6_actByDraws_64 ?_
      refine j_iload_n X rfl 0 rfl dX6_actByDraws_67 ?_
      refine j_Vv (st := []) X [.int r2] 7 (c_X4_lookBy l D i q A r2 S6 _ h) (cwV 1 X.ts gX6_actByDraws_X4_lookBy rfl rfl rfl (by decide +kernel) ⟨Nat.le_of_ble_eq_true rfl, Nat.le_of_ble_eq_true rfl⟩) rfl rfl rfl rfl (Nat.le_of_ble_eq_true rfl) dX6_actByDraws_68 (fun S8 h => ?_)
      exact j_vret X h dX6_actByDraws_71
set_option maxRecDepth 100000 in
theorem i_X6_drift_X2 : ∀ w ∈ u_ws RX2 TX2 14, w ∈ wsX6_drift := by decide +kernel
set_option maxRecDepth 100000 in
theorem i_X6_drift_X4 : ∀ w ∈ u_ws RX4 TX4 8, w ∈ wsX6_drift := by decide +kernel
set_option maxRecDepth 100000 in
theorem i_X6_drift_X5 : ∀ w ∈ u_ws RX5 TX5 7, w ∈ wsX6_drift := by decide +kernel
set_option maxRecDepth 100000 in
theorem i_X6_drift_X6 : ∀ w ∈ u_ws RX6 TX6 8, w ∈ wsX6_drift := by decide +kernel
abbrev rm_X6_drift : Room := { frames := 6, cells := 0, slots := 0, locals := 143 }
set_option maxRecDepth 100000 in
set_option maxHeartbeats 4000000 in
theorem w_X6_drift_46 {D : va_G} {i : Nat → ClassId} {q : Nat → Nat} {A : Nat → Prop} {p : Program} {l : Launch} {e : Env} {s : State} {m : MethodId} {args : Array Value} {below : List Frame} {meth : Method} {c : Code} (X : cX D i A p s m args meth c cX6_drift RX6 3 wsX6_drift (some .int)) {Q : Int32 → vS → Prop} : ∀ (n : Nat) (a1 : Int32) (a2 : Int32) (S : vS), e_X6_drift_46 Q n a1 a2 S → cJ D A p l e (headSpec wsX6_drift rm_X6_drift).room s m args below meth c (MQ below (va_Qi Q (vB D i A (wC q i)) A) args s 0 0 A) 3 (wC q i S) [(0, .ref (q 0)), (1, .int a1), (2, .int a2)] 46 [] := by
  intro n
  induction n with
  | zero =>
    intro _ _ S h
    rw [e_X6_drift_46.eq_1] at h
    exact h.elim
  | succ n ih =>
    intro a1 a2 S h
    rw [e_X6_drift_46.eq_2] at h
    refine j_iload_n X rfl 2 rfl dX6_drift_46 ?_
    refine j_iload_n X rfl 1 rfl dX6_drift_47 ?_
    refine j_icmp_ge (tgt := 87) X dX6_drift_48 (by decide) (fun c9 => ?_) (fun c9 => ?_)
    · have h := h.1 c9
      refine j_aload_n X rfl 0 rfl dX6_drift_87 ?_
      refine jgC_main_now X i_X6_drift_X6 (by decide +kernel) dX6_drift_88 ?_
      refine jgC_now_today X i_X6_drift_X5 (by decide +kernel) dX6_drift_91 ?_
      exact j_iret X h dX6_drift_94
    · have h := h.2 c9
      refine j_aload_n X rfl 0 rfl dX6_drift_51 ?_
      refine j_Vv (st := []) X [] 0 (c_X6_actByDraws l D i q A S _ h) (cwV 0 X.ts gX6_drift_X6_actByDraws rfl rfl rfl (by decide +kernel) ⟨Nat.le_of_ble_eq_true rfl, Nat.le_of_ble_eq_true rfl⟩) rfl rfl rfl rfl (Nat.le_of_ble_eq_true rfl) dX6_drift_52 (fun S10 h => ?_)
      refine j_aload_n X rfl 0 rfl dX6_drift_55 ?_
      refine jgC_main_sight X i_X6_drift_X6 (by decide +kernel) dX6_drift_56 ?_
      refine j_Vv (st := []) X [] 7 (c_X4_countShares l D i q A S10 _ h) (cwV 0 X.ts gX6_drift_X4_countShares rfl rfl rfl (by decide +kernel) ⟨Nat.le_of_ble_eq_true rfl, Nat.le_of_ble_eq_true rfl⟩) rfl rfl rfl rfl (Nat.le_of_ble_eq_true rfl) dX6_drift_59 (fun S12 h => ?_)
      refine j_aload_n X rfl 0 rfl dX6_drift_62 ?_
      refine jgC_main_now X i_X6_drift_X6 (by decide +kernel) dX6_drift_63 ?_
      refine j_aload_n X rfl 0 rfl dX6_drift_66 ?_
      refine jgC_main_sight X i_X6_drift_X6 (by decide +kernel) dX6_drift_67 ?_
      refine jgC_sight_shares X i_X6_drift_X4 (by decide +kernel) dX6_drift_70 ?_
      refine j_Vv (st := []) X [.ref (q 41)] 4 (c_X5_earn_now_sight_shares l D i q A S12 _ h) (cwV 1 X.ts gX6_drift_X5_earn rfl rfl rfl (by decide +kernel) ⟨Nat.le_of_ble_eq_true rfl, Nat.le_of_ble_eq_true rfl⟩) rfl rfl rfl rfl (Nat.le_of_ble_eq_true rfl) dX6_drift_73 (fun S14 h => ?_)
      refine j_aload_n X rfl 0 rfl dX6_drift_76 ?_
      refine j_Vi (st := []) X [] 0 (c_X6_turnDay l D i q A S14 _ h) (cwV 0 X.ts gX6_drift_X6_turnDay rfl rfl rfl (by decide +kernel) ⟨Nat.le_of_ble_eq_true rfl, Nat.le_of_ble_eq_true rfl⟩) rfl rfl rfl rfl (Nat.le_of_ble_eq_true rfl) dX6_drift_77 (fun r17 S16 h => ?_)
      refine j_pop X rfl dX6_drift_80 ?_
      refine j_iinc (dv := (1 : Int32)) (lv' := fun v18 => [(2, .int v18), (0, .ref (q 0)), (1, .int a1)]) X dX6_drift_81 (pl := 2) rfl (by decide) (by decide) (fun _ => rfl) (fun v18 ev18 => ?_)
      have h := h v18 ev18
      refine j_goto (tgt := 46) X dX6_drift_84 (by decide) ?_
      refine j_loc [1, 2, 0] rfl ?_
      exact ih a1 v18 S16 h
set_option maxRecDepth 100000 in
set_option maxHeartbeats 4000000 in
theorem c_X6_drift (l : Launch) (D : va_G) (i : Nat → ClassId) (q : Nat → Nat) (A : Nat → Prop) (x1 : Int32) (S : vS) (Q : Int32 → vS → Prop) (h : e_X6_drift x1 S Q) : Met l yX6_drift wsX6_drift rm_X6_drift (va_Pc [.ref (q 0), .int x1] (vB D i A (wC q i) S)) (va_Qi Q (vB D i A (wC q i)) A) 0 0 A := by
  refine m_ofJ (own := RX6) (lv := [(0, .ref (q 0)), (1, .int x1)]) rfl (by decide) rfl (Nat.le_of_ble_eq_true rfl) rfl ?_
  intro p e s m below meth c X
  unfold e_X6_drift at h
  refine j_iload_n X rfl 1 rfl dX6_drift_0 ?_
  refine j_iconst (v := (1 : Int32)) X (by decide) dX6_drift_1 ?_
  refine j_icmp_lt (tgt := 11) X dX6_drift_2 (by decide) (fun c1 => ?_) (fun c1 => ?_)
  · have h := h.1 c1
    refine j_ldc (v := (-1000000002 : Int32)) X (by decide +kernel) dX6_drift_11 ?_
    exact j_iret X h dX6_drift_13
  · have h := h.2 c1
    refine j_iload_n X rfl 1 rfl dX6_drift_5 ?_
    refine j_bipush (v := (99 : Int32)) X (by decide) dX6_drift_6 ?_
    refine j_icmp_le (tgt := 14) X dX6_drift_8 (by decide) (fun c2 => ?_) (fun c2 => ?_)
    · have h := h.1 c2
      refine j_aload_n X rfl 0 rfl dX6_drift_14 ?_
      refine jgC_main_plan X i_X6_drift_X6 (by decide +kernel) dX6_drift_15 ?_
      refine j_Vi (st := []) X [] 1 (c_X2_cells_plan l D i q A S _ h) (cwV 0 X.ts gX6_drift_X2_cells rfl rfl rfl (by decide +kernel) ⟨Nat.le_of_ble_eq_true rfl, Nat.le_of_ble_eq_true rfl⟩) rfl rfl rfl rfl (Nat.le_of_ble_eq_true rfl) dX6_drift_18 (fun r4 S3 h => ?_)
      refine j_if_eq (tgt := 34) X dX6_drift_21 (by decide) (fun c5 => ?_) (fun c5 => ?_)
      · have h := h.1 c5
        refine j_ldc (v := (-1000000003 : Int32)) X (by decide +kernel) dX6_drift_34 ?_
        exact j_iret X h dX6_drift_36
      · have h := h.2 c5
        refine j_aload_n X rfl 0 rfl dX6_drift_24 ?_
        refine jgC_main_plan X i_X6_drift_X6 (by decide +kernel) dX6_drift_25 ?_
        refine jgC_plan_men X i_X6_drift_X2 (by decide +kernel) dX6_drift_28 ?_
        refine j_if_ne (tgt := 37) X dX6_drift_31 (by decide) (fun c6 => ?_) (fun c6 => ?_)
        · have h := h.1 c6
          refine j_aload_n X rfl 0 rfl dX6_drift_37 ?_
          refine jgC_main_sight X i_X6_drift_X6 (by decide +kernel) dX6_drift_38 ?_
          refine j_Vv (st := []) X [] 7 (c_X4_lookAll l D i q A S3 _ h) (cwV 0 X.ts gX6_drift_X4_lookAll rfl rfl rfl (by decide +kernel) ⟨Nat.le_of_ble_eq_true rfl, Nat.le_of_ble_eq_true rfl⟩) rfl rfl rfl rfl (Nat.le_of_ble_eq_true rfl) dX6_drift_41 (fun S7 h => ?_)
          refine j_iconst (v := (0 : Int32)) X (by decide) dX6_drift_44 ?_
          refine j_istore_n (lv' := [(2, .int (0 : Int32)), (0, .ref (q 0)), (1, .int x1)]) X rfl (by decide) rfl dX6_drift_45 ?_
          refine j_loc [1, 2, 0] rfl ?_
          obtain ⟨j, h⟩ := h
          exact w_X6_drift_46 X j x1 (0 : Int32) S7 h
        · have h := h.2 c6
          refine j_ldc (v := (-1000000003 : Int32)) X (by decide +kernel) dX6_drift_34 ?_
          exact j_iret X h dX6_drift_36
    · have h := h.2 c2
      refine j_ldc (v := (-1000000002 : Int32)) X (by decide +kernel) dX6_drift_11 ?_
      exact j_iret X h dX6_drift_13
set_option maxRecDepth 100000 in
theorem i_X6_begin_X5 : ∀ w ∈ u_ws RX5 TX5 7, w ∈ wsX6_begin := by decide +kernel
set_option maxRecDepth 100000 in
theorem i_X6_begin_X6 : ∀ w ∈ u_ws RX6 TX6 8, w ∈ wsX6_begin := by decide +kernel
abbrev rm_X6_begin : Room := { frames := 2, cells := 0, slots := 0, locals := 150 }
set_option maxRecDepth 100000 in
set_option maxHeartbeats 4000000 in
theorem c_X6_begin (l : Launch) (D : va_G) (i : Nat → ClassId) (q : Nat → Nat) (A : Nat → Prop) (S : vS) (Q : Int32 → vS → Prop) (h : e_X6_begin S Q) : Met l yX6_begin wsX6_begin rm_X6_begin (va_Pc [.ref (q 0)] (vB D i A (wC q i) S)) (va_Qi Q (vB D i A (wC q i)) A) 0 0 A := by
  refine m_ofJ (own := RX6) (lv := [(0, .ref (q 0))]) rfl (by decide) rfl (Nat.le_of_ble_eq_true rfl) rfl ?_
  intro p e s m below meth c X
  unfold e_X6_begin at h
  refine j_aload_n X rfl 0 rfl dX6_begin_0 ?_
  refine jgC_main_now X i_X6_begin_X6 (by decide +kernel) dX6_begin_1 ?_
  refine jgC_now_today X i_X6_begin_X5 (by decide +kernel) dX6_begin_4 ?_
  refine j_topi (fun v1 ev1 => ?_)
  have h := h v1 ev1
  refine j_istore_n (lv' := [(1, .int v1), (0, .ref (q 0))]) X rfl (by decide) rfl dX6_begin_7 ?_
  refine j_aload_n X rfl 1 rfl dX6_begin_8 ?_
  refine jgC_main_now X i_X6_begin_X6 (by decide +kernel) dX6_begin_9 ?_
  refine j_aload_n X rfl 1 rfl dX6_begin_12 ?_
  refine jgC_main_plan X i_X6_begin_X6 (by decide +kernel) dX6_begin_13 ?_
  refine j_Vv (st := []) X [.ref (q 1)] 4 (c_X5_restart_now_plan l D i q A S _ h) (cwV 1 X.ts gX6_begin_X5_restart rfl rfl rfl (by decide +kernel) ⟨Nat.le_of_ble_eq_true rfl, Nat.le_of_ble_eq_true rfl⟩) rfl rfl rfl rfl (Nat.le_of_ble_eq_true rfl) dX6_begin_16 (fun S2 h => ?_)
  refine j_iload_n X rfl 0 rfl dX6_begin_19 ?_
  exact j_iret X h dX6_begin_20
set_option maxRecDepth 100000 in
theorem i_X4_tryTree_X4 : ∀ w ∈ u_ws RX4 TX4 8, w ∈ wsX4_tryTree := by decide +kernel
set_option maxRecDepth 100000 in
theorem i_X4_tryTree_X5 : ∀ w ∈ u_ws RX5 TX5 7, w ∈ wsX4_tryTree := by decide +kernel
abbrev rm_X4_tryTree : Room := { frames := 5, cells := 0, slots := 0, locals := 128 }
set_option maxRecDepth 100000 in
set_option maxHeartbeats 4000000 in
theorem w_X4_tryTree_73 {D : va_G} {i : Nat → ClassId} {q : Nat → Nat} {A : Nat → Prop} {p : Program} {l : Launch} {e : Env} {s : State} {m : MethodId} {args : Array Value} {below : List Frame} {meth : Method} {c : Code} (X : cX D i A p s m args meth c cX4_tryTree RX4 8 wsX4_tryTree none) {Q : vS → Prop} : ∀ (a5 : Int32) (a6 : Int32) (S : vS), e_X4_tryTree_73 Q a5 a6 S → cJ D A p l e (headSpec wsX4_tryTree rm_X4_tryTree).room s m args below meth c (MQ below (va_Qv Q (vB D i A (wC q i)) A) args s 0 0 A) 8 (wC q i S) [(0, .ref (q 7)), (5, .int a5), (6, .int a6)] 73 [] := by
  intro a5 a6 S h
  unfold e_X4_tryTree_73 at h
  refine j_aload_n X rfl 0 rfl dX4_tryTree_73 ?_
  refine jgC_sight_now X i_X4_tryTree_X4 (by decide +kernel) dX4_tryTree_74 ?_
  refine jgC_now_stands X i_X4_tryTree_X5 (by decide +kernel) dX4_tryTree_77 ?_
  refine j_iload X 1 rfl dX4_tryTree_80 ?_
  refine j_iload X 2 rfl dX4_tryTree_82 ?_
  obtain ⟨k14, h⟩ := h
  refine jsC_now_stands X k14 dX4_tryTree_84 (fun S15 eS15 => ?_)
  have h := h S15 eS15
  refine j_aload_n X rfl 0 rfl dX4_tryTree_85 ?_
  refine jgC_sight_seersBefore X i_X4_tryTree_X4 (by decide +kernel) dX4_tryTree_86 ?_
  refine j_iconst (v := (0 : Int32)) X (by decide) dX4_tryTree_89 ?_
  refine j_aload_n X rfl 0 rfl dX4_tryTree_90 ?_
  refine jgC_sight_seers X i_X4_tryTree_X4 (by decide +kernel) dX4_tryTree_91 ?_
  refine j_iconst (v := (0 : Int32)) X (by decide) dX4_tryTree_94 ?_
  refine j_bipush (v := (60 : Int32)) X (by decide) dX4_tryTree_95 ?_
  refine j_copyi (ws' := wC q i (sr S15 30 (va_cpy (S15.2.1 32) (S15.2.1 30) ((0 : Int32)).toNatClampNeg ((0 : Int32)).toNatClampNeg ((60 : Int32)).toNatClampNeg))) X 42 40 (by decide +kernel) rfl rfl (by decide) (by decide) (by decide) (by decide) (by decide) rfl (Nat.le_of_ble_eq_true rfl) (Nat.le_of_ble_eq_true rfl) dX4_tryTree_97 ?_
  obtain ⟨S16, eS16⟩ : ∃ z, z = sr S15 30 (va_cpy (S15.2.1 32) (S15.2.1 30) ((0 : Int32)).toNatClampNeg ((0 : Int32)).toNatClampNeg ((60 : Int32)).toNatClampNeg) := ⟨_, rfl⟩
  rw [← eS16]
  have h := h S16 eS16
  exact j_vret X h dX4_tryTree_100
set_option maxRecDepth 100000 in
set_option maxHeartbeats 4000000 in
theorem c_X4_tryTree (l : Launch) (D : va_G) (i : Nat → ClassId) (q : Nat → Nat) (A : Nat → Prop) (x1 : Int32) (x2 : Int32) (x3 : Int32) (x4 : Int32) (S : vS) (Q : vS → Prop) (h : e_X4_tryTree x1 x2 x3 x4 S Q) : Met l yX4_tryTree wsX4_tryTree rm_X4_tryTree (va_Pc [.ref (q 7), .int x1, .int x2, .int x3, .int x4] (vB D i A (wC q i) S)) (va_Qv Q (vB D i A (wC q i)) A) 0 0 A := by
  refine m_ofJ (own := RX4) (lv := [(0, .ref (q 7)), (1, .int x1), (2, .int x2), (3, .int x3), (4, .int x4)]) rfl (by decide) rfl (Nat.le_of_ble_eq_true rfl) rfl ?_
  intro p e s m below meth c X
  unfold e_X4_tryTree at h
  refine j_aload_n X rfl 0 rfl dX4_tryTree_0 ?_
  refine jgC_sight_plan X i_X4_tryTree_X4 (by decide +kernel) dX4_tryTree_1 ?_
  refine j_iload_n X rfl 2 rfl dX4_tryTree_4 ?_
  refine j_iload_n X rfl 3 rfl dX4_tryTree_5 ?_
  refine j_Vi (st := []) X [.int x2, .int x3] 1 (c_X2_numberOf_plan l D i q A x2 x3 S _ h) (cwV 2 X.ts gX4_tryTree_X2_numberOf rfl rfl rfl (by decide +kernel) ⟨Nat.le_of_ble_eq_true rfl, Nat.le_of_ble_eq_true rfl⟩) rfl rfl rfl rfl (Nat.le_of_ble_eq_true rfl) dX4_tryTree_6 (fun r2 S1 h => ?_)
  refine j_istore (lv' := [(5, .int r2), (0, .ref (q 7)), (1, .int x1), (2, .int x2), (3, .int x3), (4, .int x4)]) X (by decide) rfl dX4_tryTree_9 ?_
  refine j_aload_n X rfl 1 rfl dX4_tryTree_11 ?_
  refine jgC_sight_now X i_X4_tryTree_X4 (by decide +kernel) dX4_tryTree_12 ?_
  refine jgC_now_stands X i_X4_tryTree_X5 (by decide +kernel) dX4_tryTree_15 ?_
  refine j_iload X 0 rfl dX4_tryTree_18 ?_
  obtain ⟨k3, h⟩ := h
  refine jlC_now_stands X k3 dX4_tryTree_20 ?_
  refine j_topi (fun v4 ev4 => ?_)
  have h := h v4 ev4
  refine j_istore (lv' := [(6, .int v4), (5, .int r2), (0, .ref (q 7)), (1, .int x1), (2, .int x2), (3, .int x3), (4, .int x4)]) X (by decide) rfl dX4_tryTree_21 ?_
  refine j_aload_n X rfl 2 rfl dX4_tryTree_23 ?_
  refine jgC_sight_now X i_X4_tryTree_X4 (by decide +kernel) dX4_tryTree_24 ?_
  refine jgC_now_stands X i_X4_tryTree_X5 (by decide +kernel) dX4_tryTree_27 ?_
  refine j_iload X 1 rfl dX4_tryTree_30 ?_
  refine j_iload X 6 rfl dX4_tryTree_32 ?_
  refine jsC_now_stands X k3 dX4_tryTree_34 (fun S5 eS5 => ?_)
  have h := h S5 eS5
  refine j_aload_n X rfl 2 rfl dX4_tryTree_35 ?_
  refine j_iload_n X rfl 4 rfl dX4_tryTree_36 ?_
  refine j_iload_n X rfl 5 rfl dX4_tryTree_37 ?_
  refine j_Vv (st := []) X [.int x2, .int x3] 7 (c_X4_lookOver l D i q A x2 x3 S5 _ h) (cwV 2 X.ts gX4_tryTree_X4_lookOver rfl rfl rfl (by decide +kernel) ⟨Nat.le_of_ble_eq_true rfl, Nat.le_of_ble_eq_true rfl⟩) rfl rfl rfl rfl (Nat.le_of_ble_eq_true rfl) dX4_tryTree_38 (fun S6 h => ?_)
  refine j_aload_n X rfl 2 rfl dX4_tryTree_41 ?_
  refine j_iload_n X rfl 3 rfl dX4_tryTree_42 ?_
  refine j_Vi (st := []) X [.int x1] 7 (c_X4_shareOf l D i q A x1 S6 _ h) (cwV 1 X.ts gX4_tryTree_X4_shareOf rfl rfl rfl (by decide +kernel) ⟨Nat.le_of_ble_eq_true rfl, Nat.le_of_ble_eq_true rfl⟩) rfl rfl rfl rfl (Nat.le_of_ble_eq_true rfl) dX4_tryTree_43 (fun r9 S8 h => ?_)
  refine j_istore (lv' := [(7, .int r9), (6, .int v4), (5, .int r2), (0, .ref (q 7)), (1, .int x1), (2, .int x2), (3, .int x3), (4, .int x4)]) X (by decide) rfl dX4_tryTree_46 ?_
  refine j_iload X 0 rfl dX4_tryTree_48 ?_
  refine j_aload_n X rfl 3 rfl dX4_tryTree_50 ?_
  refine jgC_sight_treeShare X i_X4_tryTree_X4 (by decide +kernel) dX4_tryTree_51 ?_
  refine j_icmp_le (tgt := 73) X dX4_tryTree_54 (by decide) (fun c10 => ?_) (fun c10 => ?_)
  · have h := h.1 c10
    refine j_loc [3, 2, 1] rfl ?_
    exact w_X4_tryTree_73 X r2 v4 S8 h
  · have h := h.2 c10
    refine j_aload_n X rfl 3 rfl dX4_tryTree_57 ?_
    refine j_iload X 0 rfl dX4_tryTree_58 ?_
    refine jpC_sight_treeShare X i_X4_tryTree_X4 (by decide +kernel) dX4_tryTree_60 (fun S11 eS11 => ?_)
    have h := h S11 eS11
    refine j_aload_n X rfl 3 rfl dX4_tryTree_63 ?_
    refine j_iload_n X rfl 5 rfl dX4_tryTree_64 ?_
    refine jpC_sight_treeX X i_X4_tryTree_X4 (by decide +kernel) dX4_tryTree_65 (fun S12 eS12 => ?_)
    have h := h S12 eS12
    refine j_aload_n X rfl 3 rfl dX4_tryTree_68 ?_
    refine j_iload_n X rfl 6 rfl dX4_tryTree_69 ?_
    refine jpC_sight_treeY X i_X4_tryTree_X4 (by decide +kernel) dX4_tryTree_70 (fun S13 eS13 => ?_)
    have h := h S13 eS13
    refine j_loc [3, 2, 1] rfl ?_
    exact w_X4_tryTree_73 X r2 v4 S13 h
set_option maxRecDepth 100000 in
theorem i_X4_findTree_X2 : ∀ w ∈ u_ws RX2 TX2 14, w ∈ wsX4_findTree := by decide +kernel
set_option maxRecDepth 100000 in
theorem i_X4_findTree_X4 : ∀ w ∈ u_ws RX4 TX4 8, w ∈ wsX4_findTree := by decide +kernel
abbrev rm_X4_findTree : Room := { frames := 6, cells := 0, slots := 0, locals := 155 }
set_option maxRecDepth 100000 in
set_option maxHeartbeats 4000000 in
theorem w_X4_findTree_40 {D : va_G} {i : Nat → ClassId} {q : Nat → Nat} {A : Nat → Prop} {p : Program} {l : Launch} {e : Env} {s : State} {m : MethodId} {args : Array Value} {below : List Frame} {meth : Method} {c : Code} (X : cX D i A p s m args meth c cX4_findTree RX4 5 wsX4_findTree none) {K26 : Int32 → Int32 → Int32 → vS → Prop} {Q : vS → Prop} (hK26 : ∀ (a1 : Int32) (a2 : Int32) (a3 : Int32) (S : vS), K26 a1 a2 a3 S → cJ D A p l e (headSpec wsX4_findTree rm_X4_findTree).room s m args below meth c (MQ below (va_Qv Q (vB D i A (wC q i)) A) args s 0 0 A) 5 (wC q i S) [(0, .ref (q 7)), (1, .int a1), (2, .int a2), (3, .int a3)] 26 []) : ∀ (n : Nat) (a1 : Int32) (a2 : Int32) (a3 : Int32) (a4 : Int32) (S : vS), e_X4_findTree_40 K26 Q n a1 a2 a3 a4 S → cJ D A p l e (headSpec wsX4_findTree rm_X4_findTree).room s m args below meth c (MQ below (va_Qv Q (vB D i A (wC q i)) A) args s 0 0 A) 5 (wC q i S) [(0, .ref (q 7)), (1, .int a1), (2, .int a2), (3, .int a3), (4, .int a4)] 40 [] := by
  intro n
  induction n with
  | zero =>
    intro _ _ _ _ S h
    rw [e_X4_findTree_40.eq_1] at h
    exact h.elim
  | succ n ih =>
    intro a1 a2 a3 a4 S h
    rw [e_X4_findTree_40.eq_2] at h
    refine j_iload X 4 rfl dX4_findTree_40 ?_
    refine j_aload_n X rfl 0 rfl dX4_findTree_42 ?_
    refine jgC_sight_plan X i_X4_findTree_X4 (by decide +kernel) dX4_findTree_43 ?_
    refine jgC_plan_width X i_X4_findTree_X2 (by decide +kernel) dX4_findTree_46 ?_
    refine j_icmp_ge (tgt := 67) X dX4_findTree_49 (by decide) (fun c6 => ?_) (fun c6 => ?_)
    · have h := h.1 c6
      refine j_iinc (dv := (1 : Int32)) (lv' := fun v7 => [(3, .int v7), (0, .ref (q 7)), (1, .int a1), (2, .int a2), (4, .int a4)]) X dX4_findTree_67 (pl := 3) rfl (by decide) (by decide) (fun _ => rfl) (fun v7 ev7 => ?_)
      have h := h v7 ev7
      refine j_goto (tgt := 26) X dX4_findTree_70 (by decide) ?_
      refine j_loc [1, 2, 3, 0] rfl ?_
      exact hK26 a1 a2 v7 S h
    · have h := h.2 c6
      refine j_aload_n X rfl 0 rfl dX4_findTree_52 ?_
      refine j_iload_n X rfl 1 rfl dX4_findTree_53 ?_
      refine j_iload X 4 rfl dX4_findTree_54 ?_
      refine j_iload_n X rfl 3 rfl dX4_findTree_56 ?_
      refine j_iload_n X rfl 2 rfl dX4_findTree_57 ?_
      refine j_Vv (st := []) X [.int a1, .int a4, .int a3, .int a2] 7 (c_X4_tryTree l D i q A a1 a4 a3 a2 S _ h) (cwV 4 X.ts gX4_findTree_X4_tryTree rfl rfl rfl (by decide +kernel) ⟨Nat.le_of_ble_eq_true rfl, Nat.le_of_ble_eq_true rfl⟩) rfl rfl rfl rfl (Nat.le_of_ble_eq_true rfl) dX4_findTree_58 (fun S8 h => ?_)
      refine j_iinc (dv := (1 : Int32)) (lv' := fun v10 => [(4, .int v10), (0, .ref (q 7)), (1, .int a1), (2, .int a2), (3, .int a3)]) X dX4_findTree_61 (pl := 4) rfl (by decide) (by decide) (fun _ => rfl) (fun v10 ev10 => ?_)
      have h := h v10 ev10
      refine j_goto (tgt := 40) X dX4_findTree_64 (by decide) ?_
      refine j_loc [1, 2, 3, 4, 0] rfl ?_
      exact ih a1 a2 a3 v10 S8 h
set_option maxRecDepth 100000 in
set_option maxHeartbeats 4000000 in
theorem w_X4_findTree_26 {D : va_G} {i : Nat → ClassId} {q : Nat → Nat} {A : Nat → Prop} {p : Program} {l : Launch} {e : Env} {s : State} {m : MethodId} {args : Array Value} {below : List Frame} {meth : Method} {c : Code} (X : cX D i A p s m args meth c cX4_findTree RX4 5 wsX4_findTree none) {Q : vS → Prop} : ∀ (n : Nat) (a1 : Int32) (a2 : Int32) (a3 : Int32) (S : vS), e_X4_findTree_26 Q n a1 a2 a3 S → cJ D A p l e (headSpec wsX4_findTree rm_X4_findTree).room s m args below meth c (MQ below (va_Qv Q (vB D i A (wC q i)) A) args s 0 0 A) 5 (wC q i S) [(0, .ref (q 7)), (1, .int a1), (2, .int a2), (3, .int a3)] 26 [] := by
  intro n
  induction n with
  | zero =>
    intro _ _ _ S h
    rw [e_X4_findTree_26.eq_1] at h
    exact h.elim
  | succ n ih =>
    intro a1 a2 a3 S h
    rw [e_X4_findTree_26.eq_2] at h
    refine j_iload_n X rfl 3 rfl dX4_findTree_26 ?_
    refine j_aload_n X rfl 0 rfl dX4_findTree_27 ?_
    refine jgC_sight_plan X i_X4_findTree_X4 (by decide +kernel) dX4_findTree_28 ?_
    refine jgC_plan_height X i_X4_findTree_X2 (by decide +kernel) dX4_findTree_31 ?_
    refine j_icmp_ge (tgt := 73) X dX4_findTree_34 (by decide) (fun c5 => ?_) (fun c5 => ?_)
    · have h := h.1 c5
      exact j_vret X h dX4_findTree_73
    · have h := h.2 c5
      refine j_iconst (v := (0 : Int32)) X (by decide) dX4_findTree_37 ?_
      refine j_istore (lv' := [(4, .int (0 : Int32)), (0, .ref (q 7)), (1, .int a1), (2, .int a2), (3, .int a3)]) X (by decide) rfl dX4_findTree_38 ?_
      refine j_loc [1, 2, 3, 4, 0] rfl ?_
      obtain ⟨j, h⟩ := h
      exact w_X4_findTree_40 X (fun y0 y1 y2 S h => ih y0 y1 y2 S h) j a1 a2 a3 (0 : Int32) S h
set_option maxRecDepth 100000 in
set_option maxHeartbeats 4000000 in
theorem c_X4_findTree (l : Launch) (D : va_G) (i : Nat → ClassId) (q : Nat → Nat) (A : Nat → Prop) (x1 : Int32) (x2 : Int32) (S : vS) (Q : vS → Prop) (h : e_X4_findTree x1 x2 S Q) : Met l yX4_findTree wsX4_findTree rm_X4_findTree (va_Pc [.ref (q 7), .int x1, .int x2] (vB D i A (wC q i) S)) (va_Qv Q (vB D i A (wC q i)) A) 0 0 A := by
  refine m_ofJ (own := RX4) (lv := [(0, .ref (q 7)), (1, .int x1), (2, .int x2)]) rfl (by decide) rfl (Nat.le_of_ble_eq_true rfl) rfl ?_
  intro p e s m below meth c X
  unfold e_X4_findTree at h
  refine j_aload_n X rfl 0 rfl dX4_findTree_0 ?_
  refine j_Vv (st := []) X [] 7 (c_X4_lookAll l D i q A S _ h) (cwV 0 X.ts gX4_findTree_X4_lookAll rfl rfl rfl (by decide +kernel) ⟨Nat.le_of_ble_eq_true rfl, Nat.le_of_ble_eq_true rfl⟩) rfl rfl rfl rfl (Nat.le_of_ble_eq_true rfl) dX4_findTree_1 (fun S1 h => ?_)
  refine j_aload_n X rfl 0 rfl dX4_findTree_4 ?_
  refine jgC_sight_seers X i_X4_findTree_X4 (by decide +kernel) dX4_findTree_5 ?_
  refine j_iconst (v := (0 : Int32)) X (by decide) dX4_findTree_8 ?_
  refine j_aload_n X rfl 0 rfl dX4_findTree_9 ?_
  refine jgC_sight_seersBefore X i_X4_findTree_X4 (by decide +kernel) dX4_findTree_10 ?_
  refine j_iconst (v := (0 : Int32)) X (by decide) dX4_findTree_13 ?_
  refine j_bipush (v := (60 : Int32)) X (by decide) dX4_findTree_14 ?_
  refine j_copyi (ws' := wC q i (sr S1 32 (va_cpy (S1.2.1 30) (S1.2.1 32) ((0 : Int32)).toNatClampNeg ((0 : Int32)).toNatClampNeg ((60 : Int32)).toNatClampNeg))) X 40 42 (by decide +kernel) rfl rfl (by decide) (by decide) (by decide) (by decide) (by decide) rfl (Nat.le_of_ble_eq_true rfl) (Nat.le_of_ble_eq_true rfl) dX4_findTree_16 ?_
  obtain ⟨S3, eS3⟩ : ∃ z, z = sr S1 32 (va_cpy (S1.2.1 30) (S1.2.1 32) ((0 : Int32)).toNatClampNeg ((0 : Int32)).toNatClampNeg ((60 : Int32)).toNatClampNeg) := ⟨_, rfl⟩
  rw [← eS3]
  have h := h S3 eS3
  refine j_aload_n X rfl 0 rfl dX4_findTree_19 ?_
  refine j_iconst (v := (-1 : Int32)) X (by decide) dX4_findTree_20 ?_
  refine jpC_sight_treeShare X i_X4_findTree_X4 (by decide +kernel) dX4_findTree_21 (fun S4 eS4 => ?_)
  have h := h S4 eS4
  refine j_iconst (v := (0 : Int32)) X (by decide) dX4_findTree_24 ?_
  refine j_istore_n (lv' := [(3, .int (0 : Int32)), (0, .ref (q 7)), (1, .int x1), (2, .int x2)]) X rfl (by decide) rfl dX4_findTree_25 ?_
  refine j_loc [1, 2, 3, 0] rfl ?_
  obtain ⟨j, h⟩ := h
  exact w_X4_findTree_26 X j x1 x2 (0 : Int32) S4 h
set_option maxRecDepth 100000 in
theorem i_X6_tree_X4 : ∀ w ∈ u_ws RX4 TX4 8, w ∈ wsX6_tree := by decide +kernel
set_option maxRecDepth 100000 in
theorem i_X6_tree_X6 : ∀ w ∈ u_ws RX6 TX6 8, w ∈ wsX6_tree := by decide +kernel
abbrev rm_X6_tree : Room := { frames := 7, cells := 0, slots := 0, locals := 179 }
set_option maxRecDepth 100000 in
set_option maxHeartbeats 4000000 in
theorem c_X6_tree (l : Launch) (D : va_G) (i : Nat → ClassId) (q : Nat → Nat) (A : Nat → Prop) (x1 : Int32) (x2 : Int32) (x3 : Int32) (S : vS) (Q : Int32 → vS → Prop) (h : e_X6_tree x1 x2 x3 S Q) : Met l yX6_tree wsX6_tree rm_X6_tree (va_Pc [.ref (q 0), .int x1, .int x2, .int x3] (vB D i A (wC q i) S)) (va_Qi Q (vB D i A (wC q i)) A) 0 0 A := by
  refine m_ofJ (own := RX6) (lv := [(0, .ref (q 0)), (1, .int x1), (2, .int x2), (3, .int x3)]) rfl (by decide) rfl (Nat.le_of_ble_eq_true rfl) rfl ?_
  intro p e s m below meth c X
  unfold e_X6_tree at h
  refine j_aload_n X rfl 0 rfl dX6_tree_0 ?_
  refine jgC_main_plan X i_X6_tree_X6 (by decide +kernel) dX6_tree_1 ?_
  refine j_iload_n X rfl 1 rfl dX6_tree_4 ?_
  refine j_Vi (st := []) X [.int x1] 1 (c_X2_hasMan_plan l D i q A x1 S _ h) (cwV 1 X.ts gX6_tree_X2_hasMan rfl rfl rfl (by decide +kernel) ⟨Nat.le_of_ble_eq_true rfl, Nat.le_of_ble_eq_true rfl⟩) rfl rfl rfl rfl (Nat.le_of_ble_eq_true rfl) dX6_tree_5 (fun r2 S1 h => ?_)
  refine j_if_ne (tgt := 14) X dX6_tree_8 (by decide) (fun c3 => ?_) (fun c3 => ?_)
  · have h := h.1 c3
    refine j_iload_n X rfl 2 rfl dX6_tree_14 ?_
    refine j_iconst (v := (1 : Int32)) X (by decide) dX6_tree_15 ?_
    refine j_icmp_lt (tgt := 34) X dX6_tree_16 (by decide) (fun c4 => ?_) (fun c4 => ?_)
    · have h := h.1 c4
      refine j_ldc (v := (-1000000002 : Int32)) X (by decide +kernel) dX6_tree_34 ?_
      exact j_iret X h dX6_tree_36
    · have h := h.2 c4
      refine j_iload_n X rfl 2 rfl dX6_tree_19 ?_
      refine j_bipush (v := (99 : Int32)) X (by decide) dX6_tree_20 ?_
      refine j_icmp_gt (tgt := 34) X dX6_tree_22 (by decide) (fun c5 => ?_) (fun c5 => ?_)
      · have h := h.1 c5
        refine j_ldc (v := (-1000000002 : Int32)) X (by decide +kernel) dX6_tree_34 ?_
        exact j_iret X h dX6_tree_36
      · have h := h.2 c5
        refine j_iload_n X rfl 3 rfl dX6_tree_25 ?_
        refine j_if_lt (tgt := 34) X dX6_tree_26 (by decide) (fun c6 => ?_) (fun c6 => ?_)
        · have h := h.1 c6
          refine j_ldc (v := (-1000000002 : Int32)) X (by decide +kernel) dX6_tree_34 ?_
          exact j_iret X h dX6_tree_36
        · have h := h.2 c6
          refine j_iload_n X rfl 3 rfl dX6_tree_29 ?_
          refine j_iconst (v := (2 : Int32)) X (by decide) dX6_tree_30 ?_
          refine j_icmp_le (tgt := 37) X dX6_tree_31 (by decide) (fun c7 => ?_) (fun c7 => ?_)
          · have h := h.1 c7
            refine j_aload_n X rfl 0 rfl dX6_tree_37 ?_
            refine jgC_main_sight X i_X6_tree_X6 (by decide +kernel) dX6_tree_38 ?_
            refine j_iload_n X rfl 1 rfl dX6_tree_41 ?_
            refine j_iload_n X rfl 2 rfl dX6_tree_42 ?_
            refine j_Vv (st := []) X [.int x1, .int x2] 7 (c_X4_findTree l D i q A x1 x2 S1 _ h) (cwV 2 X.ts gX6_tree_X4_findTree rfl rfl rfl (by decide +kernel) ⟨Nat.le_of_ble_eq_true rfl, Nat.le_of_ble_eq_true rfl⟩) rfl rfl rfl rfl (Nat.le_of_ble_eq_true rfl) dX6_tree_43 (fun S8 h => ?_)
            refine j_iload_n X rfl 3 rfl dX6_tree_46 ?_
            refine j_iconst (v := (2 : Int32)) X (by decide) dX6_tree_47 ?_
            refine j_icmp_ne (tgt := 59) X dX6_tree_48 (by decide) (fun c10 => ?_) (fun c10 => ?_)
            · have h := h.1 c10
              refine j_iload_n X rfl 3 rfl dX6_tree_59 ?_
              refine j_if_ne (tgt := 73) X dX6_tree_60 (by decide) (fun c11 => ?_) (fun c11 => ?_)
              · have h := h.1 c11
                refine j_aload_n X rfl 0 rfl dX6_tree_73 ?_
                refine jgC_main_sight X i_X6_tree_X6 (by decide +kernel) dX6_tree_74 ?_
                refine jgC_sight_treeY X i_X6_tree_X4 (by decide +kernel) dX6_tree_77 ?_
                exact j_iret X h dX6_tree_80
              · have h := h.2 c11
                refine j_aload_n X rfl 0 rfl dX6_tree_63 ?_
                refine jgC_main_sight X i_X6_tree_X6 (by decide +kernel) dX6_tree_64 ?_
                refine jgC_sight_treeX X i_X6_tree_X4 (by decide +kernel) dX6_tree_67 ?_
                refine j_goto (tgt := 80) X dX6_tree_70 (by decide) ?_
                exact j_iret X h dX6_tree_80
            · have h := h.2 c10
              refine j_aload_n X rfl 0 rfl dX6_tree_51 ?_
              refine jgC_main_sight X i_X6_tree_X6 (by decide +kernel) dX6_tree_52 ?_
              refine jgC_sight_treeShare X i_X6_tree_X4 (by decide +kernel) dX6_tree_55 ?_
              exact j_iret X h dX6_tree_58
          · have h := h.2 c7
            refine j_ldc (v := (-1000000002 : Int32)) X (by decide +kernel) dX6_tree_34 ?_
            exact j_iret X h dX6_tree_36
  · have h := h.2 c3
    refine j_ldc (v := (-1000000001 : Int32)) X (by decide +kernel) dX6_tree_11 ?_
    exact j_iret X h dX6_tree_13
set_option maxRecDepth 100000 in
theorem i_X6_wins_X5 : ∀ w ∈ u_ws RX5 TX5 7, w ∈ wsX6_wins := by decide +kernel
set_option maxRecDepth 100000 in
theorem i_X6_wins_X6 : ∀ w ∈ u_ws RX6 TX6 8, w ∈ wsX6_wins := by decide +kernel
abbrev rm_X6_wins : Room := { frames := 5, cells := 0, slots := 0, locals := 122 }
set_option maxRecDepth 100000 in
set_option maxHeartbeats 4000000 in
theorem c_X6_wins (l : Launch) (D : va_G) (i : Nat → ClassId) (q : Nat → Nat) (A : Nat → Prop) (x1 : Int32) (S : vS) (Q : Int32 → vS → Prop) (h : e_X6_wins x1 S Q) : Met l yX6_wins wsX6_wins rm_X6_wins (va_Pc [.ref (q 0), .int x1] (vB D i A (wC q i) S)) (va_Qi Q (vB D i A (wC q i)) A) 0 0 A := by
  refine m_ofJ (own := RX6) (lv := [(0, .ref (q 0)), (1, .int x1)]) rfl (by decide) rfl (Nat.le_of_ble_eq_true rfl) rfl ?_
  intro p e s m below meth c X
  unfold e_X6_wins at h
  refine j_aload_n X rfl 0 rfl dX6_wins_0 ?_
  refine jgC_main_plan X i_X6_wins_X6 (by decide +kernel) dX6_wins_1 ?_
  refine j_iload_n X rfl 1 rfl dX6_wins_4 ?_
  refine j_Vi (st := []) X [.int x1] 1 (c_X2_hasMan_plan l D i q A x1 S _ h) (cwV 1 X.ts gX6_wins_X2_hasMan rfl rfl rfl (by decide +kernel) ⟨Nat.le_of_ble_eq_true rfl, Nat.le_of_ble_eq_true rfl⟩) rfl rfl rfl rfl (Nat.le_of_ble_eq_true rfl) dX6_wins_5 (fun r2 S1 h => ?_)
  refine j_if_ne (tgt := 14) X dX6_wins_8 (by decide) (fun c3 => ?_) (fun c3 => ?_)
  · have h := h.1 c3
    refine j_aload_n X rfl 0 rfl dX6_wins_14 ?_
    refine jgC_main_now X i_X6_wins_X6 (by decide +kernel) dX6_wins_15 ?_
    refine jgC_now_storeys X i_X6_wins_X5 (by decide +kernel) dX6_wins_18 ?_
    refine j_iload_n X rfl 1 rfl dX6_wins_21 ?_
    obtain ⟨k4, h⟩ := h
    refine jlC_now_storeys X k4 dX6_wins_22 ?_
    refine j_topi (fun v5 ev5 => ?_)
    have h := h v5 ev5
    refine j_istore_n (lv' := [(2, .int v5), (0, .ref (q 0)), (1, .int x1)]) X rfl (by decide) rfl dX6_wins_23 ?_
    refine j_iload_n X rfl 0 rfl dX6_wins_24 ?_
    refine j_bipush (v := (9 : Int32)) X (by decide) dX6_wins_25 ?_
    refine j_icmp_lt (tgt := 33) X dX6_wins_27 (by decide) (fun c6 => ?_) (fun c6 => ?_)
    · have h := h.1 c6
      refine j_aload_n X rfl 1 rfl dX6_wins_33 ?_
      refine jgC_main_sight X i_X6_wins_X6 (by decide +kernel) dX6_wins_34 ?_
      refine j_Vv (st := []) X [] 7 (c_X4_lookAll l D i q A S1 _ h) (cwV 0 X.ts gX6_wins_X4_lookAll rfl rfl rfl (by decide +kernel) ⟨Nat.le_of_ble_eq_true rfl, Nat.le_of_ble_eq_true rfl⟩) rfl rfl rfl rfl (Nat.le_of_ble_eq_true rfl) dX6_wins_37 (fun S7 h => ?_)
      refine j_aload_n X rfl 1 rfl dX6_wins_40 ?_
      refine jgC_main_sight X i_X6_wins_X6 (by decide +kernel) dX6_wins_41 ?_
      refine j_iload_n X rfl 2 rfl dX6_wins_44 ?_
      refine j_Vi (st := []) X [.int x1] 7 (c_X4_shareOf l D i q A x1 S7 _ h) (cwV 1 X.ts gX6_wins_X4_shareOf rfl rfl rfl (by decide +kernel) ⟨Nat.le_of_ble_eq_true rfl, Nat.le_of_ble_eq_true rfl⟩) rfl rfl rfl rfl (Nat.le_of_ble_eq_true rfl) dX6_wins_45 (fun r10 S9 h => ?_)
      refine j_istore_n (lv' := [(3, .int r10), (2, .int v5), (0, .ref (q 0)), (1, .int x1)]) X rfl (by decide) rfl dX6_wins_48 ?_
      refine j_aload_n X rfl 2 rfl dX6_wins_49 ?_
      refine jgC_main_now X i_X6_wins_X6 (by decide +kernel) dX6_wins_50 ?_
      refine jgC_now_storeys X i_X6_wins_X5 (by decide +kernel) dX6_wins_53 ?_
      refine j_iload_n X rfl 3 rfl dX6_wins_56 ?_
      refine j_iload_n X rfl 1 rfl dX6_wins_57 ?_
      refine j_iconst (v := (1 : Int32)) X (by decide) dX6_wins_58 ?_
      refine j_iadd X dX6_wins_59 ?_
      refine jsC_now_storeys X k4 dX6_wins_60 (fun S11 eS11 => ?_)
      have h := h S11 eS11
      refine j_aload_n X rfl 2 rfl dX6_wins_61 ?_
      refine jgC_main_sight X i_X6_wins_X6 (by decide +kernel) dX6_wins_62 ?_
      refine j_iload_n X rfl 3 rfl dX6_wins_65 ?_
      refine j_Vv (st := []) X [.int x1] 7 (c_X4_lookBy l D i q A x1 S11 _ h) (cwV 1 X.ts gX6_wins_X4_lookBy rfl rfl rfl (by decide +kernel) ⟨Nat.le_of_ble_eq_true rfl, Nat.le_of_ble_eq_true rfl⟩) rfl rfl rfl rfl (Nat.le_of_ble_eq_true rfl) dX6_wins_66 (fun S12 h => ?_)
      refine j_aload_n X rfl 2 rfl dX6_wins_69 ?_
      refine jgC_main_sight X i_X6_wins_X6 (by decide +kernel) dX6_wins_70 ?_
      refine j_iload_n X rfl 3 rfl dX6_wins_73 ?_
      refine j_Vi (st := []) X [.int x1] 7 (c_X4_shareOf l D i q A x1 S12 _ h) (cwV 1 X.ts gX6_wins_X4_shareOf rfl rfl rfl (by decide +kernel) ⟨Nat.le_of_ble_eq_true rfl, Nat.le_of_ble_eq_true rfl⟩) rfl rfl rfl rfl (Nat.le_of_ble_eq_true rfl) dX6_wins_74 (fun r15 S14 h => ?_)
      refine j_istore (lv' := [(4, .int r15), (3, .int r10), (2, .int v5), (0, .ref (q 0)), (1, .int x1)]) X (by decide) rfl dX6_wins_77 ?_
      refine j_aload_n X rfl 3 rfl dX6_wins_79 ?_
      refine jgC_main_now X i_X6_wins_X6 (by decide +kernel) dX6_wins_80 ?_
      refine jgC_now_storeys X i_X6_wins_X5 (by decide +kernel) dX6_wins_83 ?_
      refine j_iload_n X rfl 4 rfl dX6_wins_86 ?_
      refine j_iload_n X rfl 2 rfl dX6_wins_87 ?_
      refine jsC_now_storeys X k4 dX6_wins_88 (fun S16 eS16 => ?_)
      have h := h S16 eS16
      refine j_iload X 0 rfl dX6_wins_89 ?_
      refine j_iload_n X rfl 1 rfl dX6_wins_91 ?_
      refine j_isub X dX6_wins_92 ?_
      exact j_iret X h dX6_wins_93
    · have h := h.2 c6
      refine j_ldc (v := (-1000000003 : Int32)) X (by decide +kernel) dX6_wins_30 ?_
      exact j_iret X h dX6_wins_32
  · have h := h.2 c3
    refine j_ldc (v := (-1000000001 : Int32)) X (by decide +kernel) dX6_wins_11 ?_
    exact j_iret X h dX6_wins_13
set_option maxRecDepth 100000 in
theorem i_X6_view_X5 : ∀ w ∈ u_ws RX5 TX5 7, w ∈ wsX6_view := by decide +kernel
set_option maxRecDepth 100000 in
theorem i_X6_view_X6 : ∀ w ∈ u_ws RX6 TX6 8, w ∈ wsX6_view := by decide +kernel
abbrev rm_X6_view : Room := { frames := 5, cells := 0, slots := 0, locals := 122 }
set_option maxRecDepth 100000 in
set_option maxHeartbeats 4000000 in
theorem c_X6_view (l : Launch) (D : va_G) (i : Nat → ClassId) (q : Nat → Nat) (A : Nat → Prop) (x1 : Int32) (x2 : Int32) (x3 : Int32) (S : vS) (Q : Int32 → vS → Prop) (h : e_X6_view x1 x2 x3 S Q) : Met l yX6_view wsX6_view rm_X6_view (va_Pc [.ref (q 0), .int x1, .int x2, .int x3] (vB D i A (wC q i) S)) (va_Qi Q (vB D i A (wC q i)) A) 0 0 A := by
  refine m_ofJ (own := RX6) (lv := [(0, .ref (q 0)), (1, .int x1), (2, .int x2), (3, .int x3)]) rfl (by decide) rfl (Nat.le_of_ble_eq_true rfl) rfl ?_
  intro p e s m below meth c X
  unfold e_X6_view at h
  refine j_aload_n X rfl 0 rfl dX6_view_0 ?_
  refine jgC_main_plan X i_X6_view_X6 (by decide +kernel) dX6_view_1 ?_
  refine j_iload_n X rfl 1 rfl dX6_view_4 ?_
  refine j_Vi (st := []) X [.int x1] 1 (c_X2_hasMan_plan l D i q A x1 S _ h) (cwV 1 X.ts gX6_view_X2_hasMan rfl rfl rfl (by decide +kernel) ⟨Nat.le_of_ble_eq_true rfl, Nat.le_of_ble_eq_true rfl⟩) rfl rfl rfl rfl (Nat.le_of_ble_eq_true rfl) dX6_view_5 (fun r2 S1 h => ?_)
  refine j_if_eq (tgt := 23) X dX6_view_8 (by decide) (fun c3 => ?_) (fun c3 => ?_)
  · have h := h.1 c3
    refine j_ldc (v := (-1000000001 : Int32)) X (by decide +kernel) dX6_view_23 ?_
    exact j_iret X h dX6_view_25
  · have h := h.2 c3
    refine j_aload_n X rfl 0 rfl dX6_view_11 ?_
    refine jgC_main_plan X i_X6_view_X6 (by decide +kernel) dX6_view_12 ?_
    refine j_iload_n X rfl 2 rfl dX6_view_15 ?_
    refine j_iload_n X rfl 3 rfl dX6_view_16 ?_
    refine j_Vi (st := []) X [.int x2, .int x3] 1 (c_X2_hasCell_plan l D i q A x2 x3 S1 _ h) (cwV 2 X.ts gX6_view_X2_hasCell rfl rfl rfl (by decide +kernel) ⟨Nat.le_of_ble_eq_true rfl, Nat.le_of_ble_eq_true rfl⟩) rfl rfl rfl rfl (Nat.le_of_ble_eq_true rfl) dX6_view_17 (fun r5 S4 h => ?_)
    refine j_if_ne (tgt := 26) X dX6_view_20 (by decide) (fun c6 => ?_) (fun c6 => ?_)
    · have h := h.1 c6
      refine j_aload_n X rfl 0 rfl dX6_view_26 ?_
      refine jgC_main_plan X i_X6_view_X6 (by decide +kernel) dX6_view_27 ?_
      refine j_iload_n X rfl 2 rfl dX6_view_30 ?_
      refine j_iload_n X rfl 3 rfl dX6_view_31 ?_
      refine j_Vi (st := []) X [.int x2, .int x3] 1 (c_X2_numberOf_plan l D i q A x2 x3 S4 _ h) (cwV 2 X.ts gX6_view_X2_numberOf rfl rfl rfl (by decide +kernel) ⟨Nat.le_of_ble_eq_true rfl, Nat.le_of_ble_eq_true rfl⟩) rfl rfl rfl rfl (Nat.le_of_ble_eq_true rfl) dX6_view_32 (fun r8 S7 h => ?_)
      refine j_istore (lv' := [(4, .int r8), (0, .ref (q 0)), (1, .int x1), (2, .int x2), (3, .int x3)]) X (by decide) rfl dX6_view_35 ?_
      refine j_aload_n X rfl 1 rfl dX6_view_37 ?_
      refine jgC_main_now X i_X6_view_X6 (by decide +kernel) dX6_view_38 ?_
      refine jgC_now_stands X i_X6_view_X5 (by decide +kernel) dX6_view_41 ?_
      refine j_iload X 0 rfl dX6_view_44 ?_
      obtain ⟨k9, h⟩ := h
      refine jlC_now_stands X k9 dX6_view_46 ?_
      refine j_topi (fun v10 ev10 => ?_)
      have h := h v10 ev10
      refine j_istore (lv' := [(5, .int v10), (4, .int r8), (0, .ref (q 0)), (1, .int x1), (2, .int x2), (3, .int x3)]) X (by decide) rfl dX6_view_47 ?_
      refine j_aload_n X rfl 2 rfl dX6_view_49 ?_
      refine jgC_main_sight X i_X6_view_X6 (by decide +kernel) dX6_view_50 ?_
      refine j_Vv (st := []) X [] 7 (c_X4_lookAll l D i q A S7 _ h) (cwV 0 X.ts gX6_view_X4_lookAll rfl rfl rfl (by decide +kernel) ⟨Nat.le_of_ble_eq_true rfl, Nat.le_of_ble_eq_true rfl⟩) rfl rfl rfl rfl (Nat.le_of_ble_eq_true rfl) dX6_view_53 (fun S11 h => ?_)
      refine j_aload_n X rfl 2 rfl dX6_view_56 ?_
      refine jgC_main_sight X i_X6_view_X6 (by decide +kernel) dX6_view_57 ?_
      refine j_iload_n X rfl 3 rfl dX6_view_60 ?_
      refine j_Vi (st := []) X [.int x1] 7 (c_X4_shareOf l D i q A x1 S11 _ h) (cwV 1 X.ts gX6_view_X4_shareOf rfl rfl rfl (by decide +kernel) ⟨Nat.le_of_ble_eq_true rfl, Nat.le_of_ble_eq_true rfl⟩) rfl rfl rfl rfl (Nat.le_of_ble_eq_true rfl) dX6_view_61 (fun r14 S13 h => ?_)
      refine j_istore (lv' := [(6, .int r14), (5, .int v10), (4, .int r8), (0, .ref (q 0)), (1, .int x1), (2, .int x2), (3, .int x3)]) X (by decide) rfl dX6_view_64 ?_
      refine j_aload_n X rfl 3 rfl dX6_view_66 ?_
      refine jgC_main_now X i_X6_view_X6 (by decide +kernel) dX6_view_67 ?_
      refine jgC_now_stands X i_X6_view_X5 (by decide +kernel) dX6_view_70 ?_
      refine j_iload X 2 rfl dX6_view_73 ?_
      refine j_iconst (v := (0 : Int32)) X (by decide) dX6_view_75 ?_
      refine jsC_now_stands X k9 dX6_view_76 (fun S15 eS15 => ?_)
      have h := h S15 eS15
      refine j_aload_n X rfl 3 rfl dX6_view_77 ?_
      refine jgC_main_sight X i_X6_view_X6 (by decide +kernel) dX6_view_78 ?_
      refine j_iload_n X rfl 5 rfl dX6_view_81 ?_
      refine j_iload_n X rfl 6 rfl dX6_view_82 ?_
      refine j_Vv (st := []) X [.int x2, .int x3] 7 (c_X4_lookOver l D i q A x2 x3 S15 _ h) (cwV 2 X.ts gX6_view_X4_lookOver rfl rfl rfl (by decide +kernel) ⟨Nat.le_of_ble_eq_true rfl, Nat.le_of_ble_eq_true rfl⟩) rfl rfl rfl rfl (Nat.le_of_ble_eq_true rfl) dX6_view_83 (fun S16 h => ?_)
      refine j_aload_n X rfl 3 rfl dX6_view_86 ?_
      refine jgC_main_sight X i_X6_view_X6 (by decide +kernel) dX6_view_87 ?_
      refine j_iload_n X rfl 4 rfl dX6_view_90 ?_
      refine j_Vi (st := []) X [.int x1] 7 (c_X4_shareOf l D i q A x1 S16 _ h) (cwV 1 X.ts gX6_view_X4_shareOf rfl rfl rfl (by decide +kernel) ⟨Nat.le_of_ble_eq_true rfl, Nat.le_of_ble_eq_true rfl⟩) rfl rfl rfl rfl (Nat.le_of_ble_eq_true rfl) dX6_view_91 (fun r19 S18 h => ?_)
      refine j_istore (lv' := [(7, .int r19), (6, .int r14), (5, .int v10), (4, .int r8), (0, .ref (q 0)), (1, .int x1), (2, .int x2), (3, .int x3)]) X (by decide) rfl dX6_view_94 ?_
      refine j_aload_n X rfl 4 rfl dX6_view_96 ?_
      refine jgC_main_now X i_X6_view_X6 (by decide +kernel) dX6_view_97 ?_
      refine jgC_now_stands X i_X6_view_X5 (by decide +kernel) dX6_view_100 ?_
      refine j_iload X 3 rfl dX6_view_103 ?_
      refine j_iload X 2 rfl dX6_view_105 ?_
      refine jsC_now_stands X k9 dX6_view_107 (fun S20 eS20 => ?_)
      have h := h S20 eS20
      refine j_iload X 0 rfl dX6_view_108 ?_
      refine j_iload X 1 rfl dX6_view_110 ?_
      refine j_isub X dX6_view_112 ?_
      exact j_iret X h dX6_view_113
    · have h := h.2 c6
      refine j_ldc (v := (-1000000001 : Int32)) X (by decide +kernel) dX6_view_23 ?_
      exact j_iret X h dX6_view_25
set_option maxRecDepth 100000 in
theorem i_X6_countEnds_X2 : ∀ w ∈ u_ws RX2 TX2 14, w ∈ wsX6_countEnds := by decide +kernel
set_option maxRecDepth 100000 in
theorem i_X6_countEnds_X5 : ∀ w ∈ u_ws RX5 TX5 7, w ∈ wsX6_countEnds := by decide +kernel
set_option maxRecDepth 100000 in
theorem i_X6_countEnds_X6 : ∀ w ∈ u_ws RX6 TX6 8, w ∈ wsX6_countEnds := by decide +kernel
abbrev rm_X6_countEnds : Room := { frames := 5, cells := 0, slots := 0, locals := 122 }
set_option maxRecDepth 100000 in
set_option maxHeartbeats 4000000 in
theorem w_X6_countEnds_64 {D : va_G} {i : Nat → ClassId} {q : Nat → Nat} {A : Nat → Prop} {p : Program} {l : Launch} {e : Env} {s : State} {m : MethodId} {args : Array Value} {below : List Frame} {meth : Method} {c : Code} (X : cX D i A p s m args meth c cX6_countEnds RX6 11 wsX6_countEnds none) {K32 : Int32 → Int32 → Int32 → Int32 → Int32 → Int32 → Int32 → Int32 → vS → Prop} {Q : vS → Prop} (hK32 : ∀ (a1 : Int32) (a2 : Int32) (a3 : Int32) (a4 : Int32) (a5 : Int32) (a6 : Int32) (a7 : Int32) (a8 : Int32) (S : vS), K32 a1 a2 a3 a4 a5 a6 a7 a8 S → cJ D A p l e (headSpec wsX6_countEnds rm_X6_countEnds).room s m args below meth c (MQ below (va_Qv Q (vB D i A (wC q i)) A) args s 0 0 A) 11 (wC q i S) [(0, .ref (q 0)), (1, .int a1), (2, .int a2), (3, .int a3), (4, .int a4), (5, .int a5), (6, .int a6), (7, .int a7), (8, .int a8)] 32 []) : ∀ (n : Nat) (a1 : Int32) (a2 : Int32) (a3 : Int32) (a4 : Int32) (a5 : Int32) (a6 : Int32) (a7 : Int32) (a8 : Int32) (a9 : Int32) (S : vS), e_X6_countEnds_64 K32 Q n a1 a2 a3 a4 a5 a6 a7 a8 a9 S → cJ D A p l e (headSpec wsX6_countEnds rm_X6_countEnds).room s m args below meth c (MQ below (va_Qv Q (vB D i A (wC q i)) A) args s 0 0 A) 11 (wC q i S) [(0, .ref (q 0)), (1, .int a1), (2, .int a2), (3, .int a3), (4, .int a4), (5, .int a5), (6, .int a6), (7, .int a7), (8, .int a8), (9, .int a9)] 64 [] := by
  intro n
  induction n with
  | zero =>
    intro _ _ _ _ _ _ _ _ _ S h
    rw [e_X6_countEnds_64.eq_1] at h
    exact h.elim
  | succ n ih =>
    intro a1 a2 a3 a4 a5 a6 a7 a8 a9 S h
    rw [e_X6_countEnds_64.eq_2] at h
    refine j_iload X 9 rfl dX6_countEnds_64 ?_
    refine j_iload X 5 rfl dX6_countEnds_66 ?_
    refine j_icmp_gt (tgt := 148) X dX6_countEnds_68 (by decide) (fun c16 => ?_) (fun c16 => ?_)
    · have h := h.1 c16
      refine j_iinc (dv := (1 : Int32)) (lv' := fun v17 => [(8, .int v17), (0, .ref (q 0)), (1, .int a1), (2, .int a2), (3, .int a3), (4, .int a4), (5, .int a5), (6, .int a6), (7, .int a7), (9, .int a9)]) X dX6_countEnds_148 (pl := 8) rfl (by decide) (by decide) (fun _ => rfl) (fun v17 ev17 => ?_)
      have h := h v17 ev17
      refine j_goto (tgt := 32) X dX6_countEnds_151 (by decide) ?_
      refine j_loc [1, 2, 3, 4, 5, 6, 7, 8, 0] rfl ?_
      exact hK32 a1 a2 a3 a4 a5 a6 a7 v17 S h
    · have h := h.2 c16
      refine j_aload_n X rfl 0 rfl dX6_countEnds_71 ?_
      refine jgC_main_now X i_X6_countEnds_X6 (by decide +kernel) dX6_countEnds_72 ?_
      refine jgC_now_storeys X i_X6_countEnds_X5 (by decide +kernel) dX6_countEnds_75 ?_
      refine j_iload_n X rfl 2 rfl dX6_countEnds_78 ?_
      refine j_iload X 7 rfl dX6_countEnds_79 ?_
      refine j_iload X 9 rfl dX6_countEnds_81 ?_
      refine j_iadd X dX6_countEnds_83 ?_
      obtain ⟨k18, h⟩ := h
      refine jsC_now_storeys X k18 dX6_countEnds_84 (fun S19 eS19 => ?_)
      have h := h S19 eS19
      refine j_aload_n X rfl 0 rfl dX6_countEnds_85 ?_
      refine jgC_main_sight X i_X6_countEnds_X6 (by decide +kernel) dX6_countEnds_86 ?_
      refine j_iload_n X rfl 2 rfl dX6_countEnds_89 ?_
      refine j_Vv (st := []) X [.int a2] 7 (c_X4_lookBy l D i q A a2 S19 _ h) (cwV 1 X.ts gX6_countEnds_X4_lookBy rfl rfl rfl (by decide +kernel) ⟨Nat.le_of_ble_eq_true rfl, Nat.le_of_ble_eq_true rfl⟩) rfl rfl rfl rfl (Nat.le_of_ble_eq_true rfl) dX6_countEnds_90 (fun S20 h => ?_)
      refine j_aload_n X rfl 0 rfl dX6_countEnds_93 ?_
      refine jgC_main_sight X i_X6_countEnds_X6 (by decide +kernel) dX6_countEnds_94 ?_
      refine j_iload_n X rfl 1 rfl dX6_countEnds_97 ?_
      refine j_Vi (st := []) X [.int a1] 7 (c_X4_shareOf l D i q A a1 S20 _ h) (cwV 1 X.ts gX6_countEnds_X4_shareOf rfl rfl rfl (by decide +kernel) ⟨Nat.le_of_ble_eq_true rfl, Nat.le_of_ble_eq_true rfl⟩) rfl rfl rfl rfl (Nat.le_of_ble_eq_true rfl) dX6_countEnds_98 (fun r23 S22 h => ?_)
      refine j_aload_n X rfl 0 rfl dX6_countEnds_101 ?_
      refine jgC_main_sight X i_X6_countEnds_X6 (by decide +kernel) dX6_countEnds_102 ?_
      refine j_iload_n X rfl 2 rfl dX6_countEnds_105 ?_
      refine j_Vi (st := [.int r23]) X [.int a2] 7 (c_X4_shareOf l D i q A a2 S22 _ h) (cwV 1 X.ts gX6_countEnds_X4_shareOf rfl rfl rfl (by decide +kernel) ⟨Nat.le_of_ble_eq_true rfl, Nat.le_of_ble_eq_true rfl⟩) rfl rfl rfl rfl (Nat.le_of_ble_eq_true rfl) dX6_countEnds_106 (fun r25 S24 h => ?_)
      refine j_isub X dX6_countEnds_109 ?_
      refine j_topi (fun v26 ev26 => ?_)
      have h := h v26 ev26
      refine j_istore (lv' := [(10, .int v26), (0, .ref (q 0)), (1, .int a1), (2, .int a2), (3, .int a3), (4, .int a4), (5, .int a5), (6, .int a6), (7, .int a7), (8, .int a8), (9, .int a9)]) X (by decide) rfl dX6_countEnds_110 ?_
      refine j_aload_n X rfl 1 rfl dX6_countEnds_112 ?_
      refine jgC_main_ends X i_X6_countEnds_X6 (by decide +kernel) dX6_countEnds_113 ?_
      refine j_iload X 9 rfl dX6_countEnds_116 ?_
      refine j_iconst (v := (4 : Int32)) X (by decide) dX6_countEnds_118 ?_
      refine j_imul X dX6_countEnds_119 ?_
      refine j_iload X 10 rfl dX6_countEnds_120 ?_
      refine j_iadd X dX6_countEnds_122 ?_
      refine j_iload X 0 rfl dX6_countEnds_123 ?_
      refine j_iload_n X rfl 4 rfl dX6_countEnds_125 ?_
      refine j_imul X dX6_countEnds_126 ?_
      refine j_iload X 9 rfl dX6_countEnds_127 ?_
      refine j_iload X 10 rfl dX6_countEnds_129 ?_
      refine j_isub X dX6_countEnds_131 ?_
      refine j_aload_n X rfl 1 rfl dX6_countEnds_132 ?_
      refine jgC_main_plan X i_X6_countEnds_X6 (by decide +kernel) dX6_countEnds_133 ?_
      refine jgC_plan_storeyCost X i_X6_countEnds_X2 (by decide +kernel) dX6_countEnds_136 ?_
      refine j_imul X dX6_countEnds_139 ?_
      refine j_isub X dX6_countEnds_140 ?_
      obtain ⟨k27, h⟩ := h
      refine jsC_main_ends X k27 dX6_countEnds_141 (fun S28 eS28 => ?_)
      have h := h S28 eS28
      refine j_iinc (dv := (1 : Int32)) (lv' := fun v29 => [(9, .int v29), (10, .int v26), (0, .ref (q 0)), (1, .int a1), (2, .int a2), (3, .int a3), (4, .int a4), (5, .int a5), (6, .int a6), (7, .int a7), (8, .int a8)]) X dX6_countEnds_142 (pl := 10) rfl (by decide) (by decide) (fun _ => rfl) (fun v29 ev29 => ?_)
      have h := h v29 ev29
      refine j_goto (tgt := 64) X dX6_countEnds_145 (by decide) ?_
      refine j_loc [2, 3, 4, 5, 6, 7, 8, 9, 10, 0] rfl ?_
      exact ih a1 a2 a3 a4 a5 a6 a7 a8 v29 S28 h
set_option maxRecDepth 100000 in
set_option maxHeartbeats 4000000 in
theorem w_X6_countEnds_32 {D : va_G} {i : Nat → ClassId} {q : Nat → Nat} {A : Nat → Prop} {p : Program} {l : Launch} {e : Env} {s : State} {m : MethodId} {args : Array Value} {below : List Frame} {meth : Method} {c : Code} (X : cX D i A p s m args meth c cX6_countEnds RX6 11 wsX6_countEnds none) {Q : vS → Prop} : ∀ (n : Nat) (a1 : Int32) (a2 : Int32) (a3 : Int32) (a4 : Int32) (a5 : Int32) (a6 : Int32) (a7 : Int32) (a8 : Int32) (S : vS), e_X6_countEnds_32 Q n a1 a2 a3 a4 a5 a6 a7 a8 S → cJ D A p l e (headSpec wsX6_countEnds rm_X6_countEnds).room s m args below meth c (MQ below (va_Qv Q (vB D i A (wC q i)) A) args s 0 0 A) 11 (wC q i S) [(0, .ref (q 0)), (1, .int a1), (2, .int a2), (3, .int a3), (4, .int a4), (5, .int a5), (6, .int a6), (7, .int a7), (8, .int a8)] 32 [] := by
  intro n
  induction n with
  | zero =>
    intro _ _ _ _ _ _ _ _ S h
    rw [e_X6_countEnds_32.eq_1] at h
    exact h.elim
  | succ n ih =>
    intro a1 a2 a3 a4 a5 a6 a7 a8 S h
    rw [e_X6_countEnds_32.eq_2] at h
    refine j_iload X 8 rfl dX6_countEnds_32 ?_
    refine j_iload X 4 rfl dX6_countEnds_34 ?_
    refine j_icmp_gt (tgt := 154) X dX6_countEnds_36 (by decide) (fun c7 => ?_) (fun c7 => ?_)
    · have h := h.1 c7
      refine j_aload_n X rfl 0 rfl dX6_countEnds_154 ?_
      refine jgC_main_now X i_X6_countEnds_X6 (by decide +kernel) dX6_countEnds_155 ?_
      refine jgC_now_storeys X i_X6_countEnds_X5 (by decide +kernel) dX6_countEnds_158 ?_
      refine j_iload_n X rfl 1 rfl dX6_countEnds_161 ?_
      refine j_iload X 6 rfl dX6_countEnds_162 ?_
      obtain ⟨k8, h⟩ := h
      refine jsC_now_storeys X k8 dX6_countEnds_164 (fun S9 eS9 => ?_)
      have h := h S9 eS9
      refine j_aload_n X rfl 0 rfl dX6_countEnds_165 ?_
      refine jgC_main_now X i_X6_countEnds_X6 (by decide +kernel) dX6_countEnds_166 ?_
      refine jgC_now_storeys X i_X6_countEnds_X5 (by decide +kernel) dX6_countEnds_169 ?_
      refine j_iload_n X rfl 2 rfl dX6_countEnds_172 ?_
      refine j_iload X 7 rfl dX6_countEnds_173 ?_
      obtain ⟨k10, h⟩ := h
      refine jsC_now_storeys X k10 dX6_countEnds_175 (fun S11 eS11 => ?_)
      have h := h S11 eS11
      exact j_vret X h dX6_countEnds_176
    · have h := h.2 c7
      refine j_aload_n X rfl 0 rfl dX6_countEnds_39 ?_
      refine jgC_main_now X i_X6_countEnds_X6 (by decide +kernel) dX6_countEnds_40 ?_
      refine jgC_now_storeys X i_X6_countEnds_X5 (by decide +kernel) dX6_countEnds_43 ?_
      refine j_iload_n X rfl 1 rfl dX6_countEnds_46 ?_
      refine j_iload X 6 rfl dX6_countEnds_47 ?_
      refine j_iload X 8 rfl dX6_countEnds_49 ?_
      refine j_iadd X dX6_countEnds_51 ?_
      obtain ⟨k12, h⟩ := h
      refine jsC_now_storeys X k12 dX6_countEnds_52 (fun S13 eS13 => ?_)
      have h := h S13 eS13
      refine j_aload_n X rfl 0 rfl dX6_countEnds_53 ?_
      refine jgC_main_sight X i_X6_countEnds_X6 (by decide +kernel) dX6_countEnds_54 ?_
      refine j_iload_n X rfl 1 rfl dX6_countEnds_57 ?_
      refine j_Vv (st := []) X [.int a1] 7 (c_X4_lookBy l D i q A a1 S13 _ h) (cwV 1 X.ts gX6_countEnds_X4_lookBy rfl rfl rfl (by decide +kernel) ⟨Nat.le_of_ble_eq_true rfl, Nat.le_of_ble_eq_true rfl⟩) rfl rfl rfl rfl (Nat.le_of_ble_eq_true rfl) dX6_countEnds_58 (fun S14 h => ?_)
      refine j_iconst (v := (0 : Int32)) X (by decide) dX6_countEnds_61 ?_
      refine j_istore (lv' := [(9, .int (0 : Int32)), (0, .ref (q 0)), (1, .int a1), (2, .int a2), (3, .int a3), (4, .int a4), (5, .int a5), (6, .int a6), (7, .int a7), (8, .int a8)]) X (by decide) rfl dX6_countEnds_62 ?_
      refine j_loc [1, 2, 3, 4, 5, 6, 7, 8, 9, 0] rfl ?_
      obtain ⟨j, h⟩ := h
      exact w_X6_countEnds_64 X (fun y0 y1 y2 y3 y4 y5 y6 y7 S h => ih y0 y1 y2 y3 y4 y5 y6 y7 S h) j a1 a2 a3 a4 a5 a6 a7 a8 (0 : Int32) S14 h
set_option maxRecDepth 100000 in
set_option maxHeartbeats 4000000 in
theorem c_X6_countEnds (l : Launch) (D : va_G) (i : Nat → ClassId) (q : Nat → Nat) (A : Nat → Prop) (x1 : Int32) (x2 : Int32) (x3 : Int32) (x4 : Int32) (x5 : Int32) (S : vS) (Q : vS → Prop) (h : e_X6_countEnds x1 x2 x3 x4 x5 S Q) : Met l yX6_countEnds wsX6_countEnds rm_X6_countEnds (va_Pc [.ref (q 0), .int x1, .int x2, .int x3, .int x4, .int x5] (vB D i A (wC q i) S)) (va_Qv Q (vB D i A (wC q i)) A) 0 0 A := by
  refine m_ofJ (own := RX6) (lv := [(0, .ref (q 0)), (1, .int x1), (2, .int x2), (3, .int x3), (4, .int x4), (5, .int x5)]) rfl (by decide) rfl (Nat.le_of_ble_eq_true rfl) rfl ?_
  intro p e s m below meth c X
  unfold e_X6_countEnds at h
  refine j_aload_n X rfl 0 rfl dX6_countEnds_0 ?_
  refine jgC_main_now X i_X6_countEnds_X6 (by decide +kernel) dX6_countEnds_1 ?_
  refine jgC_now_storeys X i_X6_countEnds_X5 (by decide +kernel) dX6_countEnds_4 ?_
  refine j_iload_n X rfl 1 rfl dX6_countEnds_7 ?_
  obtain ⟨k1, h⟩ := h
  refine jlC_now_storeys X k1 dX6_countEnds_8 ?_
  refine j_topi (fun v2 ev2 => ?_)
  have h := h v2 ev2
  refine j_istore (lv' := [(6, .int v2), (0, .ref (q 0)), (1, .int x1), (2, .int x2), (3, .int x3), (4, .int x4), (5, .int x5)]) X (by decide) rfl dX6_countEnds_9 ?_
  refine j_aload_n X rfl 1 rfl dX6_countEnds_11 ?_
  refine jgC_main_now X i_X6_countEnds_X6 (by decide +kernel) dX6_countEnds_12 ?_
  refine jgC_now_storeys X i_X6_countEnds_X5 (by decide +kernel) dX6_countEnds_15 ?_
  refine j_iload_n X rfl 3 rfl dX6_countEnds_18 ?_
  obtain ⟨k3, h⟩ := h
  refine jlC_now_storeys X k3 dX6_countEnds_19 ?_
  refine j_topi (fun v4 ev4 => ?_)
  have h := h v4 ev4
  refine j_istore (lv' := [(7, .int v4), (6, .int v2), (0, .ref (q 0)), (1, .int x1), (2, .int x2), (3, .int x3), (4, .int x4), (5, .int x5)]) X (by decide) rfl dX6_countEnds_20 ?_
  refine j_aload_n X rfl 2 rfl dX6_countEnds_22 ?_
  refine jgC_main_sight X i_X6_countEnds_X6 (by decide +kernel) dX6_countEnds_23 ?_
  refine j_Vv (st := []) X [] 7 (c_X4_lookAll l D i q A S _ h) (cwV 0 X.ts gX6_countEnds_X4_lookAll rfl rfl rfl (by decide +kernel) ⟨Nat.le_of_ble_eq_true rfl, Nat.le_of_ble_eq_true rfl⟩) rfl rfl rfl rfl (Nat.le_of_ble_eq_true rfl) dX6_countEnds_26 (fun S5 h => ?_)
  refine j_iconst (v := (0 : Int32)) X (by decide) dX6_countEnds_29 ?_
  refine j_istore (lv' := [(8, .int (0 : Int32)), (7, .int v4), (6, .int v2), (0, .ref (q 0)), (1, .int x1), (2, .int x2), (3, .int x3), (4, .int x4), (5, .int x5)]) X (by decide) rfl dX6_countEnds_30 ?_
  refine j_loc [3, 4, 5, 6, 7, 8, 2, 1, 0] rfl ?_
  obtain ⟨j, h⟩ := h
  exact w_X6_countEnds_32 X j x1 x2 x3 x4 x5 v2 v4 (0 : Int32) S5 h
set_option maxRecDepth 100000 in
theorem i_X6_takeMoveBack_X6 : ∀ w ∈ u_ws RX6 TX6 8, w ∈ wsX6_takeMoveBack := by decide +kernel
abbrev rm_X6_takeMoveBack : Room := { frames := 1, cells := 0, slots := 0, locals := 21 }
set_option maxRecDepth 100000 in
set_option maxHeartbeats 4000000 in
theorem w_X6_takeMoveBack_68 {D : va_G} {i : Nat → ClassId} {q : Nat → Nat} {A : Nat → Prop} {p : Program} {l : Launch} {e : Env} {s : State} {m : MethodId} {args : Array Value} {below : List Frame} {meth : Method} {c : Code} (X : cX D i A p s m args meth c cX6_takeMoveBack RX6 8 wsX6_takeMoveBack none) {K6 : Int32 → Int32 → Int32 → Int32 → Int32 → vS → Prop} {K15 : Int32 → Int32 → Int32 → Int32 → Int32 → Int32 → vS → Prop} {Q : vS → Prop} (hK6 : ∀ (a1 : Int32) (a2 : Int32) (a3 : Int32) (a4 : Int32) (a5 : Int32) (S : vS), K6 a1 a2 a3 a4 a5 S → cJ D A p l e (headSpec wsX6_takeMoveBack rm_X6_takeMoveBack).room s m args below meth c (MQ below (va_Qv Q (vB D i A (wC q i)) A) args s 0 0 A) 8 (wC q i S) [(0, .ref (q 0)), (1, .int a1), (2, .int a2), (3, .int a3), (4, .int a4), (5, .int a5)] 6 []) (hK15 : ∀ (a1 : Int32) (a2 : Int32) (a3 : Int32) (a4 : Int32) (a5 : Int32) (a6 : Int32) (S : vS), K15 a1 a2 a3 a4 a5 a6 S → cJ D A p l e (headSpec wsX6_takeMoveBack rm_X6_takeMoveBack).room s m args below meth c (MQ below (va_Qv Q (vB D i A (wC q i)) A) args s 0 0 A) 8 (wC q i S) [(0, .ref (q 0)), (1, .int a1), (2, .int a2), (3, .int a3), (4, .int a4), (5, .int a5), (6, .int a6)] 15 []) : ∀ (a1 : Int32) (a2 : Int32) (a3 : Int32) (a4 : Int32) (a5 : Int32) (a6 : Int32) (a7 : Int32) (S : vS), e_X6_takeMoveBack_68 K6 K15 Q a1 a2 a3 a4 a5 a6 a7 S → cJ D A p l e (headSpec wsX6_takeMoveBack rm_X6_takeMoveBack).room s m args below meth c (MQ below (va_Qv Q (vB D i A (wC q i)) A) args s 0 0 A) 8 (wC q i S) [(0, .ref (q 0)), (1, .int a1), (2, .int a2), (3, .int a3), (4, .int a4), (5, .int a5), (6, .int a6), (7, .int a7)] 68 [] := by
  intro a1 a2 a3 a4 a5 a6 a7 S h
  unfold e_X6_takeMoveBack_68 at h
  refine j_iload_n X rfl 1 rfl dX6_takeMoveBack_68 ?_
  refine j_if_ne (tgt := 104) X dX6_takeMoveBack_69 (by decide) (fun c10 => ?_) (fun c10 => ?_)
  · have h := h.1 c10
    refine j_iinc (dv := (1 : Int32)) (lv' := fun v11 => [(6, .int v11), (0, .ref (q 0)), (1, .int a1), (2, .int a2), (3, .int a3), (4, .int a4), (5, .int a5), (7, .int a7)]) X dX6_takeMoveBack_104 (pl := 6) rfl (by decide) (by decide) (fun _ => rfl) (fun v11 ev11 => ?_)
    have h := h v11 ev11
    refine j_goto (tgt := 15) X dX6_takeMoveBack_107 (by decide) ?_
    refine j_loc [1, 2, 3, 4, 5, 6, 0] rfl ?_
    exact hK15 a1 a2 a3 a4 a5 v11 S h
  · have h := h.2 c10
    refine j_iload X 6 rfl dX6_takeMoveBack_72 ?_
    refine j_iload_n X rfl 3 rfl dX6_takeMoveBack_74 ?_
    refine j_icmp_ge (tgt := 104) X dX6_takeMoveBack_75 (by decide) (fun c12 => ?_) (fun c12 => ?_)
    · have h := h.1 c12
      refine j_iinc (dv := (1 : Int32)) (lv' := fun v13 => [(6, .int v13), (0, .ref (q 0)), (1, .int a1), (2, .int a2), (3, .int a3), (4, .int a4), (5, .int a5), (7, .int a7)]) X dX6_takeMoveBack_104 (pl := 6) rfl (by decide) (by decide) (fun _ => rfl) (fun v13 ev13 => ?_)
      have h := h v13 ev13
      refine j_goto (tgt := 15) X dX6_takeMoveBack_107 (by decide) ?_
      refine j_loc [1, 2, 3, 4, 5, 6, 0] rfl ?_
      exact hK15 a1 a2 a3 a4 a5 v13 S h
    · have h := h.2 c12
      refine j_aload_n X rfl 0 rfl dX6_takeMoveBack_78 ?_
      refine jgC_main_ends X i_X6_takeMoveBack_X6 (by decide +kernel) dX6_takeMoveBack_79 ?_
      refine j_iload X 7 rfl dX6_takeMoveBack_82 ?_
      refine j_aload_n X rfl 0 rfl dX6_takeMoveBack_84 ?_
      refine jgC_main_ends X i_X6_takeMoveBack_X6 (by decide +kernel) dX6_takeMoveBack_85 ?_
      refine j_iload X 7 rfl dX6_takeMoveBack_88 ?_
      obtain ⟨k14, h⟩ := h
      refine jlC_main_ends X k14 dX6_takeMoveBack_90 ?_
      refine j_aload_n X rfl 0 rfl dX6_takeMoveBack_91 ?_
      refine jgC_main_ends X i_X6_takeMoveBack_X6 (by decide +kernel) dX6_takeMoveBack_92 ?_
      refine j_iload X 7 rfl dX6_takeMoveBack_95 ?_
      refine j_iconst (v := (1 : Int32)) X (by decide) dX6_takeMoveBack_97 ?_
      refine j_iadd X dX6_takeMoveBack_98 ?_
      obtain ⟨k15, h⟩ := h
      refine jlC_main_ends X k15 dX6_takeMoveBack_99 ?_
      refine j_mmin X (by decide +kernel) (Nat.le_of_ble_eq_true rfl) (Nat.le_of_ble_eq_true rfl) dX6_takeMoveBack_100 ?_
      refine jsC_main_ends X k14 dX6_takeMoveBack_103 (fun S16 eS16 => ?_)
      have h := h S16 eS16
      refine j_iinc (dv := (1 : Int32)) (lv' := fun v17 => [(6, .int v17), (0, .ref (q 0)), (1, .int a1), (2, .int a2), (3, .int a3), (4, .int a4), (5, .int a5), (7, .int a7)]) X dX6_takeMoveBack_104 (pl := 6) rfl (by decide) (by decide) (fun _ => rfl) (fun v17 ev17 => ?_)
      have h := h v17 ev17
      refine j_goto (tgt := 15) X dX6_takeMoveBack_107 (by decide) ?_
      refine j_loc [1, 2, 3, 4, 5, 6, 0] rfl ?_
      exact hK15 a1 a2 a3 a4 a5 v17 S16 h
set_option maxRecDepth 100000 in
set_option maxHeartbeats 4000000 in
theorem w_X6_takeMoveBack_15 {D : va_G} {i : Nat → ClassId} {q : Nat → Nat} {A : Nat → Prop} {p : Program} {l : Launch} {e : Env} {s : State} {m : MethodId} {args : Array Value} {below : List Frame} {meth : Method} {c : Code} (X : cX D i A p s m args meth c cX6_takeMoveBack RX6 8 wsX6_takeMoveBack none) {K6 : Int32 → Int32 → Int32 → Int32 → Int32 → vS → Prop} {Q : vS → Prop} (hK6 : ∀ (a1 : Int32) (a2 : Int32) (a3 : Int32) (a4 : Int32) (a5 : Int32) (S : vS), K6 a1 a2 a3 a4 a5 S → cJ D A p l e (headSpec wsX6_takeMoveBack rm_X6_takeMoveBack).room s m args below meth c (MQ below (va_Qv Q (vB D i A (wC q i)) A) args s 0 0 A) 8 (wC q i S) [(0, .ref (q 0)), (1, .int a1), (2, .int a2), (3, .int a3), (4, .int a4), (5, .int a5)] 6 []) : ∀ (n : Nat) (a1 : Int32) (a2 : Int32) (a3 : Int32) (a4 : Int32) (a5 : Int32) (a6 : Int32) (S : vS), e_X6_takeMoveBack_15 K6 Q n a1 a2 a3 a4 a5 a6 S → cJ D A p l e (headSpec wsX6_takeMoveBack rm_X6_takeMoveBack).room s m args below meth c (MQ below (va_Qv Q (vB D i A (wC q i)) A) args s 0 0 A) 8 (wC q i S) [(0, .ref (q 0)), (1, .int a1), (2, .int a2), (3, .int a3), (4, .int a4), (5, .int a5), (6, .int a6)] 15 [] := by
  intro n
  induction n with
  | zero =>
    intro _ _ _ _ _ _ S h
    rw [e_X6_takeMoveBack_15.eq_1] at h
    exact h.elim
  | succ n ih =>
    intro a1 a2 a3 a4 a5 a6 S h
    rw [e_X6_takeMoveBack_15.eq_2] at h
    refine j_iload X 6 rfl dX6_takeMoveBack_15 ?_
    refine j_iload_n X rfl 3 rfl dX6_takeMoveBack_17 ?_
    refine j_icmp_gt (tgt := 110) X dX6_takeMoveBack_18 (by decide) (fun c2 => ?_) (fun c2 => ?_)
    · have h := h.1 c2
      refine j_iinc (dv := (1 : Int32)) (lv' := fun v3 => [(5, .int v3), (0, .ref (q 0)), (1, .int a1), (2, .int a2), (3, .int a3), (4, .int a4), (6, .int a6)]) X dX6_takeMoveBack_110 (pl := 5) rfl (by decide) (by decide) (fun _ => rfl) (fun v3 ev3 => ?_)
      have h := h v3 ev3
      refine j_goto (tgt := 6) X dX6_takeMoveBack_113 (by decide) ?_
      refine j_loc [1, 2, 3, 4, 5, 0] rfl ?_
      exact hK6 a1 a2 a3 a4 v3 S h
    · have h := h.2 c2
      refine j_iload X 5 rfl dX6_takeMoveBack_21 ?_
      refine j_iload X 4 rfl dX6_takeMoveBack_23 ?_
      refine j_imul X dX6_takeMoveBack_25 ?_
      refine j_iload X 6 rfl dX6_takeMoveBack_26 ?_
      refine j_iadd X dX6_takeMoveBack_28 ?_
      refine j_topi (fun v4 ev4 => ?_)
      have h := h v4 ev4
      refine j_istore (lv' := [(7, .int v4), (0, .ref (q 0)), (1, .int a1), (2, .int a2), (3, .int a3), (4, .int a4), (5, .int a5), (6, .int a6)]) X (by decide) rfl dX6_takeMoveBack_29 ?_
      refine j_iload_n X rfl 2 rfl dX6_takeMoveBack_31 ?_
      refine j_if_eq (tgt := 68) X dX6_takeMoveBack_32 (by decide) (fun c5 => ?_) (fun c5 => ?_)
      · have h := h.1 c5
        refine j_loc [1, 2, 3, 4, 5, 6, 7, 0] rfl ?_
        exact w_X6_takeMoveBack_68 X hK6 (fun y0 y1 y2 y3 y4 y5 S h => ih y0 y1 y2 y3 y4 y5 S h) a1 a2 a3 a4 a5 a6 v4 S h
      · have h := h.2 c5
        refine j_iload X 6 rfl dX6_takeMoveBack_35 ?_
        refine j_iload_n X rfl 3 rfl dX6_takeMoveBack_37 ?_
        refine j_icmp_ge (tgt := 68) X dX6_takeMoveBack_38 (by decide) (fun c6 => ?_) (fun c6 => ?_)
        · have h := h.1 c6
          refine j_loc [1, 2, 3, 4, 5, 6, 7, 0] rfl ?_
          exact w_X6_takeMoveBack_68 X hK6 (fun y0 y1 y2 y3 y4 y5 S h => ih y0 y1 y2 y3 y4 y5 S h) a1 a2 a3 a4 a5 a6 v4 S h
        · have h := h.2 c6
          refine j_aload_n X rfl 1 rfl dX6_takeMoveBack_41 ?_
          refine jgC_main_ends X i_X6_takeMoveBack_X6 (by decide +kernel) dX6_takeMoveBack_42 ?_
          refine j_iload X 0 rfl dX6_takeMoveBack_45 ?_
          refine j_aload_n X rfl 1 rfl dX6_takeMoveBack_47 ?_
          refine jgC_main_ends X i_X6_takeMoveBack_X6 (by decide +kernel) dX6_takeMoveBack_48 ?_
          refine j_iload X 0 rfl dX6_takeMoveBack_51 ?_
          obtain ⟨k7, h⟩ := h
          refine jlC_main_ends X k7 dX6_takeMoveBack_53 ?_
          refine j_aload_n X rfl 1 rfl dX6_takeMoveBack_54 ?_
          refine jgC_main_ends X i_X6_takeMoveBack_X6 (by decide +kernel) dX6_takeMoveBack_55 ?_
          refine j_iload X 0 rfl dX6_takeMoveBack_58 ?_
          refine j_iload X 5 rfl dX6_takeMoveBack_60 ?_
          refine j_iadd X dX6_takeMoveBack_62 ?_
          obtain ⟨k8, h⟩ := h
          refine jlC_main_ends X k8 dX6_takeMoveBack_63 ?_
          refine j_mmax X (by decide +kernel) (Nat.le_of_ble_eq_true rfl) (Nat.le_of_ble_eq_true rfl) dX6_takeMoveBack_64 ?_
          refine jsC_main_ends X k7 dX6_takeMoveBack_67 (fun S9 eS9 => ?_)
          have h := h S9 eS9
          refine j_loc [1, 2, 3, 4, 5, 6, 7, 0] rfl ?_
          exact w_X6_takeMoveBack_68 X hK6 (fun y0 y1 y2 y3 y4 y5 S h => ih y0 y1 y2 y3 y4 y5 S h) a1 a2 a3 a4 a5 a6 v4 S9 h
set_option maxRecDepth 100000 in
set_option maxHeartbeats 4000000 in
theorem w_X6_takeMoveBack_6 {D : va_G} {i : Nat → ClassId} {q : Nat → Nat} {A : Nat → Prop} {p : Program} {l : Launch} {e : Env} {s : State} {m : MethodId} {args : Array Value} {below : List Frame} {meth : Method} {c : Code} (X : cX D i A p s m args meth c cX6_takeMoveBack RX6 8 wsX6_takeMoveBack none) {Q : vS → Prop} : ∀ (n : Nat) (a1 : Int32) (a2 : Int32) (a3 : Int32) (a4 : Int32) (a5 : Int32) (S : vS), e_X6_takeMoveBack_6 Q n a1 a2 a3 a4 a5 S → cJ D A p l e (headSpec wsX6_takeMoveBack rm_X6_takeMoveBack).room s m args below meth c (MQ below (va_Qv Q (vB D i A (wC q i)) A) args s 0 0 A) 8 (wC q i S) [(0, .ref (q 0)), (1, .int a1), (2, .int a2), (3, .int a3), (4, .int a4), (5, .int a5)] 6 [] := by
  intro n
  induction n with
  | zero =>
    intro _ _ _ _ _ S h
    rw [e_X6_takeMoveBack_6.eq_1] at h
    exact h.elim
  | succ n ih =>
    intro a1 a2 a3 a4 a5 S h
    rw [e_X6_takeMoveBack_6.eq_2] at h
    refine j_iload X 5 rfl dX6_takeMoveBack_6 ?_
    refine j_iload_n X rfl 2 rfl dX6_takeMoveBack_8 ?_
    refine j_icmp_gt (tgt := 116) X dX6_takeMoveBack_9 (by decide) (fun c1 => ?_) (fun c1 => ?_)
    · have h := h.1 c1
      exact j_vret X h dX6_takeMoveBack_116
    · have h := h.2 c1
      refine j_iconst (v := (0 : Int32)) X (by decide) dX6_takeMoveBack_12 ?_
      refine j_istore (lv' := [(6, .int (0 : Int32)), (0, .ref (q 0)), (1, .int a1), (2, .int a2), (3, .int a3), (4, .int a4), (5, .int a5)]) X (by decide) rfl dX6_takeMoveBack_13 ?_
      refine j_loc [1, 2, 3, 4, 5, 6, 0] rfl ?_
      obtain ⟨j, h⟩ := h
      exact w_X6_takeMoveBack_15 X (fun y0 y1 y2 y3 y4 S h => ih y0 y1 y2 y3 y4 S h) j a1 a2 a3 a4 a5 (0 : Int32) S h
set_option maxRecDepth 100000 in
set_option maxHeartbeats 4000000 in
theorem c_X6_takeMoveBack (l : Launch) (D : va_G) (i : Nat → ClassId) (q : Nat → Nat) (A : Nat → Prop) (x1 : Int32) (x2 : Int32) (x3 : Int32) (S : vS) (Q : vS → Prop) (h : e_X6_takeMoveBack x1 x2 x3 S Q) : Met l yX6_takeMoveBack wsX6_takeMoveBack rm_X6_takeMoveBack (va_Pc [.ref (q 0), .int x1, .int x2, .int x3] (vB D i A (wC q i) S)) (va_Qv Q (vB D i A (wC q i)) A) 0 0 A := by
  refine m_ofJ (own := RX6) (lv := [(0, .ref (q 0)), (1, .int x1), (2, .int x2), (3, .int x3)]) rfl (by decide) rfl (Nat.le_of_ble_eq_true rfl) rfl ?_
  intro p e s m below meth c X
  unfold e_X6_takeMoveBack at h
  refine j_iconst (v := (4 : Int32)) X (by decide) dX6_takeMoveBack_0 ?_
  refine j_istore (lv' := [(4, .int (4 : Int32)), (0, .ref (q 0)), (1, .int x1), (2, .int x2), (3, .int x3)]) X (by decide) rfl dX6_takeMoveBack_1 ?_
  refine j_iconst (v := (0 : Int32)) X (by decide) dX6_takeMoveBack_3 ?_
  refine j_istore (lv' := [(5, .int (0 : Int32)), (4, .int (4 : Int32)), (0, .ref (q 0)), (1, .int x1), (2, .int x2), (3, .int x3)]) X (by decide) rfl dX6_takeMoveBack_4 ?_
  refine j_loc [2, 3, 4, 5, 1, 0] rfl ?_
  obtain ⟨j, h⟩ := h
  exact w_X6_takeMoveBack_6 X j x1 x2 x3 (4 : Int32) (0 : Int32) S h
