set_option maxRecDepth 100000 in
theorem i_X7_tree_X7 : ∀ w ∈ u_ws RX7 TX7 48, w ∈ wsX7_tree := by decide +kernel
abbrev rm_X7_tree : Room := { frames := 6, cells := 0, slots := 0, locals := 142 }
set_option maxRecDepth 100000 in
set_option maxHeartbeats 4000000 in
theorem w_X7_tree_121 {D : va_G} {i : Nat → ClassId} {q : Nat → Nat} {A : Nat → Prop} {p : Program} {l : Launch} {e : Env} {s : State} {m : MethodId} {args : Array Value} {below : List Frame} {meth : Method} {c : Code} (X : cX D i A p s m args meth c cX7_tree RX7 10 wsX7_tree (some .int)) {K48 : Int32 → Int32 → Int32 → Int32 → Int32 → Int32 → vS → Prop} {Q : Int32 → vS → Prop} (hK48 : ∀ (a1 : Int32) (a2 : Int32) (a3 : Int32) (a4 : Int32) (a5 : Int32) (a6 : Int32) (S : vS), K48 a1 a2 a3 a4 a5 a6 S → cJ D A p l e (headSpec wsX7_tree rm_X7_tree).room s m args below meth c (MQ below (va_Qi Q (vB D i A (wM q i)) A) args s 0 0 A) 10 (wM q i S) [(0, .ref (q 0)), (1, .int a1), (2, .int a2), (3, .int a3), (4, .int a4), (5, .int a5), (6, .int a6)] 48 []) : ∀ (a1 : Int32) (a2 : Int32) (a3 : Int32) (a5 : Int32) (a6 : Int32) (a8 : Int32) (a9 : Int32) (t0 : Int32) (S : vS), e_X7_tree_121 K48 Q a1 a2 a3 a5 a6 a8 a9 t0 S → cJ D A p l e (headSpec wsX7_tree rm_X7_tree).room s m args below meth c (MQ below (va_Qi Q (vB D i A (wM q i)) A) args s 0 0 A) 10 (wM q i S) [(0, .ref (q 0)), (1, .int a1), (2, .int a2), (3, .int a3), (5, .int a5), (6, .int a6), (8, .int a8), (9, .int a9)] 121 [.int t0] := by
  intro a1 a2 a3 a5 a6 a8 a9 t0 S h
  unfold e_X7_tree_121 at h
  refine j_istore (lv' := [(4, .int t0), (0, .ref (q 0)), (1, .int a1), (2, .int a2), (3, .int a3), (5, .int a5), (6, .int a6), (8, .int a8), (9, .int a9)]) X (by decide) rfl dX7_tree_121 ?_
  refine j_iload X 8 rfl dX7_tree_123 ?_
  refine j_if_eq (tgt := 133) X dX7_tree_125 (by decide) (fun c27 => ?_) (fun c27 => ?_)
  · have h := h.1 c27
    refine j_iload X 5 rfl dX7_tree_133 ?_
    refine j_istore (lv' := [(5, .int a5), (4, .int t0), (0, .ref (q 0)), (1, .int a1), (2, .int a2), (3, .int a3), (6, .int a6), (8, .int a8), (9, .int a9)]) X (by decide) rfl dX7_tree_135 ?_
    refine j_iinc (dv := (1 : Int32)) (lv' := fun v28 => [(6, .int v28), (5, .int a5), (4, .int t0), (0, .ref (q 0)), (1, .int a1), (2, .int a2), (3, .int a3), (8, .int a8), (9, .int a9)]) X dX7_tree_137 (pl := 6) rfl (by decide) (by decide) (fun _ => rfl) (fun v28 ev28 => ?_)
    have h := h v28 ev28
    refine j_goto (tgt := 48) X dX7_tree_140 (by decide) ?_
    refine j_loc [3, 4, 5, 6, 2, 1, 0] rfl ?_
    exact hK48 a1 a2 a3 t0 a5 v28 S h
  · have h := h.2 c27
    refine j_iload X 7 rfl dX7_tree_128 ?_
    refine j_goto (tgt := 135) X dX7_tree_130 (by decide) ?_
    refine j_istore (lv' := [(5, .int a8), (4, .int t0), (0, .ref (q 0)), (1, .int a1), (2, .int a2), (3, .int a3), (6, .int a6), (8, .int a8), (9, .int a9)]) X (by decide) rfl dX7_tree_135 ?_
    refine j_iinc (dv := (1 : Int32)) (lv' := fun v29 => [(6, .int v29), (5, .int a8), (4, .int t0), (0, .ref (q 0)), (1, .int a1), (2, .int a2), (3, .int a3), (8, .int a8), (9, .int a9)]) X dX7_tree_137 (pl := 6) rfl (by decide) (by decide) (fun _ => rfl) (fun v29 ev29 => ?_)
    have h := h v29 ev29
    refine j_goto (tgt := 48) X dX7_tree_140 (by decide) ?_
    refine j_loc [3, 4, 5, 6, 2, 1, 0] rfl ?_
    exact hK48 a1 a2 a3 t0 a8 v29 S h
set_option maxRecDepth 100000 in
set_option maxHeartbeats 4000000 in
theorem w_X7_tree_102 {D : va_G} {i : Nat → ClassId} {q : Nat → Nat} {A : Nat → Prop} {p : Program} {l : Launch} {e : Env} {s : State} {m : MethodId} {args : Array Value} {below : List Frame} {meth : Method} {c : Code} (X : cX D i A p s m args meth c cX7_tree RX7 10 wsX7_tree (some .int)) {K48 : Int32 → Int32 → Int32 → Int32 → Int32 → Int32 → vS → Prop} {Q : Int32 → vS → Prop} (hK48 : ∀ (a1 : Int32) (a2 : Int32) (a3 : Int32) (a4 : Int32) (a5 : Int32) (a6 : Int32) (S : vS), K48 a1 a2 a3 a4 a5 a6 S → cJ D A p l e (headSpec wsX7_tree rm_X7_tree).room s m args below meth c (MQ below (va_Qi Q (vB D i A (wM q i)) A) args s 0 0 A) 10 (wM q i S) [(0, .ref (q 0)), (1, .int a1), (2, .int a2), (3, .int a3), (4, .int a4), (5, .int a5), (6, .int a6)] 48 []) : ∀ (a1 : Int32) (a2 : Int32) (a3 : Int32) (a4 : Int32) (a5 : Int32) (a6 : Int32) (a8 : Int32) (S : vS), e_X7_tree_102 K48 Q a1 a2 a3 a4 a5 a6 a8 S → cJ D A p l e (headSpec wsX7_tree rm_X7_tree).room s m args below meth c (MQ below (va_Qi Q (vB D i A (wM q i)) A) args s 0 0 A) 10 (wM q i S) [(0, .ref (q 0)), (1, .int a1), (2, .int a2), (3, .int a3), (4, .int a4), (5, .int a5), (6, .int a6), (8, .int a8)] 102 [] := by
  intro a1 a2 a3 a4 a5 a6 a8 S h
  unfold e_X7_tree_102 at h
  refine j_iconst (v := (1 : Int32)) X (by decide) dX7_tree_102 ?_
  refine j_goto (tgt := 107) X dX7_tree_103 (by decide) ?_
  refine j_istore (lv' := [(9, .int (1 : Int32)), (0, .ref (q 0)), (1, .int a1), (2, .int a2), (3, .int a3), (4, .int a4), (5, .int a5), (6, .int a6), (8, .int a8)]) X (by decide) rfl dX7_tree_107 ?_
  refine j_iload X 0 rfl dX7_tree_109 ?_
  refine j_if_eq (tgt := 119) X dX7_tree_111 (by decide) (fun c26 => ?_) (fun c26 => ?_)
  · have h := h.1 c26
    refine j_iload X 5 rfl dX7_tree_119 ?_
    refine j_loc [1, 2, 3, 4, 6, 7, 8, 0] rfl ?_
    exact w_X7_tree_121 X hK48 a1 a2 a3 a5 a6 a8 (1 : Int32) a4 S h
  · have h := h.2 c26
    refine j_iload X 7 rfl dX7_tree_114 ?_
    refine j_goto (tgt := 121) X dX7_tree_116 (by decide) ?_
    refine j_loc [1, 2, 3, 4, 6, 7, 8, 0] rfl ?_
    exact w_X7_tree_121 X hK48 a1 a2 a3 a5 a6 a8 (1 : Int32) a6 S h
set_option maxRecDepth 100000 in
set_option maxHeartbeats 4000000 in
theorem w_X7_tree_48 {D : va_G} {i : Nat → ClassId} {q : Nat → Nat} {A : Nat → Prop} {p : Program} {l : Launch} {e : Env} {s : State} {m : MethodId} {args : Array Value} {below : List Frame} {meth : Method} {c : Code} (X : cX D i A p s m args meth c cX7_tree RX7 10 wsX7_tree (some .int)) {Q : Int32 → vS → Prop} : ∀ (n : Nat) (a1 : Int32) (a2 : Int32) (a3 : Int32) (a4 : Int32) (a5 : Int32) (a6 : Int32) (S : vS), e_X7_tree_48 Q n a1 a2 a3 a4 a5 a6 S → cJ D A p l e (headSpec wsX7_tree rm_X7_tree).room s m args below meth c (MQ below (va_Qi Q (vB D i A (wM q i)) A) args s 0 0 A) 10 (wM q i S) [(0, .ref (q 0)), (1, .int a1), (2, .int a2), (3, .int a3), (4, .int a4), (5, .int a5), (6, .int a6)] 48 [] := by
  intro n
  induction n with
  | zero =>
    intro _ _ _ _ _ _ S h
    rw [e_X7_tree_48.eq_1] at h
    exact h.elim
  | succ n ih =>
    intro a1 a2 a3 a4 a5 a6 S h
    rw [e_X7_tree_48.eq_2] at h
    refine j_iload X 6 rfl dX7_tree_48 ?_
    refine j_aload_n X rfl 0 rfl dX7_tree_50 ?_
    refine j_Vi (st := [.int a6]) X [] 0 (c_X7_cells l D i q A S _ h) (cwV 0 X.ts gX7_tree_X7_cells rfl rfl rfl (by decide +kernel) ⟨Nat.le_of_ble_eq_true rfl, Nat.le_of_ble_eq_true rfl⟩) rfl rfl rfl rfl (Nat.le_of_ble_eq_true rfl) dX7_tree_51 (fun r11 S10 h => ?_)
    refine j_icmp_ge (tgt := 143) X dX7_tree_54 (by decide) (fun c12 => ?_) (fun c12 => ?_)
    · have h := h.1 c12
      refine j_iload_n X rfl 3 rfl dX7_tree_143 ?_
      refine j_if_ne (tgt := 157) X dX7_tree_144 (by decide) (fun c13 => ?_) (fun c13 => ?_)
      · have h := h.1 c13
        refine j_iload_n X rfl 3 rfl dX7_tree_157 ?_
        refine j_iconst (v := (1 : Int32)) X (by decide) dX7_tree_158 ?_
        refine j_icmp_ne (tgt := 172) X dX7_tree_159 (by decide) (fun c14 => ?_) (fun c14 => ?_)
        · have h := h.1 c14
          refine j_iload X 5 rfl dX7_tree_172 ?_
          exact j_iret X h dX7_tree_174
        · have h := h.2 c14
          refine j_iload X 4 rfl dX7_tree_162 ?_
          refine j_aload_n X rfl 0 rfl dX7_tree_164 ?_
          refine jgM_mod_wide X i_X7_tree_X7 (by decide +kernel) dX7_tree_165 ?_
          obtain ⟨k15, h⟩ := h
          refine j_idiv X k15 dX7_tree_168 ?_
          refine j_goto (tgt := 174) X dX7_tree_169 (by decide) ?_
          exact j_iret X h dX7_tree_174
      · have h := h.2 c13
        refine j_iload X 4 rfl dX7_tree_147 ?_
        refine j_aload_n X rfl 0 rfl dX7_tree_149 ?_
        refine jgM_mod_wide X i_X7_tree_X7 (by decide +kernel) dX7_tree_150 ?_
        obtain ⟨k16, h⟩ := h
        refine j_irem X k16 dX7_tree_153 ?_
        refine j_goto (tgt := 174) X dX7_tree_154 (by decide) ?_
        exact j_iret X h dX7_tree_174
    · have h := h.2 c12
      refine j_aload_n X rfl 0 rfl dX7_tree_57 ?_
      refine jgM_mod_stand X i_X7_tree_X7 (by decide +kernel) dX7_tree_58 ?_
      refine j_iload X 6 rfl dX7_tree_61 ?_
      obtain ⟨k17, h⟩ := h
      refine jlM_mod_stand X k17 dX7_tree_63 ?_
      refine j_topi (fun v18 ev18 => ?_)
      have h := h v18 ev18
      refine j_istore (lv' := [(7, .int v18), (0, .ref (q 0)), (1, .int a1), (2, .int a2), (3, .int a3), (4, .int a4), (5, .int a5), (6, .int a6)]) X (by decide) rfl dX7_tree_64 ?_
      refine j_aload_n X rfl 1 rfl dX7_tree_66 ?_
      refine jgM_mod_stand X i_X7_tree_X7 (by decide +kernel) dX7_tree_67 ?_
      refine j_iload X 7 rfl dX7_tree_70 ?_
      refine j_iload_n X rfl 3 rfl dX7_tree_72 ?_
      refine jsM_mod_stand X k17 dX7_tree_73 (fun S19 eS19 => ?_)
      have h := h S19 eS19
      refine j_aload_n X rfl 1 rfl dX7_tree_74 ?_
      refine j_iload_n X rfl 2 rfl dX7_tree_75 ?_
      refine j_Vi (st := []) X [.int a1] 0 (c_X7_shareOf l D i q A a1 S19 _ h) (cwV 1 X.ts gX7_tree_X7_shareOf rfl rfl rfl (by decide +kernel) ⟨Nat.le_of_ble_eq_true rfl, Nat.le_of_ble_eq_true rfl⟩) rfl rfl rfl rfl (Nat.le_of_ble_eq_true rfl) dX7_tree_76 (fun r21 S20 h => ?_)
      refine j_istore (lv' := [(8, .int r21), (7, .int v18), (0, .ref (q 0)), (1, .int a1), (2, .int a2), (3, .int a3), (4, .int a4), (5, .int a5), (6, .int a6)]) X (by decide) rfl dX7_tree_79 ?_
      refine j_aload_n X rfl 2 rfl dX7_tree_81 ?_
      refine jgM_mod_stand X i_X7_tree_X7 (by decide +kernel) dX7_tree_82 ?_
      refine j_iload X 8 rfl dX7_tree_85 ?_
      refine j_iload X 1 rfl dX7_tree_87 ?_
      refine jsM_mod_stand X k17 dX7_tree_89 (fun S22 eS22 => ?_)
      have h := h S22 eS22
      refine j_iload X 6 rfl dX7_tree_90 ?_
      refine j_if_lt (tgt := 102) X dX7_tree_92 (by decide) (fun c23 => ?_) (fun c23 => ?_)
      · have h := h.1 c23
        refine j_loc [2, 3, 4, 5, 6, 7, 8, 0] rfl ?_
        exact w_X7_tree_102 X (fun y0 y1 y2 y3 y4 y5 S h => ih y0 y1 y2 y3 y4 y5 S h) a1 a2 a3 a4 a5 a6 r21 S22 h
      · have h := h.2 c23
        refine j_iload X 0 rfl dX7_tree_95 ?_
        refine j_iload X 7 rfl dX7_tree_97 ?_
        refine j_icmp_le (tgt := 106) X dX7_tree_99 (by decide) (fun c24 => ?_) (fun c24 => ?_)
        · have h := h.1 c24
          refine j_iconst (v := (0 : Int32)) X (by decide) dX7_tree_106 ?_
          refine j_istore (lv' := [(9, .int (0 : Int32)), (8, .int r21), (7, .int v18), (0, .ref (q 0)), (1, .int a1), (2, .int a2), (3, .int a3), (4, .int a4), (5, .int a5), (6, .int a6)]) X (by decide) rfl dX7_tree_107 ?_
          refine j_iload X 0 rfl dX7_tree_109 ?_
          refine j_if_eq (tgt := 119) X dX7_tree_111 (by decide) (fun c25 => ?_) (fun c25 => ?_)
          · have h := h.1 c25
            refine j_iload X 7 rfl dX7_tree_119 ?_
            refine j_loc [3, 4, 5, 6, 8, 9, 1, 0] rfl ?_
            exact w_X7_tree_121 X (fun y0 y1 y2 y3 y4 y5 S h => ih y0 y1 y2 y3 y4 y5 S h) a1 a2 a3 a5 a6 r21 (0 : Int32) a4 S22 h
          · have h := h.2 c25
            refine j_iload X 9 rfl dX7_tree_114 ?_
            refine j_goto (tgt := 121) X dX7_tree_116 (by decide) ?_
            refine j_loc [3, 4, 5, 6, 8, 9, 1, 0] rfl ?_
            exact w_X7_tree_121 X (fun y0 y1 y2 y3 y4 y5 S h => ih y0 y1 y2 y3 y4 y5 S h) a1 a2 a3 a5 a6 r21 (0 : Int32) a6 S22 h
        · have h := h.2 c24
          refine j_loc [2, 3, 4, 5, 6, 7, 8, 0] rfl ?_
          exact w_X7_tree_102 X (fun y0 y1 y2 y3 y4 y5 S h => ih y0 y1 y2 y3 y4 y5 S h) a1 a2 a3 a4 a5 a6 r21 S22 h
set_option maxRecDepth 100000 in
set_option maxHeartbeats 4000000 in
theorem c_X7_tree (l : Launch) (D : va_G) (i : Nat → ClassId) (q : Nat → Nat) (A : Nat → Prop) (x1 : Int32) (x2 : Int32) (x3 : Int32) (S : vS) (Q : Int32 → vS → Prop) (h : e_X7_tree x1 x2 x3 S Q) : Met l yX7_tree wsX7_tree rm_X7_tree (va_Pc [.ref (q 0), .int x1, .int x2, .int x3] (vB D i A (wM q i) S)) (va_Qi Q (vB D i A (wM q i)) A) 0 0 A := by
  refine m_ofJ (own := RX7) (lv := [(0, .ref (q 0)), (1, .int x1), (2, .int x2), (3, .int x3)]) rfl (by decide) rfl (Nat.le_of_ble_eq_true rfl) rfl ?_
  intro p e s m below meth c X
  unfold e_X7_tree at h
  refine j_aload_n X rfl 0 rfl dX7_tree_0 ?_
  refine j_iload_n X rfl 1 rfl dX7_tree_1 ?_
  refine j_Vi (st := []) X [.int x1] 0 (c_X7_isMan l D i q A x1 S _ h) (cwV 1 X.ts gX7_tree_X7_isMan rfl rfl rfl (by decide +kernel) ⟨Nat.le_of_ble_eq_true rfl, Nat.le_of_ble_eq_true rfl⟩) rfl rfl rfl rfl (Nat.le_of_ble_eq_true rfl) dX7_tree_2 (fun r2 S1 h => ?_)
  refine j_if_ne (tgt := 12) X dX7_tree_5 (by decide) (fun c3 => ?_) (fun c3 => ?_)
  · have h := h.1 c3
    refine j_iload_n X rfl 2 rfl dX7_tree_12 ?_
    refine j_i2l X dX7_tree_13 ?_
    refine j_lconst (v := (1 : Int64)) X (by decide) dX7_tree_14 ?_
    refine j_ldc2 (v := (99 : Int64)) X (by decide +kernel) dX7_tree_15 ?_
    refine j_Si (st := []) X [.long (x2).toInt64, .long (1 : Int64), .long (99 : Int64)] (c_X7_in l D i q A (x2).toInt64 (1 : Int64) (99 : Int64) S1 _ h) (va_cwS 3 X.ts gX7_tree_X7_in rfl rfl rfl (by decide +kernel) ⟨Nat.le_of_ble_eq_true rfl, Nat.le_of_ble_eq_true rfl⟩) rfl rfl (Nat.le_of_ble_eq_true rfl) dX7_tree_18 (fun r5 S4 h => ?_)
    refine j_if_eq (tgt := 36) X dX7_tree_21 (by decide) (fun c6 => ?_) (fun c6 => ?_)
    · have h := h.1 c6
      refine j_ldc (v := (-1000000002 : Int32)) X (by decide +kernel) dX7_tree_36 ?_
      exact j_iret X h dX7_tree_38
    · have h := h.2 c6
      refine j_iload_n X rfl 3 rfl dX7_tree_24 ?_
      refine j_i2l X dX7_tree_25 ?_
      refine j_lconst (v := (0 : Int64)) X (by decide) dX7_tree_26 ?_
      refine j_ldc2 (v := (2 : Int64)) X (by decide +kernel) dX7_tree_27 ?_
      refine j_Si (st := []) X [.long (x3).toInt64, .long (0 : Int64), .long (2 : Int64)] (c_X7_in l D i q A (x3).toInt64 (0 : Int64) (2 : Int64) S4 _ h) (va_cwS 3 X.ts gX7_tree_X7_in rfl rfl rfl (by decide +kernel) ⟨Nat.le_of_ble_eq_true rfl, Nat.le_of_ble_eq_true rfl⟩) rfl rfl (Nat.le_of_ble_eq_true rfl) dX7_tree_30 (fun r8 S7 h => ?_)
      refine j_if_ne (tgt := 39) X dX7_tree_33 (by decide) (fun c9 => ?_) (fun c9 => ?_)
      · have h := h.1 c9
        refine j_iconst (v := (-1 : Int32)) X (by decide) dX7_tree_39 ?_
        refine j_istore (lv' := [(4, .int (-1 : Int32)), (0, .ref (q 0)), (1, .int x1), (2, .int x2), (3, .int x3)]) X (by decide) rfl dX7_tree_40 ?_
        refine j_iconst (v := (0 : Int32)) X (by decide) dX7_tree_42 ?_
        refine j_istore (lv' := [(5, .int (0 : Int32)), (4, .int (-1 : Int32)), (0, .ref (q 0)), (1, .int x1), (2, .int x2), (3, .int x3)]) X (by decide) rfl dX7_tree_43 ?_
        refine j_iconst (v := (0 : Int32)) X (by decide) dX7_tree_45 ?_
        refine j_istore (lv' := [(6, .int (0 : Int32)), (5, .int (0 : Int32)), (4, .int (-1 : Int32)), (0, .ref (q 0)), (1, .int x1), (2, .int x2), (3, .int x3)]) X (by decide) rfl dX7_tree_46 ?_
        refine j_loc [3, 4, 5, 6, 2, 1, 0] rfl ?_
        obtain ⟨j, h⟩ := h
        exact w_X7_tree_48 X j x1 x2 x3 (-1 : Int32) (0 : Int32) (0 : Int32) S7 h
      · have h := h.2 c9
        refine j_ldc (v := (-1000000002 : Int32)) X (by decide +kernel) dX7_tree_36 ?_
        exact j_iret X h dX7_tree_38
  · have h := h.2 c3
    refine j_ldcw (v := (-1000000001 : Int32)) X (by decide +kernel) dX7_tree_8 ?_
    exact j_iret X h dX7_tree_11
set_option maxRecDepth 100000 in
theorem i_X7_wins_X7 : ∀ w ∈ u_ws RX7 TX7 48, w ∈ wsX7_wins := by decide +kernel
abbrev rm_X7_wins : Room := { frames := 6, cells := 0, slots := 0, locals := 142 }
set_option maxRecDepth 100000 in
set_option maxHeartbeats 4000000 in
theorem c_X7_wins (l : Launch) (D : va_G) (i : Nat → ClassId) (q : Nat → Nat) (A : Nat → Prop) (x1 : Int32) (S : vS) (Q : Int32 → vS → Prop) (h : e_X7_wins x1 S Q) : Met l yX7_wins wsX7_wins rm_X7_wins (va_Pc [.ref (q 0), .int x1] (vB D i A (wM q i) S)) (va_Qi Q (vB D i A (wM q i)) A) 0 0 A := by
  refine m_ofJ (own := RX7) (lv := [(0, .ref (q 0)), (1, .int x1)]) rfl (by decide) rfl (Nat.le_of_ble_eq_true rfl) rfl ?_
  intro p e s m below meth c X
  unfold e_X7_wins at h
  refine j_aload_n X rfl 0 rfl dX7_wins_0 ?_
  refine j_iload_n X rfl 1 rfl dX7_wins_1 ?_
  refine j_Vi (st := []) X [.int x1] 0 (c_X7_isMan l D i q A x1 S _ h) (cwV 1 X.ts gX7_wins_X7_isMan rfl rfl rfl (by decide +kernel) ⟨Nat.le_of_ble_eq_true rfl, Nat.le_of_ble_eq_true rfl⟩) rfl rfl rfl rfl (Nat.le_of_ble_eq_true rfl) dX7_wins_2 (fun r2 S1 h => ?_)
  refine j_if_ne (tgt := 12) X dX7_wins_5 (by decide) (fun c3 => ?_) (fun c3 => ?_)
  · have h := h.1 c3
    refine j_aload_n X rfl 0 rfl dX7_wins_12 ?_
    refine jgM_mod_storeys X i_X7_wins_X7 (by decide +kernel) dX7_wins_13 ?_
    refine j_iload_n X rfl 1 rfl dX7_wins_16 ?_
    obtain ⟨k4, h⟩ := h
    refine jlM_mod_storeys X k4 dX7_wins_17 ?_
    refine j_bipush (v := (9 : Int32)) X (by decide) dX7_wins_18 ?_
    refine j_icmp_ne (tgt := 27) X dX7_wins_20 (by decide) (fun c5 => ?_) (fun c5 => ?_)
    · have h := h.1 c5
      refine j_aload_n X rfl 0 rfl dX7_wins_27 ?_
      refine j_iload_n X rfl 1 rfl dX7_wins_28 ?_
      refine j_Vi (st := []) X [.int x1] 0 (c_X7_shareOf l D i q A x1 S1 _ h) (cwV 1 X.ts gX7_wins_X7_shareOf rfl rfl rfl (by decide +kernel) ⟨Nat.le_of_ble_eq_true rfl, Nat.le_of_ble_eq_true rfl⟩) rfl rfl rfl rfl (Nat.le_of_ble_eq_true rfl) dX7_wins_29 (fun r7 S6 h => ?_)
      refine j_istore_n (lv' := [(2, .int r7), (0, .ref (q 0)), (1, .int x1)]) X rfl (by decide) rfl dX7_wins_32 ?_
      refine j_aload_n X rfl 1 rfl dX7_wins_33 ?_
      refine jgM_mod_storeys X i_X7_wins_X7 (by decide +kernel) dX7_wins_34 ?_
      refine j_iload_n X rfl 2 rfl dX7_wins_37 ?_
      refine j_dup2 X rfl rfl dX7_wins_38 ?_
      refine jlM_mod_storeys X k4 dX7_wins_39 ?_
      refine j_iconst (v := (1 : Int32)) X (by decide) dX7_wins_40 ?_
      refine j_iadd X dX7_wins_41 ?_
      refine jsM_mod_storeys X k4 dX7_wins_42 (fun S8 eS8 => ?_)
      have h := h S8 eS8
      refine j_aload_n X rfl 1 rfl dX7_wins_43 ?_
      refine j_iload_n X rfl 2 rfl dX7_wins_44 ?_
      refine j_Vi (st := []) X [.int x1] 0 (c_X7_shareOf l D i q A x1 S8 _ h) (cwV 1 X.ts gX7_wins_X7_shareOf rfl rfl rfl (by decide +kernel) ⟨Nat.le_of_ble_eq_true rfl, Nat.le_of_ble_eq_true rfl⟩) rfl rfl rfl rfl (Nat.le_of_ble_eq_true rfl) dX7_wins_45 (fun r10 S9 h => ?_)
      refine j_istore_n (lv' := [(3, .int r10), (2, .int r7), (0, .ref (q 0)), (1, .int x1)]) X rfl (by decide) rfl dX7_wins_48 ?_
      refine j_aload_n X rfl 2 rfl dX7_wins_49 ?_
      refine jgM_mod_storeys X i_X7_wins_X7 (by decide +kernel) dX7_wins_50 ?_
      refine j_iload_n X rfl 3 rfl dX7_wins_53 ?_
      refine j_dup2 X rfl rfl dX7_wins_54 ?_
      refine jlM_mod_storeys X k4 dX7_wins_55 ?_
      refine j_iconst (v := (1 : Int32)) X (by decide) dX7_wins_56 ?_
      refine j_isub X dX7_wins_57 ?_
      refine jsM_mod_storeys X k4 dX7_wins_58 (fun S11 eS11 => ?_)
      have h := h S11 eS11
      refine j_iload_n X rfl 0 rfl dX7_wins_59 ?_
      refine j_iload_n X rfl 1 rfl dX7_wins_60 ?_
      refine j_isub X dX7_wins_61 ?_
      exact j_iret X h dX7_wins_62
    · have h := h.2 c5
      refine j_ldcw (v := (-1000000003 : Int32)) X (by decide +kernel) dX7_wins_23 ?_
      exact j_iret X h dX7_wins_26
  · have h := h.2 c3
    refine j_ldcw (v := (-1000000001 : Int32)) X (by decide +kernel) dX7_wins_8 ?_
    exact j_iret X h dX7_wins_11
set_option maxRecDepth 100000 in
theorem i_X7_view_X7 : ∀ w ∈ u_ws RX7 TX7 48, w ∈ wsX7_view := by decide +kernel
abbrev rm_X7_view : Room := { frames := 6, cells := 0, slots := 0, locals := 142 }
set_option maxRecDepth 100000 in
set_option maxHeartbeats 4000000 in
theorem c_X7_view (l : Launch) (D : va_G) (i : Nat → ClassId) (q : Nat → Nat) (A : Nat → Prop) (x1 : Int32) (x2 : Int32) (x3 : Int32) (S : vS) (Q : Int32 → vS → Prop) (h : e_X7_view x1 x2 x3 S Q) : Met l yX7_view wsX7_view rm_X7_view (va_Pc [.ref (q 0), .int x1, .int x2, .int x3] (vB D i A (wM q i) S)) (va_Qi Q (vB D i A (wM q i)) A) 0 0 A := by
  refine m_ofJ (own := RX7) (lv := [(0, .ref (q 0)), (1, .int x1), (2, .int x2), (3, .int x3)]) rfl (by decide) rfl (Nat.le_of_ble_eq_true rfl) rfl ?_
  intro p e s m below meth c X
  unfold e_X7_view at h
  refine j_aload_n X rfl 0 rfl dX7_view_0 ?_
  refine j_iload_n X rfl 1 rfl dX7_view_1 ?_
  refine j_Vi (st := []) X [.int x1] 0 (c_X7_isMan l D i q A x1 S _ h) (cwV 1 X.ts gX7_view_X7_isMan rfl rfl rfl (by decide +kernel) ⟨Nat.le_of_ble_eq_true rfl, Nat.le_of_ble_eq_true rfl⟩) rfl rfl rfl rfl (Nat.le_of_ble_eq_true rfl) dX7_view_2 (fun r2 S1 h => ?_)
  refine j_if_eq (tgt := 17) X dX7_view_5 (by decide) (fun c3 => ?_) (fun c3 => ?_)
  · have h := h.1 c3
    refine j_ldcw (v := (-1000000001 : Int32)) X (by decide +kernel) dX7_view_17 ?_
    exact j_iret X h dX7_view_20
  · have h := h.2 c3
    refine j_aload_n X rfl 0 rfl dX7_view_8 ?_
    refine j_iload_n X rfl 2 rfl dX7_view_9 ?_
    refine j_iload_n X rfl 3 rfl dX7_view_10 ?_
    refine j_Vi (st := []) X [.int x2, .int x3] 0 (c_X7_isCell l D i q A x2 x3 S1 _ h) (cwV 2 X.ts gX7_view_X7_isCell rfl rfl rfl (by decide +kernel) ⟨Nat.le_of_ble_eq_true rfl, Nat.le_of_ble_eq_true rfl⟩) rfl rfl rfl rfl (Nat.le_of_ble_eq_true rfl) dX7_view_11 (fun r5 S4 h => ?_)
    refine j_if_ne (tgt := 21) X dX7_view_14 (by decide) (fun c6 => ?_) (fun c6 => ?_)
    · have h := h.1 c6
      refine j_aload_n X rfl 0 rfl dX7_view_21 ?_
      refine j_iload_n X rfl 1 rfl dX7_view_22 ?_
      refine j_Vi (st := []) X [.int x1] 0 (c_X7_shareOf l D i q A x1 S4 _ h) (cwV 1 X.ts gX7_view_X7_shareOf rfl rfl rfl (by decide +kernel) ⟨Nat.le_of_ble_eq_true rfl, Nat.le_of_ble_eq_true rfl⟩) rfl rfl rfl rfl (Nat.le_of_ble_eq_true rfl) dX7_view_23 (fun r8 S7 h => ?_)
      refine j_istore (lv' := [(4, .int r8), (0, .ref (q 0)), (1, .int x1), (2, .int x2), (3, .int x3)]) X (by decide) rfl dX7_view_26 ?_
      refine j_aload_n X rfl 1 rfl dX7_view_28 ?_
      refine jgM_mod_stand X i_X7_view_X7 (by decide +kernel) dX7_view_29 ?_
      refine j_aload_n X rfl 1 rfl dX7_view_32 ?_
      refine jgM_mod_wide X i_X7_view_X7 (by decide +kernel) dX7_view_33 ?_
      refine j_iload_n X rfl 4 rfl dX7_view_36 ?_
      refine j_imul X dX7_view_37 ?_
      refine j_iload_n X rfl 3 rfl dX7_view_38 ?_
      refine j_iadd X dX7_view_39 ?_
      obtain ⟨k9, h⟩ := h
      refine jlM_mod_stand X k9 dX7_view_40 ?_
      refine j_topi (fun v10 ev10 => ?_)
      have h := h v10 ev10
      refine j_istore (lv' := [(5, .int v10), (4, .int r8), (0, .ref (q 0)), (1, .int x1), (2, .int x2), (3, .int x3)]) X (by decide) rfl dX7_view_41 ?_
      refine j_aload_n X rfl 2 rfl dX7_view_43 ?_
      refine jgM_mod_stand X i_X7_view_X7 (by decide +kernel) dX7_view_44 ?_
      refine j_aload_n X rfl 2 rfl dX7_view_47 ?_
      refine jgM_mod_wide X i_X7_view_X7 (by decide +kernel) dX7_view_48 ?_
      refine j_iload_n X rfl 5 rfl dX7_view_51 ?_
      refine j_imul X dX7_view_52 ?_
      refine j_iload_n X rfl 4 rfl dX7_view_53 ?_
      refine j_iadd X dX7_view_54 ?_
      refine j_iconst (v := (0 : Int32)) X (by decide) dX7_view_55 ?_
      refine jsM_mod_stand X k9 dX7_view_56 (fun S11 eS11 => ?_)
      have h := h S11 eS11
      refine j_aload_n X rfl 2 rfl dX7_view_57 ?_
      refine j_iload_n X rfl 3 rfl dX7_view_58 ?_
      refine j_Vi (st := []) X [.int x1] 0 (c_X7_shareOf l D i q A x1 S11 _ h) (cwV 1 X.ts gX7_view_X7_shareOf rfl rfl rfl (by decide +kernel) ⟨Nat.le_of_ble_eq_true rfl, Nat.le_of_ble_eq_true rfl⟩) rfl rfl rfl rfl (Nat.le_of_ble_eq_true rfl) dX7_view_59 (fun r13 S12 h => ?_)
      refine j_istore (lv' := [(6, .int r13), (5, .int v10), (4, .int r8), (0, .ref (q 0)), (1, .int x1), (2, .int x2), (3, .int x3)]) X (by decide) rfl dX7_view_62 ?_
      refine j_aload_n X rfl 3 rfl dX7_view_64 ?_
      refine jgM_mod_stand X i_X7_view_X7 (by decide +kernel) dX7_view_65 ?_
      refine j_aload_n X rfl 3 rfl dX7_view_68 ?_
      refine jgM_mod_wide X i_X7_view_X7 (by decide +kernel) dX7_view_69 ?_
      refine j_iload_n X rfl 6 rfl dX7_view_72 ?_
      refine j_imul X dX7_view_73 ?_
      refine j_iload_n X rfl 5 rfl dX7_view_74 ?_
      refine j_iadd X dX7_view_75 ?_
      refine j_iload X 1 rfl dX7_view_76 ?_
      obtain ⟨k14, h⟩ := h
      refine jsM_mod_stand X k14 dX7_view_78 (fun S15 eS15 => ?_)
      have h := h S15 eS15
      refine j_iload X 0 rfl dX7_view_79 ?_
      refine j_iload X 2 rfl dX7_view_81 ?_
      refine j_isub X dX7_view_83 ?_
      exact j_iret X h dX7_view_84
    · have h := h.2 c6
      refine j_ldcw (v := (-1000000001 : Int32)) X (by decide +kernel) dX7_view_17 ?_
      exact j_iret X h dX7_view_20
abbrev rm_X7_builds : Room := { frames := 0, cells := 0, slots := 0, locals := 0 }
set_option maxRecDepth 100000 in
set_option maxHeartbeats 4000000 in
theorem w_X7_builds_5 {D : va_G} {i : Nat → ClassId} {q : Nat → Nat} {A : Nat → Prop} {p : Program} {l : Launch} {e : Env} {s : State} {m : MethodId} {args : Array Value} {below : List Frame} {meth : Method} {c : Code} (X : cX D i A p s m args meth c cX7_builds RX7 5 wsX7_builds (some .int)) {Q : Int32 → vS → Prop} : ∀ (n : Nat) (a0 : Int32) (a1 : Int32) (a3 : Int32) (a4 : Int32) (S : vS), e_X7_builds_5 Q n a0 a1 a3 a4 S → cJ D A p l e (headSpec wsX7_builds rm_X7_builds).room s m args below meth c (MQ below (va_Qi Q (vB D i A (wM q i)) A) args s 0 0 A) 5 (wM q i S) [(0, .int a0), (1, .int a1), (3, .int a3), (4, .int a4)] 5 [] := by
  intro n
  induction n with
  | zero =>
    intro _ _ _ _ S h
    rw [e_X7_builds_5.eq_1] at h
    exact h.elim
  | succ n ih =>
    intro a0 a1 a3 a4 S h
    rw [e_X7_builds_5.eq_2] at h
    refine j_iload X 3 rfl dX7_builds_5 ?_
    refine j_iload_n X rfl 1 rfl dX7_builds_7 ?_
    refine j_icmp_ge (tgt := 26) X dX7_builds_8 (by decide) (fun c1 => ?_) (fun c1 => ?_)
    · have h := h.1 c1
      refine j_iload_n X rfl 2 rfl dX7_builds_26 ?_
      exact j_iret X h dX7_builds_27
    · have h := h.2 c1
      refine j_iload_n X rfl 2 rfl dX7_builds_11 ?_
      refine j_iload_n X rfl 0 rfl dX7_builds_12 ?_
      refine j_iload X 3 rfl dX7_builds_13 ?_
      refine j_ishr X dX7_builds_15 ?_
      refine j_iconst (v := (1 : Int32)) X (by decide) dX7_builds_16 ?_
      refine j_iand X dX7_builds_17 ?_
      refine j_iadd X dX7_builds_18 ?_
      refine j_topi (fun v2 ev2 => ?_)
      have h := h v2 ev2
      refine j_istore_n (lv' := [(3, .int v2), (0, .int a0), (1, .int a1), (4, .int a4)]) X rfl (by decide) rfl dX7_builds_19 ?_
      refine j_iinc (dv := (2 : Int32)) (lv' := fun v3 => [(4, .int v3), (3, .int v2), (0, .int a0), (1, .int a1)]) X dX7_builds_20 (pl := 3) rfl (by decide) (by decide) (fun _ => rfl) (fun v3 ev3 => ?_)
      have h := h v3 ev3
      refine j_goto (tgt := 5) X dX7_builds_23 (by decide) ?_
      refine j_loc [2, 3, 1, 0] rfl ?_
      exact ih a0 a1 v2 v3 S h
set_option maxRecDepth 100000 in
set_option maxHeartbeats 4000000 in
theorem c_X7_builds (l : Launch) (D : va_G) (i : Nat → ClassId) (q : Nat → Nat) (A : Nat → Prop) (x0 : Int32) (x1 : Int32) (x2 : Int32) (S : vS) (Q : Int32 → vS → Prop) (h : e_X7_builds x0 x1 x2 S Q) : Met l yX7_builds wsX7_builds rm_X7_builds (va_Pc [.int x0, .int x1, .int x2] (vB D i A (wM q i) S)) (va_Qi Q (vB D i A (wM q i)) A) 0 0 A := by
  refine m_ofJ (own := RX7) (lv := [(0, .int x0), (1, .int x1), (2, .int x2)]) rfl (by decide) rfl (Nat.le_of_ble_eq_true rfl) rfl ?_
  intro p e s m below meth c X
  unfold e_X7_builds at h
  refine j_iconst (v := (0 : Int32)) X (by decide) dX7_builds_0 ?_
  refine j_istore_n (lv' := [(3, .int (0 : Int32)), (0, .int x0), (1, .int x1), (2, .int x2)]) X rfl (by decide) rfl dX7_builds_1 ?_
  refine j_iload_n X rfl 3 rfl dX7_builds_2 ?_
  refine j_istore (lv' := [(4, .int x2), (3, .int (0 : Int32)), (0, .int x0), (1, .int x1), (2, .int x2)]) X (by decide) rfl dX7_builds_3 ?_
  refine j_loc [2, 3, 1, 0] rfl ?_
  obtain ⟨j, h⟩ := h
  exact w_X7_builds_5 X j x0 x1 (0 : Int32) x2 S h
set_option maxRecDepth 100000 in
theorem i_X7_endOf_X7 : ∀ w ∈ u_ws RX7 TX7 48, w ∈ wsX7_endOf := by decide +kernel
abbrev rm_X7_endOf : Room := { frames := 6, cells := 0, slots := 0, locals := 142 }
set_option maxRecDepth 100000 in
set_option maxHeartbeats 4000000 in
theorem c_X7_endOf (l : Launch) (D : va_G) (i : Nat → ClassId) (q : Nat → Nat) (A : Nat → Prop) (x1 : Int32) (x2 : Int32) (x3 : Int32) (x4 : Int32) (x5 : Int32) (S : vS) (Q : Int32 → vS → Prop) (h : e_X7_endOf x1 x2 x3 x4 x5 S Q) : Met l yX7_endOf wsX7_endOf rm_X7_endOf (va_Pc [.ref (q 0), .int x1, .int x2, .int x3, .int x4, .int x5] (vB D i A (wM q i) S)) (va_Qi Q (vB D i A (wM q i)) A) 0 0 A := by
  refine m_ofJ (own := RX7) (lv := [(0, .ref (q 0)), (1, .int x1), (2, .int x2), (3, .int x3), (4, .int x4), (5, .int x5)]) rfl (by decide) rfl (Nat.le_of_ble_eq_true rfl) rfl ?_
  intro p e s m below meth c X
  unfold e_X7_endOf at h
  refine j_iload X 5 rfl dX7_endOf_0 ?_
  refine j_iload_n X rfl 3 rfl dX7_endOf_2 ?_
  refine j_iconst (v := (0 : Int32)) X (by decide) dX7_endOf_3 ?_
  refine j_Si (st := []) X [.int x5, .int x3, .int (0 : Int32)] (c_X7_builds l D i q A x5 x3 (0 : Int32) S _ h) (va_cwS 3 X.ts gX7_endOf_X7_builds rfl rfl rfl (by decide +kernel) ⟨Nat.le_of_ble_eq_true rfl, Nat.le_of_ble_eq_true rfl⟩) rfl rfl (Nat.le_of_ble_eq_true rfl) dX7_endOf_4 (fun r2 S1 h => ?_)
  refine j_istore (lv' := [(6, .int r2), (0, .ref (q 0)), (1, .int x1), (2, .int x2), (3, .int x3), (4, .int x4), (5, .int x5)]) X (by decide) rfl dX7_endOf_7 ?_
  refine j_iload X 6 rfl dX7_endOf_9 ?_
  refine j_iload_n X rfl 4 rfl dX7_endOf_11 ?_
  refine j_iconst (v := (1 : Int32)) X (by decide) dX7_endOf_12 ?_
  refine j_Si (st := []) X [.int x5, .int x3, .int (1 : Int32)] (c_X7_builds l D i q A x5 x3 (1 : Int32) S1 _ h) (va_cwS 3 X.ts gX7_endOf_X7_builds rfl rfl rfl (by decide +kernel) ⟨Nat.le_of_ble_eq_true rfl, Nat.le_of_ble_eq_true rfl⟩) rfl rfl (Nat.le_of_ble_eq_true rfl) dX7_endOf_13 (fun r4 S3 h => ?_)
  refine j_istore (lv' := [(7, .int r4), (6, .int r2), (0, .ref (q 0)), (1, .int x1), (2, .int x2), (3, .int x3), (4, .int x4), (5, .int x5)]) X (by decide) rfl dX7_endOf_16 ?_
  refine j_aload_n X rfl 2 rfl dX7_endOf_18 ?_
  refine jgM_mod_storeys X i_X7_endOf_X7 (by decide +kernel) dX7_endOf_19 ?_
  refine j_iload_n X rfl 3 rfl dX7_endOf_22 ?_
  obtain ⟨k5, h⟩ := h
  refine jlM_mod_storeys X k5 dX7_endOf_23 ?_
  refine j_iload X 1 rfl dX7_endOf_24 ?_
  refine j_iadd X dX7_endOf_26 ?_
  refine j_bipush (v := (9 : Int32)) X (by decide) dX7_endOf_27 ?_
  refine j_icmp_gt (tgt := 46) X dX7_endOf_29 (by decide) (fun c6 => ?_) (fun c6 => ?_)
  · have h := h.1 c6
    refine j_iconst (v := (0 : Int32)) X (by decide) dX7_endOf_46 ?_
    exact j_iret X h dX7_endOf_47
  · have h := h.2 c6
    refine j_aload_n X rfl 2 rfl dX7_endOf_32 ?_
    refine jgM_mod_storeys X i_X7_endOf_X7 (by decide +kernel) dX7_endOf_33 ?_
    refine j_iload_n X rfl 4 rfl dX7_endOf_36 ?_
    obtain ⟨k7, h⟩ := h
    refine jlM_mod_storeys X k7 dX7_endOf_37 ?_
    refine j_iload X 0 rfl dX7_endOf_38 ?_
    refine j_iadd X dX7_endOf_40 ?_
    refine j_bipush (v := (9 : Int32)) X (by decide) dX7_endOf_41 ?_
    refine j_icmp_le (tgt := 48) X dX7_endOf_43 (by decide) (fun c8 => ?_) (fun c8 => ?_)
    · have h := h.1 c8
      refine j_aload_n X rfl 2 rfl dX7_endOf_48 ?_
      refine jgM_mod_storeys X i_X7_endOf_X7 (by decide +kernel) dX7_endOf_49 ?_
      refine j_iload_n X rfl 3 rfl dX7_endOf_52 ?_
      refine j_dup2 X rfl rfl dX7_endOf_53 ?_
      refine jlM_mod_storeys X k5 dX7_endOf_54 ?_
      refine j_iload X 1 rfl dX7_endOf_55 ?_
      refine j_iadd X dX7_endOf_57 ?_
      refine jsM_mod_storeys X k5 dX7_endOf_58 (fun S9 eS9 => ?_)
      have h := h S9 eS9
      refine j_aload_n X rfl 2 rfl dX7_endOf_59 ?_
      refine jgM_mod_storeys X i_X7_endOf_X7 (by decide +kernel) dX7_endOf_60 ?_
      refine j_iload_n X rfl 4 rfl dX7_endOf_63 ?_
      refine j_dup2 X rfl rfl dX7_endOf_64 ?_
      refine jlM_mod_storeys X k7 dX7_endOf_65 ?_
      refine j_iload X 0 rfl dX7_endOf_66 ?_
      refine j_iadd X dX7_endOf_68 ?_
      refine jsM_mod_storeys X k7 dX7_endOf_69 (fun S10 eS10 => ?_)
      have h := h S10 eS10
      refine j_aload_n X rfl 2 rfl dX7_endOf_70 ?_
      refine j_iload_n X rfl 3 rfl dX7_endOf_71 ?_
      refine j_Vi (st := []) X [.int x1] 0 (c_X7_shareOf l D i q A x1 S10 _ h) (cwV 1 X.ts gX7_endOf_X7_shareOf rfl rfl rfl (by decide +kernel) ⟨Nat.le_of_ble_eq_true rfl, Nat.le_of_ble_eq_true rfl⟩) rfl rfl rfl rfl (Nat.le_of_ble_eq_true rfl) dX7_endOf_72 (fun r12 S11 h => ?_)
      refine j_aload_n X rfl 2 rfl dX7_endOf_75 ?_
      refine j_iload_n X rfl 4 rfl dX7_endOf_76 ?_
      refine j_Vi (st := [.int r12]) X [.int x2] 0 (c_X7_shareOf l D i q A x2 S11 _ h) (cwV 1 X.ts gX7_endOf_X7_shareOf rfl rfl rfl (by decide +kernel) ⟨Nat.le_of_ble_eq_true rfl, Nat.le_of_ble_eq_true rfl⟩) rfl rfl rfl rfl (Nat.le_of_ble_eq_true rfl) dX7_endOf_77 (fun r14 S13 h => ?_)
      refine j_isub X dX7_endOf_80 ?_
      refine j_iload X 6 rfl dX7_endOf_81 ?_
      refine j_imul X dX7_endOf_83 ?_
      refine j_iload X 1 rfl dX7_endOf_84 ?_
      refine j_iload X 0 rfl dX7_endOf_86 ?_
      refine j_isub X dX7_endOf_88 ?_
      refine j_aload_n X rfl 2 rfl dX7_endOf_89 ?_
      refine jgM_mod_storeyCost X i_X7_endOf_X7 (by decide +kernel) dX7_endOf_90 ?_
      refine j_imul X dX7_endOf_93 ?_
      refine j_isub X dX7_endOf_94 ?_
      refine j_topi (fun v15 ev15 => ?_)
      have h := h v15 ev15
      refine j_istore (lv' := [(8, .int v15), (7, .int r4), (6, .int r2), (0, .ref (q 0)), (1, .int x1), (2, .int x2), (3, .int x3), (4, .int x4), (5, .int x5)]) X (by decide) rfl dX7_endOf_95 ?_
      refine j_aload_n X rfl 3 rfl dX7_endOf_97 ?_
      refine jgM_mod_storeys X i_X7_endOf_X7 (by decide +kernel) dX7_endOf_98 ?_
      refine j_iload_n X rfl 4 rfl dX7_endOf_101 ?_
      refine j_dup2 X rfl rfl dX7_endOf_102 ?_
      refine jlM_mod_storeys X k5 dX7_endOf_103 ?_
      refine j_iload X 2 rfl dX7_endOf_104 ?_
      refine j_isub X dX7_endOf_106 ?_
      refine jsM_mod_storeys X k5 dX7_endOf_107 (fun S16 eS16 => ?_)
      have h := h S16 eS16
      refine j_aload_n X rfl 3 rfl dX7_endOf_108 ?_
      refine jgM_mod_storeys X i_X7_endOf_X7 (by decide +kernel) dX7_endOf_109 ?_
      refine j_iload_n X rfl 5 rfl dX7_endOf_112 ?_
      refine j_dup2 X rfl rfl dX7_endOf_113 ?_
      refine jlM_mod_storeys X k7 dX7_endOf_114 ?_
      refine j_iload X 1 rfl dX7_endOf_115 ?_
      refine j_isub X dX7_endOf_117 ?_
      refine jsM_mod_storeys X k7 dX7_endOf_118 (fun S17 eS17 => ?_)
      have h := h S17 eS17
      refine j_iload X 0 rfl dX7_endOf_119 ?_
      exact j_iret X h dX7_endOf_121
    · have h := h.2 c8
      refine j_iconst (v := (0 : Int32)) X (by decide) dX7_endOf_46 ?_
      exact j_iret X h dX7_endOf_47
set_option maxRecDepth 100000 in
theorem i_X7_towers_X7 : ∀ w ∈ u_ws RX7 TX7 48, w ∈ wsX7_towers := by decide +kernel
abbrev rm_X7_towers : Room := { frames := 7, cells := 0, slots := 0, locals := 170 }
set_option maxRecDepth 100000 in
set_option maxHeartbeats 4000000 in
theorem w_X7_towers_245 {D : va_G} {i : Nat → ClassId} {q : Nat → Nat} {A : Nat → Prop} {p : Program} {l : Launch} {e : Env} {s : State} {m : MethodId} {args : Array Value} {below : List Frame} {meth : Method} {c : Code} (X : cX D i A p s m args meth c cX7_towers RX7 14 wsX7_towers (some .int)) {K107 : Int32 → Int32 → Int32 → Int32 → Int32 → vS → Prop} {K129 : Int32 → Int32 → Int32 → Int32 → Int32 → Int32 → Int32 → vS → Prop} {Q : Int32 → vS → Prop} (hK107 : ∀ (a1 : Int32) (a2 : Int32) (a5 : Int32) (a6 : Int32) (a7 : Int32) (S : vS), K107 a1 a2 a5 a6 a7 S → cJ D A p l e (headSpec wsX7_towers rm_X7_towers).room s m args below meth c (MQ below (va_Qi Q (vB D i A (wM q i)) A) args s 0 0 A) 14 (wM q i S) [(0, .ref (q 0)), (1, .int a1), (2, .int a2), (5, .int a5), (6, .int a6), (7, .int a7)] 107 []) (hK129 : ∀ (a1 : Int32) (a2 : Int32) (a5 : Int32) (a6 : Int32) (a7 : Int32) (a8 : Int32) (a9 : Int32) (S : vS), K129 a1 a2 a5 a6 a7 a8 a9 S → cJ D A p l e (headSpec wsX7_towers rm_X7_towers).room s m args below meth c (MQ below (va_Qi Q (vB D i A (wM q i)) A) args s 0 0 A) 14 (wM q i S) [(0, .ref (q 0)), (1, .int a1), (2, .int a2), (5, .int a5), (6, .int a6), (7, .int a7), (8, .int a8), (9, .int a9)] 129 []) : ∀ (a1 : Int32) (a2 : Int32) (a5 : Int32) (a7 : Int32) (a8 : Int32) (a9 : Int32) (a13 : Int32) (t0 : Int32) (t1 : Int32) (S : vS), e_X7_towers_245 K107 K129 Q a1 a2 a5 a7 a8 a9 a13 t0 t1 S → cJ D A p l e (headSpec wsX7_towers rm_X7_towers).room s m args below meth c (MQ below (va_Qi Q (vB D i A (wM q i)) A) args s 0 0 A) 14 (wM q i S) [(0, .ref (q 0)), (1, .int a1), (2, .int a2), (5, .int a5), (7, .int a7), (8, .int a8), (9, .int a9), (13, .int a13)] 245 [.int t0, .int t1, .ref (q 17)] := by
  intro a1 a2 a5 a7 a8 a9 a13 t0 t1 S h
  unfold e_X7_towers_245 at h
  obtain ⟨k42, h⟩ := h
  refine jsM_mod_comes X k42 dX7_towers_245 (fun S43 eS43 => ?_)
  have h := h S43 eS43
  refine j_iload X 7 rfl dX7_towers_246 ?_
  refine j_if_eq (tgt := 255) X dX7_towers_248 (by decide) (fun c44 => ?_) (fun c44 => ?_)
  · have h := h.1 c44
    refine j_iconst (v := (0 : Int32)) X (by decide) dX7_towers_255 ?_
    refine j_istore (lv' := [(6, .int (0 : Int32)), (0, .ref (q 0)), (1, .int a1), (2, .int a2), (5, .int a5), (7, .int a7), (8, .int a8), (9, .int a9), (13, .int a13)]) X (by decide) rfl dX7_towers_256 ?_
    refine j_iinc (dv := (1 : Int32)) (lv' := fun v45 => [(9, .int v45), (6, .int (0 : Int32)), (0, .ref (q 0)), (1, .int a1), (2, .int a2), (5, .int a5), (7, .int a7), (8, .int a8), (13, .int a13)]) X dX7_towers_258 (pl := 7) rfl (by decide) (by decide) (fun _ => rfl) (fun v45 ev45 => ?_)
    have h := h v45 ev45
    refine j_goto (tgt := 129) X dX7_towers_261 (by decide) ?_
    refine j_loc [2, 3, 4, 5, 1, 6, 7, 0] rfl ?_
    exact hK129 a1 a2 a5 (0 : Int32) a7 a8 v45 S43 h
  · have h := h.2 c44
    refine j_iconst (v := (1 : Int32)) X (by decide) dX7_towers_251 ?_
    refine j_goto (tgt := 256) X dX7_towers_252 (by decide) ?_
    refine j_istore (lv' := [(6, .int (1 : Int32)), (0, .ref (q 0)), (1, .int a1), (2, .int a2), (5, .int a5), (7, .int a7), (8, .int a8), (9, .int a9), (13, .int a13)]) X (by decide) rfl dX7_towers_256 ?_
    refine j_iinc (dv := (1 : Int32)) (lv' := fun v46 => [(9, .int v46), (6, .int (1 : Int32)), (0, .ref (q 0)), (1, .int a1), (2, .int a2), (5, .int a5), (7, .int a7), (8, .int a8), (13, .int a13)]) X dX7_towers_258 (pl := 7) rfl (by decide) (by decide) (fun _ => rfl) (fun v46 ev46 => ?_)
    have h := h v46 ev46
    refine j_goto (tgt := 129) X dX7_towers_261 (by decide) ?_
    refine j_loc [2, 3, 4, 5, 1, 6, 7, 0] rfl ?_
    exact hK129 a1 a2 a5 (1 : Int32) a7 a8 v46 S43 h
set_option maxRecDepth 100000 in
set_option maxHeartbeats 4000000 in
theorem w_X7_towers_225 {D : va_G} {i : Nat → ClassId} {q : Nat → Nat} {A : Nat → Prop} {p : Program} {l : Launch} {e : Env} {s : State} {m : MethodId} {args : Array Value} {below : List Frame} {meth : Method} {c : Code} (X : cX D i A p s m args meth c cX7_towers RX7 14 wsX7_towers (some .int)) {K107 : Int32 → Int32 → Int32 → Int32 → Int32 → vS → Prop} {K129 : Int32 → Int32 → Int32 → Int32 → Int32 → Int32 → Int32 → vS → Prop} {Q : Int32 → vS → Prop} (hK107 : ∀ (a1 : Int32) (a2 : Int32) (a5 : Int32) (a6 : Int32) (a7 : Int32) (S : vS), K107 a1 a2 a5 a6 a7 S → cJ D A p l e (headSpec wsX7_towers rm_X7_towers).room s m args below meth c (MQ below (va_Qi Q (vB D i A (wM q i)) A) args s 0 0 A) 14 (wM q i S) [(0, .ref (q 0)), (1, .int a1), (2, .int a2), (5, .int a5), (6, .int a6), (7, .int a7)] 107 []) (hK129 : ∀ (a1 : Int32) (a2 : Int32) (a5 : Int32) (a6 : Int32) (a7 : Int32) (a8 : Int32) (a9 : Int32) (S : vS), K129 a1 a2 a5 a6 a7 a8 a9 S → cJ D A p l e (headSpec wsX7_towers rm_X7_towers).room s m args below meth c (MQ below (va_Qi Q (vB D i A (wM q i)) A) args s 0 0 A) 14 (wM q i S) [(0, .ref (q 0)), (1, .int a1), (2, .int a2), (5, .int a5), (6, .int a6), (7, .int a7), (8, .int a8), (9, .int a9)] 129 []) : ∀ (a1 : Int32) (a2 : Int32) (a5 : Int32) (a7 : Int32) (a8 : Int32) (a9 : Int32) (a10 : Int32) (a11 : Int32) (t0 : Int32) (S : vS), e_X7_towers_225 K107 K129 Q a1 a2 a5 a7 a8 a9 a10 a11 t0 S → cJ D A p l e (headSpec wsX7_towers rm_X7_towers).room s m args below meth c (MQ below (va_Qi Q (vB D i A (wM q i)) A) args s 0 0 A) 14 (wM q i S) [(0, .ref (q 0)), (1, .int a1), (2, .int a2), (5, .int a5), (7, .int a7), (8, .int a8), (9, .int a9), (10, .int a10), (11, .int a11)] 225 [.int t0] := by
  intro a1 a2 a5 a7 a8 a9 a10 a11 t0 S h
  unfold e_X7_towers_225 at h
  refine j_istore (lv' := [(13, .int t0), (0, .ref (q 0)), (1, .int a1), (2, .int a2), (5, .int a5), (7, .int a7), (8, .int a8), (9, .int a9), (10, .int a10), (11, .int a11)]) X (by decide) rfl dX7_towers_225 ?_
  refine j_aload_n X rfl 1 rfl dX7_towers_227 ?_
  refine jgM_mod_comes X i_X7_towers_X7 (by decide +kernel) dX7_towers_228 ?_
  refine j_iload X 7 rfl dX7_towers_231 ?_
  refine j_iload X 0 rfl dX7_towers_233 ?_
  refine j_if_eq (tgt := 243) X dX7_towers_235 (by decide) (fun c41 => ?_) (fun c41 => ?_)
  · have h := h.1 c41
    refine j_iload X 8 rfl dX7_towers_243 ?_
    refine j_loc [1, 2, 3, 4, 5, 6, 7, 0] rfl ?_
    exact w_X7_towers_245 X hK107 hK129 a1 a2 a5 a7 a8 a9 t0 a10 a9 S h
  · have h := h.2 c41
    refine j_iload X 9 rfl dX7_towers_238 ?_
    refine j_goto (tgt := 245) X dX7_towers_240 (by decide) ?_
    refine j_loc [1, 2, 3, 4, 5, 6, 7, 0] rfl ?_
    exact w_X7_towers_245 X hK107 hK129 a1 a2 a5 a7 a8 a9 t0 a11 a9 S h
set_option maxRecDepth 100000 in
set_option maxHeartbeats 4000000 in
theorem w_X7_towers_190 {D : va_G} {i : Nat → ClassId} {q : Nat → Nat} {A : Nat → Prop} {p : Program} {l : Launch} {e : Env} {s : State} {m : MethodId} {args : Array Value} {below : List Frame} {meth : Method} {c : Code} (X : cX D i A p s m args meth c cX7_towers RX7 14 wsX7_towers (some .int)) {K107 : Int32 → Int32 → Int32 → Int32 → Int32 → vS → Prop} {K129 : Int32 → Int32 → Int32 → Int32 → Int32 → Int32 → Int32 → vS → Prop} {Q : Int32 → vS → Prop} (hK107 : ∀ (a1 : Int32) (a2 : Int32) (a5 : Int32) (a6 : Int32) (a7 : Int32) (S : vS), K107 a1 a2 a5 a6 a7 S → cJ D A p l e (headSpec wsX7_towers rm_X7_towers).room s m args below meth c (MQ below (va_Qi Q (vB D i A (wM q i)) A) args s 0 0 A) 14 (wM q i S) [(0, .ref (q 0)), (1, .int a1), (2, .int a2), (5, .int a5), (6, .int a6), (7, .int a7)] 107 []) (hK129 : ∀ (a1 : Int32) (a2 : Int32) (a5 : Int32) (a6 : Int32) (a7 : Int32) (a8 : Int32) (a9 : Int32) (S : vS), K129 a1 a2 a5 a6 a7 a8 a9 S → cJ D A p l e (headSpec wsX7_towers rm_X7_towers).room s m args below meth c (MQ below (va_Qi Q (vB D i A (wM q i)) A) args s 0 0 A) 14 (wM q i S) [(0, .ref (q 0)), (1, .int a1), (2, .int a2), (5, .int a5), (6, .int a6), (7, .int a7), (8, .int a8), (9, .int a9)] 129 []) : ∀ (a1 : Int32) (a2 : Int32) (a5 : Int32) (a7 : Int32) (a8 : Int32) (a9 : Int32) (a10 : Int32) (a11 : Int32) (t0 : Int32) (S : vS), e_X7_towers_190 K107 K129 Q a1 a2 a5 a7 a8 a9 a10 a11 t0 S → cJ D A p l e (headSpec wsX7_towers rm_X7_towers).room s m args below meth c (MQ below (va_Qi Q (vB D i A (wM q i)) A) args s 0 0 A) 14 (wM q i S) [(0, .ref (q 0)), (1, .int a1), (2, .int a2), (5, .int a5), (7, .int a7), (8, .int a8), (9, .int a9), (10, .int a10), (11, .int a11)] 190 [.int t0] := by
  intro a1 a2 a5 a7 a8 a9 a10 a11 t0 S h
  unfold e_X7_towers_190 at h
  refine j_istore (lv' := [(12, .int t0), (0, .ref (q 0)), (1, .int a1), (2, .int a2), (5, .int a5), (7, .int a7), (8, .int a8), (9, .int a9), (10, .int a10), (11, .int a11)]) X (by decide) rfl dX7_towers_190 ?_
  refine j_iload X 0 rfl dX7_towers_192 ?_
  refine j_if_eq (tgt := 224) X dX7_towers_194 (by decide) (fun c37 => ?_) (fun c37 => ?_)
  · have h := h.1 c37
    refine j_iconst (v := (0 : Int32)) X (by decide) dX7_towers_224 ?_
    refine j_loc [1, 2, 3, 4, 5, 6, 7, 8, 9] rfl ?_
    exact w_X7_towers_225 X hK107 hK129 a1 a2 a5 a7 a8 a9 a10 a11 (0 : Int32) S h
  · have h := h.2 c37
    refine j_iload X 6 rfl dX7_towers_197 ?_
    refine j_iload_n X rfl 2 rfl dX7_towers_199 ?_
    refine j_icmp_ne (tgt := 213) X dX7_towers_200 (by decide) (fun c38 => ?_) (fun c38 => ?_)
    · have h := h.1 c38
      refine j_iload X 9 rfl dX7_towers_213 ?_
      refine j_iload X 8 rfl dX7_towers_215 ?_
      refine j_icmp_ge (tgt := 224) X dX7_towers_217 (by decide) (fun c39 => ?_) (fun c39 => ?_)
      · have h := h.1 c39
        refine j_iconst (v := (0 : Int32)) X (by decide) dX7_towers_224 ?_
        refine j_loc [1, 2, 3, 4, 5, 6, 7, 8, 9] rfl ?_
        exact w_X7_towers_225 X hK107 hK129 a1 a2 a5 a7 a8 a9 a10 a11 (0 : Int32) S h
      · have h := h.2 c39
        refine j_iconst (v := (1 : Int32)) X (by decide) dX7_towers_220 ?_
        refine j_goto (tgt := 225) X dX7_towers_221 (by decide) ?_
        refine j_loc [1, 2, 3, 4, 5, 6, 7, 8, 9] rfl ?_
        exact w_X7_towers_225 X hK107 hK129 a1 a2 a5 a7 a8 a9 a10 a11 (1 : Int32) S h
    · have h := h.2 c38
      refine j_iload X 9 rfl dX7_towers_203 ?_
      refine j_iload X 8 rfl dX7_towers_205 ?_
      refine j_icmp_le (tgt := 224) X dX7_towers_207 (by decide) (fun c40 => ?_) (fun c40 => ?_)
      · have h := h.1 c40
        refine j_iconst (v := (0 : Int32)) X (by decide) dX7_towers_224 ?_
        refine j_loc [1, 2, 3, 4, 5, 6, 7, 8, 9] rfl ?_
        exact w_X7_towers_225 X hK107 hK129 a1 a2 a5 a7 a8 a9 a10 a11 (0 : Int32) S h
      · have h := h.2 c40
        refine j_goto (tgt := 220) X dX7_towers_210 (by decide) ?_
        refine j_iconst (v := (1 : Int32)) X (by decide) dX7_towers_220 ?_
        refine j_goto (tgt := 225) X dX7_towers_221 (by decide) ?_
        refine j_loc [1, 2, 3, 4, 5, 6, 7, 8, 9] rfl ?_
        exact w_X7_towers_225 X hK107 hK129 a1 a2 a5 a7 a8 a9 a10 a11 (1 : Int32) S h
set_option maxRecDepth 100000 in
set_option maxHeartbeats 4000000 in
theorem w_X7_towers_129 {D : va_G} {i : Nat → ClassId} {q : Nat → Nat} {A : Nat → Prop} {p : Program} {l : Launch} {e : Env} {s : State} {m : MethodId} {args : Array Value} {below : List Frame} {meth : Method} {c : Code} (X : cX D i A p s m args meth c cX7_towers RX7 14 wsX7_towers (some .int)) {K107 : Int32 → Int32 → Int32 → Int32 → Int32 → vS → Prop} {Q : Int32 → vS → Prop} (hK107 : ∀ (a1 : Int32) (a2 : Int32) (a5 : Int32) (a6 : Int32) (a7 : Int32) (S : vS), K107 a1 a2 a5 a6 a7 S → cJ D A p l e (headSpec wsX7_towers rm_X7_towers).room s m args below meth c (MQ below (va_Qi Q (vB D i A (wM q i)) A) args s 0 0 A) 14 (wM q i S) [(0, .ref (q 0)), (1, .int a1), (2, .int a2), (5, .int a5), (6, .int a6), (7, .int a7)] 107 []) : ∀ (n : Nat) (a1 : Int32) (a2 : Int32) (a5 : Int32) (a6 : Int32) (a7 : Int32) (a8 : Int32) (a9 : Int32) (S : vS), e_X7_towers_129 K107 Q n a1 a2 a5 a6 a7 a8 a9 S → cJ D A p l e (headSpec wsX7_towers rm_X7_towers).room s m args below meth c (MQ below (va_Qi Q (vB D i A (wM q i)) A) args s 0 0 A) 14 (wM q i S) [(0, .ref (q 0)), (1, .int a1), (2, .int a2), (5, .int a5), (6, .int a6), (7, .int a7), (8, .int a8), (9, .int a9)] 129 [] := by
  intro n
  induction n with
  | zero =>
    intro _ _ _ _ _ _ _ S h
    rw [e_X7_towers_129.eq_1] at h
    exact h.elim
  | succ n ih =>
    intro a1 a2 a5 a6 a7 a8 a9 S h
    rw [e_X7_towers_129.eq_2] at h
    refine j_iload X 7 rfl dX7_towers_129 ?_
    refine j_iconst (v := (1 : Int32)) X (by decide) dX7_towers_131 ?_
    refine j_iload X 5 rfl dX7_towers_132 ?_
    refine j_ishl X dX7_towers_134 ?_
    refine j_icmp_ge (tgt := 264) X dX7_towers_135 (by decide) (fun c27 => ?_) (fun c27 => ?_)
    · have h := h.1 c27
      refine j_iinc (dv := (-1 : Int32)) (lv' := fun v28 => [(7, .int v28), (0, .ref (q 0)), (1, .int a1), (2, .int a2), (5, .int a5), (6, .int a6), (8, .int a8), (9, .int a9)]) X dX7_towers_264 (pl := 5) rfl (by decide) (by decide) (fun _ => rfl) (fun v28 ev28 => ?_)
      have h := h v28 ev28
      refine j_goto (tgt := 107) X dX7_towers_267 (by decide) ?_
      refine j_loc [1, 2, 3, 4, 5, 0] rfl ?_
      exact hK107 a1 a2 a5 a6 v28 S h
    · have h := h.2 c27
      refine j_aload_n X rfl 0 rfl dX7_towers_138 ?_
      refine jgM_mod_comes X i_X7_towers_X7 (by decide +kernel) dX7_towers_139 ?_
      refine j_iload X 7 rfl dX7_towers_142 ?_
      obtain ⟨k29, h⟩ := h
      refine jlM_mod_comes X k29 dX7_towers_144 ?_
      refine j_topi (fun v30 ev30 => ?_)
      have h := h v30 ev30
      refine j_istore (lv' := [(10, .int v30), (0, .ref (q 0)), (1, .int a1), (2, .int a2), (5, .int a5), (6, .int a6), (7, .int a7), (8, .int a8), (9, .int a9)]) X (by decide) rfl dX7_towers_145 ?_
      refine j_aload_n X rfl 1 rfl dX7_towers_147 ?_
      refine jgM_mod_comes X i_X7_towers_X7 (by decide +kernel) dX7_towers_148 ?_
      refine j_iload X 8 rfl dX7_towers_151 ?_
      refine j_iconst (v := (1 : Int32)) X (by decide) dX7_towers_153 ?_
      refine j_iload X 6 rfl dX7_towers_154 ?_
      refine j_ishl X dX7_towers_156 ?_
      refine j_ior X dX7_towers_157 ?_
      obtain ⟨k31, h⟩ := h
      refine jlM_mod_comes X k31 dX7_towers_158 ?_
      refine j_topi (fun v32 ev32 => ?_)
      have h := h v32 ev32
      refine j_istore (lv' := [(11, .int v32), (10, .int v30), (0, .ref (q 0)), (1, .int a1), (2, .int a2), (5, .int a5), (6, .int a6), (7, .int a7), (8, .int a8), (9, .int a9)]) X (by decide) rfl dX7_towers_159 ?_
      refine j_aload_n X rfl 2 rfl dX7_towers_161 ?_
      refine jgM_mod_storeys X i_X7_towers_X7 (by decide +kernel) dX7_towers_162 ?_
      refine j_iload X 8 rfl dX7_towers_165 ?_
      obtain ⟨k33, h⟩ := h
      refine jlM_mod_storeys X k33 dX7_towers_167 ?_
      refine j_iload X 9 rfl dX7_towers_168 ?_
      refine j_iload X 7 rfl dX7_towers_170 ?_
      refine j_iload X 7 rfl dX7_towers_172 ?_
      refine j_iconst (v := (2 : Int32)) X (by decide) dX7_towers_174 ?_
      refine j_irem X (by decide) dX7_towers_175 ?_
      refine j_Si (st := [.int (S.2.1 6 (a8).toNatClampNeg)]) X [.int a9, .int a7, .int (a7 - a7 / (2 : Int32) * (2 : Int32))] (c_X7_builds l D i q A a9 a7 (a7 - a7 / (2 : Int32) * (2 : Int32)) S _ h) (va_cwS 3 X.ts gX7_towers_X7_builds rfl rfl rfl (by decide +kernel) ⟨Nat.le_of_ble_eq_true rfl, Nat.le_of_ble_eq_true rfl⟩) rfl rfl (Nat.le_of_ble_eq_true rfl) dX7_towers_176 (fun r35 S34 h => ?_)
      refine j_iadd X dX7_towers_179 ?_
      refine j_bipush (v := (9 : Int32)) X (by decide) dX7_towers_180 ?_
      refine j_icmp_ge (tgt := 189) X dX7_towers_182 (by decide) (fun c36 => ?_) (fun c36 => ?_)
      · have h := h.1 c36
        refine j_iconst (v := (0 : Int32)) X (by decide) dX7_towers_189 ?_
        refine j_loc [2, 3, 4, 5, 7, 8, 9, 1, 0] rfl ?_
        exact w_X7_towers_190 X hK107 (fun y0 y1 y2 y3 y4 y5 y6 S h => ih y0 y1 y2 y3 y4 y5 y6 S h) a1 a2 a5 a7 a8 a9 v30 v32 (0 : Int32) S34 h
      · have h := h.2 c36
        refine j_iconst (v := (1 : Int32)) X (by decide) dX7_towers_185 ?_
        refine j_goto (tgt := 190) X dX7_towers_186 (by decide) ?_
        refine j_loc [2, 3, 4, 5, 7, 8, 9, 1, 0] rfl ?_
        exact w_X7_towers_190 X hK107 (fun y0 y1 y2 y3 y4 y5 y6 S h => ih y0 y1 y2 y3 y4 y5 y6 S h) a1 a2 a5 a7 a8 a9 v30 v32 (1 : Int32) S34 h
set_option maxRecDepth 100000 in
set_option maxHeartbeats 4000000 in
theorem w_X7_towers_107 {D : va_G} {i : Nat → ClassId} {q : Nat → Nat} {A : Nat → Prop} {p : Program} {l : Launch} {e : Env} {s : State} {m : MethodId} {args : Array Value} {below : List Frame} {meth : Method} {c : Code} (X : cX D i A p s m args meth c cX7_towers RX7 14 wsX7_towers (some .int)) {Q : Int32 → vS → Prop} : ∀ (n : Nat) (a1 : Int32) (a2 : Int32) (a5 : Int32) (a6 : Int32) (a7 : Int32) (S : vS), e_X7_towers_107 Q n a1 a2 a5 a6 a7 S → cJ D A p l e (headSpec wsX7_towers rm_X7_towers).room s m args below meth c (MQ below (va_Qi Q (vB D i A (wM q i)) A) args s 0 0 A) 14 (wM q i S) [(0, .ref (q 0)), (1, .int a1), (2, .int a2), (5, .int a5), (6, .int a6), (7, .int a7)] 107 [] := by
  intro n
  induction n with
  | zero =>
    intro _ _ _ _ _ S h
    rw [e_X7_towers_107.eq_1] at h
    exact h.elim
  | succ n ih =>
    intro a1 a2 a5 a6 a7 S h
    rw [e_X7_towers_107.eq_2] at h
    refine j_iload X 5 rfl dX7_towers_107 ?_
    refine j_if_lt (tgt := 270) X dX7_towers_109 (by decide) (fun c24 => ?_) (fun c24 => ?_)
    · have h := h.1 c24
      refine j_iload X 3 rfl dX7_towers_270 ?_
      refine j_if_ne (tgt := 284) X dX7_towers_272 (by decide) (fun c25 => ?_) (fun c25 => ?_)
      · have h := h.1 c25
        refine j_iload X 4 rfl dX7_towers_284 ?_
        exact j_iret X h dX7_towers_286
      · have h := h.2 c25
        refine j_aload_n X rfl 0 rfl dX7_towers_275 ?_
        refine jgM_mod_comes X i_X7_towers_X7 (by decide +kernel) dX7_towers_276 ?_
        refine j_iconst (v := (0 : Int32)) X (by decide) dX7_towers_279 ?_
        refine jlM_mod_comes X (by unfold vp_in; decide) dX7_towers_280 ?_
        refine j_goto (tgt := 286) X dX7_towers_281 (by decide) ?_
        exact j_iret X h dX7_towers_286
    · have h := h.2 c24
      refine j_iload X 5 rfl dX7_towers_112 ?_
      refine j_iconst (v := (2 : Int32)) X (by decide) dX7_towers_114 ?_
      refine j_irem X (by decide) dX7_towers_115 ?_
      refine j_if_ne (tgt := 123) X dX7_towers_116 (by decide) (fun c26 => ?_) (fun c26 => ?_)
      · have h := h.1 c26
        refine j_iload_n X rfl 2 rfl dX7_towers_123 ?_
        refine j_istore (lv' := [(8, .int a2), (0, .ref (q 0)), (1, .int a1), (2, .int a2), (5, .int a5), (6, .int a6), (7, .int a7)]) X (by decide) rfl dX7_towers_124 ?_
        refine j_iconst (v := (0 : Int32)) X (by decide) dX7_towers_126 ?_
        refine j_istore (lv' := [(9, .int (0 : Int32)), (8, .int a2), (0, .ref (q 0)), (1, .int a1), (2, .int a2), (5, .int a5), (6, .int a6), (7, .int a7)]) X (by decide) rfl dX7_towers_127 ?_
        refine j_loc [2, 3, 4, 5, 6, 7, 1, 0] rfl ?_
        obtain ⟨j, h⟩ := h
        exact w_X7_towers_129 X (fun y0 y1 y2 y3 y4 S h => ih y0 y1 y2 y3 y4 S h) j a1 a2 a5 a6 a7 a2 (0 : Int32) S h
      · have h := h.2 c26
        refine j_iload_n X rfl 1 rfl dX7_towers_119 ?_
        refine j_goto (tgt := 124) X dX7_towers_120 (by decide) ?_
        refine j_istore (lv' := [(8, .int a1), (0, .ref (q 0)), (1, .int a1), (2, .int a2), (5, .int a5), (6, .int a6), (7, .int a7)]) X (by decide) rfl dX7_towers_124 ?_
        refine j_iconst (v := (0 : Int32)) X (by decide) dX7_towers_126 ?_
        refine j_istore (lv' := [(9, .int (0 : Int32)), (8, .int a1), (0, .ref (q 0)), (1, .int a1), (2, .int a2), (5, .int a5), (6, .int a6), (7, .int a7)]) X (by decide) rfl dX7_towers_127 ?_
        refine j_loc [2, 3, 4, 5, 6, 7, 1, 0] rfl ?_
        obtain ⟨j, h⟩ := h
        exact w_X7_towers_129 X (fun y0 y1 y2 y3 y4 S h => ih y0 y1 y2 y3 y4 S h) j a1 a2 a5 a6 a7 a1 (0 : Int32) S h
set_option maxRecDepth 100000 in
set_option maxHeartbeats 4000000 in
theorem w_X7_towers_67 {D : va_G} {i : Nat → ClassId} {q : Nat → Nat} {A : Nat → Prop} {p : Program} {l : Launch} {e : Env} {s : State} {m : MethodId} {args : Array Value} {below : List Frame} {meth : Method} {c : Code} (X : cX D i A p s m args meth c cX7_towers RX7 14 wsX7_towers (some .int)) {Q : Int32 → vS → Prop} : ∀ (n : Nat) (a1 : Int32) (a2 : Int32) (a3 : Int32) (a4 : Int32) (a5 : Int32) (a6 : Int32) (S : vS), e_X7_towers_67 Q n a1 a2 a3 a4 a5 a6 S → cJ D A p l e (headSpec wsX7_towers rm_X7_towers).room s m args below meth c (MQ below (va_Qi Q (vB D i A (wM q i)) A) args s 0 0 A) 14 (wM q i S) [(0, .ref (q 0)), (1, .int a1), (2, .int a2), (3, .int a3), (4, .int a4), (5, .int a5), (6, .int a6)] 67 [] := by
  intro n
  induction n with
  | zero =>
    intro _ _ _ _ _ _ S h
    rw [e_X7_towers_67.eq_1] at h
    exact h.elim
  | succ n ih =>
    intro a1 a2 a3 a4 a5 a6 S h
    rw [e_X7_towers_67.eq_2] at h
    refine j_iload X 6 rfl dX7_towers_67 ?_
    refine j_iconst (v := (1 : Int32)) X (by decide) dX7_towers_69 ?_
    refine j_iload_n X rfl 3 rfl dX7_towers_70 ?_
    refine j_ishl X dX7_towers_71 ?_
    refine j_icmp_ge (tgt := 99) X dX7_towers_72 (by decide) (fun c17 => ?_) (fun c17 => ?_)
    · have h := h.1 c17
      refine j_iconst (v := (-1 : Int32)) X (by decide) dX7_towers_99 ?_
      refine j_istore (lv' := [(6, .int (-1 : Int32)), (0, .ref (q 0)), (1, .int a1), (2, .int a2), (3, .int a3), (4, .int a4), (5, .int a5)]) X (by decide) rfl dX7_towers_100 ?_
      refine j_iload_n X rfl 4 rfl dX7_towers_102 ?_
      refine j_iconst (v := (1 : Int32)) X (by decide) dX7_towers_103 ?_
      refine j_isub X dX7_towers_104 ?_
      refine j_topi (fun v18 ev18 => ?_)
      have h := h v18 ev18
      refine j_istore (lv' := [(7, .int v18), (6, .int (-1 : Int32)), (0, .ref (q 0)), (1, .int a1), (2, .int a2), (3, .int a3), (4, .int a4), (5, .int a5)]) X (by decide) rfl dX7_towers_105 ?_
      refine j_loc [2, 3, 4, 7, 1, 0] rfl ?_
      obtain ⟨j, h⟩ := h
      exact w_X7_towers_107 X j a1 a2 a5 (-1 : Int32) v18 S h
    · have h := h.2 c17
      refine j_aload_n X rfl 0 rfl dX7_towers_75 ?_
      refine jgM_mod_comes X i_X7_towers_X7 (by decide +kernel) dX7_towers_76 ?_
      refine j_iload X 6 rfl dX7_towers_79 ?_
      refine j_aload_n X rfl 0 rfl dX7_towers_81 ?_
      refine j_iload_n X rfl 1 rfl dX7_towers_82 ?_
      refine j_iload_n X rfl 2 rfl dX7_towers_83 ?_
      refine j_iload_n X rfl 3 rfl dX7_towers_84 ?_
      refine j_iload X 4 rfl dX7_towers_85 ?_
      refine j_iload X 6 rfl dX7_towers_87 ?_
      refine j_Vi (st := [.int a6, .ref (q 17)]) X [.int a1, .int a2, .int a3, .int a4, .int a6] 0 (c_X7_endOf l D i q A a1 a2 a3 a4 a6 S _ h) (cwV 5 X.ts gX7_towers_X7_endOf rfl rfl rfl (by decide +kernel) ⟨Nat.le_of_ble_eq_true rfl, Nat.le_of_ble_eq_true rfl⟩) rfl rfl rfl rfl (Nat.le_of_ble_eq_true rfl) dX7_towers_89 (fun r20 S19 h => ?_)
      obtain ⟨k21, h⟩ := h
      refine jsM_mod_comes X k21 dX7_towers_92 (fun S22 eS22 => ?_)
      have h := h S22 eS22
      refine j_iinc (dv := (1 : Int32)) (lv' := fun v23 => [(6, .int v23), (0, .ref (q 0)), (1, .int a1), (2, .int a2), (3, .int a3), (4, .int a4), (5, .int a5)]) X dX7_towers_93 (pl := 6) rfl (by decide) (by decide) (fun _ => rfl) (fun v23 ev23 => ?_)
      have h := h v23 ev23
      refine j_goto (tgt := 67) X dX7_towers_96 (by decide) ?_
      refine j_loc [1, 2, 3, 4, 5, 6, 0] rfl ?_
      exact ih a1 a2 a3 a4 a5 v23 S22 h
set_option maxRecDepth 100000 in
set_option maxHeartbeats 4000000 in
theorem c_X7_towers (l : Launch) (D : va_G) (i : Nat → ClassId) (q : Nat → Nat) (A : Nat → Prop) (x1 : Int32) (x2 : Int32) (x3 : Int32) (x4 : Int32) (x5 : Int32) (S : vS) (Q : Int32 → vS → Prop) (h : e_X7_towers x1 x2 x3 x4 x5 S Q) : Met l yX7_towers wsX7_towers rm_X7_towers (va_Pc [.ref (q 0), .int x1, .int x2, .int x3, .int x4, .int x5] (vB D i A (wM q i) S)) (va_Qi Q (vB D i A (wM q i)) A) 0 0 A := by
  refine m_ofJ (own := RX7) (lv := [(0, .ref (q 0)), (1, .int x1), (2, .int x2), (3, .int x3), (4, .int x4), (5, .int x5)]) rfl (by decide) rfl (Nat.le_of_ble_eq_true rfl) rfl ?_
  intro p e s m below meth c X
  unfold e_X7_towers at h
  refine j_aload_n X rfl 0 rfl dX7_towers_0 ?_
  refine j_iload_n X rfl 1 rfl dX7_towers_1 ?_
  refine j_Vi (st := []) X [.int x1] 0 (c_X7_isMan l D i q A x1 S _ h) (cwV 1 X.ts gX7_towers_X7_isMan rfl rfl rfl (by decide +kernel) ⟨Nat.le_of_ble_eq_true rfl, Nat.le_of_ble_eq_true rfl⟩) rfl rfl rfl rfl (Nat.le_of_ble_eq_true rfl) dX7_towers_2 (fun r2 S1 h => ?_)
  refine j_if_eq (tgt := 21) X dX7_towers_5 (by decide) (fun c3 => ?_) (fun c3 => ?_)
  · have h := h.1 c3
    refine j_ldcw (v := (-1000000001 : Int32)) X (by decide +kernel) dX7_towers_21 ?_
    exact j_iret X h dX7_towers_24
  · have h := h.2 c3
    refine j_aload_n X rfl 0 rfl dX7_towers_8 ?_
    refine j_iload_n X rfl 2 rfl dX7_towers_9 ?_
    refine j_Vi (st := []) X [.int x2] 0 (c_X7_isMan l D i q A x2 S1 _ h) (cwV 1 X.ts gX7_towers_X7_isMan rfl rfl rfl (by decide +kernel) ⟨Nat.le_of_ble_eq_true rfl, Nat.le_of_ble_eq_true rfl⟩) rfl rfl rfl rfl (Nat.le_of_ble_eq_true rfl) dX7_towers_10 (fun r5 S4 h => ?_)
    refine j_if_eq (tgt := 21) X dX7_towers_13 (by decide) (fun c6 => ?_) (fun c6 => ?_)
    · have h := h.1 c6
      refine j_ldcw (v := (-1000000001 : Int32)) X (by decide +kernel) dX7_towers_21 ?_
      exact j_iret X h dX7_towers_24
    · have h := h.2 c6
      refine j_iload_n X rfl 1 rfl dX7_towers_16 ?_
      refine j_iload_n X rfl 2 rfl dX7_towers_17 ?_
      refine j_icmp_ne (tgt := 25) X dX7_towers_18 (by decide) (fun c7 => ?_) (fun c7 => ?_)
      · have h := h.1 c7
        refine j_iload_n X rfl 3 rfl dX7_towers_25 ?_
        refine j_i2l X dX7_towers_26 ?_
        refine j_lconst (v := (0 : Int64)) X (by decide) dX7_towers_27 ?_
        refine j_ldc2 (v := (6 : Int64)) X (by decide +kernel) dX7_towers_28 ?_
        refine j_Si (st := []) X [.long (x3).toInt64, .long (0 : Int64), .long (6 : Int64)] (c_X7_in l D i q A (x3).toInt64 (0 : Int64) (6 : Int64) S4 _ h) (va_cwS 3 X.ts gX7_towers_X7_in rfl rfl rfl (by decide +kernel) ⟨Nat.le_of_ble_eq_true rfl, Nat.le_of_ble_eq_true rfl⟩) rfl rfl (Nat.le_of_ble_eq_true rfl) dX7_towers_31 (fun r9 S8 h => ?_)
        refine j_if_eq (tgt := 61) X dX7_towers_34 (by decide) (fun c10 => ?_) (fun c10 => ?_)
        · have h := h.1 c10
          refine j_ldc (v := (-1000000002 : Int32)) X (by decide +kernel) dX7_towers_61 ?_
          exact j_iret X h dX7_towers_63
        · have h := h.2 c10
          refine j_iload X 4 rfl dX7_towers_37 ?_
          refine j_i2l X dX7_towers_39 ?_
          refine j_lconst (v := (1 : Int64)) X (by decide) dX7_towers_40 ?_
          refine j_ldc2 (v := (99 : Int64)) X (by decide +kernel) dX7_towers_41 ?_
          refine j_Si (st := []) X [.long (x4).toInt64, .long (1 : Int64), .long (99 : Int64)] (c_X7_in l D i q A (x4).toInt64 (1 : Int64) (99 : Int64) S8 _ h) (va_cwS 3 X.ts gX7_towers_X7_in rfl rfl rfl (by decide +kernel) ⟨Nat.le_of_ble_eq_true rfl, Nat.le_of_ble_eq_true rfl⟩) rfl rfl (Nat.le_of_ble_eq_true rfl) dX7_towers_44 (fun r12 S11 h => ?_)
          refine j_if_eq (tgt := 61) X dX7_towers_47 (by decide) (fun c13 => ?_) (fun c13 => ?_)
          · have h := h.1 c13
            refine j_ldc (v := (-1000000002 : Int32)) X (by decide +kernel) dX7_towers_61 ?_
            exact j_iret X h dX7_towers_63
          · have h := h.2 c13
            refine j_iload X 5 rfl dX7_towers_50 ?_
            refine j_i2l X dX7_towers_52 ?_
            refine j_lconst (v := (0 : Int64)) X (by decide) dX7_towers_53 ?_
            refine j_lconst (v := (1 : Int64)) X (by decide) dX7_towers_54 ?_
            refine j_Si (st := []) X [.long (x5).toInt64, .long (0 : Int64), .long (1 : Int64)] (c_X7_in l D i q A (x5).toInt64 (0 : Int64) (1 : Int64) S11 _ h) (va_cwS 3 X.ts gX7_towers_X7_in rfl rfl rfl (by decide +kernel) ⟨Nat.le_of_ble_eq_true rfl, Nat.le_of_ble_eq_true rfl⟩) rfl rfl (Nat.le_of_ble_eq_true rfl) dX7_towers_55 (fun r15 S14 h => ?_)
            refine j_if_ne (tgt := 64) X dX7_towers_58 (by decide) (fun c16 => ?_) (fun c16 => ?_)
            · have h := h.1 c16
              refine j_iconst (v := (0 : Int32)) X (by decide) dX7_towers_64 ?_
              refine j_istore (lv' := [(6, .int (0 : Int32)), (0, .ref (q 0)), (1, .int x1), (2, .int x2), (3, .int x3), (4, .int x4), (5, .int x5)]) X (by decide) rfl dX7_towers_65 ?_
              refine j_loc [1, 2, 3, 4, 5, 6, 0] rfl ?_
              obtain ⟨j, h⟩ := h
              exact w_X7_towers_67 X j x1 x2 x3 x4 x5 (0 : Int32) S14 h
            · have h := h.2 c16
              refine j_ldc (v := (-1000000002 : Int32)) X (by decide +kernel) dX7_towers_61 ?_
              exact j_iret X h dX7_towers_63
      · have h := h.2 c7
        refine j_ldcw (v := (-1000000001 : Int32)) X (by decide +kernel) dX7_towers_21 ?_
        exact j_iret X h dX7_towers_24
set_option maxRecDepth 100000 in
theorem i_X7_caughtBy_X7 : ∀ w ∈ u_ws RX7 TX7 48, w ∈ wsX7_caughtBy := by decide +kernel
abbrev rm_X7_caughtBy : Room := { frames := 2, cells := 0, slots := 0, locals := 47 }
set_option maxRecDepth 100000 in
set_option maxHeartbeats 4000000 in
theorem w_X7_caughtBy_167 {D : va_G} {i : Nat → ClassId} {q : Nat → Nat} {A : Nat → Prop} {p : Program} {l : Launch} {e : Env} {s : State} {m : MethodId} {args : Array Value} {below : List Frame} {meth : Method} {c : Code} (X : cX D i A p s m args meth c cX7_caughtBy RX7 12 wsX7_caughtBy (some .int)) {K19 : Int32 → Int32 → Int64 → Int32 → Int32 → Int32 → vS → Prop} {Q : Int32 → vS → Prop} (hK19 : ∀ (a2 : Int32) (a3 : Int32) (a4 : Int64) (a6 : Int32) (a7 : Int32) (a8 : Int32) (S : vS), K19 a2 a3 a4 a6 a7 a8 S → cJ D A p l e (headSpec wsX7_caughtBy rm_X7_caughtBy).room s m args below meth c (MQ below (va_Qi Q (vB D i A (wM q i)) A) args s 0 0 A) 12 (wM q i S) [(0, .ref (q 0)), (2, .int a2), (3, .int a3), (4, .long a4), (6, .int a6), (7, .int a7), (8, .int a8)] 19 []) : ∀ (a2 : Int32) (a3 : Int32) (a4 : Int64) (a6 : Int32) (a8 : Int32) (t0 : Int32) (t1 : Int32) (S : vS), e_X7_caughtBy_167 K19 Q a2 a3 a4 a6 a8 t0 t1 S → cJ D A p l e (headSpec wsX7_caughtBy rm_X7_caughtBy).room s m args below meth c (MQ below (va_Qi Q (vB D i A (wM q i)) A) args s 0 0 A) 12 (wM q i S) [(0, .ref (q 0)), (2, .int a2), (3, .int a3), (4, .long a4), (6, .int a6), (8, .int a8)] 167 [.int t0, .int t1] := by
  intro a2 a3 a4 a6 a8 t0 t1 S h
  unfold e_X7_caughtBy_167 at h
  refine j_iadd X dX7_caughtBy_167 ?_
  refine j_topi (fun v22 ev22 => ?_)
  have h := h v22 ev22
  refine j_istore (lv' := [(7, .int v22), (0, .ref (q 0)), (2, .int a2), (3, .int a3), (4, .long a4), (6, .int a6), (8, .int a8)]) X (by decide) rfl dX7_caughtBy_168 ?_
  refine j_lload X 4 rfl dX7_caughtBy_170 ?_
  refine j_lconst (v := (1 : Int64)) X (by decide) dX7_caughtBy_172 ?_
  refine j_iload X 5 rfl dX7_caughtBy_173 ?_
  refine j_lshl X dX7_caughtBy_175 ?_
  refine j_lor X dX7_caughtBy_176 ?_
  refine j_topl (fun v23 ev23 => ?_)
  have h := h v23 ev23
  refine j_lstore (lv' := [(4, .long v23), (7, .int v22), (0, .ref (q 0)), (2, .int a2), (3, .int a3), (6, .int a6), (8, .int a8)]) X (by decide) rfl dX7_caughtBy_177 ?_
  refine j_iinc (dv := (1 : Int32)) (lv' := fun v24 => [(8, .int v24), (4, .long v23), (7, .int v22), (0, .ref (q 0)), (2, .int a2), (3, .int a3), (6, .int a6)]) X dX7_caughtBy_179 (pl := 6) rfl (by decide) (by decide) (fun _ => rfl) (fun v24 ev24 => ?_)
  have h := h v24 ev24
  refine j_goto (tgt := 19) X dX7_caughtBy_182 (by decide) ?_
  refine j_loc [3, 4, 5, 1, 6, 2, 0] rfl ?_
  exact hK19 a2 a3 v23 a6 v22 v24 S h
set_option maxRecDepth 100000 in
set_option maxHeartbeats 4000000 in
theorem w_X7_caughtBy_95 {D : va_G} {i : Nat → ClassId} {q : Nat → Nat} {A : Nat → Prop} {p : Program} {l : Launch} {e : Env} {s : State} {m : MethodId} {args : Array Value} {below : List Frame} {meth : Method} {c : Code} (X : cX D i A p s m args meth c cX7_caughtBy RX7 12 wsX7_caughtBy (some .int)) {K19 : Int32 → Int32 → Int64 → Int32 → Int32 → Int32 → vS → Prop} {Q : Int32 → vS → Prop} (hK19 : ∀ (a2 : Int32) (a3 : Int32) (a4 : Int64) (a6 : Int32) (a7 : Int32) (a8 : Int32) (S : vS), K19 a2 a3 a4 a6 a7 a8 S → cJ D A p l e (headSpec wsX7_caughtBy rm_X7_caughtBy).room s m args below meth c (MQ below (va_Qi Q (vB D i A (wM q i)) A) args s 0 0 A) 12 (wM q i S) [(0, .ref (q 0)), (2, .int a2), (3, .int a3), (4, .long a4), (6, .int a6), (7, .int a7), (8, .int a8)] 19 []) : ∀ (a2 : Int32) (a3 : Int32) (a4 : Int64) (a7 : Int32) (a8 : Int32) (a10 : Int32) (t0 : Int32) (t1 : Int32) (S : vS), e_X7_caughtBy_95 K19 Q a2 a3 a4 a7 a8 a10 t0 t1 S → cJ D A p l e (headSpec wsX7_caughtBy rm_X7_caughtBy).room s m args below meth c (MQ below (va_Qi Q (vB D i A (wM q i)) A) args s 0 0 A) 12 (wM q i S) [(0, .ref (q 0)), (2, .int a2), (3, .int a3), (4, .long a4), (7, .int a7), (8, .int a8), (10, .int a10)] 95 [.int t0, .int t1] := by
  intro a2 a3 a4 a7 a8 a10 t0 t1 S h
  unfold e_X7_caughtBy_95 at h
  refine j_iadd X dX7_caughtBy_95 ?_
  refine j_topi (fun v13 ev13 => ?_)
  have h := h v13 ev13
  refine j_istore (lv' := [(11, .int v13), (0, .ref (q 0)), (2, .int a2), (3, .int a3), (4, .long a4), (7, .int a7), (8, .int a8), (10, .int a10)]) X (by decide) rfl dX7_caughtBy_96 ?_
  refine j_aload_n X rfl 1 rfl dX7_caughtBy_98 ?_
  refine j_iload X 7 rfl dX7_caughtBy_99 ?_
  refine j_iload X 0 rfl dX7_caughtBy_101 ?_
  refine j_Vi (st := []) X [.int a10, .int v13] 0 (c_X7_isCell l D i q A a10 v13 S _ h) (cwV 2 X.ts gX7_caughtBy_X7_isCell rfl rfl rfl (by decide +kernel) ⟨Nat.le_of_ble_eq_true rfl, Nat.le_of_ble_eq_true rfl⟩) rfl rfl rfl rfl (Nat.le_of_ble_eq_true rfl) dX7_caughtBy_103 (fun r15 S14 h => ?_)
  refine j_if_eq (tgt := 127) X dX7_caughtBy_106 (by decide) (fun c16 => ?_) (fun c16 => ?_)
  · have h := h.1 c16
    refine j_iload X 5 rfl dX7_caughtBy_127 ?_
    exact j_iret X h dX7_caughtBy_129
  · have h := h.2 c16
    refine j_aload_n X rfl 1 rfl dX7_caughtBy_109 ?_
    refine jgM_mod_own X i_X7_caughtBy_X7 (by decide +kernel) dX7_caughtBy_110 ?_
    refine j_aload_n X rfl 1 rfl dX7_caughtBy_113 ?_
    refine jgM_mod_wide X i_X7_caughtBy_X7 (by decide +kernel) dX7_caughtBy_114 ?_
    refine j_iload X 0 rfl dX7_caughtBy_117 ?_
    refine j_imul X dX7_caughtBy_119 ?_
    refine j_iload X 7 rfl dX7_caughtBy_120 ?_
    refine j_iadd X dX7_caughtBy_122 ?_
    obtain ⟨k17, h⟩ := h
    refine jlM_mod_own X k17 dX7_caughtBy_123 ?_
    refine j_if_ge (tgt := 130) X dX7_caughtBy_124 (by decide) (fun c18 => ?_) (fun c18 => ?_)
    · have h := h.1 c18
      refine j_aload_n X rfl 1 rfl dX7_caughtBy_130 ?_
      refine jgM_mod_wide X i_X7_caughtBy_X7 (by decide +kernel) dX7_caughtBy_131 ?_
      refine j_iload X 0 rfl dX7_caughtBy_134 ?_
      refine j_imul X dX7_caughtBy_136 ?_
      refine j_iload X 7 rfl dX7_caughtBy_137 ?_
      refine j_iadd X dX7_caughtBy_139 ?_
      refine j_topi (fun v19 ev19 => ?_)
      have h := h v19 ev19
      refine j_istore (lv' := [(6, .int v19), (11, .int v13), (0, .ref (q 0)), (2, .int a2), (3, .int a3), (4, .long a4), (7, .int a7), (8, .int a8), (10, .int a10)]) X (by decide) rfl dX7_caughtBy_140 ?_
      refine j_iload X 6 rfl dX7_caughtBy_142 ?_
      refine j_lload X 5 rfl dX7_caughtBy_144 ?_
      refine j_iload X 0 rfl dX7_caughtBy_146 ?_
      refine j_lshr X dX7_caughtBy_148 ?_
      refine j_lconst (v := (1 : Int64)) X (by decide) dX7_caughtBy_149 ?_
      refine j_land X dX7_caughtBy_150 ?_
      refine j_lconst (v := (1 : Int64)) X (by decide) dX7_caughtBy_151 ?_
      refine j_lcmp X dX7_caughtBy_152 ?_
      refine j_if_ne (tgt := 160) X dX7_caughtBy_153 (by decide) (fun c20 => ?_) (fun c20 => ?_)
      · have h := h.1 c20
        refine j_aload_n X rfl 2 rfl dX7_caughtBy_160 ?_
        refine jgM_mod_own X i_X7_caughtBy_X7 (by decide +kernel) dX7_caughtBy_161 ?_
        refine j_iload X 0 rfl dX7_caughtBy_164 ?_
        obtain ⟨k21, h⟩ := h
        refine jlM_mod_own X k21 dX7_caughtBy_166 ?_
        refine j_loc [2, 3, 4, 5, 0, 7] rfl ?_
        exact w_X7_caughtBy_167 X hK19 a2 a3 a4 v19 a8 (S14.2.1 17 (v19).toNatClampNeg) a7 S14 h
      · have h := h.2 c20
        refine j_iconst (v := (0 : Int32)) X (by decide) dX7_caughtBy_156 ?_
        refine j_goto (tgt := 167) X dX7_caughtBy_157 (by decide) ?_
        refine j_loc [2, 3, 4, 5, 0, 7] rfl ?_
        exact w_X7_caughtBy_167 X hK19 a2 a3 a4 v19 a8 (0 : Int32) a7 S14 h
    · have h := h.2 c18
      refine j_iload X 5 rfl dX7_caughtBy_127 ?_
      exact j_iret X h dX7_caughtBy_129
set_option maxRecDepth 100000 in
set_option maxHeartbeats 4000000 in
theorem w_X7_caughtBy_64 {D : va_G} {i : Nat → ClassId} {q : Nat → Nat} {A : Nat → Prop} {p : Program} {l : Launch} {e : Env} {s : State} {m : MethodId} {args : Array Value} {below : List Frame} {meth : Method} {c : Code} (X : cX D i A p s m args meth c cX7_caughtBy RX7 12 wsX7_caughtBy (some .int)) {K19 : Int32 → Int32 → Int64 → Int32 → Int32 → Int32 → vS → Prop} {Q : Int32 → vS → Prop} (hK19 : ∀ (a2 : Int32) (a3 : Int32) (a4 : Int64) (a6 : Int32) (a7 : Int32) (a8 : Int32) (S : vS), K19 a2 a3 a4 a6 a7 a8 S → cJ D A p l e (headSpec wsX7_caughtBy rm_X7_caughtBy).room s m args below meth c (MQ below (va_Qi Q (vB D i A (wM q i)) A) args s 0 0 A) 12 (wM q i S) [(0, .ref (q 0)), (2, .int a2), (3, .int a3), (4, .long a4), (6, .int a6), (7, .int a7), (8, .int a8)] 19 []) : ∀ (a2 : Int32) (a3 : Int32) (a4 : Int64) (a6 : Int32) (a7 : Int32) (a8 : Int32) (a9 : Int32) (t0 : Int32) (t1 : Int32) (S : vS), e_X7_caughtBy_64 K19 Q a2 a3 a4 a6 a7 a8 a9 t0 t1 S → cJ D A p l e (headSpec wsX7_caughtBy rm_X7_caughtBy).room s m args below meth c (MQ below (va_Qi Q (vB D i A (wM q i)) A) args s 0 0 A) 12 (wM q i S) [(0, .ref (q 0)), (2, .int a2), (3, .int a3), (4, .long a4), (6, .int a6), (7, .int a7), (8, .int a8), (9, .int a9)] 64 [.int t0, .int t1] := by
  intro a2 a3 a4 a6 a7 a8 a9 t0 t1 S h
  unfold e_X7_caughtBy_64 at h
  refine j_iadd X dX7_caughtBy_64 ?_
  refine j_topi (fun v9 ev9 => ?_)
  have h := h v9 ev9
  refine j_istore (lv' := [(10, .int v9), (0, .ref (q 0)), (2, .int a2), (3, .int a3), (4, .long a4), (6, .int a6), (7, .int a7), (8, .int a8), (9, .int a9)]) X (by decide) rfl dX7_caughtBy_65 ?_
  refine j_iload X 5 rfl dX7_caughtBy_67 ?_
  refine j_aload_n X rfl 1 rfl dX7_caughtBy_69 ?_
  refine jgM_mod_wide X i_X7_caughtBy_X7 (by decide +kernel) dX7_caughtBy_70 ?_
  obtain ⟨k10, h⟩ := h
  refine j_idiv X k10 dX7_caughtBy_73 ?_
  refine j_iload X 8 rfl dX7_caughtBy_74 ?_
  refine j_iconst (v := (2 : Int32)) X (by decide) dX7_caughtBy_76 ?_
  refine j_icmp_ne (tgt := 84) X dX7_caughtBy_77 (by decide) (fun c11 => ?_) (fun c11 => ?_)
  · have h := h.1 c11
    refine j_iload X 8 rfl dX7_caughtBy_84 ?_
    refine j_iconst (v := (3 : Int32)) X (by decide) dX7_caughtBy_86 ?_
    refine j_icmp_ne (tgt := 94) X dX7_caughtBy_87 (by decide) (fun c12 => ?_) (fun c12 => ?_)
    · have h := h.1 c12
      refine j_iconst (v := (0 : Int32)) X (by decide) dX7_caughtBy_94 ?_
      refine j_loc [1, 2, 3, 4, 6, 7, 0] rfl ?_
      exact w_X7_caughtBy_95 X hK19 a2 a3 a4 a7 a8 v9 (0 : Int32) (a6 / (S.1 0)) S h
    · have h := h.2 c12
      refine j_iconst (v := (1 : Int32)) X (by decide) dX7_caughtBy_90 ?_
      refine j_goto (tgt := 95) X dX7_caughtBy_91 (by decide) ?_
      refine j_loc [1, 2, 3, 4, 6, 7, 0] rfl ?_
      exact w_X7_caughtBy_95 X hK19 a2 a3 a4 a7 a8 v9 (1 : Int32) (a6 / (S.1 0)) S h
  · have h := h.2 c11
    refine j_iconst (v := (-1 : Int32)) X (by decide) dX7_caughtBy_80 ?_
    refine j_goto (tgt := 95) X dX7_caughtBy_81 (by decide) ?_
    refine j_loc [1, 2, 3, 4, 6, 7, 0] rfl ?_
    exact w_X7_caughtBy_95 X hK19 a2 a3 a4 a7 a8 v9 (-1 : Int32) (a6 / (S.1 0)) S h
set_option maxRecDepth 100000 in
set_option maxHeartbeats 4000000 in
theorem w_X7_caughtBy_19 {D : va_G} {i : Nat → ClassId} {q : Nat → Nat} {A : Nat → Prop} {p : Program} {l : Launch} {e : Env} {s : State} {m : MethodId} {args : Array Value} {below : List Frame} {meth : Method} {c : Code} (X : cX D i A p s m args meth c cX7_caughtBy RX7 12 wsX7_caughtBy (some .int)) {Q : Int32 → vS → Prop} : ∀ (n : Nat) (a2 : Int32) (a3 : Int32) (a4 : Int64) (a6 : Int32) (a7 : Int32) (a8 : Int32) (S : vS), e_X7_caughtBy_19 Q n a2 a3 a4 a6 a7 a8 S → cJ D A p l e (headSpec wsX7_caughtBy rm_X7_caughtBy).room s m args below meth c (MQ below (va_Qi Q (vB D i A (wM q i)) A) args s 0 0 A) 12 (wM q i S) [(0, .ref (q 0)), (2, .int a2), (3, .int a3), (4, .long a4), (6, .int a6), (7, .int a7), (8, .int a8)] 19 [] := by
  intro n
  induction n with
  | zero =>
    intro _ _ _ _ _ _ S h
    rw [e_X7_caughtBy_19.eq_1] at h
    exact h.elim
  | succ n ih =>
    intro a2 a3 a4 a6 a7 a8 S h
    rw [e_X7_caughtBy_19.eq_2] at h
    refine j_iload X 6 rfl dX7_caughtBy_19 ?_
    refine j_iload_n X rfl 1 rfl dX7_caughtBy_21 ?_
    refine j_iconst (v := (1 : Int32)) X (by decide) dX7_caughtBy_22 ?_
    refine j_isub X dX7_caughtBy_23 ?_
    refine j_icmp_ge (tgt := 185) X dX7_caughtBy_24 (by decide) (fun c4 => ?_) (fun c4 => ?_)
    · have h := h.1 c4
      refine j_iload X 5 rfl dX7_caughtBy_185 ?_
      exact j_iret X h dX7_caughtBy_187
    · have h := h.2 c4
      refine j_iload_n X rfl 2 rfl dX7_caughtBy_27 ?_
      refine j_iconst (v := (2 : Int32)) X (by decide) dX7_caughtBy_28 ?_
      refine j_iload X 6 rfl dX7_caughtBy_29 ?_
      refine j_imul X dX7_caughtBy_31 ?_
      refine j_ishr X dX7_caughtBy_32 ?_
      refine j_iconst (v := (3 : Int32)) X (by decide) dX7_caughtBy_33 ?_
      refine j_iand X dX7_caughtBy_34 ?_
      refine j_topi (fun v5 ev5 => ?_)
      have h := h v5 ev5
      refine j_istore (lv' := [(9, .int v5), (0, .ref (q 0)), (2, .int a2), (3, .int a3), (4, .long a4), (6, .int a6), (7, .int a7), (8, .int a8)]) X (by decide) rfl dX7_caughtBy_35 ?_
      refine j_iload X 5 rfl dX7_caughtBy_37 ?_
      refine j_aload_n X rfl 1 rfl dX7_caughtBy_39 ?_
      refine jgM_mod_wide X i_X7_caughtBy_X7 (by decide +kernel) dX7_caughtBy_40 ?_
      obtain ⟨k6, h⟩ := h
      refine j_irem X k6 dX7_caughtBy_43 ?_
      refine j_iload X 0 rfl dX7_caughtBy_44 ?_
      refine j_if_ne (tgt := 53) X dX7_caughtBy_46 (by decide) (fun c7 => ?_) (fun c7 => ?_)
      · have h := h.1 c7
        refine j_iload X 0 rfl dX7_caughtBy_53 ?_
        refine j_iconst (v := (1 : Int32)) X (by decide) dX7_caughtBy_55 ?_
        refine j_icmp_ne (tgt := 63) X dX7_caughtBy_56 (by decide) (fun c8 => ?_) (fun c8 => ?_)
        · have h := h.1 c8
          refine j_iconst (v := (0 : Int32)) X (by decide) dX7_caughtBy_63 ?_
          refine j_loc [1, 2, 3, 4, 5, 6, 7, 0] rfl ?_
          exact w_X7_caughtBy_64 X (fun y0 y1 y2 y3 y4 y5 S h => ih y0 y1 y2 y3 y4 y5 S h) a2 a3 a4 a6 a7 a8 v5 (0 : Int32) (a6 - a6 / (S.1 0) * (S.1 0)) S h
        · have h := h.2 c8
          refine j_iconst (v := (1 : Int32)) X (by decide) dX7_caughtBy_59 ?_
          refine j_goto (tgt := 64) X dX7_caughtBy_60 (by decide) ?_
          refine j_loc [1, 2, 3, 4, 5, 6, 7, 0] rfl ?_
          exact w_X7_caughtBy_64 X (fun y0 y1 y2 y3 y4 y5 S h => ih y0 y1 y2 y3 y4 y5 S h) a2 a3 a4 a6 a7 a8 v5 (1 : Int32) (a6 - a6 / (S.1 0) * (S.1 0)) S h
      · have h := h.2 c7
        refine j_iconst (v := (-1 : Int32)) X (by decide) dX7_caughtBy_49 ?_
        refine j_goto (tgt := 64) X dX7_caughtBy_50 (by decide) ?_
        refine j_loc [1, 2, 3, 4, 5, 6, 7, 0] rfl ?_
        exact w_X7_caughtBy_64 X (fun y0 y1 y2 y3 y4 y5 S h => ih y0 y1 y2 y3 y4 y5 S h) a2 a3 a4 a6 a7 a8 v5 (-1 : Int32) (a6 - a6 / (S.1 0) * (S.1 0)) S h
set_option maxRecDepth 100000 in
set_option maxHeartbeats 4000000 in
theorem c_X7_caughtBy (l : Launch) (D : va_G) (i : Nat → ClassId) (q : Nat → Nat) (A : Nat → Prop) (x1 : Int32) (x2 : Int32) (x3 : Int32) (S : vS) (Q : Int32 → vS → Prop) (h : e_X7_caughtBy x1 x2 x3 S Q) : Met l yX7_caughtBy wsX7_caughtBy rm_X7_caughtBy (va_Pc [.ref (q 0), .int x1, .int x2, .int x3] (vB D i A (wM q i) S)) (va_Qi Q (vB D i A (wM q i)) A) 0 0 A := by
  refine m_ofJ (own := RX7) (lv := [(0, .ref (q 0)), (1, .int x1), (2, .int x2), (3, .int x3)]) rfl (by decide) rfl (Nat.le_of_ble_eq_true rfl) rfl ?_
  intro p e s m below meth c X
  unfold e_X7_caughtBy at h
  refine j_lconst (v := (1 : Int64)) X (by decide) dX7_caughtBy_0 ?_
  refine j_iload_n X rfl 1 rfl dX7_caughtBy_1 ?_
  refine j_lshl X dX7_caughtBy_2 ?_
  refine j_topl (fun v1 ev1 => ?_)
  have h := h v1 ev1
  refine j_lstore (lv' := [(4, .long v1), (0, .ref (q 0)), (1, .int x1), (2, .int x2), (3, .int x3)]) X (by decide) rfl dX7_caughtBy_3 ?_
  refine j_iload_n X rfl 2 rfl dX7_caughtBy_5 ?_
  refine j_istore (lv' := [(6, .int x1), (4, .long v1), (0, .ref (q 0)), (1, .int x1), (2, .int x2), (3, .int x3)]) X (by decide) rfl dX7_caughtBy_6 ?_
  refine j_aload_n X rfl 2 rfl dX7_caughtBy_8 ?_
  refine jgM_mod_own X i_X7_caughtBy_X7 (by decide +kernel) dX7_caughtBy_9 ?_
  refine j_iload_n X rfl 3 rfl dX7_caughtBy_12 ?_
  obtain ⟨k2, h⟩ := h
  refine jlM_mod_own X k2 dX7_caughtBy_13 ?_
  refine j_topi (fun v3 ev3 => ?_)
  have h := h v3 ev3
  refine j_istore (lv' := [(7, .int v3), (6, .int x1), (4, .long v1), (0, .ref (q 0)), (1, .int x1), (2, .int x2), (3, .int x3)]) X (by decide) rfl dX7_caughtBy_14 ?_
  refine j_iconst (v := (0 : Int32)) X (by decide) dX7_caughtBy_16 ?_
  refine j_istore (lv' := [(8, .int (0 : Int32)), (7, .int v3), (6, .int x1), (4, .long v1), (0, .ref (q 0)), (1, .int x1), (2, .int x2), (3, .int x3)]) X (by decide) rfl dX7_caughtBy_17 ?_
  refine j_loc [4, 6, 7, 3, 2, 1, 0] rfl ?_
  obtain ⟨j, h⟩ := h
  exact w_X7_caughtBy_19 X j x2 x3 v1 x1 v3 (0 : Int32) S h
set_option maxRecDepth 100000 in
theorem i_X7_boat_X7 : ∀ w ∈ u_ws RX7 TX7 48, w ∈ wsX7_boat := by decide +kernel
abbrev rm_X7_boat : Room := { frames := 5, cells := 0, slots := 0, locals := 118 }
set_option maxRecDepth 100000 in
set_option maxHeartbeats 4000000 in
theorem w_X7_boat_87 {D : va_G} {i : Nat → ClassId} {q : Nat → Nat} {A : Nat → Prop} {p : Program} {l : Launch} {e : Env} {s : State} {m : MethodId} {args : Array Value} {below : List Frame} {meth : Method} {c : Code} (X : cX D i A p s m args meth c cX7_boat RX7 6 wsX7_boat (some .int)) {Q : Int32 → vS → Prop} : ∀ (n : Nat) (a1 : Int32) (a2 : Int32) (a3 : Int32) (a4 : Int32) (S : vS), e_X7_boat_87 Q n a1 a2 a3 a4 S → cJ D A p l e (headSpec wsX7_boat rm_X7_boat).room s m args below meth c (MQ below (va_Qi Q (vB D i A (wM q i)) A) args s 0 0 A) 6 (wM q i S) [(0, .ref (q 0)), (1, .int a1), (2, .int a2), (3, .int a3), (4, .int a4)] 87 [] := by
  intro n
  induction n with
  | zero =>
    intro _ _ _ _ S h
    rw [e_X7_boat_87.eq_1] at h
    exact h.elim
  | succ n ih =>
    intro a1 a2 a3 a4 S h
    rw [e_X7_boat_87.eq_2] at h
    refine j_iload X 4 rfl dX7_boat_87 ?_
    refine j_iconst (v := (1 : Int32)) X (by decide) dX7_boat_89 ?_
    refine j_iconst (v := (2 : Int32)) X (by decide) dX7_boat_90 ?_
    refine j_iload_n X rfl 2 rfl dX7_boat_91 ?_
    refine j_iconst (v := (1 : Int32)) X (by decide) dX7_boat_92 ?_
    refine j_isub X dX7_boat_93 ?_
    refine j_imul X dX7_boat_94 ?_
    refine j_ishl X dX7_boat_95 ?_
    refine j_icmp_ge (tgt := 133) X dX7_boat_96 (by decide) (fun c19 => ?_) (fun c19 => ?_)
    · have h := h.1 c19
      refine j_iload_n X rfl 3 rfl dX7_boat_133 ?_
      exact j_iret X h dX7_boat_134
    · have h := h.2 c19
      refine j_aload_n X rfl 0 rfl dX7_boat_99 ?_
      refine j_aload_n X rfl 0 rfl dX7_boat_100 ?_
      refine jgM_mod_shore X i_X7_boat_X7 (by decide +kernel) dX7_boat_101 ?_
      refine j_iload_n X rfl 1 rfl dX7_boat_104 ?_
      obtain ⟨k20, h⟩ := h
      refine jlM_mod_shore X k20 dX7_boat_105 ?_
      refine j_iload_n X rfl 2 rfl dX7_boat_106 ?_
      refine j_iload X 4 rfl dX7_boat_107 ?_
      refine j_Vi (st := []) X [.int (S.2.1 0 (a1).toNatClampNeg), .int a2, .int a4] 0 (c_X7_caughtBy l D i q A (S.2.1 0 (a1).toNatClampNeg) a2 a4 S _ h) (cwV 3 X.ts gX7_boat_X7_caughtBy rfl rfl rfl (by decide +kernel) ⟨Nat.le_of_ble_eq_true rfl, Nat.le_of_ble_eq_true rfl⟩) rfl rfl rfl rfl (Nat.le_of_ble_eq_true rfl) dX7_boat_109 (fun r22 S21 h => ?_)
      refine j_istore (lv' := [(5, .int r22), (0, .ref (q 0)), (1, .int a1), (2, .int a2), (3, .int a3), (4, .int a4)]) X (by decide) rfl dX7_boat_112 ?_
      refine j_iload X 0 rfl dX7_boat_114 ?_
      refine j_iload_n X rfl 4 rfl dX7_boat_116 ?_
      refine j_icmp_le (tgt := 125) X dX7_boat_117 (by decide) (fun c23 => ?_) (fun c23 => ?_)
      · have h := h.1 c23
        refine j_iload_n X rfl 4 rfl dX7_boat_125 ?_
        refine j_istore_n (lv' := [(3, .int a3), (5, .int r22), (0, .ref (q 0)), (1, .int a1), (2, .int a2), (4, .int a4)]) X rfl (by decide) rfl dX7_boat_126 ?_
        refine j_iinc (dv := (1 : Int32)) (lv' := fun v24 => [(4, .int v24), (3, .int a3), (5, .int r22), (0, .ref (q 0)), (1, .int a1), (2, .int a2)]) X dX7_boat_127 (pl := 5) rfl (by decide) (by decide) (fun _ => rfl) (fun v24 ev24 => ?_)
        have h := h v24 ev24
        refine j_goto (tgt := 87) X dX7_boat_130 (by decide) ?_
        refine j_loc [3, 4, 5, 1, 0] rfl ?_
        exact ih a1 a2 a3 v24 S21 h
      · have h := h.2 c23
        refine j_iload X 0 rfl dX7_boat_120 ?_
        refine j_goto (tgt := 126) X dX7_boat_122 (by decide) ?_
        refine j_istore_n (lv' := [(3, .int r22), (5, .int r22), (0, .ref (q 0)), (1, .int a1), (2, .int a2), (4, .int a4)]) X rfl (by decide) rfl dX7_boat_126 ?_
        refine j_iinc (dv := (1 : Int32)) (lv' := fun v25 => [(4, .int v25), (3, .int r22), (5, .int r22), (0, .ref (q 0)), (1, .int a1), (2, .int a2)]) X dX7_boat_127 (pl := 5) rfl (by decide) (by decide) (fun _ => rfl) (fun v25 ev25 => ?_)
        have h := h v25 ev25
        refine j_goto (tgt := 87) X dX7_boat_130 (by decide) ?_
        refine j_loc [3, 4, 5, 1, 0] rfl ?_
        exact ih a1 a2 r22 v25 S21 h
set_option maxRecDepth 100000 in
set_option maxHeartbeats 4000000 in
theorem w_X7_boat_29 {D : va_G} {i : Nat → ClassId} {q : Nat → Nat} {A : Nat → Prop} {p : Program} {l : Launch} {e : Env} {s : State} {m : MethodId} {args : Array Value} {below : List Frame} {meth : Method} {c : Code} (X : cX D i A p s m args meth c cX7_boat RX7 6 wsX7_boat (some .int)) {Q : Int32 → vS → Prop} : ∀ (n : Nat) (a1 : Int32) (a2 : Int32) (a3 : Int32) (S : vS), e_X7_boat_29 Q n a1 a2 a3 S → cJ D A p l e (headSpec wsX7_boat rm_X7_boat).room s m args below meth c (MQ below (va_Qi Q (vB D i A (wM q i)) A) args s 0 0 A) 6 (wM q i S) [(0, .ref (q 0)), (1, .int a1), (2, .int a2), (3, .int a3)] 29 [] := by
  intro n
  induction n with
  | zero =>
    intro _ _ _ S h
    rw [e_X7_boat_29.eq_1] at h
    exact h.elim
  | succ n ih =>
    intro a1 a2 a3 S h
    rw [e_X7_boat_29.eq_2] at h
    refine j_iload_n X rfl 3 rfl dX7_boat_29 ?_
    refine j_aload_n X rfl 0 rfl dX7_boat_30 ?_
    refine j_Vi (st := [.int a3]) X [] 0 (c_X7_cells l D i q A S _ h) (cwV 0 X.ts gX7_boat_X7_cells rfl rfl rfl (by decide +kernel) ⟨Nat.le_of_ble_eq_true rfl, Nat.le_of_ble_eq_true rfl⟩) rfl rfl rfl rfl (Nat.le_of_ble_eq_true rfl) dX7_boat_31 (fun r8 S7 h => ?_)
    refine j_icmp_ge (tgt := 66) X dX7_boat_34 (by decide) (fun c9 => ?_) (fun c9 => ?_)
    · have h := h.1 c9
      refine j_aload_n X rfl 0 rfl dX7_boat_66 ?_
      refine jgM_mod_own X i_X7_boat_X7 (by decide +kernel) dX7_boat_67 ?_
      refine j_aload_n X rfl 0 rfl dX7_boat_70 ?_
      refine jgM_mod_shore X i_X7_boat_X7 (by decide +kernel) dX7_boat_71 ?_
      refine j_iload_n X rfl 1 rfl dX7_boat_74 ?_
      obtain ⟨k10, h⟩ := h
      refine jlM_mod_shore X k10 dX7_boat_75 ?_
      obtain ⟨k11, h⟩ := h
      refine jlM_mod_own X k11 dX7_boat_76 ?_
      refine j_if_ge (tgt := 82) X dX7_boat_77 (by decide) (fun c12 => ?_) (fun c12 => ?_)
      · have h := h.1 c12
        refine j_iconst (v := (0 : Int32)) X (by decide) dX7_boat_82 ?_
        refine j_istore_n (lv' := [(3, .int (0 : Int32)), (0, .ref (q 0)), (1, .int a1), (2, .int a2)]) X rfl (by decide) rfl dX7_boat_83 ?_
        refine j_iconst (v := (0 : Int32)) X (by decide) dX7_boat_84 ?_
        refine j_istore (lv' := [(4, .int (0 : Int32)), (3, .int (0 : Int32)), (0, .ref (q 0)), (1, .int a1), (2, .int a2)]) X (by decide) rfl dX7_boat_85 ?_
        refine j_loc [2, 3, 4, 1, 0] rfl ?_
        obtain ⟨j, h⟩ := h
        exact w_X7_boat_87 X j a1 a2 (0 : Int32) (0 : Int32) S7 h
      · have h := h.2 c12
        refine j_iconst (v := (-1 : Int32)) X (by decide) dX7_boat_80 ?_
        exact j_iret X h dX7_boat_81
    · have h := h.2 c9
      refine j_aload_n X rfl 0 rfl dX7_boat_37 ?_
      refine jgM_mod_own X i_X7_boat_X7 (by decide +kernel) dX7_boat_38 ?_
      refine j_iload_n X rfl 3 rfl dX7_boat_41 ?_
      refine j_aload_n X rfl 0 rfl dX7_boat_42 ?_
      refine j_iload_n X rfl 1 rfl dX7_boat_43 ?_
      refine j_iload_n X rfl 3 rfl dX7_boat_44 ?_
      refine j_aload_n X rfl 0 rfl dX7_boat_45 ?_
      refine jgM_mod_wide X i_X7_boat_X7 (by decide +kernel) dX7_boat_46 ?_
      obtain ⟨k13, h⟩ := h
      refine j_irem X k13 dX7_boat_49 ?_
      refine j_iload_n X rfl 3 rfl dX7_boat_50 ?_
      refine j_aload_n X rfl 0 rfl dX7_boat_51 ?_
      refine jgM_mod_wide X i_X7_boat_X7 (by decide +kernel) dX7_boat_52 ?_
      refine j_idiv X k13 dX7_boat_55 ?_
      refine j_Vi (st := [.int a3, .ref (q 18)]) X [.int a1, .int (a3 - a3 / (S7.1 0) * (S7.1 0)), .int (a3 / (S7.1 0))] 0 (c_X7_hasOf l D i q A a1 (a3 - a3 / (S7.1 0) * (S7.1 0)) (a3 / (S7.1 0)) S7 _ h) (cwV 3 X.ts gX7_boat_X7_hasOf rfl rfl rfl (by decide +kernel) ⟨Nat.le_of_ble_eq_true rfl, Nat.le_of_ble_eq_true rfl⟩) rfl rfl rfl rfl (Nat.le_of_ble_eq_true rfl) dX7_boat_56 (fun r15 S14 h => ?_)
      obtain ⟨k16, h⟩ := h
      refine jsM_mod_own X k16 dX7_boat_59 (fun S17 eS17 => ?_)
      have h := h S17 eS17
      refine j_iinc (dv := (1 : Int32)) (lv' := fun v18 => [(3, .int v18), (0, .ref (q 0)), (1, .int a1), (2, .int a2)]) X dX7_boat_60 (pl := 3) rfl (by decide) (by decide) (fun _ => rfl) (fun v18 ev18 => ?_)
      have h := h v18 ev18
      refine j_goto (tgt := 29) X dX7_boat_63 (by decide) ?_
      refine j_loc [1, 2, 3, 0] rfl ?_
      exact ih a1 a2 v18 S17 h
set_option maxRecDepth 100000 in
set_option maxHeartbeats 4000000 in
theorem c_X7_boat (l : Launch) (D : va_G) (i : Nat → ClassId) (q : Nat → Nat) (A : Nat → Prop) (x1 : Int32) (x2 : Int32) (S : vS) (Q : Int32 → vS → Prop) (h : e_X7_boat x1 x2 S Q) : Met l yX7_boat wsX7_boat rm_X7_boat (va_Pc [.ref (q 0), .int x1, .int x2] (vB D i A (wM q i) S)) (va_Qi Q (vB D i A (wM q i)) A) 0 0 A := by
  refine m_ofJ (own := RX7) (lv := [(0, .ref (q 0)), (1, .int x1), (2, .int x2)]) rfl (by decide) rfl (Nat.le_of_ble_eq_true rfl) rfl ?_
  intro p e s m below meth c X
  unfold e_X7_boat at h
  refine j_aload_n X rfl 0 rfl dX7_boat_0 ?_
  refine j_iload_n X rfl 1 rfl dX7_boat_1 ?_
  refine j_Vi (st := []) X [.int x1] 0 (c_X7_isMan l D i q A x1 S _ h) (cwV 1 X.ts gX7_boat_X7_isMan rfl rfl rfl (by decide +kernel) ⟨Nat.le_of_ble_eq_true rfl, Nat.le_of_ble_eq_true rfl⟩) rfl rfl rfl rfl (Nat.le_of_ble_eq_true rfl) dX7_boat_2 (fun r2 S1 h => ?_)
  refine j_if_ne (tgt := 12) X dX7_boat_5 (by decide) (fun c3 => ?_) (fun c3 => ?_)
  · have h := h.1 c3
    refine j_iload_n X rfl 2 rfl dX7_boat_12 ?_
    refine j_i2l X dX7_boat_13 ?_
    refine j_lconst (v := (1 : Int64)) X (by decide) dX7_boat_14 ?_
    refine j_ldc2 (v := (8 : Int64)) X (by decide +kernel) dX7_boat_15 ?_
    refine j_Si (st := []) X [.long (x2).toInt64, .long (1 : Int64), .long (8 : Int64)] (c_X7_in l D i q A (x2).toInt64 (1 : Int64) (8 : Int64) S1 _ h) (va_cwS 3 X.ts gX7_boat_X7_in rfl rfl rfl (by decide +kernel) ⟨Nat.le_of_ble_eq_true rfl, Nat.le_of_ble_eq_true rfl⟩) rfl rfl (Nat.le_of_ble_eq_true rfl) dX7_boat_18 (fun r5 S4 h => ?_)
    refine j_if_ne (tgt := 27) X dX7_boat_21 (by decide) (fun c6 => ?_) (fun c6 => ?_)
    · have h := h.1 c6
      refine j_iconst (v := (0 : Int32)) X (by decide) dX7_boat_27 ?_
      refine j_istore_n (lv' := [(3, .int (0 : Int32)), (0, .ref (q 0)), (1, .int x1), (2, .int x2)]) X rfl (by decide) rfl dX7_boat_28 ?_
      refine j_loc [1, 2, 3, 0] rfl ?_
      obtain ⟨j, h⟩ := h
      exact w_X7_boat_29 X j x1 x2 (0 : Int32) S4 h
    · have h := h.2 c6
      refine j_ldc (v := (-1000000002 : Int32)) X (by decide +kernel) dX7_boat_24 ?_
      exact j_iret X h dX7_boat_26
  · have h := h.2 c3
    refine j_ldcw (v := (-1000000001 : Int32)) X (by decide +kernel) dX7_boat_8 ?_
    exact j_iret X h dX7_boat_11
set_option maxRecDepth 100000 in
theorem i_X7_seesAll_X7 : ∀ w ∈ u_ws RX7 TX7 48, w ∈ wsX7_seesAll := by decide +kernel
abbrev rm_X7_seesAll : Room := { frames := 2, cells := 0, slots := 0, locals := 45 }
set_option maxRecDepth 100000 in
set_option maxHeartbeats 4000000 in
theorem w_X7_seesAll_6 {D : va_G} {i : Nat → ClassId} {q : Nat → Nat} {A : Nat → Prop} {p : Program} {l : Launch} {e : Env} {s : State} {m : MethodId} {args : Array Value} {below : List Frame} {meth : Method} {c : Code} (X : cX D i A p s m args meth c cX7_seesAll RX7 6 wsX7_seesAll (some .boolean)) {Q : Int32 → vS → Prop} : ∀ (n : Nat) (a1 : Int32) (a2 : Int32) (a3 : Int32) (a4 : Int32) (a5 : Int32) (S : vS), e_X7_seesAll_6 Q n a1 a2 a3 a4 a5 S → cJ D A p l e (headSpec wsX7_seesAll rm_X7_seesAll).room s m args below meth c (MQ below (va_Qi Q (vB D i A (wM q i)) A) args s 0 0 A) 6 (wM q i S) [(0, .ref (q 0)), (1, .int a1), (2, .int a2), (3, .int a3), (4, .int a4), (5, .int a5)] 6 [] := by
  intro n
  induction n with
  | zero =>
    intro _ _ _ _ _ S h
    rw [e_X7_seesAll_6.eq_1] at h
    exact h.elim
  | succ n ih =>
    intro a1 a2 a3 a4 a5 S h
    rw [e_X7_seesAll_6.eq_2] at h
    refine j_iload X 5 rfl dX7_seesAll_6 ?_
    refine j_aload_n X rfl 0 rfl dX7_seesAll_8 ?_
    refine j_Vi (st := [.int a5]) X [] 0 (c_X7_cells l D i q A S _ h) (cwV 0 X.ts gX7_seesAll_X7_cells rfl rfl rfl (by decide +kernel) ⟨Nat.le_of_ble_eq_true rfl, Nat.le_of_ble_eq_true rfl⟩) rfl rfl rfl rfl (Nat.le_of_ble_eq_true rfl) dX7_seesAll_9 (fun r2 S1 h => ?_)
    refine j_icmp_ge (tgt := 79) X dX7_seesAll_12 (by decide) (fun c3 => ?_) (fun c3 => ?_)
    · have h := h.1 c3
      refine j_iload X 4 rfl dX7_seesAll_79 ?_
      obtain ⟨kz, h⟩ := h
      exact j_zret X kz h dX7_seesAll_81
    · have h := h.2 c3
      refine j_iload X 4 rfl dX7_seesAll_15 ?_
      refine j_if_eq (tgt := 79) X dX7_seesAll_17 (by decide) (fun c4 => ?_) (fun c4 => ?_)
      · have h := h.1 c4
        refine j_iload X 4 rfl dX7_seesAll_79 ?_
        obtain ⟨kz, h⟩ := h
        exact j_zret X kz h dX7_seesAll_81
      · have h := h.2 c4
        refine j_aload_n X rfl 0 rfl dX7_seesAll_20 ?_
        refine j_iload_n X rfl 1 rfl dX7_seesAll_21 ?_
        refine j_iload X 5 rfl dX7_seesAll_22 ?_
        refine j_aload_n X rfl 0 rfl dX7_seesAll_24 ?_
        refine jgM_mod_wide X i_X7_seesAll_X7 (by decide +kernel) dX7_seesAll_25 ?_
        obtain ⟨k5, h⟩ := h
        refine j_irem X k5 dX7_seesAll_28 ?_
        refine j_iload X 5 rfl dX7_seesAll_29 ?_
        refine j_aload_n X rfl 0 rfl dX7_seesAll_31 ?_
        refine jgM_mod_wide X i_X7_seesAll_X7 (by decide +kernel) dX7_seesAll_32 ?_
        refine j_idiv X k5 dX7_seesAll_35 ?_
        refine j_iload_n X rfl 3 rfl dX7_seesAll_36 ?_
        refine j_Vi (st := []) X [.int a1, .int (a5 - a5 / (S1.1 0) * (S1.1 0)), .int (a5 / (S1.1 0)), .int a3] 0 (c_X7_isClear l D i q A a1 (a5 - a5 / (S1.1 0) * (S1.1 0)) (a5 / (S1.1 0)) a3 S1 _ h) (cwV 4 X.ts gX7_seesAll_X7_isClear rfl rfl rfl (by decide +kernel) ⟨Nat.le_of_ble_eq_true rfl, Nat.le_of_ble_eq_true rfl⟩) rfl rfl rfl rfl (Nat.le_of_ble_eq_true rfl) dX7_seesAll_37 (fun r7 S6 h => ?_)
        refine j_if_eq (tgt := 66) X dX7_seesAll_40 (by decide) (fun c8 => ?_) (fun c8 => ?_)
        · have h := h.1 c8
          refine j_iconst (v := (1 : Int32)) X (by decide) dX7_seesAll_66 ?_
          refine j_goto (tgt := 71) X dX7_seesAll_67 (by decide) ?_
          refine j_istore (lv' := [(4, .int (1 : Int32)), (0, .ref (q 0)), (1, .int a1), (2, .int a2), (3, .int a3), (5, .int a5)]) X (by decide) rfl dX7_seesAll_71 ?_
          refine j_iinc (dv := (1 : Int32)) (lv' := fun v9 => [(5, .int v9), (4, .int (1 : Int32)), (0, .ref (q 0)), (1, .int a1), (2, .int a2), (3, .int a3)]) X dX7_seesAll_73 (pl := 5) rfl (by decide) (by decide) (fun _ => rfl) (fun v9 ev9 => ?_)
          have h := h v9 ev9
          refine j_goto (tgt := 6) X dX7_seesAll_76 (by decide) ?_
          refine j_loc [2, 3, 4, 5, 1, 0] rfl ?_
          exact ih a1 a2 a3 (1 : Int32) v9 S6 h
        · have h := h.2 c8
          refine j_aload_n X rfl 0 rfl dX7_seesAll_43 ?_
          refine j_iload_n X rfl 1 rfl dX7_seesAll_44 ?_
          refine j_iload_n X rfl 2 rfl dX7_seesAll_45 ?_
          refine j_iload X 5 rfl dX7_seesAll_46 ?_
          refine j_aload_n X rfl 0 rfl dX7_seesAll_48 ?_
          refine jgM_mod_wide X i_X7_seesAll_X7 (by decide +kernel) dX7_seesAll_49 ?_
          obtain ⟨k10, h⟩ := h
          refine j_irem X k10 dX7_seesAll_52 ?_
          refine j_iload X 5 rfl dX7_seesAll_53 ?_
          refine j_aload_n X rfl 0 rfl dX7_seesAll_55 ?_
          refine jgM_mod_wide X i_X7_seesAll_X7 (by decide +kernel) dX7_seesAll_56 ?_
          refine j_idiv X k10 dX7_seesAll_59 ?_
          refine j_Vi (st := []) X [.int a1, .int a2, .int (a5 - a5 / (S6.1 0) * (S6.1 0)), .int (a5 / (S6.1 0))] 0 (c_X7_blockerOf l D i q A a1 a2 (a5 - a5 / (S6.1 0) * (S6.1 0)) (a5 / (S6.1 0)) S6 _ h) (cwV 4 X.ts gX7_seesAll_X7_blockerOf rfl rfl rfl (by decide +kernel) ⟨Nat.le_of_ble_eq_true rfl, Nat.le_of_ble_eq_true rfl⟩) rfl rfl rfl rfl (Nat.le_of_ble_eq_true rfl) dX7_seesAll_60 (fun r12 S11 h => ?_)
          refine j_if_ge (tgt := 70) X dX7_seesAll_63 (by decide) (fun c13 => ?_) (fun c13 => ?_)
          · have h := h.1 c13
            refine j_iconst (v := (0 : Int32)) X (by decide) dX7_seesAll_70 ?_
            refine j_istore (lv' := [(4, .int (0 : Int32)), (0, .ref (q 0)), (1, .int a1), (2, .int a2), (3, .int a3), (5, .int a5)]) X (by decide) rfl dX7_seesAll_71 ?_
            refine j_iinc (dv := (1 : Int32)) (lv' := fun v14 => [(5, .int v14), (4, .int (0 : Int32)), (0, .ref (q 0)), (1, .int a1), (2, .int a2), (3, .int a3)]) X dX7_seesAll_73 (pl := 5) rfl (by decide) (by decide) (fun _ => rfl) (fun v14 ev14 => ?_)
            have h := h v14 ev14
            refine j_goto (tgt := 6) X dX7_seesAll_76 (by decide) ?_
            refine j_loc [2, 3, 4, 5, 1, 0] rfl ?_
            exact ih a1 a2 a3 (0 : Int32) v14 S11 h
          · have h := h.2 c13
            refine j_iconst (v := (1 : Int32)) X (by decide) dX7_seesAll_66 ?_
            refine j_goto (tgt := 71) X dX7_seesAll_67 (by decide) ?_
            refine j_istore (lv' := [(4, .int (1 : Int32)), (0, .ref (q 0)), (1, .int a1), (2, .int a2), (3, .int a3), (5, .int a5)]) X (by decide) rfl dX7_seesAll_71 ?_
            refine j_iinc (dv := (1 : Int32)) (lv' := fun v15 => [(5, .int v15), (4, .int (1 : Int32)), (0, .ref (q 0)), (1, .int a1), (2, .int a2), (3, .int a3)]) X dX7_seesAll_73 (pl := 5) rfl (by decide) (by decide) (fun _ => rfl) (fun v15 ev15 => ?_)
            have h := h v15 ev15
            refine j_goto (tgt := 6) X dX7_seesAll_76 (by decide) ?_
            refine j_loc [2, 3, 4, 5, 1, 0] rfl ?_
            exact ih a1 a2 a3 (1 : Int32) v15 S11 h
set_option maxRecDepth 100000 in
set_option maxHeartbeats 4000000 in
theorem c_X7_seesAll (l : Launch) (D : va_G) (i : Nat → ClassId) (q : Nat → Nat) (A : Nat → Prop) (x1 : Int32) (x2 : Int32) (x3 : Int32) (S : vS) (Q : Int32 → vS → Prop) (h : e_X7_seesAll x1 x2 x3 S Q) : Met l yX7_seesAll wsX7_seesAll rm_X7_seesAll (va_Pc [.ref (q 0), .int x1, .int x2, .int x3] (vB D i A (wM q i) S)) (va_Qi Q (vB D i A (wM q i)) A) 0 0 A := by
  refine m_ofJ (own := RX7) (lv := [(0, .ref (q 0)), (1, .int x1), (2, .int x2), (3, .int x3)]) rfl (by decide) rfl (Nat.le_of_ble_eq_true rfl) rfl ?_
  intro p e s m below meth c X
  unfold e_X7_seesAll at h
  refine j_iconst (v := (1 : Int32)) X (by decide) dX7_seesAll_0 ?_
  refine j_istore (lv' := [(4, .int (1 : Int32)), (0, .ref (q 0)), (1, .int x1), (2, .int x2), (3, .int x3)]) X (by decide) rfl dX7_seesAll_1 ?_
  refine j_iconst (v := (0 : Int32)) X (by decide) dX7_seesAll_3 ?_
  refine j_istore (lv' := [(5, .int (0 : Int32)), (4, .int (1 : Int32)), (0, .ref (q 0)), (1, .int x1), (2, .int x2), (3, .int x3)]) X (by decide) rfl dX7_seesAll_4 ?_
  refine j_loc [2, 3, 4, 5, 1, 0] rfl ?_
  obtain ⟨j, h⟩ := h
  exact w_X7_seesAll_6 X j x1 x2 x3 (1 : Int32) (0 : Int32) S h
