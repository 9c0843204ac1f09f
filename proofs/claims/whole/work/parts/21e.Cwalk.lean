set_option maxRecDepth 100000 in
theorem i_X6_towers_X5 : ∀ w ∈ u_ws RX5 TX5 7, w ∈ wsX6_towers := by decide +kernel
set_option maxRecDepth 100000 in
theorem i_X6_towers_X6 : ∀ w ∈ u_ws RX6 TX6 8, w ∈ wsX6_towers := by decide +kernel
abbrev rm_X6_towers : Room := { frames := 6, cells := 0, slots := 0, locals := 152 }
set_option maxRecDepth 100000 in
set_option maxHeartbeats 4000000 in
theorem w_X6_towers_186 {D : va_G} {i : Nat → ClassId} {q : Nat → Nat} {A : Nat → Prop} {p : Program} {l : Launch} {e : Env} {s : State} {m : MethodId} {args : Array Value} {below : List Frame} {meth : Method} {c : Code} (X : cX D i A p s m args meth c cX6_towers RX6 10 wsX6_towers (some .int)) {Q : Int32 → vS → Prop} : ∀ (a3 : Int32) (a5 : Int32) (a8 : Int32) (t0 : Int32) (S : vS), e_X6_towers_186 Q a3 a5 a8 t0 S → cJ D A p l e (headSpec wsX6_towers rm_X6_towers).room s m args below meth c (MQ below (va_Qi Q (vB D i A (wC q i)) A) args s 0 0 A) 10 (wC q i S) [(0, .ref (q 0)), (3, .int a3), (5, .int a5), (8, .int a8)] 186 [.int t0] := by
  intro a3 a5 a8 t0 S h
  unfold e_X6_towers_186 at h
  refine j_istore (lv' := [(9, .int t0), (0, .ref (q 0)), (3, .int a3), (5, .int a5), (8, .int a8)]) X (by decide) rfl dX6_towers_186 ?_
  refine j_iload X 3 rfl dX6_towers_188 ?_
  refine j_if_ne (tgt := 210) X dX6_towers_190 (by decide) (fun c32 => ?_) (fun c32 => ?_)
  · have h := h.1 c32
    refine j_iload_n X rfl 2 rfl dX6_towers_210 ?_
    refine j_if_ne (tgt := 216) X dX6_towers_211 (by decide) (fun c33 => ?_) (fun c33 => ?_)
    · have h := h.1 c33
      refine j_iload X 0 rfl dX6_towers_216 ?_
      refine j_if_eq (tgt := 225) X dX6_towers_218 (by decide) (fun c34 => ?_) (fun c34 => ?_)
      · have h := h.1 c34
        refine j_iconst (v := (0 : Int32)) X (by decide) dX6_towers_225 ?_
        exact j_iret X h dX6_towers_226
      · have h := h.2 c34
        refine j_iconst (v := (1 : Int32)) X (by decide) dX6_towers_221 ?_
        refine j_goto (tgt := 226) X dX6_towers_222 (by decide) ?_
        exact j_iret X h dX6_towers_226
    · have h := h.2 c33
      refine j_iconst (v := (-1 : Int32)) X (by decide) dX6_towers_214 ?_
      exact j_iret X h dX6_towers_215
  · have h := h.2 c32
    refine j_iload X 0 rfl dX6_towers_193 ?_
    refine j_if_eq (tgt := 207) X dX6_towers_195 (by decide) (fun c35 => ?_) (fun c35 => ?_)
    · have h := h.1 c35
      refine j_iload X 4 rfl dX6_towers_207 ?_
      exact j_iret X h dX6_towers_209
    · have h := h.2 c35
      refine j_aload_n X rfl 1 rfl dX6_towers_198 ?_
      refine jgC_main_ends X i_X6_towers_X6 (by decide +kernel) dX6_towers_199 ?_
      refine j_iconst (v := (4 : Int32)) X (by decide) dX6_towers_202 ?_
      refine jlC_main_ends X (by unfold vp_in; decide) dX6_towers_203 ?_
      refine j_goto (tgt := 209) X dX6_towers_204 (by decide) ?_
      exact j_iret X h dX6_towers_209
set_option maxRecDepth 100000 in
set_option maxHeartbeats 4000000 in
theorem w_X6_towers_126 {D : va_G} {i : Nat → ClassId} {q : Nat → Nat} {A : Nat → Prop} {p : Program} {l : Launch} {e : Env} {s : State} {m : MethodId} {args : Array Value} {below : List Frame} {meth : Method} {c : Code} (X : cX D i A p s m args meth c cX6_towers RX6 10 wsX6_towers (some .int)) {Q : Int32 → vS → Prop} : ∀ (n : Nat) (a3 : Int32) (a5 : Int32) (a6 : Int32) (a7 : Int32) (a8 : Int32) (S : vS), e_X6_towers_126 Q n a3 a5 a6 a7 a8 S → cJ D A p l e (headSpec wsX6_towers rm_X6_towers).room s m args below meth c (MQ below (va_Qi Q (vB D i A (wC q i)) A) args s 0 0 A) 10 (wC q i S) [(0, .ref (q 0)), (3, .int a3), (5, .int a5), (6, .int a6), (7, .int a7), (8, .int a8)] 126 [] := by
  intro n
  induction n with
  | zero =>
    intro _ _ _ _ _ S h
    rw [e_X6_towers_126.eq_1] at h
    exact h.elim
  | succ n ih =>
    intro a3 a5 a6 a7 a8 S h
    rw [e_X6_towers_126.eq_2] at h
    refine j_iload X 5 rfl dX6_towers_126 ?_
    refine j_if_le (tgt := 157) X dX6_towers_128 (by decide) (fun c21 => ?_) (fun c21 => ?_)
    · have h := h.1 c21
      refine j_aload_n X rfl 0 rfl dX6_towers_157 ?_
      refine jgC_main_ends X i_X6_towers_X6 (by decide +kernel) dX6_towers_158 ?_
      refine j_iconst (v := (0 : Int32)) X (by decide) dX6_towers_161 ?_
      refine jlC_main_ends X (by unfold vp_in; decide) dX6_towers_162 ?_
      refine j_topi (fun v22 ev22 => ?_)
      have h := h v22 ev22
      refine j_istore (lv' := [(8, .int v22), (0, .ref (q 0)), (3, .int a3), (5, .int a5), (6, .int a6), (7, .int a7)]) X (by decide) rfl dX6_towers_163 ?_
      refine j_iload X 4 rfl dX6_towers_165 ?_
      refine j_if_le (tgt := 185) X dX6_towers_167 (by decide) (fun c23 => ?_) (fun c23 => ?_)
      · have h := h.1 c23
        refine j_iconst (v := (0 : Int32)) X (by decide) dX6_towers_185 ?_
        refine j_loc [1, 2, 3, 0] rfl ?_
        exact w_X6_towers_186 X a3 a5 v22 (0 : Int32) S h
      · have h := h.2 c23
        refine j_aload_n X rfl 1 rfl dX6_towers_170 ?_
        refine jgC_main_ends X i_X6_towers_X6 (by decide +kernel) dX6_towers_171 ?_
        refine j_iconst (v := (4 : Int32)) X (by decide) dX6_towers_174 ?_
        refine jlC_main_ends X (by unfold vp_in; decide) dX6_towers_175 ?_
        refine j_iload X 0 rfl dX6_towers_176 ?_
        refine j_icmp_le (tgt := 185) X dX6_towers_178 (by decide) (fun c24 => ?_) (fun c24 => ?_)
        · have h := h.1 c24
          refine j_iconst (v := (0 : Int32)) X (by decide) dX6_towers_185 ?_
          refine j_loc [1, 2, 3, 0] rfl ?_
          exact w_X6_towers_186 X a3 a5 v22 (0 : Int32) S h
        · have h := h.2 c24
          refine j_iconst (v := (1 : Int32)) X (by decide) dX6_towers_181 ?_
          refine j_goto (tgt := 186) X dX6_towers_182 (by decide) ?_
          refine j_loc [1, 2, 3, 0] rfl ?_
          exact w_X6_towers_186 X a3 a5 v22 (1 : Int32) S h
    · have h := h.2 c21
      refine j_aload_n X rfl 0 rfl dX6_towers_131 ?_
      refine j_iload X 5 rfl dX6_towers_132 ?_
      refine j_iconst (v := (2 : Int32)) X (by decide) dX6_towers_134 ?_
      refine j_irem X (by decide) dX6_towers_135 ?_
      refine j_if_ne (tgt := 143) X dX6_towers_136 (by decide) (fun c25 => ?_) (fun c25 => ?_)
      · have h := h.1 c25
        refine j_iconst (v := (0 : Int32)) X (by decide) dX6_towers_143 ?_
        refine j_iload X 3 rfl dX6_towers_144 ?_
        refine j_iload X 4 rfl dX6_towers_146 ?_
        refine j_Vv (st := []) X [.int (0 : Int32), .int a6, .int a7] 0 (c_X6_takeMoveBack l D i q A (0 : Int32) a6 a7 S _ h) (cwV 3 X.ts gX6_towers_X6_takeMoveBack rfl rfl rfl (by decide +kernel) ⟨Nat.le_of_ble_eq_true rfl, Nat.le_of_ble_eq_true rfl⟩) rfl rfl rfl rfl (Nat.le_of_ble_eq_true rfl) dX6_towers_148 (fun S26 h => ?_)
        refine j_iinc (dv := (-1 : Int32)) (lv' := fun v28 => [(8, .int v28), (0, .ref (q 0)), (3, .int a3), (5, .int a5), (6, .int a6), (7, .int a7)]) X dX6_towers_151 (pl := 5) rfl (by decide) (by decide) (fun _ => rfl) (fun v28 ev28 => ?_)
        have h := h v28 ev28
        refine j_goto (tgt := 126) X dX6_towers_154 (by decide) ?_
        refine j_loc [1, 2, 3, 4, 5, 0] rfl ?_
        exact ih a3 a5 a6 a7 v28 S26 h
      · have h := h.2 c25
        refine j_iconst (v := (1 : Int32)) X (by decide) dX6_towers_139 ?_
        refine j_goto (tgt := 144) X dX6_towers_140 (by decide) ?_
        refine j_iload X 3 rfl dX6_towers_144 ?_
        refine j_iload X 4 rfl dX6_towers_146 ?_
        refine j_Vv (st := []) X [.int (1 : Int32), .int a6, .int a7] 0 (c_X6_takeMoveBack l D i q A (1 : Int32) a6 a7 S _ h) (cwV 3 X.ts gX6_towers_X6_takeMoveBack rfl rfl rfl (by decide +kernel) ⟨Nat.le_of_ble_eq_true rfl, Nat.le_of_ble_eq_true rfl⟩) rfl rfl rfl rfl (Nat.le_of_ble_eq_true rfl) dX6_towers_148 (fun S29 h => ?_)
        refine j_iinc (dv := (-1 : Int32)) (lv' := fun v31 => [(8, .int v31), (0, .ref (q 0)), (3, .int a3), (5, .int a5), (6, .int a6), (7, .int a7)]) X dX6_towers_151 (pl := 5) rfl (by decide) (by decide) (fun _ => rfl) (fun v31 ev31 => ?_)
        have h := h v31 ev31
        refine j_goto (tgt := 126) X dX6_towers_154 (by decide) ?_
        refine j_loc [1, 2, 3, 4, 5, 0] rfl ?_
        exact ih a3 a5 a6 a7 v31 S29 h
set_option maxRecDepth 100000 in
set_option maxHeartbeats 4000000 in
theorem c_X6_towers (l : Launch) (D : va_G) (i : Nat → ClassId) (q : Nat → Nat) (A : Nat → Prop) (x1 : Int32) (x2 : Int32) (x3 : Int32) (x4 : Int32) (x5 : Int32) (S : vS) (Q : Int32 → vS → Prop) (h : e_X6_towers x1 x2 x3 x4 x5 S Q) : Met l yX6_towers wsX6_towers rm_X6_towers (va_Pc [.ref (q 0), .int x1, .int x2, .int x3, .int x4, .int x5] (vB D i A (wC q i) S)) (va_Qi Q (vB D i A (wC q i)) A) 0 0 A := by
  refine m_ofJ (own := RX6) (lv := [(0, .ref (q 0)), (1, .int x1), (2, .int x2), (3, .int x3), (4, .int x4), (5, .int x5)]) rfl (by decide) rfl (Nat.le_of_ble_eq_true rfl) rfl ?_
  intro p e s m below meth c X
  unfold e_X6_towers at h
  refine j_aload_n X rfl 0 rfl dX6_towers_0 ?_
  refine jgC_main_plan X i_X6_towers_X6 (by decide +kernel) dX6_towers_1 ?_
  refine j_iload_n X rfl 1 rfl dX6_towers_4 ?_
  refine j_Vi (st := []) X [.int x1] 1 (c_X2_hasMan_plan l D i q A x1 S _ h) (cwV 1 X.ts gX6_towers_X2_hasMan rfl rfl rfl (by decide +kernel) ⟨Nat.le_of_ble_eq_true rfl, Nat.le_of_ble_eq_true rfl⟩) rfl rfl rfl rfl (Nat.le_of_ble_eq_true rfl) dX6_towers_5 (fun r2 S1 h => ?_)
  refine j_if_eq (tgt := 27) X dX6_towers_8 (by decide) (fun c3 => ?_) (fun c3 => ?_)
  · have h := h.1 c3
    refine j_ldc (v := (-1000000001 : Int32)) X (by decide +kernel) dX6_towers_27 ?_
    exact j_iret X h dX6_towers_29
  · have h := h.2 c3
    refine j_aload_n X rfl 0 rfl dX6_towers_11 ?_
    refine jgC_main_plan X i_X6_towers_X6 (by decide +kernel) dX6_towers_12 ?_
    refine j_iload_n X rfl 2 rfl dX6_towers_15 ?_
    refine j_Vi (st := []) X [.int x2] 1 (c_X2_hasMan_plan l D i q A x2 S1 _ h) (cwV 1 X.ts gX6_towers_X2_hasMan rfl rfl rfl (by decide +kernel) ⟨Nat.le_of_ble_eq_true rfl, Nat.le_of_ble_eq_true rfl⟩) rfl rfl rfl rfl (Nat.le_of_ble_eq_true rfl) dX6_towers_16 (fun r5 S4 h => ?_)
    refine j_if_eq (tgt := 27) X dX6_towers_19 (by decide) (fun c6 => ?_) (fun c6 => ?_)
    · have h := h.1 c6
      refine j_ldc (v := (-1000000001 : Int32)) X (by decide +kernel) dX6_towers_27 ?_
      exact j_iret X h dX6_towers_29
    · have h := h.2 c6
      refine j_iload_n X rfl 1 rfl dX6_towers_22 ?_
      refine j_iload_n X rfl 2 rfl dX6_towers_23 ?_
      refine j_icmp_ne (tgt := 30) X dX6_towers_24 (by decide) (fun c7 => ?_) (fun c7 => ?_)
      · have h := h.1 c7
        refine j_iload_n X rfl 3 rfl dX6_towers_30 ?_
        refine j_if_lt (tgt := 64) X dX6_towers_31 (by decide) (fun c8 => ?_) (fun c8 => ?_)
        · have h := h.1 c8
          refine j_ldc (v := (-1000000002 : Int32)) X (by decide +kernel) dX6_towers_64 ?_
          exact j_iret X h dX6_towers_66
        · have h := h.2 c8
          refine j_iload_n X rfl 3 rfl dX6_towers_34 ?_
          refine j_bipush (v := (6 : Int32)) X (by decide) dX6_towers_35 ?_
          refine j_icmp_gt (tgt := 64) X dX6_towers_37 (by decide) (fun c9 => ?_) (fun c9 => ?_)
          · have h := h.1 c9
            refine j_ldc (v := (-1000000002 : Int32)) X (by decide +kernel) dX6_towers_64 ?_
            exact j_iret X h dX6_towers_66
          · have h := h.2 c9
            refine j_iload X 4 rfl dX6_towers_40 ?_
            refine j_iconst (v := (1 : Int32)) X (by decide) dX6_towers_42 ?_
            refine j_icmp_lt (tgt := 64) X dX6_towers_43 (by decide) (fun c10 => ?_) (fun c10 => ?_)
            · have h := h.1 c10
              refine j_ldc (v := (-1000000002 : Int32)) X (by decide +kernel) dX6_towers_64 ?_
              exact j_iret X h dX6_towers_66
            · have h := h.2 c10
              refine j_iload X 4 rfl dX6_towers_46 ?_
              refine j_bipush (v := (99 : Int32)) X (by decide) dX6_towers_48 ?_
              refine j_icmp_gt (tgt := 64) X dX6_towers_50 (by decide) (fun c11 => ?_) (fun c11 => ?_)
              · have h := h.1 c11
                refine j_ldc (v := (-1000000002 : Int32)) X (by decide +kernel) dX6_towers_64 ?_
                exact j_iret X h dX6_towers_66
              · have h := h.2 c11
                refine j_iload X 5 rfl dX6_towers_53 ?_
                refine j_if_lt (tgt := 64) X dX6_towers_55 (by decide) (fun c12 => ?_) (fun c12 => ?_)
                · have h := h.1 c12
                  refine j_ldc (v := (-1000000002 : Int32)) X (by decide +kernel) dX6_towers_64 ?_
                  exact j_iret X h dX6_towers_66
                · have h := h.2 c12
                  refine j_iload X 5 rfl dX6_towers_58 ?_
                  refine j_iconst (v := (1 : Int32)) X (by decide) dX6_towers_60 ?_
                  refine j_icmp_le (tgt := 67) X dX6_towers_61 (by decide) (fun c13 => ?_) (fun c13 => ?_)
                  · have h := h.1 c13
                    refine j_iload_n X rfl 3 rfl dX6_towers_67 ?_
                    refine j_iconst (v := (1 : Int32)) X (by decide) dX6_towers_68 ?_
                    refine j_iadd X dX6_towers_69 ?_
                    refine j_iconst (v := (2 : Int32)) X (by decide) dX6_towers_70 ?_
                    refine j_idiv X (by decide) dX6_towers_71 ?_
                    refine j_bipush (v := (9 : Int32)) X (by decide) dX6_towers_72 ?_
                    refine j_aload_n X rfl 0 rfl dX6_towers_74 ?_
                    refine jgC_main_now X i_X6_towers_X6 (by decide +kernel) dX6_towers_75 ?_
                    refine jgC_now_storeys X i_X6_towers_X5 (by decide +kernel) dX6_towers_78 ?_
                    refine j_iload_n X rfl 1 rfl dX6_towers_81 ?_
                    obtain ⟨k14, h⟩ := h
                    refine jlC_now_storeys X k14 dX6_towers_82 ?_
                    refine j_isub X dX6_towers_83 ?_
                    refine j_mmin X (by decide +kernel) (Nat.le_of_ble_eq_true rfl) (Nat.le_of_ble_eq_true rfl) dX6_towers_84 ?_
                    refine j_topi (fun v15 ev15 => ?_)
                    have h := h v15 ev15
                    refine j_istore (lv' := [(6, .int v15), (0, .ref (q 0)), (1, .int x1), (2, .int x2), (3, .int x3), (4, .int x4), (5, .int x5)]) X (by decide) rfl dX6_towers_87 ?_
                    refine j_iload_n X rfl 4 rfl dX6_towers_89 ?_
                    refine j_iconst (v := (2 : Int32)) X (by decide) dX6_towers_90 ?_
                    refine j_idiv X (by decide) dX6_towers_91 ?_
                    refine j_bipush (v := (9 : Int32)) X (by decide) dX6_towers_92 ?_
                    refine j_aload_n X rfl 1 rfl dX6_towers_94 ?_
                    refine jgC_main_now X i_X6_towers_X6 (by decide +kernel) dX6_towers_95 ?_
                    refine jgC_now_storeys X i_X6_towers_X5 (by decide +kernel) dX6_towers_98 ?_
                    refine j_iload_n X rfl 3 rfl dX6_towers_101 ?_
                    obtain ⟨k16, h⟩ := h
                    refine jlC_now_storeys X k16 dX6_towers_102 ?_
                    refine j_isub X dX6_towers_103 ?_
                    refine j_mmin X (by decide +kernel) (Nat.le_of_ble_eq_true rfl) (Nat.le_of_ble_eq_true rfl) dX6_towers_104 ?_
                    refine j_topi (fun v17 ev17 => ?_)
                    have h := h v17 ev17
                    refine j_istore (lv' := [(7, .int v17), (6, .int v15), (0, .ref (q 0)), (1, .int x1), (2, .int x2), (3, .int x3), (4, .int x4), (5, .int x5)]) X (by decide) rfl dX6_towers_107 ?_
                    refine j_aload_n X rfl 2 rfl dX6_towers_109 ?_
                    refine j_iload_n X rfl 3 rfl dX6_towers_110 ?_
                    refine j_iload_n X rfl 4 rfl dX6_towers_111 ?_
                    refine j_iload X 6 rfl dX6_towers_112 ?_
                    refine j_iload X 1 rfl dX6_towers_114 ?_
                    refine j_iload X 0 rfl dX6_towers_116 ?_
                    refine j_Vv (st := []) X [.int x1, .int x2, .int x4, .int v15, .int v17] 0 (c_X6_countEnds l D i q A x1 x2 x4 v15 v17 S4 _ h) (cwV 5 X.ts gX6_towers_X6_countEnds rfl rfl rfl (by decide +kernel) ⟨Nat.le_of_ble_eq_true rfl, Nat.le_of_ble_eq_true rfl⟩) rfl rfl rfl rfl (Nat.le_of_ble_eq_true rfl) dX6_towers_118 (fun S18 h => ?_)
                    refine j_iload_n X rfl 5 rfl dX6_towers_121 ?_
                    refine j_iconst (v := (1 : Int32)) X (by decide) dX6_towers_122 ?_
                    refine j_isub X dX6_towers_123 ?_
                    refine j_topi (fun v20 ev20 => ?_)
                    have h := h v20 ev20
                    refine j_istore (lv' := [(8, .int v20), (7, .int v17), (6, .int v15), (0, .ref (q 0)), (1, .int x1), (2, .int x2), (3, .int x3), (4, .int x4), (5, .int x5)]) X (by decide) rfl dX6_towers_124 ?_
                    refine j_loc [3, 6, 8, 2, 1, 0] rfl ?_
                    obtain ⟨j, h⟩ := h
                    exact w_X6_towers_126 X j x3 x5 v15 v17 v20 S18 h
                  · have h := h.2 c13
                    refine j_ldc (v := (-1000000002 : Int32)) X (by decide +kernel) dX6_towers_64 ?_
                    exact j_iret X h dX6_towers_66
      · have h := h.2 c7
        refine j_ldc (v := (-1000000001 : Int32)) X (by decide +kernel) dX6_towers_27 ?_
        exact j_iret X h dX6_towers_29
set_option maxRecDepth 100000 in
theorem i_X0_start_X0 : ∀ w ∈ u_ws RX0 TX0 5, w ∈ wsX0_start := by decide +kernel
abbrev rm_X0_start : Room := { frames := 0, cells := 0, slots := 0, locals := 0 }
set_option maxRecDepth 100000 in
set_option maxHeartbeats 4000000 in
theorem c_X0_start (l : Launch) (D : va_G) (i : Nat → ClassId) (q : Nat → Nat) (A : Nat → Prop) (x1 : Int32) (x2 : Int32) (S : vS) (Q : vS → Prop) (h : e_X0_start x1 x2 S Q) : Met l yX0_start wsX0_start rm_X0_start (va_Pc [.ref (q 9), .int x1, .int x2] (vB D i A (wC q i) S)) (va_Qv Q (vB D i A (wC q i)) A) 0 0 A := by
  refine m_ofJ (own := RX0) (lv := [(0, .ref (q 9)), (1, .int x1), (2, .int x2)]) rfl (by decide) rfl (Nat.le_of_ble_eq_true rfl) rfl ?_
  intro p e s m below meth c X
  unfold e_X0_start at h
  refine j_aload_n X rfl 0 rfl dX0_start_0 ?_
  refine j_iload_n X rfl 1 rfl dX0_start_1 ?_
  refine jpC_boat_width X i_X0_start_X0 (by decide +kernel) dX0_start_2 (fun S1 eS1 => ?_)
  have h := h S1 eS1
  refine j_aload_n X rfl 0 rfl dX0_start_5 ?_
  refine j_iload_n X rfl 2 rfl dX0_start_6 ?_
  refine jpC_boat_height X i_X0_start_X0 (by decide +kernel) dX0_start_7 (fun S2 eS2 => ?_)
  have h := h S2 eS2
  refine j_aload_n X rfl 0 rfl dX0_start_10 ?_
  refine j_iconst (v := (0 : Int32)) X (by decide) dX0_start_11 ?_
  refine jpC_boat_richest X i_X0_start_X0 (by decide +kernel) dX0_start_12 (fun S3 eS3 => ?_)
  have h := h S3 eS3
  exact j_vret X h dX0_start_15
set_option maxRecDepth 100000 in
theorem i_X0_sail_X0 : ∀ w ∈ u_ws RX0 TX0 5, w ∈ wsX0_sail := by decide +kernel
abbrev rm_X0_sail (d : Nat) : Room := { frames := d + 1, cells := 0, slots := 0, locals := 27 * d + 32 }
set_option maxRecDepth 100000 in
set_option maxHeartbeats 4000000 in
theorem c_X0_sail (l : Launch) (D : va_G) (i : Nat → ClassId) (q : Nat → Nat) (A : Nat → Prop) : ∀ (d : Nat) (x1 : Int32) (x2 : Int32) (x3 : Int32) (x4 : Int32) (S : vS) (Q : vS → Prop), e_X0_sail d x1 x2 x3 x4 S Q → Met l yX0_sail wsX0_sail (rm_X0_sail d) (va_Pc [.ref (q 9), .int x1, .int x2, .int x3, .int x4] (vB D i A (wC q i) S)) (va_Qv Q (vB D i A (wC q i)) A) 0 0 A := by
  intro d
  induction d with
  | zero =>
    intro _ _ _ _ S Q h
    rw [e_X0_sail.eq_1] at h
    exact h.elim
  | succ d ihd =>
    intro x1 x2 x3 x4 S Q h
    rw [e_X0_sail.eq_2] at h
    refine m_ofJ (own := RX0) (lv := [(0, .ref (q 9)), (1, .int x1), (2, .int x2), (3, .int x3), (4, .int x4)]) rfl (by decide) rfl (Nat.le_of_ble_eq_true rfl) rfl ?_
    intro p e s m below meth c X
    refine j_iload_n X rfl 3 rfl dX0_sail_0 ?_
    refine j_iconst (v := (1 : Int32)) X (by decide) dX0_sail_1 ?_
    refine j_icmp_lt (tgt := 29) X dX0_sail_2 (by decide) (fun c1 => ?_) (fun c1 => ?_)
    · have h := h.1 c1
      exact j_vret X h dX0_sail_29
    · have h := h.2 c1
      refine j_iload_n X rfl 1 rfl dX0_sail_5 ?_
      refine j_if_lt (tgt := 29) X dX0_sail_6 (by decide) (fun c2 => ?_) (fun c2 => ?_)
      · have h := h.1 c2
        exact j_vret X h dX0_sail_29
      · have h := h.2 c2
        refine j_iload_n X rfl 1 rfl dX0_sail_9 ?_
        refine j_aload_n X rfl 0 rfl dX0_sail_10 ?_
        refine jgC_boat_width X i_X0_sail_X0 (by decide +kernel) dX0_sail_11 ?_
        refine j_icmp_ge (tgt := 29) X dX0_sail_14 (by decide) (fun c3 => ?_) (fun c3 => ?_)
        · have h := h.1 c3
          exact j_vret X h dX0_sail_29
        · have h := h.2 c3
          refine j_iload_n X rfl 2 rfl dX0_sail_17 ?_
          refine j_if_lt (tgt := 29) X dX0_sail_18 (by decide) (fun c4 => ?_) (fun c4 => ?_)
          · have h := h.1 c4
            exact j_vret X h dX0_sail_29
          · have h := h.2 c4
            refine j_iload_n X rfl 2 rfl dX0_sail_21 ?_
            refine j_aload_n X rfl 0 rfl dX0_sail_22 ?_
            refine jgC_boat_height X i_X0_sail_X0 (by decide +kernel) dX0_sail_23 ?_
            refine j_icmp_lt (tgt := 30) X dX0_sail_26 (by decide) (fun c5 => ?_) (fun c5 => ?_)
            · have h := h.1 c5
              refine j_iload_n X rfl 2 rfl dX0_sail_30 ?_
              refine j_aload_n X rfl 0 rfl dX0_sail_31 ?_
              refine jgC_boat_width X i_X0_sail_X0 (by decide +kernel) dX0_sail_32 ?_
              refine j_imul X dX0_sail_35 ?_
              refine j_iload_n X rfl 1 rfl dX0_sail_36 ?_
              refine j_iadd X dX0_sail_37 ?_
              refine j_topi (fun v6 ev6 => ?_)
              have h := h v6 ev6
              refine j_istore (lv' := [(5, .int v6), (0, .ref (q 9)), (1, .int x1), (2, .int x2), (3, .int x3), (4, .int x4)]) X (by decide) rfl dX0_sail_38 ?_
              refine j_aload_n X rfl 1 rfl dX0_sail_40 ?_
              refine jgC_boat_catches X i_X0_sail_X0 (by decide +kernel) dX0_sail_41 ?_
              refine j_iload X 0 rfl dX0_sail_44 ?_
              obtain ⟨k7, h⟩ := h
              refine jlC_boat_catches X k7 dX0_sail_46 ?_
              refine j_topi (fun v8 ev8 => ?_)
              have h := h v8 ev8
              refine j_istore (lv' := [(6, .int v8), (5, .int v6), (0, .ref (q 9)), (1, .int x1), (2, .int x2), (3, .int x3), (4, .int x4)]) X (by decide) rfl dX0_sail_47 ?_
              refine j_iload X 0 rfl dX0_sail_49 ?_
              refine j_iconst (v := (-1 : Int32)) X (by decide) dX0_sail_51 ?_
              refine j_icmp_ne (tgt := 56) X dX0_sail_52 (by decide) (fun c9 => ?_) (fun c9 => ?_)
              · have h := h.1 c9
                refine j_iload X 6 rfl dX0_sail_56 ?_
                refine j_iload X 0 rfl dX0_sail_58 ?_
                refine j_iadd X dX0_sail_60 ?_
                refine j_topi (fun v10 ev10 => ?_)
                have h := h v10 ev10
                refine j_istore (lv' := [(7, .int v10), (6, .int v8), (5, .int v6), (0, .ref (q 9)), (1, .int x1), (2, .int x2), (3, .int x3), (4, .int x4)]) X (by decide) rfl dX0_sail_61 ?_
                refine j_aload_n X rfl 3 rfl dX0_sail_63 ?_
                refine j_aload_n X rfl 3 rfl dX0_sail_64 ?_
                refine jgC_boat_best X i_X0_sail_X0 (by decide +kernel) dX0_sail_65 ?_
                refine j_iload X 0 rfl dX0_sail_68 ?_
                refine j_mmax X (by decide +kernel) (Nat.le_of_ble_eq_true rfl) (Nat.le_of_ble_eq_true rfl) dX0_sail_70 ?_
                refine jpC_boat_best X i_X0_sail_X0 (by decide +kernel) dX0_sail_73 (fun S11 eS11 => ?_)
                have h := h S11 eS11
                refine j_iload X 0 rfl dX0_sail_76 ?_
                refine j_iload_n X rfl 6 rfl dX0_sail_78 ?_
                refine j_iconst (v := (1 : Int32)) X (by decide) dX0_sail_79 ?_
                refine j_isub X dX0_sail_80 ?_
                refine j_aload_n X rfl 3 rfl dX0_sail_81 ?_
                refine jgC_boat_richest X i_X0_sail_X0 (by decide +kernel) dX0_sail_82 ?_
                refine j_imul X dX0_sail_85 ?_
                refine j_iadd X dX0_sail_86 ?_
                refine j_aload_n X rfl 3 rfl dX0_sail_87 ?_
                refine jgC_boat_best X i_X0_sail_X0 (by decide +kernel) dX0_sail_88 ?_
                refine j_icmp_gt (tgt := 95) X dX0_sail_91 (by decide) (fun c12 => ?_) (fun c12 => ?_)
                · have h := h.1 c12
                  refine j_aload_n X rfl 3 rfl dX0_sail_95 ?_
                  refine jgC_boat_catches X i_X0_sail_X0 (by decide +kernel) dX0_sail_96 ?_
                  refine j_iload X 2 rfl dX0_sail_99 ?_
                  refine j_iconst (v := (0 : Int32)) X (by decide) dX0_sail_101 ?_
                  refine jsC_boat_catches X k7 dX0_sail_102 (fun S13 eS13 => ?_)
                  have h := h S13 eS13
                  refine j_aload_n X rfl 3 rfl dX0_sail_103 ?_
                  refine j_iload_n X rfl 4 rfl dX0_sail_104 ?_
                  refine j_iconst (v := (1 : Int32)) X (by decide) dX0_sail_105 ?_
                  refine j_isub X dX0_sail_106 ?_
                  refine j_iload_n X rfl 5 rfl dX0_sail_107 ?_
                  refine j_iload_n X rfl 6 rfl dX0_sail_108 ?_
                  refine j_iconst (v := (1 : Int32)) X (by decide) dX0_sail_109 ?_
                  refine j_isub X dX0_sail_110 ?_
                  refine j_iload X 0 rfl dX0_sail_111 ?_
                  refine j_Vv (st := []) X [.int (x1 - (1 : Int32)), .int x2, .int (x3 - (1 : Int32)), .int v10] 9 (ihd (x1 - (1 : Int32)) x2 (x3 - (1 : Int32)) v10 S13 _ h) (cwV 4 X.ts gX0_sail_X0_sail rfl rfl rfl (by decide +kernel) ⟨by show _ + 1 ≤ _; simp [headSpec, rm_X0_sail], by show _ ≤ _; simp [headSpec, rm_X0_sail]; omega⟩) rfl rfl rfl rfl (Nat.le_of_ble_eq_true rfl) dX0_sail_113 (fun S14 h => ?_)
                  refine j_aload_n X rfl 3 rfl dX0_sail_116 ?_
                  refine j_iload_n X rfl 4 rfl dX0_sail_117 ?_
                  refine j_iconst (v := (1 : Int32)) X (by decide) dX0_sail_118 ?_
                  refine j_iadd X dX0_sail_119 ?_
                  refine j_iload_n X rfl 5 rfl dX0_sail_120 ?_
                  refine j_iload_n X rfl 6 rfl dX0_sail_121 ?_
                  refine j_iconst (v := (1 : Int32)) X (by decide) dX0_sail_122 ?_
                  refine j_isub X dX0_sail_123 ?_
                  refine j_iload X 0 rfl dX0_sail_124 ?_
                  refine j_Vv (st := []) X [.int (x1 + (1 : Int32)), .int x2, .int (x3 - (1 : Int32)), .int v10] 9 (ihd (x1 + (1 : Int32)) x2 (x3 - (1 : Int32)) v10 S14 _ h) (cwV 4 X.ts gX0_sail_X0_sail rfl rfl rfl (by decide +kernel) ⟨by show _ + 1 ≤ _; simp [headSpec, rm_X0_sail], by show _ ≤ _; simp [headSpec, rm_X0_sail]; omega⟩) rfl rfl rfl rfl (Nat.le_of_ble_eq_true rfl) dX0_sail_126 (fun S16 h => ?_)
                  refine j_aload_n X rfl 3 rfl dX0_sail_129 ?_
                  refine j_iload_n X rfl 4 rfl dX0_sail_130 ?_
                  refine j_iload_n X rfl 5 rfl dX0_sail_131 ?_
                  refine j_iconst (v := (1 : Int32)) X (by decide) dX0_sail_132 ?_
                  refine j_isub X dX0_sail_133 ?_
                  refine j_iload_n X rfl 6 rfl dX0_sail_134 ?_
                  refine j_iconst (v := (1 : Int32)) X (by decide) dX0_sail_135 ?_
                  refine j_isub X dX0_sail_136 ?_
                  refine j_iload X 0 rfl dX0_sail_137 ?_
                  refine j_Vv (st := []) X [.int x1, .int (x2 - (1 : Int32)), .int (x3 - (1 : Int32)), .int v10] 9 (ihd x1 (x2 - (1 : Int32)) (x3 - (1 : Int32)) v10 S16 _ h) (cwV 4 X.ts gX0_sail_X0_sail rfl rfl rfl (by decide +kernel) ⟨by show _ + 1 ≤ _; simp [headSpec, rm_X0_sail], by show _ ≤ _; simp [headSpec, rm_X0_sail]; omega⟩) rfl rfl rfl rfl (Nat.le_of_ble_eq_true rfl) dX0_sail_139 (fun S18 h => ?_)
                  refine j_aload_n X rfl 3 rfl dX0_sail_142 ?_
                  refine j_iload_n X rfl 4 rfl dX0_sail_143 ?_
                  refine j_iload_n X rfl 5 rfl dX0_sail_144 ?_
                  refine j_iconst (v := (1 : Int32)) X (by decide) dX0_sail_145 ?_
                  refine j_iadd X dX0_sail_146 ?_
                  refine j_iload_n X rfl 6 rfl dX0_sail_147 ?_
                  refine j_iconst (v := (1 : Int32)) X (by decide) dX0_sail_148 ?_
                  refine j_isub X dX0_sail_149 ?_
                  refine j_iload X 0 rfl dX0_sail_150 ?_
                  refine j_Vv (st := []) X [.int x1, .int (x2 + (1 : Int32)), .int (x3 - (1 : Int32)), .int v10] 9 (ihd x1 (x2 + (1 : Int32)) (x3 - (1 : Int32)) v10 S18 _ h) (cwV 4 X.ts gX0_sail_X0_sail rfl rfl rfl (by decide +kernel) ⟨by show _ + 1 ≤ _; simp [headSpec, rm_X0_sail], by show _ ≤ _; simp [headSpec, rm_X0_sail]; omega⟩) rfl rfl rfl rfl (Nat.le_of_ble_eq_true rfl) dX0_sail_152 (fun S20 h => ?_)
                  refine j_aload_n X rfl 3 rfl dX0_sail_155 ?_
                  refine jgC_boat_catches X i_X0_sail_X0 (by decide +kernel) dX0_sail_156 ?_
                  refine j_iload X 2 rfl dX0_sail_159 ?_
                  refine j_iload X 1 rfl dX0_sail_161 ?_
                  refine jsC_boat_catches X k7 dX0_sail_163 (fun S22 eS22 => ?_)
                  have h := h S22 eS22
                  exact j_vret X h dX0_sail_164
                · have h := h.2 c12
                  exact j_vret X h dX0_sail_94
              · have h := h.2 c9
                exact j_vret X h dX0_sail_55
            · have h := h.2 c5
              exact j_vret X h dX0_sail_29
set_option maxRecDepth 100000 in
theorem i_X0_mostFish_X0 : ∀ w ∈ u_ws RX0 TX0 5, w ∈ wsX0_mostFish := by decide +kernel
abbrev rm_X0_mostFish : Room := { frames := 11, cells := 0, slots := 0, locals := 302 }
set_option maxRecDepth 100000 in
set_option maxHeartbeats 4000000 in
theorem c_X0_mostFish (l : Launch) (D : va_G) (i : Nat → ClassId) (q : Nat → Nat) (A : Nat → Prop) (x1 : Int32) (x2 : Int32) (S : vS) (Q : Int32 → vS → Prop) (h : e_X0_mostFish x1 x2 S Q) : Met l yX0_mostFish wsX0_mostFish rm_X0_mostFish (va_Pc [.ref (q 9), .int x1, .int x2] (vB D i A (wC q i) S)) (va_Qi Q (vB D i A (wC q i)) A) 0 0 A := by
  refine m_ofJ (own := RX0) (lv := [(0, .ref (q 9)), (1, .int x1), (2, .int x2)]) rfl (by decide) rfl (Nat.le_of_ble_eq_true rfl) rfl ?_
  intro p e s m below meth c X
  unfold e_X0_mostFish at h
  refine j_aload_n X rfl 0 rfl dX0_mostFish_0 ?_
  refine j_iconst (v := (-1 : Int32)) X (by decide) dX0_mostFish_1 ?_
  refine jpC_boat_best X i_X0_mostFish_X0 (by decide +kernel) dX0_mostFish_2 (fun S1 eS1 => ?_)
  have h := h S1 eS1
  refine j_aload_n X rfl 0 rfl dX0_mostFish_5 ?_
  refine j_iload_n X rfl 1 rfl dX0_mostFish_6 ?_
  refine j_iconst (v := (0 : Int32)) X (by decide) dX0_mostFish_7 ?_
  refine j_iload_n X rfl 2 rfl dX0_mostFish_8 ?_
  refine j_bipush (v := (8 : Int32)) X (by decide) dX0_mostFish_9 ?_
  refine j_mmin X (by decide +kernel) (Nat.le_of_ble_eq_true rfl) (Nat.le_of_ble_eq_true rfl) dX0_mostFish_11 ?_
  refine j_iconst (v := (0 : Int32)) X (by decide) dX0_mostFish_14 ?_
  refine j_Vv (st := []) X [.int x1, .int (0 : Int32), .int (if (8 : Int32) < x2 then (8 : Int32) else x2), .int (0 : Int32)] 9 (c_X0_sail l D i q A 9 x1 (0 : Int32) (if (8 : Int32) < x2 then (8 : Int32) else x2) (0 : Int32) S1 _ h) (cwV 4 X.ts gX0_mostFish_X0_sail rfl rfl rfl (by decide +kernel) ⟨Nat.le_of_ble_eq_true rfl, Nat.le_of_ble_eq_true rfl⟩) rfl rfl rfl rfl (Nat.le_of_ble_eq_true rfl) dX0_mostFish_15 (fun S2 h => ?_)
  refine j_aload_n X rfl 0 rfl dX0_mostFish_18 ?_
  refine jgC_boat_best X i_X0_mostFish_X0 (by decide +kernel) dX0_mostFish_19 ?_
  exact j_iret X h dX0_mostFish_22
set_option maxRecDepth 100000 in
theorem i_X0_putCatch_X0 : ∀ w ∈ u_ws RX0 TX0 5, w ∈ wsX0_putCatch := by decide +kernel
abbrev rm_X0_putCatch : Room := { frames := 1, cells := 0, slots := 0, locals := 21 }
set_option maxRecDepth 100000 in
set_option maxHeartbeats 4000000 in
theorem c_X0_putCatch (l : Launch) (D : va_G) (i : Nat → ClassId) (q : Nat → Nat) (A : Nat → Prop) (x1 : Int32) (x2 : Int32) (S : vS) (Q : vS → Prop) (h : e_X0_putCatch x1 x2 S Q) : Met l yX0_putCatch wsX0_putCatch rm_X0_putCatch (va_Pc [.ref (q 9), .int x1, .int x2] (vB D i A (wC q i) S)) (va_Qv Q (vB D i A (wC q i)) A) 0 0 A := by
  refine m_ofJ (own := RX0) (lv := [(0, .ref (q 9)), (1, .int x1), (2, .int x2)]) rfl (by decide) rfl (Nat.le_of_ble_eq_true rfl) rfl ?_
  intro p e s m below meth c X
  unfold e_X0_putCatch at h
  refine j_iload_n X rfl 1 rfl dX0_putCatch_0 ?_
  refine j_if_lt (tgt := 29) X dX0_putCatch_1 (by decide) (fun c1 => ?_) (fun c1 => ?_)
  · have h := h.1 c1
    exact j_vret X h dX0_putCatch_29
  · have h := h.2 c1
    refine j_iload_n X rfl 1 rfl dX0_putCatch_4 ?_
    refine j_bipush (v := (60 : Int32)) X (by decide) dX0_putCatch_5 ?_
    refine j_icmp_ge (tgt := 29) X dX0_putCatch_7 (by decide) (fun c2 => ?_) (fun c2 => ?_)
    · have h := h.1 c2
      exact j_vret X h dX0_putCatch_29
    · have h := h.2 c2
      refine j_aload_n X rfl 0 rfl dX0_putCatch_10 ?_
      refine jgC_boat_catches X i_X0_putCatch_X0 (by decide +kernel) dX0_putCatch_11 ?_
      refine j_iload_n X rfl 1 rfl dX0_putCatch_14 ?_
      refine j_iload_n X rfl 2 rfl dX0_putCatch_15 ?_
      obtain ⟨k3, h⟩ := h
      refine jsC_boat_catches X k3 dX0_putCatch_16 (fun S4 eS4 => ?_)
      have h := h S4 eS4
      refine j_aload_n X rfl 0 rfl dX0_putCatch_17 ?_
      refine j_aload_n X rfl 0 rfl dX0_putCatch_18 ?_
      refine jgC_boat_richest X i_X0_putCatch_X0 (by decide +kernel) dX0_putCatch_19 ?_
      refine j_iload_n X rfl 2 rfl dX0_putCatch_22 ?_
      refine j_mmax X (by decide +kernel) (Nat.le_of_ble_eq_true rfl) (Nat.le_of_ble_eq_true rfl) dX0_putCatch_23 ?_
      refine jpC_boat_richest X i_X0_putCatch_X0 (by decide +kernel) dX0_putCatch_26 (fun S5 eS5 => ?_)
      have h := h S5 eS5
      exact j_vret X h dX0_putCatch_29
set_option maxRecDepth 100000 in
theorem i_X6_boat_X2 : ∀ w ∈ u_ws RX2 TX2 14, w ∈ wsX6_boat := by decide +kernel
set_option maxRecDepth 100000 in
theorem i_X6_boat_X6 : ∀ w ∈ u_ws RX6 TX6 8, w ∈ wsX6_boat := by decide +kernel
abbrev rm_X6_boat : Room := { frames := 12, cells := 0, slots := 0, locals := 324 }
set_option maxRecDepth 100000 in
set_option maxHeartbeats 4000000 in
theorem w_X6_boat_72 {D : va_G} {i : Nat → ClassId} {q : Nat → Nat} {A : Nat → Prop} {p : Program} {l : Launch} {e : Env} {s : State} {m : MethodId} {args : Array Value} {below : List Frame} {meth : Method} {c : Code} (X : cX D i A p s m args meth c cX6_boat RX6 5 wsX6_boat (some .int)) {K58 : Int32 → Int32 → Int32 → vS → Prop} {Q : Int32 → vS → Prop} (hK58 : ∀ (a1 : Int32) (a2 : Int32) (a3 : Int32) (S : vS), K58 a1 a2 a3 S → cJ D A p l e (headSpec wsX6_boat rm_X6_boat).room s m args below meth c (MQ below (va_Qi Q (vB D i A (wC q i)) A) args s 0 0 A) 5 (wC q i S) [(0, .ref (q 0)), (1, .int a1), (2, .int a2), (3, .int a3)] 58 []) : ∀ (n : Nat) (a1 : Int32) (a2 : Int32) (a3 : Int32) (a4 : Int32) (S : vS), e_X6_boat_72 K58 Q n a1 a2 a3 a4 S → cJ D A p l e (headSpec wsX6_boat rm_X6_boat).room s m args below meth c (MQ below (va_Qi Q (vB D i A (wC q i)) A) args s 0 0 A) 5 (wC q i S) [(0, .ref (q 0)), (1, .int a1), (2, .int a2), (3, .int a3), (4, .int a4)] 72 [] := by
  intro n
  induction n with
  | zero =>
    intro _ _ _ _ S h
    rw [e_X6_boat_72.eq_1] at h
    exact h.elim
  | succ n ih =>
    intro a1 a2 a3 a4 S h
    rw [e_X6_boat_72.eq_2] at h
    refine j_iload X 4 rfl dX6_boat_72 ?_
    refine j_aload_n X rfl 0 rfl dX6_boat_74 ?_
    refine jgC_main_plan X i_X6_boat_X6 (by decide +kernel) dX6_boat_75 ?_
    refine jgC_plan_width X i_X6_boat_X2 (by decide +kernel) dX6_boat_78 ?_
    refine j_icmp_ge (tgt := 118) X dX6_boat_81 (by decide) (fun c14 => ?_) (fun c14 => ?_)
    · have h := h.1 c14
      refine j_iinc (dv := (1 : Int32)) (lv' := fun v15 => [(3, .int v15), (0, .ref (q 0)), (1, .int a1), (2, .int a2), (4, .int a4)]) X dX6_boat_118 (pl := 3) rfl (by decide) (by decide) (fun _ => rfl) (fun v15 ev15 => ?_)
      have h := h v15 ev15
      refine j_goto (tgt := 58) X dX6_boat_121 (by decide) ?_
      refine j_loc [1, 2, 3, 0] rfl ?_
      exact hK58 a1 a2 v15 S h
    · have h := h.2 c14
      refine j_aload_n X rfl 0 rfl dX6_boat_84 ?_
      refine jgC_main_boat X i_X6_boat_X6 (by decide +kernel) dX6_boat_85 ?_
      refine j_aload_n X rfl 0 rfl dX6_boat_88 ?_
      refine jgC_main_plan X i_X6_boat_X6 (by decide +kernel) dX6_boat_89 ?_
      refine j_iload X 4 rfl dX6_boat_92 ?_
      refine j_iload_n X rfl 3 rfl dX6_boat_94 ?_
      refine j_Vi (st := [.ref (q 9)]) X [.int a4, .int a3] 1 (c_X2_numberOf_plan l D i q A a4 a3 S _ h) (cwV 2 X.ts gX6_boat_X2_numberOf rfl rfl rfl (by decide +kernel) ⟨Nat.le_of_ble_eq_true rfl, Nat.le_of_ble_eq_true rfl⟩) rfl rfl rfl rfl (Nat.le_of_ble_eq_true rfl) dX6_boat_95 (fun r17 S16 h => ?_)
      refine j_aload_n X rfl 0 rfl dX6_boat_98 ?_
      refine jgC_main_sight X i_X6_boat_X6 (by decide +kernel) dX6_boat_99 ?_
      refine j_iload_n X rfl 1 rfl dX6_boat_102 ?_
      refine j_iload X 4 rfl dX6_boat_103 ?_
      refine j_iload_n X rfl 3 rfl dX6_boat_105 ?_
      refine j_Vi (st := [.int r17, .ref (q 9)]) X [.int a1, .int a4, .int a3] 7 (c_X4_catchOf l D i q A a1 a4 a3 S16 _ h) (cwV 3 X.ts gX6_boat_X4_catchOf rfl rfl rfl (by decide +kernel) ⟨Nat.le_of_ble_eq_true rfl, Nat.le_of_ble_eq_true rfl⟩) rfl rfl rfl rfl (Nat.le_of_ble_eq_true rfl) dX6_boat_106 (fun r19 S18 h => ?_)
      refine j_Vv (st := []) X [.int r17, .int r19] 9 (c_X0_putCatch l D i q A r17 r19 S18 _ h) (cwV 2 X.ts gX6_boat_X0_putCatch rfl rfl rfl (by decide +kernel) ⟨Nat.le_of_ble_eq_true rfl, Nat.le_of_ble_eq_true rfl⟩) rfl rfl rfl rfl (Nat.le_of_ble_eq_true rfl) dX6_boat_109 (fun S20 h => ?_)
      refine j_iinc (dv := (1 : Int32)) (lv' := fun v22 => [(4, .int v22), (0, .ref (q 0)), (1, .int a1), (2, .int a2), (3, .int a3)]) X dX6_boat_112 (pl := 4) rfl (by decide) (by decide) (fun _ => rfl) (fun v22 ev22 => ?_)
      have h := h v22 ev22
      refine j_goto (tgt := 72) X dX6_boat_115 (by decide) ?_
      refine j_loc [1, 2, 3, 4, 0] rfl ?_
      exact ih a1 a2 a3 v22 S20 h
set_option maxRecDepth 100000 in
set_option maxHeartbeats 4000000 in
theorem w_X6_boat_58 {D : va_G} {i : Nat → ClassId} {q : Nat → Nat} {A : Nat → Prop} {p : Program} {l : Launch} {e : Env} {s : State} {m : MethodId} {args : Array Value} {below : List Frame} {meth : Method} {c : Code} (X : cX D i A p s m args meth c cX6_boat RX6 5 wsX6_boat (some .int)) {Q : Int32 → vS → Prop} : ∀ (n : Nat) (a1 : Int32) (a2 : Int32) (a3 : Int32) (S : vS), e_X6_boat_58 Q n a1 a2 a3 S → cJ D A p l e (headSpec wsX6_boat rm_X6_boat).room s m args below meth c (MQ below (va_Qi Q (vB D i A (wC q i)) A) args s 0 0 A) 5 (wC q i S) [(0, .ref (q 0)), (1, .int a1), (2, .int a2), (3, .int a3)] 58 [] := by
  intro n
  induction n with
  | zero =>
    intro _ _ _ S h
    rw [e_X6_boat_58.eq_1] at h
    exact h.elim
  | succ n ih =>
    intro a1 a2 a3 S h
    rw [e_X6_boat_58.eq_2] at h
    refine j_iload_n X rfl 3 rfl dX6_boat_58 ?_
    refine j_aload_n X rfl 0 rfl dX6_boat_59 ?_
    refine jgC_main_plan X i_X6_boat_X6 (by decide +kernel) dX6_boat_60 ?_
    refine jgC_plan_height X i_X6_boat_X2 (by decide +kernel) dX6_boat_63 ?_
    refine j_icmp_ge (tgt := 124) X dX6_boat_66 (by decide) (fun c10 => ?_) (fun c10 => ?_)
    · have h := h.1 c10
      refine j_aload_n X rfl 0 rfl dX6_boat_124 ?_
      refine jgC_main_boat X i_X6_boat_X6 (by decide +kernel) dX6_boat_125 ?_
      refine j_aload_n X rfl 0 rfl dX6_boat_128 ?_
      refine jgC_main_plan X i_X6_boat_X6 (by decide +kernel) dX6_boat_129 ?_
      refine jgC_plan_places X i_X6_boat_X2 (by decide +kernel) dX6_boat_132 ?_
      refine j_iload_n X rfl 1 rfl dX6_boat_135 ?_
      obtain ⟨k11, h⟩ := h
      refine jlC_plan_places X k11 dX6_boat_136 ?_
      refine j_iload_n X rfl 2 rfl dX6_boat_137 ?_
      refine j_Vi (st := []) X [.int (S.2.1 1 (a1).toNatClampNeg), .int a2] 9 (c_X0_mostFish l D i q A (S.2.1 1 (a1).toNatClampNeg) a2 S _ h) (cwV 2 X.ts gX6_boat_X0_mostFish rfl rfl rfl (by decide +kernel) ⟨Nat.le_of_ble_eq_true rfl, Nat.le_of_ble_eq_true rfl⟩) rfl rfl rfl rfl (Nat.le_of_ble_eq_true rfl) dX6_boat_138 (fun r13 S12 h => ?_)
      exact j_iret X h dX6_boat_141
    · have h := h.2 c10
      refine j_iconst (v := (0 : Int32)) X (by decide) dX6_boat_69 ?_
      refine j_istore (lv' := [(4, .int (0 : Int32)), (0, .ref (q 0)), (1, .int a1), (2, .int a2), (3, .int a3)]) X (by decide) rfl dX6_boat_70 ?_
      refine j_loc [1, 2, 3, 4, 0] rfl ?_
      obtain ⟨j, h⟩ := h
      exact w_X6_boat_72 X (fun y0 y1 y2 S h => ih y0 y1 y2 S h) j a1 a2 a3 (0 : Int32) S h
set_option maxRecDepth 100000 in
set_option maxHeartbeats 4000000 in
theorem c_X6_boat (l : Launch) (D : va_G) (i : Nat → ClassId) (q : Nat → Nat) (A : Nat → Prop) (x1 : Int32) (x2 : Int32) (S : vS) (Q : Int32 → vS → Prop) (h : e_X6_boat x1 x2 S Q) : Met l yX6_boat wsX6_boat rm_X6_boat (va_Pc [.ref (q 0), .int x1, .int x2] (vB D i A (wC q i) S)) (va_Qi Q (vB D i A (wC q i)) A) 0 0 A := by
  refine m_ofJ (own := RX6) (lv := [(0, .ref (q 0)), (1, .int x1), (2, .int x2)]) rfl (by decide) rfl (Nat.le_of_ble_eq_true rfl) rfl ?_
  intro p e s m below meth c X
  unfold e_X6_boat at h
  refine j_aload_n X rfl 0 rfl dX6_boat_0 ?_
  refine jgC_main_plan X i_X6_boat_X6 (by decide +kernel) dX6_boat_1 ?_
  refine j_iload_n X rfl 1 rfl dX6_boat_4 ?_
  refine j_Vi (st := []) X [.int x1] 1 (c_X2_hasMan_plan l D i q A x1 S _ h) (cwV 1 X.ts gX6_boat_X2_hasMan rfl rfl rfl (by decide +kernel) ⟨Nat.le_of_ble_eq_true rfl, Nat.le_of_ble_eq_true rfl⟩) rfl rfl rfl rfl (Nat.le_of_ble_eq_true rfl) dX6_boat_5 (fun r2 S1 h => ?_)
  refine j_if_ne (tgt := 14) X dX6_boat_8 (by decide) (fun c3 => ?_) (fun c3 => ?_)
  · have h := h.1 c3
    refine j_iload_n X rfl 2 rfl dX6_boat_14 ?_
    refine j_iconst (v := (1 : Int32)) X (by decide) dX6_boat_15 ?_
    refine j_icmp_lt (tgt := 25) X dX6_boat_16 (by decide) (fun c4 => ?_) (fun c4 => ?_)
    · have h := h.1 c4
      refine j_ldc (v := (-1000000002 : Int32)) X (by decide +kernel) dX6_boat_25 ?_
      exact j_iret X h dX6_boat_27
    · have h := h.2 c4
      refine j_iload_n X rfl 2 rfl dX6_boat_19 ?_
      refine j_bipush (v := (8 : Int32)) X (by decide) dX6_boat_20 ?_
      refine j_icmp_le (tgt := 28) X dX6_boat_22 (by decide) (fun c5 => ?_) (fun c5 => ?_)
      · have h := h.1 c5
        refine j_aload_n X rfl 0 rfl dX6_boat_28 ?_
        refine jgC_main_sight X i_X6_boat_X6 (by decide +kernel) dX6_boat_29 ?_
        refine j_Vv (st := []) X [] 7 (c_X4_lookAll l D i q A S1 _ h) (cwV 0 X.ts gX6_boat_X4_lookAll rfl rfl rfl (by decide +kernel) ⟨Nat.le_of_ble_eq_true rfl, Nat.le_of_ble_eq_true rfl⟩) rfl rfl rfl rfl (Nat.le_of_ble_eq_true rfl) dX6_boat_32 (fun S6 h => ?_)
        refine j_aload_n X rfl 0 rfl dX6_boat_35 ?_
        refine jgC_main_boat X i_X6_boat_X6 (by decide +kernel) dX6_boat_36 ?_
        refine j_aload_n X rfl 0 rfl dX6_boat_39 ?_
        refine jgC_main_plan X i_X6_boat_X6 (by decide +kernel) dX6_boat_40 ?_
        refine jgC_plan_width X i_X6_boat_X2 (by decide +kernel) dX6_boat_43 ?_
        refine j_aload_n X rfl 0 rfl dX6_boat_46 ?_
        refine jgC_main_plan X i_X6_boat_X6 (by decide +kernel) dX6_boat_47 ?_
        refine jgC_plan_height X i_X6_boat_X2 (by decide +kernel) dX6_boat_50 ?_
        refine j_Vv (st := []) X [.int (S6.1 0), .int (S6.1 1)] 9 (c_X0_start l D i q A (S6.1 0) (S6.1 1) S6 _ h) (cwV 2 X.ts gX6_boat_X0_start rfl rfl rfl (by decide +kernel) ⟨Nat.le_of_ble_eq_true rfl, Nat.le_of_ble_eq_true rfl⟩) rfl rfl rfl rfl (Nat.le_of_ble_eq_true rfl) dX6_boat_53 (fun S8 h => ?_)
        refine j_iconst (v := (0 : Int32)) X (by decide) dX6_boat_56 ?_
        refine j_istore_n (lv' := [(3, .int (0 : Int32)), (0, .ref (q 0)), (1, .int x1), (2, .int x2)]) X rfl (by decide) rfl dX6_boat_57 ?_
        refine j_loc [1, 2, 3, 0] rfl ?_
        obtain ⟨j, h⟩ := h
        exact w_X6_boat_58 X j x1 x2 (0 : Int32) S8 h
      · have h := h.2 c5
        refine j_ldc (v := (-1000000002 : Int32)) X (by decide +kernel) dX6_boat_25 ?_
        exact j_iret X h dX6_boat_27
  · have h := h.2 c3
    refine j_ldc (v := (-1000000001 : Int32)) X (by decide +kernel) dX6_boat_11 ?_
    exact j_iret X h dX6_boat_13
set_option maxRecDepth 100000 in
theorem i_X4_eyeNeededFor_X4 : ∀ w ∈ u_ws RX4 TX4 8, w ∈ wsX4_eyeNeededFor := by decide +kernel
set_option maxRecDepth 100000 in
theorem i_X4_eyeNeededFor_X5 : ∀ w ∈ u_ws RX5 TX5 7, w ∈ wsX4_eyeNeededFor := by decide +kernel
abbrev rm_X4_eyeNeededFor : Room := { frames := 1, cells := 0, slots := 0, locals := 27 }
set_option maxRecDepth 100000 in
set_option maxHeartbeats 4000000 in
theorem w_X4_eyeNeededFor_6 {D : va_G} {i : Nat → ClassId} {q : Nat → Nat} {A : Nat → Prop} {p : Program} {l : Launch} {e : Env} {s : State} {m : MethodId} {args : Array Value} {below : List Frame} {meth : Method} {c : Code} (X : cX D i A p s m args meth c cX4_eyeNeededFor RX4 8 wsX4_eyeNeededFor (some .int)) {Q : Int32 → vS → Prop} : ∀ (n : Nat) (a1 : Int32) (a2 : Int32) (a3 : Int32) (a4 : Int32) (a5 : Int32) (S : vS), e_X4_eyeNeededFor_6 Q n a1 a2 a3 a4 a5 S → cJ D A p l e (headSpec wsX4_eyeNeededFor rm_X4_eyeNeededFor).room s m args below meth c (MQ below (va_Qi Q (vB D i A (wC q i)) A) args s 0 0 A) 8 (wC q i S) [(0, .ref (q 7)), (1, .int a1), (2, .int a2), (3, .int a3), (4, .int a4), (5, .int a5)] 6 [] := by
  intro n
  induction n with
  | zero =>
    intro _ _ _ _ _ S h
    rw [e_X4_eyeNeededFor_6.eq_1] at h
    exact h.elim
  | succ n ih =>
    intro a1 a2 a3 a4 a5 S h
    rw [e_X4_eyeNeededFor_6.eq_2] at h
    refine j_iload X 5 rfl dX4_eyeNeededFor_6 ?_
    refine j_iload_n X rfl 3 rfl dX4_eyeNeededFor_8 ?_
    refine j_icmp_ge (tgt := 73) X dX4_eyeNeededFor_9 (by decide) (fun c1 => ?_) (fun c1 => ?_)
    · have h := h.1 c1
      refine j_iload X 4 rfl dX4_eyeNeededFor_73 ?_
      exact j_iret X h dX4_eyeNeededFor_75
    · have h := h.2 c1
      refine j_aload_n X rfl 0 rfl dX4_eyeNeededFor_12 ?_
      refine jgC_sight_now X i_X4_eyeNeededFor_X4 (by decide +kernel) dX4_eyeNeededFor_13 ?_
      refine jgC_now_stands X i_X4_eyeNeededFor_X5 (by decide +kernel) dX4_eyeNeededFor_16 ?_
      refine j_aload_n X rfl 0 rfl dX4_eyeNeededFor_19 ?_
      refine jgC_sight_plan X i_X4_eyeNeededFor_X4 (by decide +kernel) dX4_eyeNeededFor_20 ?_
      refine j_aload_n X rfl 0 rfl dX4_eyeNeededFor_23 ?_
      refine j_iload_n X rfl 1 rfl dX4_eyeNeededFor_24 ?_
      refine j_iload_n X rfl 2 rfl dX4_eyeNeededFor_25 ?_
      refine j_iload_n X rfl 3 rfl dX4_eyeNeededFor_26 ?_
      refine j_iload X 5 rfl dX4_eyeNeededFor_27 ?_
      refine j_Vi (st := [.ref (q 1), .ref (q 33)]) X [.int a1, .int a2, .int a3, .int a5] 7 (c_X4_lineX l D i q A a1 a2 a3 a5 S _ h) (cwV 4 X.ts gX4_eyeNeededFor_X4_lineX rfl rfl rfl (by decide +kernel) ⟨Nat.le_of_ble_eq_true rfl, Nat.le_of_ble_eq_true rfl⟩) rfl rfl rfl rfl (Nat.le_of_ble_eq_true rfl) dX4_eyeNeededFor_29 (fun r3 S2 h => ?_)
      refine j_iload X 5 rfl dX4_eyeNeededFor_32 ?_
      refine j_Vi (st := [.ref (q 33)]) X [.int r3, .int a5] 1 (c_X2_numberOf_plan l D i q A r3 a5 S2 _ h) (cwV 2 X.ts gX4_eyeNeededFor_X2_numberOf rfl rfl rfl (by decide +kernel) ⟨Nat.le_of_ble_eq_true rfl, Nat.le_of_ble_eq_true rfl⟩) rfl rfl rfl rfl (Nat.le_of_ble_eq_true rfl) dX4_eyeNeededFor_34 (fun r5 S4 h => ?_)
      obtain ⟨k6, h⟩ := h
      refine jlC_now_stands X k6 dX4_eyeNeededFor_37 ?_
      refine j_topi (fun v7 ev7 => ?_)
      have h := h v7 ev7
      refine j_istore (lv' := [(6, .int v7), (0, .ref (q 7)), (1, .int a1), (2, .int a2), (3, .int a3), (4, .int a4), (5, .int a5)]) X (by decide) rfl dX4_eyeNeededFor_38 ?_
      refine j_iload_n X rfl 4 rfl dX4_eyeNeededFor_40 ?_
      refine j_iload X 6 rfl dX4_eyeNeededFor_41 ?_
      refine j_isub X dX4_eyeNeededFor_43 ?_
      refine j_topi (fun v8 ev8 => ?_)
      have h := h v8 ev8
      refine j_istore (lv' := [(7, .int v8), (6, .int v7), (0, .ref (q 7)), (1, .int a1), (2, .int a2), (3, .int a3), (4, .int a4), (5, .int a5)]) X (by decide) rfl dX4_eyeNeededFor_44 ?_
      refine j_iload X 6 rfl dX4_eyeNeededFor_46 ?_
      refine j_iload X 1 rfl dX4_eyeNeededFor_48 ?_
      refine j_iload_n X rfl 5 rfl dX4_eyeNeededFor_50 ?_
      refine j_iconst (v := (1 : Int32)) X (by decide) dX4_eyeNeededFor_51 ?_
      refine j_iadd X dX4_eyeNeededFor_52 ?_
      refine j_imul X dX4_eyeNeededFor_53 ?_
      refine j_iload X 0 rfl dX4_eyeNeededFor_54 ?_
      refine j_iadd X dX4_eyeNeededFor_56 ?_
      refine j_iconst (v := (1 : Int32)) X (by decide) dX4_eyeNeededFor_57 ?_
      refine j_isub X dX4_eyeNeededFor_58 ?_
      refine j_iload X 0 rfl dX4_eyeNeededFor_59 ?_
      obtain ⟨k9, h⟩ := h
      refine j_idiv X k9 dX4_eyeNeededFor_61 ?_
      refine j_mmax X (by decide +kernel) (Nat.le_of_ble_eq_true rfl) (Nat.le_of_ble_eq_true rfl) dX4_eyeNeededFor_62 ?_
      refine j_topi (fun v10 ev10 => ?_)
      have h := h v10 ev10
      refine j_istore (lv' := [(4, .int v10), (7, .int v8), (6, .int v7), (0, .ref (q 7)), (1, .int a1), (2, .int a2), (3, .int a3), (5, .int a5)]) X (by decide) rfl dX4_eyeNeededFor_65 ?_
      refine j_iinc (dv := (1 : Int32)) (lv' := fun v11 => [(5, .int v11), (4, .int v10), (7, .int v8), (6, .int v7), (0, .ref (q 7)), (1, .int a1), (2, .int a2), (3, .int a3)]) X dX4_eyeNeededFor_67 (pl := 7) rfl (by decide) (by decide) (fun _ => rfl) (fun v11 ev11 => ?_)
      have h := h v11 ev11
      refine j_goto (tgt := 6) X dX4_eyeNeededFor_70 (by decide) ?_
      refine j_loc [4, 5, 6, 7, 1, 0] rfl ?_
      exact ih a1 a2 a3 v10 v11 S4 h
set_option maxRecDepth 100000 in
set_option maxHeartbeats 4000000 in
theorem c_X4_eyeNeededFor (l : Launch) (D : va_G) (i : Nat → ClassId) (q : Nat → Nat) (A : Nat → Prop) (x1 : Int32) (x2 : Int32) (x3 : Int32) (S : vS) (Q : Int32 → vS → Prop) (h : e_X4_eyeNeededFor x1 x2 x3 S Q) : Met l yX4_eyeNeededFor wsX4_eyeNeededFor rm_X4_eyeNeededFor (va_Pc [.ref (q 7), .int x1, .int x2, .int x3] (vB D i A (wC q i) S)) (va_Qi Q (vB D i A (wC q i)) A) 0 0 A := by
  refine m_ofJ (own := RX4) (lv := [(0, .ref (q 7)), (1, .int x1), (2, .int x2), (3, .int x3)]) rfl (by decide) rfl (Nat.le_of_ble_eq_true rfl) rfl ?_
  intro p e s m below meth c X
  unfold e_X4_eyeNeededFor at h
  refine j_iconst (v := (0 : Int32)) X (by decide) dX4_eyeNeededFor_0 ?_
  refine j_istore (lv' := [(4, .int (0 : Int32)), (0, .ref (q 7)), (1, .int x1), (2, .int x2), (3, .int x3)]) X (by decide) rfl dX4_eyeNeededFor_1 ?_
  refine j_iconst (v := (0 : Int32)) X (by decide) dX4_eyeNeededFor_3 ?_
  refine j_istore (lv' := [(5, .int (0 : Int32)), (4, .int (0 : Int32)), (0, .ref (q 7)), (1, .int x1), (2, .int x2), (3, .int x3)]) X (by decide) rfl dX4_eyeNeededFor_4 ?_
  refine j_loc [2, 3, 4, 5, 1, 0] rfl ?_
  obtain ⟨j, h⟩ := h
  exact w_X4_eyeNeededFor_6 X j x1 x2 x3 (0 : Int32) (0 : Int32) S h
set_option maxRecDepth 100000 in
theorem i_X4_eyeNeeded_X2 : ∀ w ∈ u_ws RX2 TX2 14, w ∈ wsX4_eyeNeeded := by decide +kernel
set_option maxRecDepth 100000 in
theorem i_X4_eyeNeeded_X4 : ∀ w ∈ u_ws RX4 TX4 8, w ∈ wsX4_eyeNeeded := by decide +kernel
set_option maxRecDepth 100000 in
theorem i_X4_eyeNeeded_X5 : ∀ w ∈ u_ws RX5 TX5 7, w ∈ wsX4_eyeNeeded := by decide +kernel
abbrev rm_X4_eyeNeeded : Room := { frames := 2, cells := 0, slots := 0, locals := 54 }
set_option maxRecDepth 100000 in
set_option maxHeartbeats 4000000 in
theorem w_X4_eyeNeeded_35 {D : va_G} {i : Nat → ClassId} {q : Nat → Nat} {A : Nat → Prop} {p : Program} {l : Launch} {e : Env} {s : State} {m : MethodId} {args : Array Value} {below : List Frame} {meth : Method} {c : Code} (X : cX D i A p s m args meth c cX4_eyeNeeded RX4 6 wsX4_eyeNeeded (some .int)) {K20 : Int32 → Int32 → Int32 → Int32 → vS → Prop} {Q : Int32 → vS → Prop} (hK20 : ∀ (a1 : Int32) (a2 : Int32) (a3 : Int32) (a4 : Int32) (S : vS), K20 a1 a2 a3 a4 S → cJ D A p l e (headSpec wsX4_eyeNeeded rm_X4_eyeNeeded).room s m args below meth c (MQ below (va_Qi Q (vB D i A (wC q i)) A) args s 0 0 A) 6 (wC q i S) [(0, .ref (q 7)), (1, .int a1), (2, .int a2), (3, .int a3), (4, .int a4)] 20 []) : ∀ (n : Nat) (a1 : Int32) (a2 : Int32) (a3 : Int32) (a4 : Int32) (a5 : Int32) (S : vS), e_X4_eyeNeeded_35 K20 Q n a1 a2 a3 a4 a5 S → cJ D A p l e (headSpec wsX4_eyeNeeded rm_X4_eyeNeeded).room s m args below meth c (MQ below (va_Qi Q (vB D i A (wC q i)) A) args s 0 0 A) 6 (wC q i S) [(0, .ref (q 7)), (1, .int a1), (2, .int a2), (3, .int a3), (4, .int a4), (5, .int a5)] 35 [] := by
  intro n
  induction n with
  | zero =>
    intro _ _ _ _ _ S h
    rw [e_X4_eyeNeeded_35.eq_1] at h
    exact h.elim
  | succ n ih =>
    intro a1 a2 a3 a4 a5 S h
    rw [e_X4_eyeNeeded_35.eq_2] at h
    refine j_iload X 5 rfl dX4_eyeNeeded_35 ?_
    refine j_aload_n X rfl 0 rfl dX4_eyeNeeded_37 ?_
    refine jgC_sight_plan X i_X4_eyeNeeded_X4 (by decide +kernel) dX4_eyeNeeded_38 ?_
    refine jgC_plan_width X i_X4_eyeNeeded_X2 (by decide +kernel) dX4_eyeNeeded_41 ?_
    refine j_icmp_ge (tgt := 80) X dX4_eyeNeeded_44 (by decide) (fun c4 => ?_) (fun c4 => ?_)
    · have h := h.1 c4
      refine j_iinc (dv := (1 : Int32)) (lv' := fun v5 => [(4, .int v5), (0, .ref (q 7)), (1, .int a1), (2, .int a2), (3, .int a3), (5, .int a5)]) X dX4_eyeNeeded_80 (pl := 4) rfl (by decide) (by decide) (fun _ => rfl) (fun v5 ev5 => ?_)
      have h := h v5 ev5
      refine j_goto (tgt := 20) X dX4_eyeNeeded_83 (by decide) ?_
      refine j_loc [1, 2, 3, 4, 0] rfl ?_
      exact hK20 a1 a2 a3 v5 S h
    · have h := h.2 c4
      refine j_aload_n X rfl 0 rfl dX4_eyeNeeded_47 ?_
      refine j_iload_n X rfl 1 rfl dX4_eyeNeeded_48 ?_
      refine j_iload X 5 rfl dX4_eyeNeeded_49 ?_
      refine j_iload X 4 rfl dX4_eyeNeeded_51 ?_
      refine j_iload_n X rfl 2 rfl dX4_eyeNeeded_53 ?_
      refine j_Vi (st := []) X [.int a1, .int a5, .int a4, .int a2] 7 (c_X4_inReach l D i q A a1 a5 a4 a2 S _ h) (cwV 4 X.ts gX4_eyeNeeded_X4_inReach rfl rfl rfl (by decide +kernel) ⟨Nat.le_of_ble_eq_true rfl, Nat.le_of_ble_eq_true rfl⟩) rfl rfl rfl rfl (Nat.le_of_ble_eq_true rfl) dX4_eyeNeeded_54 (fun r7 S6 h => ?_)
      refine j_if_eq (tgt := 74) X dX4_eyeNeeded_57 (by decide) (fun c8 => ?_) (fun c8 => ?_)
      · have h := h.1 c8
        refine j_iinc (dv := (1 : Int32)) (lv' := fun v9 => [(5, .int v9), (0, .ref (q 7)), (1, .int a1), (2, .int a2), (3, .int a3), (4, .int a4)]) X dX4_eyeNeeded_74 (pl := 5) rfl (by decide) (by decide) (fun _ => rfl) (fun v9 ev9 => ?_)
        have h := h v9 ev9
        refine j_goto (tgt := 35) X dX4_eyeNeeded_77 (by decide) ?_
        refine j_loc [1, 2, 3, 4, 5, 0] rfl ?_
        exact ih a1 a2 a3 a4 v9 S6 h
      · have h := h.2 c8
        refine j_iload_n X rfl 3 rfl dX4_eyeNeeded_60 ?_
        refine j_aload_n X rfl 0 rfl dX4_eyeNeeded_61 ?_
        refine j_iload_n X rfl 1 rfl dX4_eyeNeeded_62 ?_
        refine j_iload X 5 rfl dX4_eyeNeeded_63 ?_
        refine j_iload X 4 rfl dX4_eyeNeeded_65 ?_
        refine j_Vi (st := [.int a3]) X [.int a1, .int a5, .int a4] 7 (c_X4_eyeNeededFor l D i q A a1 a5 a4 S6 _ h) (cwV 3 X.ts gX4_eyeNeeded_X4_eyeNeededFor rfl rfl rfl (by decide +kernel) ⟨Nat.le_of_ble_eq_true rfl, Nat.le_of_ble_eq_true rfl⟩) rfl rfl rfl rfl (Nat.le_of_ble_eq_true rfl) dX4_eyeNeeded_67 (fun r11 S10 h => ?_)
        refine j_mmax X (by decide +kernel) (Nat.le_of_ble_eq_true rfl) (Nat.le_of_ble_eq_true rfl) dX4_eyeNeeded_70 ?_
        refine j_topi (fun v12 ev12 => ?_)
        have h := h v12 ev12
        refine j_istore_n (lv' := [(3, .int v12), (0, .ref (q 7)), (1, .int a1), (2, .int a2), (4, .int a4), (5, .int a5)]) X rfl (by decide) rfl dX4_eyeNeeded_73 ?_
        refine j_iinc (dv := (1 : Int32)) (lv' := fun v13 => [(5, .int v13), (3, .int v12), (0, .ref (q 7)), (1, .int a1), (2, .int a2), (4, .int a4)]) X dX4_eyeNeeded_74 (pl := 5) rfl (by decide) (by decide) (fun _ => rfl) (fun v13 ev13 => ?_)
        have h := h v13 ev13
        refine j_goto (tgt := 35) X dX4_eyeNeeded_77 (by decide) ?_
        refine j_loc [2, 3, 4, 1, 5, 0] rfl ?_
        exact ih a1 a2 v12 a4 v13 S10 h
set_option maxRecDepth 100000 in
set_option maxHeartbeats 4000000 in
theorem w_X4_eyeNeeded_20 {D : va_G} {i : Nat → ClassId} {q : Nat → Nat} {A : Nat → Prop} {p : Program} {l : Launch} {e : Env} {s : State} {m : MethodId} {args : Array Value} {below : List Frame} {meth : Method} {c : Code} (X : cX D i A p s m args meth c cX4_eyeNeeded RX4 6 wsX4_eyeNeeded (some .int)) {Q : Int32 → vS → Prop} : ∀ (n : Nat) (a1 : Int32) (a2 : Int32) (a3 : Int32) (a4 : Int32) (S : vS), e_X4_eyeNeeded_20 Q n a1 a2 a3 a4 S → cJ D A p l e (headSpec wsX4_eyeNeeded rm_X4_eyeNeeded).room s m args below meth c (MQ below (va_Qi Q (vB D i A (wC q i)) A) args s 0 0 A) 6 (wC q i S) [(0, .ref (q 7)), (1, .int a1), (2, .int a2), (3, .int a3), (4, .int a4)] 20 [] := by
  intro n
  induction n with
  | zero =>
    intro _ _ _ _ S h
    rw [e_X4_eyeNeeded_20.eq_1] at h
    exact h.elim
  | succ n ih =>
    intro a1 a2 a3 a4 S h
    rw [e_X4_eyeNeeded_20.eq_2] at h
    refine j_iload X 4 rfl dX4_eyeNeeded_20 ?_
    refine j_aload_n X rfl 0 rfl dX4_eyeNeeded_22 ?_
    refine jgC_sight_plan X i_X4_eyeNeeded_X4 (by decide +kernel) dX4_eyeNeeded_23 ?_
    refine jgC_plan_height X i_X4_eyeNeeded_X2 (by decide +kernel) dX4_eyeNeeded_26 ?_
    refine j_icmp_ge (tgt := 86) X dX4_eyeNeeded_29 (by decide) (fun c3 => ?_) (fun c3 => ?_)
    · have h := h.1 c3
      refine j_iload_n X rfl 3 rfl dX4_eyeNeeded_86 ?_
      exact j_iret X h dX4_eyeNeeded_87
    · have h := h.2 c3
      refine j_iconst (v := (0 : Int32)) X (by decide) dX4_eyeNeeded_32 ?_
      refine j_istore (lv' := [(5, .int (0 : Int32)), (0, .ref (q 7)), (1, .int a1), (2, .int a2), (3, .int a3), (4, .int a4)]) X (by decide) rfl dX4_eyeNeeded_33 ?_
      refine j_loc [1, 2, 3, 4, 5, 0] rfl ?_
      obtain ⟨j, h⟩ := h
      exact w_X4_eyeNeeded_35 X (fun y0 y1 y2 y3 S h => ih y0 y1 y2 y3 S h) j a1 a2 a3 a4 (0 : Int32) S h
set_option maxRecDepth 100000 in
set_option maxHeartbeats 4000000 in
theorem c_X4_eyeNeeded (l : Launch) (D : va_G) (i : Nat → ClassId) (q : Nat → Nat) (A : Nat → Prop) (x1 : Int32) (S : vS) (Q : Int32 → vS → Prop) (h : e_X4_eyeNeeded x1 S Q) : Met l yX4_eyeNeeded wsX4_eyeNeeded rm_X4_eyeNeeded (va_Pc [.ref (q 7), .int x1] (vB D i A (wC q i) S)) (va_Qi Q (vB D i A (wC q i)) A) 0 0 A := by
  refine m_ofJ (own := RX4) (lv := [(0, .ref (q 7)), (1, .int x1)]) rfl (by decide) rfl (Nat.le_of_ble_eq_true rfl) rfl ?_
  intro p e s m below meth c X
  unfold e_X4_eyeNeeded at h
  refine j_aload_n X rfl 0 rfl dX4_eyeNeeded_0 ?_
  refine jgC_sight_plan X i_X4_eyeNeeded_X4 (by decide +kernel) dX4_eyeNeeded_1 ?_
  refine j_aload_n X rfl 0 rfl dX4_eyeNeeded_4 ?_
  refine jgC_sight_now X i_X4_eyeNeeded_X4 (by decide +kernel) dX4_eyeNeeded_5 ?_
  refine jgC_now_today X i_X4_eyeNeeded_X5 (by decide +kernel) dX4_eyeNeeded_8 ?_
  refine j_Vi (st := []) X [.int (S.1 16)] 1 (c_X2_farOn_plan l D i q A (S.1 16) S _ h) (cwV 1 X.ts gX4_eyeNeeded_X2_farOn rfl rfl rfl (by decide +kernel) ⟨Nat.le_of_ble_eq_true rfl, Nat.le_of_ble_eq_true rfl⟩) rfl rfl rfl rfl (Nat.le_of_ble_eq_true rfl) dX4_eyeNeeded_11 (fun r2 S1 h => ?_)
  refine j_istore_n (lv' := [(2, .int r2), (0, .ref (q 7)), (1, .int x1)]) X rfl (by decide) rfl dX4_eyeNeeded_14 ?_
  refine j_iconst (v := (0 : Int32)) X (by decide) dX4_eyeNeeded_15 ?_
  refine j_istore_n (lv' := [(3, .int (0 : Int32)), (2, .int r2), (0, .ref (q 7)), (1, .int x1)]) X rfl (by decide) rfl dX4_eyeNeeded_16 ?_
  refine j_iconst (v := (0 : Int32)) X (by decide) dX4_eyeNeeded_17 ?_
  refine j_istore (lv' := [(4, .int (0 : Int32)), (3, .int (0 : Int32)), (2, .int r2), (0, .ref (q 7)), (1, .int x1)]) X (by decide) rfl dX4_eyeNeeded_18 ?_
  refine j_loc [3, 4, 2, 1, 0] rfl ?_
  obtain ⟨j, h⟩ := h
  exact w_X4_eyeNeeded_20 X j x1 r2 (0 : Int32) (0 : Int32) S1 h
set_option maxRecDepth 100000 in
theorem i_X6_needed_X2 : ∀ w ∈ u_ws RX2 TX2 14, w ∈ wsX6_needed := by decide +kernel
set_option maxRecDepth 100000 in
theorem i_X6_needed_X6 : ∀ w ∈ u_ws RX6 TX6 8, w ∈ wsX6_needed := by decide +kernel
abbrev rm_X6_needed : Room := { frames := 3, cells := 0, slots := 0, locals := 79 }
set_option maxRecDepth 100000 in
set_option maxHeartbeats 4000000 in
theorem c_X6_needed (l : Launch) (D : va_G) (i : Nat → ClassId) (q : Nat → Nat) (A : Nat → Prop) (x1 : Int32) (S : vS) (Q : Int32 → vS → Prop) (h : e_X6_needed x1 S Q) : Met l yX6_needed wsX6_needed rm_X6_needed (va_Pc [.ref (q 0), .int x1] (vB D i A (wC q i) S)) (va_Qi Q (vB D i A (wC q i)) A) 0 0 A := by
  refine m_ofJ (own := RX6) (lv := [(0, .ref (q 0)), (1, .int x1)]) rfl (by decide) rfl (Nat.le_of_ble_eq_true rfl) rfl ?_
  intro p e s m below meth c X
  unfold e_X6_needed at h
  refine j_aload_n X rfl 0 rfl dX6_needed_0 ?_
  refine jgC_main_plan X i_X6_needed_X6 (by decide +kernel) dX6_needed_1 ?_
  refine j_iload_n X rfl 1 rfl dX6_needed_4 ?_
  refine j_Vi (st := []) X [.int x1] 1 (c_X2_hasMan_plan l D i q A x1 S _ h) (cwV 1 X.ts gX6_needed_X2_hasMan rfl rfl rfl (by decide +kernel) ⟨Nat.le_of_ble_eq_true rfl, Nat.le_of_ble_eq_true rfl⟩) rfl rfl rfl rfl (Nat.le_of_ble_eq_true rfl) dX6_needed_5 (fun r2 S1 h => ?_)
  refine j_if_ne (tgt := 14) X dX6_needed_8 (by decide) (fun c3 => ?_) (fun c3 => ?_)
  · have h := h.1 c3
    refine j_aload_n X rfl 0 rfl dX6_needed_14 ?_
    refine jgC_main_sight X i_X6_needed_X6 (by decide +kernel) dX6_needed_15 ?_
    refine j_iload_n X rfl 1 rfl dX6_needed_18 ?_
    refine j_Vi (st := []) X [.int x1] 7 (c_X4_eyeNeeded l D i q A x1 S1 _ h) (cwV 1 X.ts gX6_needed_X4_eyeNeeded rfl rfl rfl (by decide +kernel) ⟨Nat.le_of_ble_eq_true rfl, Nat.le_of_ble_eq_true rfl⟩) rfl rfl rfl rfl (Nat.le_of_ble_eq_true rfl) dX6_needed_19 (fun r5 S4 h => ?_)
    refine j_aload_n X rfl 0 rfl dX6_needed_22 ?_
    refine jgC_main_sight X i_X6_needed_X6 (by decide +kernel) dX6_needed_23 ?_
    refine j_iload_n X rfl 1 rfl dX6_needed_26 ?_
    refine j_Vi (st := [.int r5]) X [.int x1] 7 (c_X4_eyeOf l D i q A x1 S4 _ h) (cwV 1 X.ts gX6_needed_X4_eyeOf rfl rfl rfl (by decide +kernel) ⟨Nat.le_of_ble_eq_true rfl, Nat.le_of_ble_eq_true rfl⟩) rfl rfl rfl rfl (Nat.le_of_ble_eq_true rfl) dX6_needed_27 (fun r7 S6 h => ?_)
    refine j_isub X dX6_needed_30 ?_
    refine j_topi (fun v8 ev8 => ?_)
    have h := h v8 ev8
    refine j_istore_n (lv' := [(2, .int v8), (0, .ref (q 0)), (1, .int x1)]) X rfl (by decide) rfl dX6_needed_31 ?_
    refine j_iload_n X rfl 0 rfl dX6_needed_32 ?_
    refine j_if_gt (tgt := 38) X dX6_needed_33 (by decide) (fun c9 => ?_) (fun c9 => ?_)
    · have h := h.1 c9
      refine j_iconst (v := (1 : Int32)) X (by decide) dX6_needed_38 ?_
      refine j_aload_n X rfl 1 rfl dX6_needed_39 ?_
      refine jgC_main_plan X i_X6_needed_X6 (by decide +kernel) dX6_needed_40 ?_
      refine jgC_plan_storeyHigh X i_X6_needed_X2 (by decide +kernel) dX6_needed_43 ?_
      refine j_mmax X (by decide +kernel) (Nat.le_of_ble_eq_true rfl) (Nat.le_of_ble_eq_true rfl) dX6_needed_46 ?_
      refine j_topi (fun v10 ev10 => ?_)
      have h := h v10 ev10
      refine j_istore_n (lv' := [(3, .int v10), (2, .int v8), (0, .ref (q 0)), (1, .int x1)]) X rfl (by decide) rfl dX6_needed_49 ?_
      refine j_iload_n X rfl 1 rfl dX6_needed_50 ?_
      refine j_iload_n X rfl 0 rfl dX6_needed_51 ?_
      refine j_iadd X dX6_needed_52 ?_
      refine j_iconst (v := (1 : Int32)) X (by decide) dX6_needed_53 ?_
      refine j_isub X dX6_needed_54 ?_
      refine j_iload_n X rfl 0 rfl dX6_needed_55 ?_
      obtain ⟨k11, h⟩ := h
      refine j_idiv X k11 dX6_needed_56 ?_
      refine j_topi (fun v12 ev12 => ?_)
      have h := h v12 ev12
      refine j_istore (lv' := [(4, .int v12), (3, .int v10), (2, .int v8), (0, .ref (q 0)), (1, .int x1)]) X (by decide) rfl dX6_needed_57 ?_
      refine j_iload X 0 rfl dX6_needed_59 ?_
      refine j_bipush (v := (99 : Int32)) X (by decide) dX6_needed_61 ?_
      refine j_icmp_le (tgt := 70) X dX6_needed_63 (by decide) (fun c13 => ?_) (fun c13 => ?_)
      · have h := h.1 c13
        refine j_iload X 0 rfl dX6_needed_70 ?_
        exact j_iret X h dX6_needed_72
      · have h := h.2 c13
        refine j_iconst (v := (-1 : Int32)) X (by decide) dX6_needed_66 ?_
        refine j_goto (tgt := 72) X dX6_needed_67 (by decide) ?_
        exact j_iret X h dX6_needed_72
    · have h := h.2 c9
      refine j_iconst (v := (0 : Int32)) X (by decide) dX6_needed_36 ?_
      exact j_iret X h dX6_needed_37
  · have h := h.2 c3
    refine j_ldc (v := (-1000000001 : Int32)) X (by decide +kernel) dX6_needed_11 ?_
    exact j_iret X h dX6_needed_13
set_option maxRecDepth 100000 in
theorem i_X1_add_X1 : ∀ w ∈ u_ws RX1 TX1 4, w ∈ wsX1_add := by decide +kernel
abbrev rm_X1_add : Room := { frames := 0, cells := 0, slots := 0, locals := 0 }
set_option maxRecDepth 100000 in
set_option maxHeartbeats 4000000 in
theorem c_X1_add (l : Launch) (D : va_G) (i : Nat → ClassId) (q : Nat → Nat) (A : Nat → Prop) (x1 : Int32) (x2 : Int32) (x3 : Int32) (S : vS) (Q : vS → Prop) (h : e_X1_add x1 x2 x3 S Q) : Met l yX1_add wsX1_add rm_X1_add (va_Pc [.ref (q 8), .int x1, .int x2, .int x3] (vB D i A (wC q i) S)) (va_Qv Q (vB D i A (wC q i)) A) 0 0 A := by
  refine m_ofJ (own := RX1) (lv := [(0, .ref (q 8)), (1, .int x1), (2, .int x2), (3, .int x3)]) rfl (by decide) rfl (Nat.le_of_ble_eq_true rfl) rfl ?_
  intro p e s m below meth c X
  unfold e_X1_add at h
  refine j_aload_n X rfl 0 rfl dX1_add_0 ?_
  refine jgC_book_claims X i_X1_add_X1 (by decide +kernel) dX1_add_1 ?_
  refine j_bipush (v := (40 : Int32)) X (by decide) dX1_add_4 ?_
  refine j_icmp_ge (tgt := 49) X dX1_add_6 (by decide) (fun c1 => ?_) (fun c1 => ?_)
  · have h := h.1 c1
    exact j_vret X h dX1_add_49
  · have h := h.2 c1
    refine j_aload_n X rfl 0 rfl dX1_add_9 ?_
    refine jgC_book_men X i_X1_add_X1 (by decide +kernel) dX1_add_10 ?_
    refine j_aload_n X rfl 0 rfl dX1_add_13 ?_
    refine jgC_book_claims X i_X1_add_X1 (by decide +kernel) dX1_add_14 ?_
    refine j_iload_n X rfl 1 rfl dX1_add_17 ?_
    obtain ⟨k2, h⟩ := h
    refine jsC_book_men X k2 dX1_add_18 (fun S3 eS3 => ?_)
    have h := h S3 eS3
    refine j_aload_n X rfl 0 rfl dX1_add_19 ?_
    refine jgC_book_xs X i_X1_add_X1 (by decide +kernel) dX1_add_20 ?_
    refine j_aload_n X rfl 0 rfl dX1_add_23 ?_
    refine jgC_book_claims X i_X1_add_X1 (by decide +kernel) dX1_add_24 ?_
    refine j_iload_n X rfl 2 rfl dX1_add_27 ?_
    obtain ⟨k4, h⟩ := h
    refine jsC_book_xs X k4 dX1_add_28 (fun S5 eS5 => ?_)
    have h := h S5 eS5
    refine j_aload_n X rfl 0 rfl dX1_add_29 ?_
    refine jgC_book_ys X i_X1_add_X1 (by decide +kernel) dX1_add_30 ?_
    refine j_aload_n X rfl 0 rfl dX1_add_33 ?_
    refine jgC_book_claims X i_X1_add_X1 (by decide +kernel) dX1_add_34 ?_
    refine j_iload_n X rfl 3 rfl dX1_add_37 ?_
    obtain ⟨k6, h⟩ := h
    refine jsC_book_ys X k6 dX1_add_38 (fun S7 eS7 => ?_)
    have h := h S7 eS7
    refine j_aload_n X rfl 0 rfl dX1_add_39 ?_
    refine j_dup X rfl dX1_add_40 ?_
    refine jgC_book_claims X i_X1_add_X1 (by decide +kernel) dX1_add_41 ?_
    refine j_iconst (v := (1 : Int32)) X (by decide) dX1_add_44 ?_
    refine j_iadd X dX1_add_45 ?_
    refine jpC_book_claims X i_X1_add_X1 (by decide +kernel) dX1_add_46 (fun S8 eS8 => ?_)
    have h := h S8 eS8
    exact j_vret X h dX1_add_49
set_option maxRecDepth 100000 in
theorem i_X6_write_X1 : ∀ w ∈ u_ws RX1 TX1 4, w ∈ wsX6_write := by decide +kernel
set_option maxRecDepth 100000 in
theorem i_X6_write_X6 : ∀ w ∈ u_ws RX6 TX6 8, w ∈ wsX6_write := by decide +kernel
abbrev rm_X6_write : Room := { frames := 1, cells := 0, slots := 0, locals := 23 }
set_option maxRecDepth 100000 in
set_option maxHeartbeats 4000000 in
theorem c_X6_write (l : Launch) (D : va_G) (i : Nat → ClassId) (q : Nat → Nat) (A : Nat → Prop) (x1 : Int32) (x2 : Int32) (x3 : Int32) (S : vS) (Q : Int32 → vS → Prop) (h : e_X6_write x1 x2 x3 S Q) : Met l yX6_write wsX6_write rm_X6_write (va_Pc [.ref (q 0), .int x1, .int x2, .int x3] (vB D i A (wC q i) S)) (va_Qi Q (vB D i A (wC q i)) A) 0 0 A := by
  refine m_ofJ (own := RX6) (lv := [(0, .ref (q 0)), (1, .int x1), (2, .int x2), (3, .int x3)]) rfl (by decide) rfl (Nat.le_of_ble_eq_true rfl) rfl ?_
  intro p e s m below meth c X
  unfold e_X6_write at h
  refine j_aload_n X rfl 0 rfl dX6_write_0 ?_
  refine jgC_main_plan X i_X6_write_X6 (by decide +kernel) dX6_write_1 ?_
  refine j_iload_n X rfl 1 rfl dX6_write_4 ?_
  refine j_Vi (st := []) X [.int x1] 1 (c_X2_hasMan_plan l D i q A x1 S _ h) (cwV 1 X.ts gX6_write_X2_hasMan rfl rfl rfl (by decide +kernel) ⟨Nat.le_of_ble_eq_true rfl, Nat.le_of_ble_eq_true rfl⟩) rfl rfl rfl rfl (Nat.le_of_ble_eq_true rfl) dX6_write_5 (fun r2 S1 h => ?_)
  refine j_if_eq (tgt := 23) X dX6_write_8 (by decide) (fun c3 => ?_) (fun c3 => ?_)
  · have h := h.1 c3
    refine j_ldc (v := (-1000000001 : Int32)) X (by decide +kernel) dX6_write_23 ?_
    exact j_iret X h dX6_write_25
  · have h := h.2 c3
    refine j_aload_n X rfl 0 rfl dX6_write_11 ?_
    refine jgC_main_plan X i_X6_write_X6 (by decide +kernel) dX6_write_12 ?_
    refine j_iload_n X rfl 2 rfl dX6_write_15 ?_
    refine j_iload_n X rfl 3 rfl dX6_write_16 ?_
    refine j_Vi (st := []) X [.int x2, .int x3] 1 (c_X2_hasCell_plan l D i q A x2 x3 S1 _ h) (cwV 2 X.ts gX6_write_X2_hasCell rfl rfl rfl (by decide +kernel) ⟨Nat.le_of_ble_eq_true rfl, Nat.le_of_ble_eq_true rfl⟩) rfl rfl rfl rfl (Nat.le_of_ble_eq_true rfl) dX6_write_17 (fun r5 S4 h => ?_)
    refine j_if_ne (tgt := 26) X dX6_write_20 (by decide) (fun c6 => ?_) (fun c6 => ?_)
    · have h := h.1 c6
      refine j_aload_n X rfl 0 rfl dX6_write_26 ?_
      refine jgC_main_book X i_X6_write_X6 (by decide +kernel) dX6_write_27 ?_
      refine jgC_book_claims X i_X6_write_X1 (by decide +kernel) dX6_write_30 ?_
      refine j_bipush (v := (40 : Int32)) X (by decide) dX6_write_33 ?_
      refine j_icmp_lt (tgt := 41) X dX6_write_35 (by decide) (fun c7 => ?_) (fun c7 => ?_)
      · have h := h.1 c7
        refine j_aload_n X rfl 0 rfl dX6_write_41 ?_
        refine jgC_main_book X i_X6_write_X6 (by decide +kernel) dX6_write_42 ?_
        refine j_iload_n X rfl 1 rfl dX6_write_45 ?_
        refine j_iload_n X rfl 2 rfl dX6_write_46 ?_
        refine j_iload_n X rfl 3 rfl dX6_write_47 ?_
        refine j_Vv (st := []) X [.int x1, .int x2, .int x3] 8 (c_X1_add l D i q A x1 x2 x3 S4 _ h) (cwV 3 X.ts gX6_write_X1_add rfl rfl rfl (by decide +kernel) ⟨Nat.le_of_ble_eq_true rfl, Nat.le_of_ble_eq_true rfl⟩) rfl rfl rfl rfl (Nat.le_of_ble_eq_true rfl) dX6_write_48 (fun S8 h => ?_)
        refine j_aload_n X rfl 0 rfl dX6_write_51 ?_
        refine jgC_main_book X i_X6_write_X6 (by decide +kernel) dX6_write_52 ?_
        refine jgC_book_claims X i_X6_write_X1 (by decide +kernel) dX6_write_55 ?_
        exact j_iret X h dX6_write_58
      · have h := h.2 c7
        refine j_ldc (v := (-1000000004 : Int32)) X (by decide +kernel) dX6_write_38 ?_
        exact j_iret X h dX6_write_40
    · have h := h.2 c6
      refine j_ldc (v := (-1000000001 : Int32)) X (by decide +kernel) dX6_write_23 ?_
      exact j_iret X h dX6_write_25
set_option maxRecDepth 100000 in
theorem i_X6_tear_X1 : ∀ w ∈ u_ws RX1 TX1 4, w ∈ wsX6_tear := by decide +kernel
set_option maxRecDepth 100000 in
theorem i_X6_tear_X6 : ∀ w ∈ u_ws RX6 TX6 8, w ∈ wsX6_tear := by decide +kernel
abbrev rm_X6_tear : Room := { frames := 0, cells := 0, slots := 0, locals := 0 }
set_option maxRecDepth 100000 in
set_option maxHeartbeats 4000000 in
theorem c_X6_tear (l : Launch) (D : va_G) (i : Nat → ClassId) (q : Nat → Nat) (A : Nat → Prop) (S : vS) (Q : Int32 → vS → Prop) (h : e_X6_tear S Q) : Met l yX6_tear wsX6_tear rm_X6_tear (va_Pc [.ref (q 0)] (vB D i A (wC q i) S)) (va_Qi Q (vB D i A (wC q i)) A) 0 0 A := by
  refine m_ofJ (own := RX6) (lv := [(0, .ref (q 0))]) rfl (by decide) rfl (Nat.le_of_ble_eq_true rfl) rfl ?_
  intro p e s m below meth c X
  unfold e_X6_tear at h
  refine j_aload_n X rfl 0 rfl dX6_tear_0 ?_
  refine jgC_main_book X i_X6_tear_X6 (by decide +kernel) dX6_tear_1 ?_
  refine jgC_book_claims X i_X6_tear_X1 (by decide +kernel) dX6_tear_4 ?_
  refine j_topi (fun v1 ev1 => ?_)
  have h := h v1 ev1
  refine j_istore_n (lv' := [(1, .int v1), (0, .ref (q 0))]) X rfl (by decide) rfl dX6_tear_7 ?_
  refine j_aload_n X rfl 1 rfl dX6_tear_8 ?_
  refine jgC_main_book X i_X6_tear_X6 (by decide +kernel) dX6_tear_9 ?_
  refine j_iconst (v := (0 : Int32)) X (by decide) dX6_tear_12 ?_
  refine jpC_book_claims X i_X6_tear_X1 (by decide +kernel) dX6_tear_13 (fun S2 eS2 => ?_)
  have h := h S2 eS2
  refine j_iload_n X rfl 0 rfl dX6_tear_16 ?_
  exact j_iret X h dX6_tear_17
set_option maxRecDepth 100000 in
theorem i_X6_judge_X1 : ∀ w ∈ u_ws RX1 TX1 4, w ∈ wsX6_judge := by decide +kernel
set_option maxRecDepth 100000 in
theorem i_X6_judge_X6 : ∀ w ∈ u_ws RX6 TX6 8, w ∈ wsX6_judge := by decide +kernel
abbrev rm_X6_judge : Room := { frames := 5, cells := 0, slots := 0, locals := 122 }
set_option maxRecDepth 100000 in
set_option maxHeartbeats 4000000 in
theorem w_X6_judge_9 {D : va_G} {i : Nat → ClassId} {q : Nat → Nat} {A : Nat → Prop} {p : Program} {l : Launch} {e : Env} {s : State} {m : MethodId} {args : Array Value} {below : List Frame} {meth : Method} {c : Code} (X : cX D i A p s m args meth c cX6_judge RX6 3 wsX6_judge (some .int)) {Q : Int32 → vS → Prop} : ∀ (n : Nat) (a1 : Int32) (S : vS), e_X6_judge_9 Q n a1 S → cJ D A p l e (headSpec wsX6_judge rm_X6_judge).room s m args below meth c (MQ below (va_Qi Q (vB D i A (wC q i)) A) args s 0 0 A) 3 (wC q i S) [(0, .ref (q 0)), (1, .int a1)] 9 [] := by
  intro n
  induction n with
  | zero =>
    intro _ S h
    rw [e_X6_judge_9.eq_1] at h
    exact h.elim
  | succ n ih =>
    intro a1 S h
    rw [e_X6_judge_9.eq_2] at h
    refine j_iload_n X rfl 1 rfl dX6_judge_9 ?_
    refine j_aload_n X rfl 0 rfl dX6_judge_10 ?_
    refine jgC_main_book X i_X6_judge_X6 (by decide +kernel) dX6_judge_11 ?_
    refine jgC_book_claims X i_X6_judge_X1 (by decide +kernel) dX6_judge_14 ?_
    refine j_icmp_ge (tgt := 70) X dX6_judge_17 (by decide) (fun c3 => ?_) (fun c3 => ?_)
    · have h := h.1 c3
      refine j_iconst (v := (-1 : Int32)) X (by decide) dX6_judge_70 ?_
      exact j_iret X h dX6_judge_71
    · have h := h.2 c3
      refine j_aload_n X rfl 0 rfl dX6_judge_20 ?_
      refine jgC_main_sight X i_X6_judge_X6 (by decide +kernel) dX6_judge_21 ?_
      refine j_aload_n X rfl 0 rfl dX6_judge_24 ?_
      refine jgC_main_book X i_X6_judge_X6 (by decide +kernel) dX6_judge_25 ?_
      refine jgC_book_xs X i_X6_judge_X1 (by decide +kernel) dX6_judge_28 ?_
      refine j_iload_n X rfl 1 rfl dX6_judge_31 ?_
      obtain ⟨k4, h⟩ := h
      refine jlC_book_xs X k4 dX6_judge_32 ?_
      refine j_aload_n X rfl 0 rfl dX6_judge_33 ?_
      refine jgC_main_book X i_X6_judge_X6 (by decide +kernel) dX6_judge_34 ?_
      refine jgC_book_ys X i_X6_judge_X1 (by decide +kernel) dX6_judge_37 ?_
      refine j_iload_n X rfl 1 rfl dX6_judge_40 ?_
      refine jlC_book_ys X k4 dX6_judge_41 ?_
      refine j_Vi (st := []) X [.int (S.2.1 34 (a1).toNatClampNeg), .int (S.2.1 35 (a1).toNatClampNeg)] 7 (c_X4_ownersOf l D i q A (S.2.1 34 (a1).toNatClampNeg) (S.2.1 35 (a1).toNatClampNeg) S _ h) (cwV 2 X.ts gX6_judge_X4_ownersOf rfl rfl rfl (by decide +kernel) ⟨Nat.le_of_ble_eq_true rfl, Nat.le_of_ble_eq_true rfl⟩) rfl rfl rfl rfl (Nat.le_of_ble_eq_true rfl) dX6_judge_42 (fun r6 S5 h => ?_)
      refine j_istore_n (lv' := [(2, .int r6), (0, .ref (q 0)), (1, .int a1)]) X rfl (by decide) rfl dX6_judge_45 ?_
      refine j_iload_n X rfl 0 rfl dX6_judge_46 ?_
      refine j_aload_n X rfl 1 rfl dX6_judge_47 ?_
      refine jgC_main_book X i_X6_judge_X6 (by decide +kernel) dX6_judge_48 ?_
      refine jgC_book_men X i_X6_judge_X1 (by decide +kernel) dX6_judge_51 ?_
      refine j_iload_n X rfl 2 rfl dX6_judge_54 ?_
      refine jlC_book_men X k4 dX6_judge_55 ?_
      refine j_Si (st := []) X [.int r6, .int (S5.2.1 33 (a1).toNatClampNeg)] (c_X6_holds l D i q A r6 (S5.2.1 33 (a1).toNatClampNeg) S5 _ h) (va_cwS 2 X.ts gX6_judge_X6_holds rfl rfl rfl (by decide +kernel) ⟨Nat.le_of_ble_eq_true rfl, Nat.le_of_ble_eq_true rfl⟩) rfl rfl (Nat.le_of_ble_eq_true rfl) dX6_judge_56 (fun r8 S7 h => ?_)
      refine j_if_ne (tgt := 64) X dX6_judge_59 (by decide) (fun c9 => ?_) (fun c9 => ?_)
      · have h := h.1 c9
        refine j_iinc (dv := (1 : Int32)) (lv' := fun v10 => [(1, .int v10), (2, .int r6), (0, .ref (q 0))]) X dX6_judge_64 (pl := 2) rfl (by decide) (by decide) (fun _ => rfl) (fun v10 ev10 => ?_)
        have h := h v10 ev10
        refine j_goto (tgt := 9) X dX6_judge_67 (by decide) ?_
        refine j_loc [2, 0] rfl ?_
        exact ih v10 S7 h
      · have h := h.2 c9
        refine j_iload_n X rfl 2 rfl dX6_judge_62 ?_
        exact j_iret X h dX6_judge_63
set_option maxRecDepth 100000 in
set_option maxHeartbeats 4000000 in
theorem c_X6_judge (l : Launch) (D : va_G) (i : Nat → ClassId) (q : Nat → Nat) (A : Nat → Prop) (S : vS) (Q : Int32 → vS → Prop) (h : e_X6_judge S Q) : Met l yX6_judge wsX6_judge rm_X6_judge (va_Pc [.ref (q 0)] (vB D i A (wC q i) S)) (va_Qi Q (vB D i A (wC q i)) A) 0 0 A := by
  refine m_ofJ (own := RX6) (lv := [(0, .ref (q 0))]) rfl (by decide) rfl (Nat.le_of_ble_eq_true rfl) rfl ?_
  intro p e s m below meth c X
  unfold e_X6_judge at h
  refine j_aload_n X rfl 0 rfl dX6_judge_0 ?_
  refine jgC_main_sight X i_X6_judge_X6 (by decide +kernel) dX6_judge_1 ?_
  refine j_Vv (st := []) X [] 7 (c_X4_lookAll l D i q A S _ h) (cwV 0 X.ts gX6_judge_X4_lookAll rfl rfl rfl (by decide +kernel) ⟨Nat.le_of_ble_eq_true rfl, Nat.le_of_ble_eq_true rfl⟩) rfl rfl rfl rfl (Nat.le_of_ble_eq_true rfl) dX6_judge_4 (fun S1 h => ?_)
  refine j_iconst (v := (0 : Int32)) X (by decide) dX6_judge_7 ?_
  refine j_istore_n (lv' := [(1, .int (0 : Int32)), (0, .ref (q 0))]) X rfl (by decide) rfl dX6_judge_8 ?_
  refine j_loc [1, 0] rfl ?_
  obtain ⟨j, h⟩ := h
  exact w_X6_judge_9 X j (0 : Int32) S1 h
set_option maxRecDepth 100000 in
theorem i_X6_seed_X5 : ∀ w ∈ u_ws RX5 TX5 7, w ∈ wsX6_seed := by decide +kernel
set_option maxRecDepth 100000 in
theorem i_X6_seed_X6 : ∀ w ∈ u_ws RX6 TX6 8, w ∈ wsX6_seed := by decide +kernel
abbrev rm_X6_seed : Room := { frames := 0, cells := 0, slots := 0, locals := 0 }
set_option maxRecDepth 100000 in
set_option maxHeartbeats 4000000 in
theorem c_X6_seed (l : Launch) (D : va_G) (i : Nat → ClassId) (q : Nat → Nat) (A : Nat → Prop) (x1 : Int32) (S : vS) (Q : Int32 → vS → Prop) (h : e_X6_seed x1 S Q) : Met l yX6_seed wsX6_seed rm_X6_seed (va_Pc [.ref (q 0), .int x1] (vB D i A (wC q i) S)) (va_Qi Q (vB D i A (wC q i)) A) 0 0 A := by
  refine m_ofJ (own := RX6) (lv := [(0, .ref (q 0)), (1, .int x1)]) rfl (by decide) rfl (Nat.le_of_ble_eq_true rfl) rfl ?_
  intro p e s m below meth c X
  unfold e_X6_seed at h
  refine j_iload_n X rfl 1 rfl dX6_seed_0 ?_
  refine j_if_ge (tgt := 7) X dX6_seed_1 (by decide) (fun c1 => ?_) (fun c1 => ?_)
  · have h := h.1 c1
    refine j_aload_n X rfl 0 rfl dX6_seed_7 ?_
    refine jgC_main_now X i_X6_seed_X6 (by decide +kernel) dX6_seed_8 ?_
    refine jgC_now_drawn X i_X6_seed_X5 (by decide +kernel) dX6_seed_11 ?_
    refine j_topi (fun v2 ev2 => ?_)
    have h := h v2 ev2
    refine j_istore_n (lv' := [(2, .int v2), (0, .ref (q 0)), (1, .int x1)]) X rfl (by decide) rfl dX6_seed_14 ?_
    refine j_aload_n X rfl 1 rfl dX6_seed_15 ?_
    refine jgC_main_now X i_X6_seed_X6 (by decide +kernel) dX6_seed_16 ?_
    refine j_iload_n X rfl 2 rfl dX6_seed_19 ?_
    refine jpC_now_drawn X i_X6_seed_X5 (by decide +kernel) dX6_seed_20 (fun S3 eS3 => ?_)
    have h := h S3 eS3
    refine j_iload_n X rfl 0 rfl dX6_seed_23 ?_
    exact j_iret X h dX6_seed_24
  · have h := h.2 c1
    refine j_ldc (v := (-1000000002 : Int32)) X (by decide +kernel) dX6_seed_4 ?_
    exact j_iret X h dX6_seed_6
set_option maxRecDepth 100000 in
theorem i_X5_copyFrom_im0_now_X5 : ∀ w ∈ u_ws RX5 TX5 7, w ∈ wsX5_copyFrom := by decide +kernel
abbrev rm_X5_copyFrom_im0_now : Room := { frames := 1, cells := 0, slots := 0, locals := 128 }
set_option maxRecDepth 100000 in
set_option maxHeartbeats 4000000 in
theorem c_X5_copyFrom_im0_now (l : Launch) (D : va_G) (i : Nat → ClassId) (q : Nat → Nat) (A : Nat → Prop) (S : vS) (Q : vS → Prop) (h : e_X5_copyFrom_im0_now S Q) : Met l yX5_copyFrom wsX5_copyFrom rm_X5_copyFrom_im0_now (va_Pc [.ref (q 5), .ref (q 4)] (vB D i A (wC q i) S)) (va_Qv Q (vB D i A (wC q i)) A) 0 0 A := by
  refine m_ofJ (own := RX5) (lv := [(0, .ref (q 5)), (1, .ref (q 4))]) rfl (by decide) rfl (Nat.le_of_ble_eq_true rfl) rfl ?_
  intro p e s m below meth c X
  unfold e_X5_copyFrom_im0_now at h
  refine j_aload_n X rfl 0 rfl dX5_copyFrom_0 ?_
  refine j_aload_n X rfl 1 rfl dX5_copyFrom_1 ?_
  refine jgC_now_today X i_X5_copyFrom_im0_now_X5 (by decide +kernel) dX5_copyFrom_2 ?_
  refine jpC_im0_today X i_X5_copyFrom_im0_now_X5 (by decide +kernel) dX5_copyFrom_5 (fun S1 eS1 => ?_)
  have h := h S1 eS1
  refine j_aload_n X rfl 0 rfl dX5_copyFrom_8 ?_
  refine j_aload_n X rfl 1 rfl dX5_copyFrom_9 ?_
  refine jgC_now_rule X i_X5_copyFrom_im0_now_X5 (by decide +kernel) dX5_copyFrom_10 ?_
  refine jpC_im0_rule X i_X5_copyFrom_im0_now_X5 (by decide +kernel) dX5_copyFrom_13 (fun S2 eS2 => ?_)
  have h := h S2 eS2
  refine j_aload_n X rfl 0 rfl dX5_copyFrom_16 ?_
  refine j_aload_n X rfl 1 rfl dX5_copyFrom_17 ?_
  refine jgC_now_drawn X i_X5_copyFrom_im0_now_X5 (by decide +kernel) dX5_copyFrom_18 ?_
  refine jpC_im0_drawn X i_X5_copyFrom_im0_now_X5 (by decide +kernel) dX5_copyFrom_21 (fun S3 eS3 => ?_)
  have h := h S3 eS3
  refine j_aload_n X rfl 1 rfl dX5_copyFrom_24 ?_
  refine jgC_now_storeys X i_X5_copyFrom_im0_now_X5 (by decide +kernel) dX5_copyFrom_25 ?_
  refine j_iconst (v := (0 : Int32)) X (by decide) dX5_copyFrom_28 ?_
  refine j_aload_n X rfl 0 rfl dX5_copyFrom_29 ?_
  refine jgC_im0_storeys X i_X5_copyFrom_im0_now_X5 (by decide +kernel) dX5_copyFrom_30 ?_
  refine j_iconst (v := (0 : Int32)) X (by decide) dX5_copyFrom_33 ?_
  refine j_bipush (v := (6 : Int32)) X (by decide) dX5_copyFrom_34 ?_
  refine j_copyi (ws' := wC q i (sr S3 24 (va_cpy (S3.2.1 21) (S3.2.1 24) ((0 : Int32)).toNatClampNeg ((0 : Int32)).toNatClampNeg ((6 : Int32)).toNatClampNeg))) X 31 34 (by decide +kernel) rfl rfl (by decide) (by decide) (by decide) (by decide) (by decide) rfl (Nat.le_of_ble_eq_true rfl) (Nat.le_of_ble_eq_true rfl) dX5_copyFrom_36 ?_
  obtain ⟨S4, eS4⟩ : ∃ z, z = sr S3 24 (va_cpy (S3.2.1 21) (S3.2.1 24) ((0 : Int32)).toNatClampNeg ((0 : Int32)).toNatClampNeg ((6 : Int32)).toNatClampNeg) := ⟨_, rfl⟩
  rw [← eS4]
  have h := h S4 eS4
  refine j_aload_n X rfl 1 rfl dX5_copyFrom_39 ?_
  refine jgC_now_purses X i_X5_copyFrom_im0_now_X5 (by decide +kernel) dX5_copyFrom_40 ?_
  refine j_iconst (v := (0 : Int32)) X (by decide) dX5_copyFrom_43 ?_
  refine j_aload_n X rfl 0 rfl dX5_copyFrom_44 ?_
  refine jgC_im0_purses X i_X5_copyFrom_im0_now_X5 (by decide +kernel) dX5_copyFrom_45 ?_
  refine j_iconst (v := (0 : Int32)) X (by decide) dX5_copyFrom_48 ?_
  refine j_bipush (v := (6 : Int32)) X (by decide) dX5_copyFrom_49 ?_
  refine j_copyi (ws' := wC q i (sr S4 25 (va_cpy (S4.2.1 22) (S4.2.1 25) ((0 : Int32)).toNatClampNeg ((0 : Int32)).toNatClampNeg ((6 : Int32)).toNatClampNeg))) X 32 35 (by decide +kernel) rfl rfl (by decide) (by decide) (by decide) (by decide) (by decide) rfl (Nat.le_of_ble_eq_true rfl) (Nat.le_of_ble_eq_true rfl) dX5_copyFrom_51 ?_
  obtain ⟨S5, eS5⟩ : ∃ z, z = sr S4 25 (va_cpy (S4.2.1 22) (S4.2.1 25) ((0 : Int32)).toNatClampNeg ((0 : Int32)).toNatClampNeg ((6 : Int32)).toNatClampNeg) := ⟨_, rfl⟩
  rw [← eS5]
  have h := h S5 eS5
  refine j_aload_n X rfl 1 rfl dX5_copyFrom_54 ?_
  refine jgC_now_stands X i_X5_copyFrom_im0_now_X5 (by decide +kernel) dX5_copyFrom_55 ?_
  refine j_iconst (v := (0 : Int32)) X (by decide) dX5_copyFrom_58 ?_
  refine j_aload_n X rfl 0 rfl dX5_copyFrom_59 ?_
  refine jgC_im0_stands X i_X5_copyFrom_im0_now_X5 (by decide +kernel) dX5_copyFrom_60 ?_
  refine j_iconst (v := (0 : Int32)) X (by decide) dX5_copyFrom_63 ?_
  refine j_bipush (v := (60 : Int32)) X (by decide) dX5_copyFrom_64 ?_
  refine j_copyi (ws' := wC q i (sr S5 26 (va_cpy (S5.2.1 23) (S5.2.1 26) ((0 : Int32)).toNatClampNeg ((0 : Int32)).toNatClampNeg ((60 : Int32)).toNatClampNeg))) X 33 36 (by decide +kernel) rfl rfl (by decide) (by decide) (by decide) (by decide) (by decide) rfl (Nat.le_of_ble_eq_true rfl) (Nat.le_of_ble_eq_true rfl) dX5_copyFrom_66 ?_
  obtain ⟨S6, eS6⟩ : ∃ z, z = sr S5 26 (va_cpy (S5.2.1 23) (S5.2.1 26) ((0 : Int32)).toNatClampNeg ((0 : Int32)).toNatClampNeg ((60 : Int32)).toNatClampNeg) := ⟨_, rfl⟩
  rw [← eS6]
  have h := h S6 eS6
  exact j_vret X h dX5_copyFrom_69
set_option maxRecDepth 100000 in
theorem i_X5_copyFrom_im1_now_X5 : ∀ w ∈ u_ws RX5 TX5 7, w ∈ wsX5_copyFrom := by decide +kernel
abbrev rm_X5_copyFrom_im1_now : Room := { frames := 1, cells := 0, slots := 0, locals := 128 }
set_option maxRecDepth 100000 in
set_option maxHeartbeats 4000000 in
theorem c_X5_copyFrom_im1_now (l : Launch) (D : va_G) (i : Nat → ClassId) (q : Nat → Nat) (A : Nat → Prop) (S : vS) (Q : vS → Prop) (h : e_X5_copyFrom_im1_now S Q) : Met l yX5_copyFrom wsX5_copyFrom rm_X5_copyFrom_im1_now (va_Pc [.ref (q 6), .ref (q 4)] (vB D i A (wC q i) S)) (va_Qv Q (vB D i A (wC q i)) A) 0 0 A := by
  refine m_ofJ (own := RX5) (lv := [(0, .ref (q 6)), (1, .ref (q 4))]) rfl (by decide) rfl (Nat.le_of_ble_eq_true rfl) rfl ?_
  intro p e s m below meth c X
  unfold e_X5_copyFrom_im1_now at h
  refine j_aload_n X rfl 0 rfl dX5_copyFrom_0 ?_
  refine j_aload_n X rfl 1 rfl dX5_copyFrom_1 ?_
  refine jgC_now_today X i_X5_copyFrom_im1_now_X5 (by decide +kernel) dX5_copyFrom_2 ?_
  refine jpC_im1_today X i_X5_copyFrom_im1_now_X5 (by decide +kernel) dX5_copyFrom_5 (fun S1 eS1 => ?_)
  have h := h S1 eS1
  refine j_aload_n X rfl 0 rfl dX5_copyFrom_8 ?_
  refine j_aload_n X rfl 1 rfl dX5_copyFrom_9 ?_
  refine jgC_now_rule X i_X5_copyFrom_im1_now_X5 (by decide +kernel) dX5_copyFrom_10 ?_
  refine jpC_im1_rule X i_X5_copyFrom_im1_now_X5 (by decide +kernel) dX5_copyFrom_13 (fun S2 eS2 => ?_)
  have h := h S2 eS2
  refine j_aload_n X rfl 0 rfl dX5_copyFrom_16 ?_
  refine j_aload_n X rfl 1 rfl dX5_copyFrom_17 ?_
  refine jgC_now_drawn X i_X5_copyFrom_im1_now_X5 (by decide +kernel) dX5_copyFrom_18 ?_
  refine jpC_im1_drawn X i_X5_copyFrom_im1_now_X5 (by decide +kernel) dX5_copyFrom_21 (fun S3 eS3 => ?_)
  have h := h S3 eS3
  refine j_aload_n X rfl 1 rfl dX5_copyFrom_24 ?_
  refine jgC_now_storeys X i_X5_copyFrom_im1_now_X5 (by decide +kernel) dX5_copyFrom_25 ?_
  refine j_iconst (v := (0 : Int32)) X (by decide) dX5_copyFrom_28 ?_
  refine j_aload_n X rfl 0 rfl dX5_copyFrom_29 ?_
  refine jgC_im1_storeys X i_X5_copyFrom_im1_now_X5 (by decide +kernel) dX5_copyFrom_30 ?_
  refine j_iconst (v := (0 : Int32)) X (by decide) dX5_copyFrom_33 ?_
  refine j_bipush (v := (6 : Int32)) X (by decide) dX5_copyFrom_34 ?_
  refine j_copyi (ws' := wC q i (sr S3 27 (va_cpy (S3.2.1 21) (S3.2.1 27) ((0 : Int32)).toNatClampNeg ((0 : Int32)).toNatClampNeg ((6 : Int32)).toNatClampNeg))) X 31 37 (by decide +kernel) rfl rfl (by decide) (by decide) (by decide) (by decide) (by decide) rfl (Nat.le_of_ble_eq_true rfl) (Nat.le_of_ble_eq_true rfl) dX5_copyFrom_36 ?_
  obtain ⟨S4, eS4⟩ : ∃ z, z = sr S3 27 (va_cpy (S3.2.1 21) (S3.2.1 27) ((0 : Int32)).toNatClampNeg ((0 : Int32)).toNatClampNeg ((6 : Int32)).toNatClampNeg) := ⟨_, rfl⟩
  rw [← eS4]
  have h := h S4 eS4
  refine j_aload_n X rfl 1 rfl dX5_copyFrom_39 ?_
  refine jgC_now_purses X i_X5_copyFrom_im1_now_X5 (by decide +kernel) dX5_copyFrom_40 ?_
  refine j_iconst (v := (0 : Int32)) X (by decide) dX5_copyFrom_43 ?_
  refine j_aload_n X rfl 0 rfl dX5_copyFrom_44 ?_
  refine jgC_im1_purses X i_X5_copyFrom_im1_now_X5 (by decide +kernel) dX5_copyFrom_45 ?_
  refine j_iconst (v := (0 : Int32)) X (by decide) dX5_copyFrom_48 ?_
  refine j_bipush (v := (6 : Int32)) X (by decide) dX5_copyFrom_49 ?_
  refine j_copyi (ws' := wC q i (sr S4 28 (va_cpy (S4.2.1 22) (S4.2.1 28) ((0 : Int32)).toNatClampNeg ((0 : Int32)).toNatClampNeg ((6 : Int32)).toNatClampNeg))) X 32 38 (by decide +kernel) rfl rfl (by decide) (by decide) (by decide) (by decide) (by decide) rfl (Nat.le_of_ble_eq_true rfl) (Nat.le_of_ble_eq_true rfl) dX5_copyFrom_51 ?_
  obtain ⟨S5, eS5⟩ : ∃ z, z = sr S4 28 (va_cpy (S4.2.1 22) (S4.2.1 28) ((0 : Int32)).toNatClampNeg ((0 : Int32)).toNatClampNeg ((6 : Int32)).toNatClampNeg) := ⟨_, rfl⟩
  rw [← eS5]
  have h := h S5 eS5
  refine j_aload_n X rfl 1 rfl dX5_copyFrom_54 ?_
  refine jgC_now_stands X i_X5_copyFrom_im1_now_X5 (by decide +kernel) dX5_copyFrom_55 ?_
  refine j_iconst (v := (0 : Int32)) X (by decide) dX5_copyFrom_58 ?_
  refine j_aload_n X rfl 0 rfl dX5_copyFrom_59 ?_
  refine jgC_im1_stands X i_X5_copyFrom_im1_now_X5 (by decide +kernel) dX5_copyFrom_60 ?_
  refine j_iconst (v := (0 : Int32)) X (by decide) dX5_copyFrom_63 ?_
  refine j_bipush (v := (60 : Int32)) X (by decide) dX5_copyFrom_64 ?_
  refine j_copyi (ws' := wC q i (sr S5 29 (va_cpy (S5.2.1 23) (S5.2.1 29) ((0 : Int32)).toNatClampNeg ((0 : Int32)).toNatClampNeg ((60 : Int32)).toNatClampNeg))) X 33 39 (by decide +kernel) rfl rfl (by decide) (by decide) (by decide) (by decide) (by decide) rfl (Nat.le_of_ble_eq_true rfl) (Nat.le_of_ble_eq_true rfl) dX5_copyFrom_66 ?_
  obtain ⟨S6, eS6⟩ : ∃ z, z = sr S5 29 (va_cpy (S5.2.1 23) (S5.2.1 29) ((0 : Int32)).toNatClampNeg ((0 : Int32)).toNatClampNeg ((60 : Int32)).toNatClampNeg) := ⟨_, rfl⟩
  rw [← eS6]
  have h := h S6 eS6
  exact j_vret X h dX5_copyFrom_69
set_option maxRecDepth 100000 in
theorem i_X6_keep_X5 : ∀ w ∈ u_ws RX5 TX5 7, w ∈ wsX6_keep := by decide +kernel
set_option maxRecDepth 100000 in
theorem i_X6_keep_X6 : ∀ w ∈ u_ws RX6 TX6 8, w ∈ wsX6_keep := by decide +kernel
abbrev rm_X6_keep : Room := { frames := 2, cells := 0, slots := 0, locals := 149 }
set_option maxRecDepth 100000 in
set_option maxHeartbeats 4000000 in
theorem c_X6_keep (l : Launch) (D : va_G) (i : Nat → ClassId) (q : Nat → Nat) (A : Nat → Prop) (x1 : Int32) (S : vS) (Q : Int32 → vS → Prop) (h : e_X6_keep x1 S Q) : Met l yX6_keep wsX6_keep rm_X6_keep (va_Pc [.ref (q 0), .int x1] (vB D i A (wC q i) S)) (va_Qi Q (vB D i A (wC q i)) A) 0 0 A := by
  refine m_ofJ (own := RX6) (lv := [(0, .ref (q 0)), (1, .int x1)]) rfl (by decide) rfl (Nat.le_of_ble_eq_true rfl) rfl ?_
  intro p e s m below meth c X
  unfold e_X6_keep at h
  refine j_iload_n X rfl 1 rfl dX6_keep_0 ?_
  refine j_if_lt (tgt := 9) X dX6_keep_1 (by decide) (fun c1 => ?_) (fun c1 => ?_)
  · have h := h.1 c1
    refine j_ldc (v := (-1000000001 : Int32)) X (by decide +kernel) dX6_keep_9 ?_
    exact j_iret X h dX6_keep_11
  · have h := h.2 c1
    refine j_iload_n X rfl 1 rfl dX6_keep_4 ?_
    refine j_iconst (v := (2 : Int32)) X (by decide) dX6_keep_5 ?_
    refine j_icmp_lt (tgt := 12) X dX6_keep_6 (by decide) (fun c2 => ?_) (fun c2 => ?_)
    · have h := h.1 c2
      refine j_aload_n X rfl 0 rfl dX6_keep_12 ?_
      refine jgC_main_images X i_X6_keep_X6 (by decide +kernel) dX6_keep_13 ?_
      refine j_iload_n X rfl 1 rfl dX6_keep_16 ?_
      obtain ⟨k4, h⟩ := h
      rcases jrC_main_images_or k4 with c3 | c3
      · have h := h.1 c3
        refine jrC_main_images_0 X c3 dX6_keep_17 ?_
        refine j_aload_n X rfl 0 rfl dX6_keep_18 ?_
        refine jgC_main_now X i_X6_keep_X6 (by decide +kernel) dX6_keep_19 ?_
        refine j_Vv (st := []) X [.ref (q 4)] 5 (c_X5_copyFrom_im0_now l D i q A S _ h) (cwV 1 X.ts gX6_keep_X5_copyFrom rfl rfl rfl (by decide +kernel) ⟨Nat.le_of_ble_eq_true rfl, Nat.le_of_ble_eq_true rfl⟩) rfl rfl rfl rfl (Nat.le_of_ble_eq_true rfl) dX6_keep_22 (fun S5 h => ?_)
        refine j_aload_n X rfl 0 rfl dX6_keep_25 ?_
        refine jgC_main_images X i_X6_keep_X6 (by decide +kernel) dX6_keep_26 ?_
        refine j_iload_n X rfl 1 rfl dX6_keep_29 ?_
        refine jrC_main_images_0 X c3 dX6_keep_30 ?_
        refine j_iconst (v := (1 : Int32)) X (by decide) dX6_keep_31 ?_
        refine jpC_im0_kept X rfl rfl i_X6_keep_X5 (by decide +kernel) dX6_keep_32 (fun S8 eS8 => ?_)
        have h := h S8 eS8
        refine j_iconst (v := (1 : Int32)) X (by decide) dX6_keep_35 ?_
        exact j_iret X h dX6_keep_36
      · have h := h.2 c3
        refine jrC_main_images_1 X c3 dX6_keep_17 ?_
        refine j_aload_n X rfl 0 rfl dX6_keep_18 ?_
        refine jgC_main_now X i_X6_keep_X6 (by decide +kernel) dX6_keep_19 ?_
        refine j_Vv (st := []) X [.ref (q 4)] 6 (c_X5_copyFrom_im1_now l D i q A S _ h) (cwV 1 X.ts gX6_keep_X5_copyFrom rfl rfl rfl (by decide +kernel) ⟨Nat.le_of_ble_eq_true rfl, Nat.le_of_ble_eq_true rfl⟩) rfl rfl rfl rfl (Nat.le_of_ble_eq_true rfl) dX6_keep_22 (fun S9 h => ?_)
        refine j_aload_n X rfl 0 rfl dX6_keep_25 ?_
        refine jgC_main_images X i_X6_keep_X6 (by decide +kernel) dX6_keep_26 ?_
        refine j_iload_n X rfl 1 rfl dX6_keep_29 ?_
        refine jrC_main_images_1 X c3 dX6_keep_30 ?_
        refine j_iconst (v := (1 : Int32)) X (by decide) dX6_keep_31 ?_
        refine jpC_im1_kept X rfl rfl i_X6_keep_X5 (by decide +kernel) dX6_keep_32 (fun S12 eS12 => ?_)
        have h := h S12 eS12
        refine j_iconst (v := (1 : Int32)) X (by decide) dX6_keep_35 ?_
        exact j_iret X h dX6_keep_36
    · have h := h.2 c2
      refine j_ldc (v := (-1000000001 : Int32)) X (by decide +kernel) dX6_keep_9 ?_
      exact j_iret X h dX6_keep_11
set_option maxRecDepth 100000 in
theorem i_X5_copyFrom_now_im0_X5 : ∀ w ∈ u_ws RX5 TX5 7, w ∈ wsX5_copyFrom := by decide +kernel
abbrev rm_X5_copyFrom_now_im0 : Room := { frames := 1, cells := 0, slots := 0, locals := 128 }
set_option maxRecDepth 100000 in
set_option maxHeartbeats 4000000 in
theorem c_X5_copyFrom_now_im0 (l : Launch) (D : va_G) (i : Nat → ClassId) (q : Nat → Nat) (A : Nat → Prop) (S : vS) (Q : vS → Prop) (h : e_X5_copyFrom_now_im0 S Q) : Met l yX5_copyFrom wsX5_copyFrom rm_X5_copyFrom_now_im0 (va_Pc [.ref (q 4), .ref (q 5)] (vB D i A (wC q i) S)) (va_Qv Q (vB D i A (wC q i)) A) 0 0 A := by
  refine m_ofJ (own := RX5) (lv := [(0, .ref (q 4)), (1, .ref (q 5))]) rfl (by decide) rfl (Nat.le_of_ble_eq_true rfl) rfl ?_
  intro p e s m below meth c X
  unfold e_X5_copyFrom_now_im0 at h
  refine j_aload_n X rfl 0 rfl dX5_copyFrom_0 ?_
  refine j_aload_n X rfl 1 rfl dX5_copyFrom_1 ?_
  refine jgC_im0_today X i_X5_copyFrom_now_im0_X5 (by decide +kernel) dX5_copyFrom_2 ?_
  refine jpC_now_today X i_X5_copyFrom_now_im0_X5 (by decide +kernel) dX5_copyFrom_5 (fun S1 eS1 => ?_)
  have h := h S1 eS1
  refine j_aload_n X rfl 0 rfl dX5_copyFrom_8 ?_
  refine j_aload_n X rfl 1 rfl dX5_copyFrom_9 ?_
  refine jgC_im0_rule X i_X5_copyFrom_now_im0_X5 (by decide +kernel) dX5_copyFrom_10 ?_
  refine jpC_now_rule X i_X5_copyFrom_now_im0_X5 (by decide +kernel) dX5_copyFrom_13 (fun S2 eS2 => ?_)
  have h := h S2 eS2
  refine j_aload_n X rfl 0 rfl dX5_copyFrom_16 ?_
  refine j_aload_n X rfl 1 rfl dX5_copyFrom_17 ?_
  refine jgC_im0_drawn X i_X5_copyFrom_now_im0_X5 (by decide +kernel) dX5_copyFrom_18 ?_
  refine jpC_now_drawn X i_X5_copyFrom_now_im0_X5 (by decide +kernel) dX5_copyFrom_21 (fun S3 eS3 => ?_)
  have h := h S3 eS3
  refine j_aload_n X rfl 1 rfl dX5_copyFrom_24 ?_
  refine jgC_im0_storeys X i_X5_copyFrom_now_im0_X5 (by decide +kernel) dX5_copyFrom_25 ?_
  refine j_iconst (v := (0 : Int32)) X (by decide) dX5_copyFrom_28 ?_
  refine j_aload_n X rfl 0 rfl dX5_copyFrom_29 ?_
  refine jgC_now_storeys X i_X5_copyFrom_now_im0_X5 (by decide +kernel) dX5_copyFrom_30 ?_
  refine j_iconst (v := (0 : Int32)) X (by decide) dX5_copyFrom_33 ?_
  refine j_bipush (v := (6 : Int32)) X (by decide) dX5_copyFrom_34 ?_
  refine j_copyi (ws' := wC q i (sr S3 21 (va_cpy (S3.2.1 24) (S3.2.1 21) ((0 : Int32)).toNatClampNeg ((0 : Int32)).toNatClampNeg ((6 : Int32)).toNatClampNeg))) X 34 31 (by decide +kernel) rfl rfl (by decide) (by decide) (by decide) (by decide) (by decide) rfl (Nat.le_of_ble_eq_true rfl) (Nat.le_of_ble_eq_true rfl) dX5_copyFrom_36 ?_
  obtain ⟨S4, eS4⟩ : ∃ z, z = sr S3 21 (va_cpy (S3.2.1 24) (S3.2.1 21) ((0 : Int32)).toNatClampNeg ((0 : Int32)).toNatClampNeg ((6 : Int32)).toNatClampNeg) := ⟨_, rfl⟩
  rw [← eS4]
  have h := h S4 eS4
  refine j_aload_n X rfl 1 rfl dX5_copyFrom_39 ?_
  refine jgC_im0_purses X i_X5_copyFrom_now_im0_X5 (by decide +kernel) dX5_copyFrom_40 ?_
  refine j_iconst (v := (0 : Int32)) X (by decide) dX5_copyFrom_43 ?_
  refine j_aload_n X rfl 0 rfl dX5_copyFrom_44 ?_
  refine jgC_now_purses X i_X5_copyFrom_now_im0_X5 (by decide +kernel) dX5_copyFrom_45 ?_
  refine j_iconst (v := (0 : Int32)) X (by decide) dX5_copyFrom_48 ?_
  refine j_bipush (v := (6 : Int32)) X (by decide) dX5_copyFrom_49 ?_
  refine j_copyi (ws' := wC q i (sr S4 22 (va_cpy (S4.2.1 25) (S4.2.1 22) ((0 : Int32)).toNatClampNeg ((0 : Int32)).toNatClampNeg ((6 : Int32)).toNatClampNeg))) X 35 32 (by decide +kernel) rfl rfl (by decide) (by decide) (by decide) (by decide) (by decide) rfl (Nat.le_of_ble_eq_true rfl) (Nat.le_of_ble_eq_true rfl) dX5_copyFrom_51 ?_
  obtain ⟨S5, eS5⟩ : ∃ z, z = sr S4 22 (va_cpy (S4.2.1 25) (S4.2.1 22) ((0 : Int32)).toNatClampNeg ((0 : Int32)).toNatClampNeg ((6 : Int32)).toNatClampNeg) := ⟨_, rfl⟩
  rw [← eS5]
  have h := h S5 eS5
  refine j_aload_n X rfl 1 rfl dX5_copyFrom_54 ?_
  refine jgC_im0_stands X i_X5_copyFrom_now_im0_X5 (by decide +kernel) dX5_copyFrom_55 ?_
  refine j_iconst (v := (0 : Int32)) X (by decide) dX5_copyFrom_58 ?_
  refine j_aload_n X rfl 0 rfl dX5_copyFrom_59 ?_
  refine jgC_now_stands X i_X5_copyFrom_now_im0_X5 (by decide +kernel) dX5_copyFrom_60 ?_
  refine j_iconst (v := (0 : Int32)) X (by decide) dX5_copyFrom_63 ?_
  refine j_bipush (v := (60 : Int32)) X (by decide) dX5_copyFrom_64 ?_
  refine j_copyi (ws' := wC q i (sr S5 23 (va_cpy (S5.2.1 26) (S5.2.1 23) ((0 : Int32)).toNatClampNeg ((0 : Int32)).toNatClampNeg ((60 : Int32)).toNatClampNeg))) X 36 33 (by decide +kernel) rfl rfl (by decide) (by decide) (by decide) (by decide) (by decide) rfl (Nat.le_of_ble_eq_true rfl) (Nat.le_of_ble_eq_true rfl) dX5_copyFrom_66 ?_
  obtain ⟨S6, eS6⟩ : ∃ z, z = sr S5 23 (va_cpy (S5.2.1 26) (S5.2.1 23) ((0 : Int32)).toNatClampNeg ((0 : Int32)).toNatClampNeg ((60 : Int32)).toNatClampNeg) := ⟨_, rfl⟩
  rw [← eS6]
  have h := h S6 eS6
  exact j_vret X h dX5_copyFrom_69
