set_option maxRecDepth 100000 in
theorem i_X5_copyFrom_now_im1_X5 : ∀ w ∈ u_ws RX5 TX5 7, w ∈ wsX5_copyFrom := by decide +kernel
abbrev rm_X5_copyFrom_now_im1 : Room := { frames := 1, cells := 0, slots := 0, locals := 128 }
set_option maxRecDepth 100000 in
set_option maxHeartbeats 4000000 in
theorem c_X5_copyFrom_now_im1 (l : Launch) (D : va_G) (i : Nat → ClassId) (q : Nat → Nat) (A : Nat → Prop) (S : vS) (Q : vS → Prop) (h : e_X5_copyFrom_now_im1 S Q) : Met l yX5_copyFrom wsX5_copyFrom rm_X5_copyFrom_now_im1 (va_Pc [.ref (q 4), .ref (q 6)] (vB D i A (wC q i) S)) (va_Qv Q (vB D i A (wC q i)) A) 0 0 A := by
  refine m_ofJ (own := RX5) (lv := [(0, .ref (q 4)), (1, .ref (q 6))]) rfl (by decide) rfl (Nat.le_of_ble_eq_true rfl) rfl ?_
  intro p e s m below meth c X
  unfold e_X5_copyFrom_now_im1 at h
  refine j_aload_n X rfl 0 rfl dX5_copyFrom_0 ?_
  refine j_aload_n X rfl 1 rfl dX5_copyFrom_1 ?_
  refine jgC_im1_today X i_X5_copyFrom_now_im1_X5 (by decide +kernel) dX5_copyFrom_2 ?_
  refine jpC_now_today X i_X5_copyFrom_now_im1_X5 (by decide +kernel) dX5_copyFrom_5 (fun S1 eS1 => ?_)
  have h := h S1 eS1
  refine j_aload_n X rfl 0 rfl dX5_copyFrom_8 ?_
  refine j_aload_n X rfl 1 rfl dX5_copyFrom_9 ?_
  refine jgC_im1_rule X i_X5_copyFrom_now_im1_X5 (by decide +kernel) dX5_copyFrom_10 ?_
  refine jpC_now_rule X i_X5_copyFrom_now_im1_X5 (by decide +kernel) dX5_copyFrom_13 (fun S2 eS2 => ?_)
  have h := h S2 eS2
  refine j_aload_n X rfl 0 rfl dX5_copyFrom_16 ?_
  refine j_aload_n X rfl 1 rfl dX5_copyFrom_17 ?_
  refine jgC_im1_drawn X i_X5_copyFrom_now_im1_X5 (by decide +kernel) dX5_copyFrom_18 ?_
  refine jpC_now_drawn X i_X5_copyFrom_now_im1_X5 (by decide +kernel) dX5_copyFrom_21 (fun S3 eS3 => ?_)
  have h := h S3 eS3
  refine j_aload_n X rfl 1 rfl dX5_copyFrom_24 ?_
  refine jgC_im1_storeys X i_X5_copyFrom_now_im1_X5 (by decide +kernel) dX5_copyFrom_25 ?_
  refine j_iconst (v := (0 : Int32)) X (by decide) dX5_copyFrom_28 ?_
  refine j_aload_n X rfl 0 rfl dX5_copyFrom_29 ?_
  refine jgC_now_storeys X i_X5_copyFrom_now_im1_X5 (by decide +kernel) dX5_copyFrom_30 ?_
  refine j_iconst (v := (0 : Int32)) X (by decide) dX5_copyFrom_33 ?_
  refine j_bipush (v := (6 : Int32)) X (by decide) dX5_copyFrom_34 ?_
  refine j_copyi (ws' := wC q i (sr S3 21 (va_cpy (S3.2.1 27) (S3.2.1 21) ((0 : Int32)).toNatClampNeg ((0 : Int32)).toNatClampNeg ((6 : Int32)).toNatClampNeg))) X 37 31 (by decide +kernel) rfl rfl (by decide) (by decide) (by decide) (by decide) (by decide) rfl (Nat.le_of_ble_eq_true rfl) (Nat.le_of_ble_eq_true rfl) dX5_copyFrom_36 ?_
  obtain ⟨S4, eS4⟩ : ∃ z, z = sr S3 21 (va_cpy (S3.2.1 27) (S3.2.1 21) ((0 : Int32)).toNatClampNeg ((0 : Int32)).toNatClampNeg ((6 : Int32)).toNatClampNeg) := ⟨_, rfl⟩
  rw [← eS4]
  have h := h S4 eS4
  refine j_aload_n X rfl 1 rfl dX5_copyFrom_39 ?_
  refine jgC_im1_purses X i_X5_copyFrom_now_im1_X5 (by decide +kernel) dX5_copyFrom_40 ?_
  refine j_iconst (v := (0 : Int32)) X (by decide) dX5_copyFrom_43 ?_
  refine j_aload_n X rfl 0 rfl dX5_copyFrom_44 ?_
  refine jgC_now_purses X i_X5_copyFrom_now_im1_X5 (by decide +kernel) dX5_copyFrom_45 ?_
  refine j_iconst (v := (0 : Int32)) X (by decide) dX5_copyFrom_48 ?_
  refine j_bipush (v := (6 : Int32)) X (by decide) dX5_copyFrom_49 ?_
  refine j_copyi (ws' := wC q i (sr S4 22 (va_cpy (S4.2.1 28) (S4.2.1 22) ((0 : Int32)).toNatClampNeg ((0 : Int32)).toNatClampNeg ((6 : Int32)).toNatClampNeg))) X 38 32 (by decide +kernel) rfl rfl (by decide) (by decide) (by decide) (by decide) (by decide) rfl (Nat.le_of_ble_eq_true rfl) (Nat.le_of_ble_eq_true rfl) dX5_copyFrom_51 ?_
  obtain ⟨S5, eS5⟩ : ∃ z, z = sr S4 22 (va_cpy (S4.2.1 28) (S4.2.1 22) ((0 : Int32)).toNatClampNeg ((0 : Int32)).toNatClampNeg ((6 : Int32)).toNatClampNeg) := ⟨_, rfl⟩
  rw [← eS5]
  have h := h S5 eS5
  refine j_aload_n X rfl 1 rfl dX5_copyFrom_54 ?_
  refine jgC_im1_stands X i_X5_copyFrom_now_im1_X5 (by decide +kernel) dX5_copyFrom_55 ?_
  refine j_iconst (v := (0 : Int32)) X (by decide) dX5_copyFrom_58 ?_
  refine j_aload_n X rfl 0 rfl dX5_copyFrom_59 ?_
  refine jgC_now_stands X i_X5_copyFrom_now_im1_X5 (by decide +kernel) dX5_copyFrom_60 ?_
  refine j_iconst (v := (0 : Int32)) X (by decide) dX5_copyFrom_63 ?_
  refine j_bipush (v := (60 : Int32)) X (by decide) dX5_copyFrom_64 ?_
  refine j_copyi (ws' := wC q i (sr S5 23 (va_cpy (S5.2.1 29) (S5.2.1 23) ((0 : Int32)).toNatClampNeg ((0 : Int32)).toNatClampNeg ((60 : Int32)).toNatClampNeg))) X 39 33 (by decide +kernel) rfl rfl (by decide) (by decide) (by decide) (by decide) (by decide) rfl (Nat.le_of_ble_eq_true rfl) (Nat.le_of_ble_eq_true rfl) dX5_copyFrom_66 ?_
  obtain ⟨S6, eS6⟩ : ∃ z, z = sr S5 23 (va_cpy (S5.2.1 29) (S5.2.1 23) ((0 : Int32)).toNatClampNeg ((0 : Int32)).toNatClampNeg ((60 : Int32)).toNatClampNeg) := ⟨_, rfl⟩
  rw [← eS6]
  have h := h S6 eS6
  exact j_vret X h dX5_copyFrom_69
set_option maxRecDepth 100000 in
theorem i_X6_goBack_X5 : ∀ w ∈ u_ws RX5 TX5 7, w ∈ wsX6_goBack := by decide +kernel
set_option maxRecDepth 100000 in
theorem i_X6_goBack_X6 : ∀ w ∈ u_ws RX6 TX6 8, w ∈ wsX6_goBack := by decide +kernel
abbrev rm_X6_goBack : Room := { frames := 2, cells := 0, slots := 0, locals := 149 }
set_option maxRecDepth 100000 in
set_option maxHeartbeats 4000000 in
theorem c_X6_goBack (l : Launch) (D : va_G) (i : Nat → ClassId) (q : Nat → Nat) (A : Nat → Prop) (x1 : Int32) (S : vS) (Q : Int32 → vS → Prop) (h : e_X6_goBack x1 S Q) : Met l yX6_goBack wsX6_goBack rm_X6_goBack (va_Pc [.ref (q 0), .int x1] (vB D i A (wC q i) S)) (va_Qi Q (vB D i A (wC q i)) A) 0 0 A := by
  refine m_ofJ (own := RX6) (lv := [(0, .ref (q 0)), (1, .int x1)]) rfl (by decide) rfl (Nat.le_of_ble_eq_true rfl) rfl ?_
  intro p e s m below meth c X
  unfold e_X6_goBack at h
  refine j_iload_n X rfl 1 rfl dX6_goBack_0 ?_
  refine j_if_lt (tgt := 9) X dX6_goBack_1 (by decide) (fun c1 => ?_) (fun c1 => ?_)
  · have h := h.1 c1
    refine j_ldc (v := (-1000000001 : Int32)) X (by decide +kernel) dX6_goBack_9 ?_
    exact j_iret X h dX6_goBack_11
  · have h := h.2 c1
    refine j_iload_n X rfl 1 rfl dX6_goBack_4 ?_
    refine j_iconst (v := (2 : Int32)) X (by decide) dX6_goBack_5 ?_
    refine j_icmp_lt (tgt := 12) X dX6_goBack_6 (by decide) (fun c2 => ?_) (fun c2 => ?_)
    · have h := h.1 c2
      refine j_aload_n X rfl 0 rfl dX6_goBack_12 ?_
      refine jgC_main_images X i_X6_goBack_X6 (by decide +kernel) dX6_goBack_13 ?_
      refine j_iload_n X rfl 1 rfl dX6_goBack_16 ?_
      obtain ⟨k4, h⟩ := h
      rcases jrC_main_images_or k4 with c3 | c3
      · have h := h.1 c3
        refine jrC_main_images_0 X c3 dX6_goBack_17 ?_
        refine jgC_im0_kept X i_X6_goBack_X5 (by decide +kernel) dX6_goBack_18 ?_
        refine j_if_ne (tgt := 27) X dX6_goBack_21 (by decide) (fun c5 => ?_) (fun c5 => ?_)
        · have h := h.1 c5
          refine j_aload_n X rfl 0 rfl dX6_goBack_27 ?_
          refine jgC_main_now X i_X6_goBack_X6 (by decide +kernel) dX6_goBack_28 ?_
          refine j_aload_n X rfl 0 rfl dX6_goBack_31 ?_
          refine jgC_main_images X i_X6_goBack_X6 (by decide +kernel) dX6_goBack_32 ?_
          refine j_iload_n X rfl 1 rfl dX6_goBack_35 ?_
          refine jrC_main_images_0 X c3 dX6_goBack_36 ?_
          refine j_Vv (st := []) X [.ref (q 5)] 4 (c_X5_copyFrom_now_im0 l D i q A S _ h) (cwV 1 X.ts gX6_goBack_X5_copyFrom rfl rfl rfl (by decide +kernel) ⟨Nat.le_of_ble_eq_true rfl, Nat.le_of_ble_eq_true rfl⟩) rfl rfl rfl rfl (Nat.le_of_ble_eq_true rfl) dX6_goBack_37 (fun S7 h => ?_)
          refine j_iconst (v := (1 : Int32)) X (by decide) dX6_goBack_40 ?_
          exact j_iret X h dX6_goBack_41
        · have h := h.2 c5
          refine j_ldc (v := (-1000000003 : Int32)) X (by decide +kernel) dX6_goBack_24 ?_
          exact j_iret X h dX6_goBack_26
      · have h := h.2 c3
        refine jrC_main_images_1 X c3 dX6_goBack_17 ?_
        refine jgC_im1_kept X i_X6_goBack_X5 (by decide +kernel) dX6_goBack_18 ?_
        refine j_if_ne (tgt := 27) X dX6_goBack_21 (by decide) (fun c9 => ?_) (fun c9 => ?_)
        · have h := h.1 c9
          refine j_aload_n X rfl 0 rfl dX6_goBack_27 ?_
          refine jgC_main_now X i_X6_goBack_X6 (by decide +kernel) dX6_goBack_28 ?_
          refine j_aload_n X rfl 0 rfl dX6_goBack_31 ?_
          refine jgC_main_images X i_X6_goBack_X6 (by decide +kernel) dX6_goBack_32 ?_
          refine j_iload_n X rfl 1 rfl dX6_goBack_35 ?_
          refine jrC_main_images_1 X c3 dX6_goBack_36 ?_
          refine j_Vv (st := []) X [.ref (q 6)] 4 (c_X5_copyFrom_now_im1 l D i q A S _ h) (cwV 1 X.ts gX6_goBack_X5_copyFrom rfl rfl rfl (by decide +kernel) ⟨Nat.le_of_ble_eq_true rfl, Nat.le_of_ble_eq_true rfl⟩) rfl rfl rfl rfl (Nat.le_of_ble_eq_true rfl) dX6_goBack_37 (fun S11 h => ?_)
          refine j_iconst (v := (1 : Int32)) X (by decide) dX6_goBack_40 ?_
          exact j_iret X h dX6_goBack_41
        · have h := h.2 c9
          refine j_ldc (v := (-1000000003 : Int32)) X (by decide +kernel) dX6_goBack_24 ?_
          exact j_iret X h dX6_goBack_26
    · have h := h.2 c2
      refine j_ldc (v := (-1000000001 : Int32)) X (by decide +kernel) dX6_goBack_9 ?_
      exact j_iret X h dX6_goBack_11
