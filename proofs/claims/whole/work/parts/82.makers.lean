/-! ===== the makers ===== -/
def qb (b : Nat) (q : Nat → Nat) : Nat → Nat := fun j => if j = 0 then b else q j
def zS : vS := (fun _ => 0, fun _ _ => 0, fun _ => 0)
def pS0 : vS := zS
def pOK (S : vS) : Prop := S.1 0 = 0 ∧ S.1 1 = 0 ∧ S.1 2 = 0 ∧ S.1 3 = 0 ∧ S.1 4 = 3 ∧ S.1 5 = 100 ∧ ∀ j, j < 60 → S.2.1 3 j = 0
theorem p_clear : e_X2_clear_plan pS0 (fun S1 => pOK S1) := by
  unfold e_X2_clear_plan
  intro S1 e1 S2 e2 S3 e3 S4 e4 S5 e5 S6 e6
  have h6 : S6.1 0 = 0 ∧ S6.1 1 = 0 ∧ S6.1 2 = 0 ∧ S6.1 3 = 0 ∧ S6.1 4 = 3 ∧ S6.1 5 = 100 := by
    rw [e6, e5, e4, e3, e2, e1]
    exact ⟨rfl, rfl, rfl, rfl, rfl, rfl⟩
  have loop : ∀ (r k : Nat), k + r = 60 → ∀ S : vS, (S.1 0 = 0 ∧ S.1 1 = 0 ∧ S.1 2 = 0 ∧ S.1 3 = 0 ∧ S.1 4 = 3 ∧ S.1 5 = 100) → (∀ j, j < k → S.2.1 3 j = 0) → e_X2_clear_plan_33 (fun S1 => pOK S1) (r + 1) (nI k) S := by
    intro r
    induction r with
    | zero =>
      intro k hk S hS hg
      rw [e_X2_clear_plan_33.eq_2, show (60 : Int32) = nI 60 from rfl, nI_leI (by omega) (by omega)]
      exact ⟨fun _ => ⟨hS.1, hS.2.1, hS.2.2.1, hS.2.2.2.1, hS.2.2.2.2.1, hS.2.2.2.2.2, fun j hj => hg j (by omega)⟩, fun c => absurd (by omega) c⟩
    | succ r ih =>
      intro k hk S hS hg
      rw [e_X2_clear_plan_33.eq_2, show (60 : Int32) = nI 60 from rfl, nI_leI (by omega) (by omega), cl_nI (by omega), nI_1]
      refine ⟨fun c => absurd c (by omega), fun _ => ⟨in_nI (by omega) (by omega), fun S7 e7 S8 e8 u hu => ?_⟩⟩
      rw [hu, e8, e7]
      refine ih (k + 1) (by omega) _ hS (fun j hj => ?_)
      show upd (S.2.1 3) k 0 j = 0
      by_cases e : j = k
      · rw [e, pk_us]
      · rw [pk_un e]
        exact hg j (by omega)
  exact ⟨61, loop 60 0 (by omega) S6 h6 (fun j hj => by omega)⟩
def wB0 (b : Nat) (q : Nat → Nat) (i : Nat → ClassId) : va_W := [(b, .inr (0, [.ref (q 0), .int 0, .int 0, .int 0, .int 0])), (q 0, .inl (i 0, 60, .inl (fun _ => 0)))]
def wB1 (b : Nat) (q : Nat → Nat) (i : Nat → ClassId) : va_W := [(b, .inr (1, [.int 0, .ref (q 0), .ref (q 1), .ref (q 2)])), (q 0, .inl (i 0, 40, .inl (fun _ => 0))), (q 1, .inl (i 0, 40, .inl (fun _ => 0))), (q 2, .inl (i 0, 40, .inl (fun _ => 0)))]
def wB5 (b : Nat) (q : Nat → Nat) (i : Nat → ClassId) : va_W := [(b, .inr (5, [.int 0, .int 0, .int 0, .int 0, .ref (q 0), .ref (q 1), .ref (q 2)])), (q 0, .inl (i 0, 6, .inl (fun _ => 0))), (q 1, .inl (i 0, 6, .inl (fun _ => 0))), (q 2, .inl (i 0, 60, .inl (fun _ => 0)))]
def wB4 (b g1 g2 : Nat) (q : Nat → Nat) (i : Nat → ClassId) : va_W := [(b, .inr (4, [.ref g1, .ref g2, .ref (q 0), .ref (q 1), .int 0, .int 0, .int 0, .ref (q 2)])), (q 0, .inl (i 0, 60, .inl (fun _ => 0))), (q 1, .inl (i 0, 6, .inl (fun _ => 0))), (q 2, .inl (i 0, 60, .inl (fun _ => 0)))]
def wB3 (b : Nat) (q : Nat → Nat) (i : Nat → ClassId) (S : vS) : va_W := (b, .inr (3, [.ref (q 0), .int 0, .int 0, .int (-1), .ref (q 9), .ref (q 10), .ref (q 11), .ref (q 12), .int 0])) :: (wP q i S ++ [(q 9, .inl (i 1, 500, .inl (fun _ => 0))), (q 10, .inl (i 0, 3, .inl (fun _ => 0))), (q 11, .inl (i 0, 6, .inl (fun _ => 0))), (q 12, .inl (i 2, 60, .inl (fun _ => 0)))])
set_option maxRecDepth 100000 in
theorem i_X0_init_X0 : ∀ w ∈ u_ws RX0 TX0 5, w ∈ wsX0_init := by decide +kernel
abbrev rmN_X0 : Room := { frames := 1, cells := 1, slots := 60, locals := 20 }
set_option maxRecDepth 100000 in
set_option maxHeartbeats 4000000 in
theorem n_X0 (l : Launch) (D : va_G) (i : Nat → ClassId) (b : Nat) : ∀ sz, Met l yX0_init wsX0_init rmN_X0 (va_Pc [.ref b] (vN D i [(b, .inr (0, [.null, .int 0, .int 0, .int 0, .int 0]))] sz)) (va_Qv (fun _ : Nat → Nat => True) (fun u t => vO D (va_A [(b, .inr (0, [.null, .int 0, .int 0, .int 0, .int 0]))] sz) (wB0 b u i) t) (va_A [(b, .inr (0, [.null, .int 0, .int 0, .int 0, .int 0]))] sz)) 1 60 (va_A [(b, .inr (0, [.null, .int 0, .int 0, .int 0, .int 0]))] sz) := by
  refine n_ofG (own := RX0) (lv := [(0, .ref b)]) (w1 := fun u : Nat → Nat => (wB0 b u i)) rfl rfl (by decide) rfl (Nat.le_of_ble_eq_true rfl) rfl ?_
  intro A p e s m below meth c X hA hx hi
  refine g_aload_n X rfl 0 rfl dX0_init_0 ?_
  refine g_obj X (by decide +kernel) (Nat.le_of_ble_eq_true rfl) (Nat.le_of_ble_eq_true rfl) (Nat.le_of_ble_eq_true rfl) dX0_init_1 ?_
  refine g_aload_n X rfl 0 rfl dX0_init_4 ?_
  refine g_bipush (v := (60 : Int32)) X (by decide) dX0_init_5 ?_
  refine g_newI X hA (by decide +kernel) (by decide) (N := 60) (by decide) (by decide) (Nat.le_of_ble_eq_true rfl) (Nat.le_of_ble_eq_true rfl) dX0_init_7 (fun a1 => ?_)
  refine g_putF (ty := tyX0 0) (ws' := [(b, .inr (0, [.ref a1, .int 0, .int 0, .int 0, .int 0]))] ++ ([(a1, .inl (i 0, 60, .inl (fun _ => 0)))])) X hi 0 rfl rfl 0 (by decide) tyX0 tyX0_ok nmX0 i_X0_init_X0 (by decide +kernel) rfl rfl rfl (by decide +kernel) rfl rfl (Nat.le_of_ble_eq_true rfl) rfl dX0_init_9 ?_
  exact g_vret X (fun j => ([a1] : List Nat).getD j 0) trivial rfl dX0_init_12
set_option maxRecDepth 100000 in
theorem i_X1_init_X1 : ∀ w ∈ u_ws RX1 TX1 4, w ∈ wsX1_init := by decide +kernel
abbrev rmN_X1 : Room := { frames := 1, cells := 3, slots := 120, locals := 20 }
set_option maxRecDepth 100000 in
set_option maxHeartbeats 4000000 in
theorem n_X1 (l : Launch) (D : va_G) (i : Nat → ClassId) (b : Nat) : ∀ sz, Met l yX1_init wsX1_init rmN_X1 (va_Pc [.ref b] (vN D i [(b, .inr (1, [.int 0, .null, .null, .null]))] sz)) (va_Qv (fun _ : Nat → Nat => True) (fun u t => vO D (va_A [(b, .inr (1, [.int 0, .null, .null, .null]))] sz) (wB1 b u i) t) (va_A [(b, .inr (1, [.int 0, .null, .null, .null]))] sz)) 3 120 (va_A [(b, .inr (1, [.int 0, .null, .null, .null]))] sz) := by
  refine n_ofG (own := RX1) (lv := [(0, .ref b)]) (w1 := fun u : Nat → Nat => (wB1 b u i)) rfl rfl (by decide) rfl (Nat.le_of_ble_eq_true rfl) rfl ?_
  intro A p e s m below meth c X hA hx hi
  refine g_aload_n X rfl 0 rfl dX1_init_0 ?_
  refine g_obj X (by decide +kernel) (Nat.le_of_ble_eq_true rfl) (Nat.le_of_ble_eq_true rfl) (Nat.le_of_ble_eq_true rfl) dX1_init_1 ?_
  refine g_aload_n X rfl 0 rfl dX1_init_4 ?_
  refine g_bipush (v := (40 : Int32)) X (by decide) dX1_init_5 ?_
  refine g_newI X hA (by decide +kernel) (by decide) (N := 40) (by decide) (by decide) (Nat.le_of_ble_eq_true rfl) (Nat.le_of_ble_eq_true rfl) dX1_init_7 (fun a1 => ?_)
  refine g_putF (ty := tyX1 1) (ws' := [(b, .inr (1, [.int 0, .ref a1, .null, .null]))] ++ ([(a1, .inl (i 0, 40, .inl (fun _ => 0)))])) X hi 0 rfl rfl 1 (by decide) tyX1 tyX1_ok nmX1 i_X1_init_X1 (by decide +kernel) rfl rfl rfl (by decide +kernel) rfl rfl (Nat.le_of_ble_eq_true rfl) rfl dX1_init_9 ?_
  refine g_aload_n X rfl 0 rfl dX1_init_12 ?_
  refine g_bipush (v := (40 : Int32)) X (by decide) dX1_init_13 ?_
  refine g_newI X hA (by decide +kernel) (by decide) (N := 40) (by decide) (by decide) (Nat.le_of_ble_eq_true rfl) (Nat.le_of_ble_eq_true rfl) dX1_init_15 (fun a2 => ?_)
  refine g_putF (ty := tyX1 2) (ws' := [(b, .inr (1, [.int 0, .ref a1, .ref a2, .null]))] ++ ([(a1, .inl (i 0, 40, .inl (fun _ => 0)))] ++ ([(a2, .inl (i 0, 40, .inl (fun _ => 0)))]))) X hi 0 rfl rfl 2 (by decide) tyX1 tyX1_ok nmX1 i_X1_init_X1 (by decide +kernel) rfl rfl rfl (by decide +kernel) rfl rfl (Nat.le_of_ble_eq_true rfl) rfl dX1_init_17 ?_
  refine g_aload_n X rfl 0 rfl dX1_init_20 ?_
  refine g_bipush (v := (40 : Int32)) X (by decide) dX1_init_21 ?_
  refine g_newI X hA (by decide +kernel) (by decide) (N := 40) (by decide) (by decide) (Nat.le_of_ble_eq_true rfl) (Nat.le_of_ble_eq_true rfl) dX1_init_23 (fun a3 => ?_)
  refine g_putF (ty := tyX1 3) (ws' := [(b, .inr (1, [.int 0, .ref a1, .ref a2, .ref a3]))] ++ ([(a1, .inl (i 0, 40, .inl (fun _ => 0)))] ++ ([(a2, .inl (i 0, 40, .inl (fun _ => 0)))] ++ ([(a3, .inl (i 0, 40, .inl (fun _ => 0)))])))) X hi 0 rfl rfl 3 (by decide) tyX1 tyX1_ok nmX1 i_X1_init_X1 (by decide +kernel) rfl rfl rfl (by decide +kernel) rfl rfl (Nat.le_of_ble_eq_true rfl) rfl dX1_init_25 ?_
  exact g_vret X (fun j => ([a1, a2, a3] : List Nat).getD j 0) trivial rfl dX1_init_28
set_option maxRecDepth 100000 in
theorem i_X5_init_X5 : ∀ w ∈ u_ws RX5 TX5 7, w ∈ wsX5_init := by decide +kernel
abbrev rmN_X5 : Room := { frames := 1, cells := 3, slots := 72, locals := 20 }
set_option maxRecDepth 100000 in
set_option maxHeartbeats 4000000 in
theorem n_X5 (l : Launch) (D : va_G) (i : Nat → ClassId) (b : Nat) : ∀ sz, Met l yX5_init wsX5_init rmN_X5 (va_Pc [.ref b] (vN D i [(b, .inr (5, [.int 0, .int 0, .int 0, .int 0, .null, .null, .null]))] sz)) (va_Qv (fun _ : Nat → Nat => True) (fun u t => vO D (va_A [(b, .inr (5, [.int 0, .int 0, .int 0, .int 0, .null, .null, .null]))] sz) (wB5 b u i) t) (va_A [(b, .inr (5, [.int 0, .int 0, .int 0, .int 0, .null, .null, .null]))] sz)) 3 72 (va_A [(b, .inr (5, [.int 0, .int 0, .int 0, .int 0, .null, .null, .null]))] sz) := by
  refine n_ofG (own := RX5) (lv := [(0, .ref b)]) (w1 := fun u : Nat → Nat => (wB5 b u i)) rfl rfl (by decide) rfl (Nat.le_of_ble_eq_true rfl) rfl ?_
  intro A p e s m below meth c X hA hx hi
  refine g_aload_n X rfl 0 rfl dX5_init_0 ?_
  refine g_obj X (by decide +kernel) (Nat.le_of_ble_eq_true rfl) (Nat.le_of_ble_eq_true rfl) (Nat.le_of_ble_eq_true rfl) dX5_init_1 ?_
  refine g_aload_n X rfl 0 rfl dX5_init_4 ?_
  refine g_bipush (v := (6 : Int32)) X (by decide) dX5_init_5 ?_
  refine g_newI X hA (by decide +kernel) (by decide) (N := 6) (by decide) (by decide) (Nat.le_of_ble_eq_true rfl) (Nat.le_of_ble_eq_true rfl) dX5_init_7 (fun a1 => ?_)
  refine g_putF (ty := tyX5 4) (ws' := [(b, .inr (5, [.int 0, .int 0, .int 0, .int 0, .ref a1, .null, .null]))] ++ ([(a1, .inl (i 0, 6, .inl (fun _ => 0)))])) X hi 0 rfl rfl 4 (by decide) tyX5 tyX5_ok nmX5 i_X5_init_X5 (by decide +kernel) rfl rfl rfl (by decide +kernel) rfl rfl (Nat.le_of_ble_eq_true rfl) rfl dX5_init_9 ?_
  refine g_aload_n X rfl 0 rfl dX5_init_12 ?_
  refine g_bipush (v := (6 : Int32)) X (by decide) dX5_init_13 ?_
  refine g_newI X hA (by decide +kernel) (by decide) (N := 6) (by decide) (by decide) (Nat.le_of_ble_eq_true rfl) (Nat.le_of_ble_eq_true rfl) dX5_init_15 (fun a2 => ?_)
  refine g_putF (ty := tyX5 5) (ws' := [(b, .inr (5, [.int 0, .int 0, .int 0, .int 0, .ref a1, .ref a2, .null]))] ++ ([(a1, .inl (i 0, 6, .inl (fun _ => 0)))] ++ ([(a2, .inl (i 0, 6, .inl (fun _ => 0)))]))) X hi 0 rfl rfl 5 (by decide) tyX5 tyX5_ok nmX5 i_X5_init_X5 (by decide +kernel) rfl rfl rfl (by decide +kernel) rfl rfl (Nat.le_of_ble_eq_true rfl) rfl dX5_init_17 ?_
  refine g_aload_n X rfl 0 rfl dX5_init_20 ?_
  refine g_bipush (v := (60 : Int32)) X (by decide) dX5_init_21 ?_
  refine g_newI X hA (by decide +kernel) (by decide) (N := 60) (by decide) (by decide) (Nat.le_of_ble_eq_true rfl) (Nat.le_of_ble_eq_true rfl) dX5_init_23 (fun a3 => ?_)
  refine g_putF (ty := tyX5 6) (ws' := [(b, .inr (5, [.int 0, .int 0, .int 0, .int 0, .ref a1, .ref a2, .ref a3]))] ++ ([(a1, .inl (i 0, 6, .inl (fun _ => 0)))] ++ ([(a2, .inl (i 0, 6, .inl (fun _ => 0)))] ++ ([(a3, .inl (i 0, 60, .inl (fun _ => 0)))])))) X hi 0 rfl rfl 6 (by decide) tyX5 tyX5_ok nmX5 i_X5_init_X5 (by decide +kernel) rfl rfl rfl (by decide +kernel) rfl rfl (Nat.le_of_ble_eq_true rfl) rfl dX5_init_25 ?_
  exact g_vret X (fun j => ([a1, a2, a3] : List Nat).getD j 0) trivial rfl dX5_init_28
set_option maxRecDepth 100000 in
theorem i_X4_init_X4 : ∀ w ∈ u_ws RX4 TX4 8, w ∈ wsX4_init := by decide +kernel
abbrev rmN_X4 : Room := { frames := 1, cells := 3, slots := 126, locals := 20 }
set_option maxRecDepth 100000 in
set_option maxHeartbeats 4000000 in
theorem n_X4 (l : Launch) (D : va_G) (i : Nat → ClassId) (b : Nat) (g1 : Nat) (g2 : Nat) : ∀ sz, Met l yX4_init wsX4_init rmN_X4 (va_Pc [.ref b, .ref g1, .ref g2] (vN D i [(b, .inr (4, [.null, .null, .null, .null, .int 0, .int 0, .int 0, .null]))] sz)) (va_Qv (fun _ : Nat → Nat => True) (fun u t => vO D (va_A [(b, .inr (4, [.null, .null, .null, .null, .int 0, .int 0, .int 0, .null]))] sz) (wB4 b g1 g2 u i) t) (va_A [(b, .inr (4, [.null, .null, .null, .null, .int 0, .int 0, .int 0, .null]))] sz)) 3 126 (va_A [(b, .inr (4, [.null, .null, .null, .null, .int 0, .int 0, .int 0, .null]))] sz) := by
  refine n_ofG (own := RX4) (lv := [(0, .ref b), (1, .ref g1), (2, .ref g2)]) (w1 := fun u : Nat → Nat => (wB4 b g1 g2 u i)) rfl rfl (by decide) rfl (Nat.le_of_ble_eq_true rfl) rfl ?_
  intro A p e s m below meth c X hA hx hi
  refine g_aload_n X rfl 0 rfl dX4_init_0 ?_
  refine g_obj X (by decide +kernel) (Nat.le_of_ble_eq_true rfl) (Nat.le_of_ble_eq_true rfl) (Nat.le_of_ble_eq_true rfl) dX4_init_1 ?_
  refine g_aload_n X rfl 0 rfl dX4_init_4 ?_
  refine g_bipush (v := (60 : Int32)) X (by decide) dX4_init_5 ?_
  refine g_newI X hA (by decide +kernel) (by decide) (N := 60) (by decide) (by decide) (Nat.le_of_ble_eq_true rfl) (Nat.le_of_ble_eq_true rfl) dX4_init_7 (fun a1 => ?_)
  refine g_putF (ty := tyX4 2) (ws' := [(b, .inr (4, [.null, .null, .ref a1, .null, .int 0, .int 0, .int 0, .null]))] ++ ([(a1, .inl (i 0, 60, .inl (fun _ => 0)))])) X hi 0 rfl rfl 2 (by decide) tyX4 tyX4_ok nmX4 i_X4_init_X4 (by decide +kernel) rfl rfl rfl (by decide +kernel) rfl rfl (Nat.le_of_ble_eq_true rfl) rfl dX4_init_9 ?_
  refine g_aload_n X rfl 0 rfl dX4_init_12 ?_
  refine g_bipush (v := (6 : Int32)) X (by decide) dX4_init_13 ?_
  refine g_newI X hA (by decide +kernel) (by decide) (N := 6) (by decide) (by decide) (Nat.le_of_ble_eq_true rfl) (Nat.le_of_ble_eq_true rfl) dX4_init_15 (fun a2 => ?_)
  refine g_putF (ty := tyX4 3) (ws' := [(b, .inr (4, [.null, .null, .ref a1, .ref a2, .int 0, .int 0, .int 0, .null]))] ++ ([(a1, .inl (i 0, 60, .inl (fun _ => 0)))] ++ ([(a2, .inl (i 0, 6, .inl (fun _ => 0)))]))) X hi 0 rfl rfl 3 (by decide) tyX4 tyX4_ok nmX4 i_X4_init_X4 (by decide +kernel) rfl rfl rfl (by decide +kernel) rfl rfl (Nat.le_of_ble_eq_true rfl) rfl dX4_init_17 ?_
  refine g_aload_n X rfl 0 rfl dX4_init_20 ?_
  refine g_bipush (v := (60 : Int32)) X (by decide) dX4_init_21 ?_
  refine g_newI X hA (by decide +kernel) (by decide) (N := 60) (by decide) (by decide) (Nat.le_of_ble_eq_true rfl) (Nat.le_of_ble_eq_true rfl) dX4_init_23 (fun a3 => ?_)
  refine g_putF (ty := tyX4 7) (ws' := [(b, .inr (4, [.null, .null, .ref a1, .ref a2, .int 0, .int 0, .int 0, .ref a3]))] ++ ([(a1, .inl (i 0, 60, .inl (fun _ => 0)))] ++ ([(a2, .inl (i 0, 6, .inl (fun _ => 0)))] ++ ([(a3, .inl (i 0, 60, .inl (fun _ => 0)))])))) X hi 0 rfl rfl 7 (by decide) tyX4 tyX4_ok nmX4 i_X4_init_X4 (by decide +kernel) rfl rfl rfl (by decide +kernel) rfl rfl (Nat.le_of_ble_eq_true rfl) rfl dX4_init_25 ?_
  refine g_aload_n X rfl 0 rfl dX4_init_28 ?_
  refine g_aload_n X rfl 1 rfl dX4_init_29 ?_
  refine g_putF (ty := tyX4 0) (ws' := [(b, .inr (4, [.ref g1, .null, .ref a1, .ref a2, .int 0, .int 0, .int 0, .ref a3]))] ++ ([(a1, .inl (i 0, 60, .inl (fun _ => 0)))] ++ ([(a2, .inl (i 0, 6, .inl (fun _ => 0)))] ++ ([(a3, .inl (i 0, 60, .inl (fun _ => 0)))])))) X hi 0 rfl rfl 0 (by decide) tyX4 tyX4_ok nmX4 i_X4_init_X4 (by decide +kernel) rfl rfl rfl (by decide +kernel) rfl rfl (Nat.le_of_ble_eq_true rfl) rfl dX4_init_30 ?_
  refine g_aload_n X rfl 0 rfl dX4_init_33 ?_
  refine g_aload_n X rfl 2 rfl dX4_init_34 ?_
  refine g_putF (ty := tyX4 1) (ws' := [(b, .inr (4, [.ref g1, .ref g2, .ref a1, .ref a2, .int 0, .int 0, .int 0, .ref a3]))] ++ ([(a1, .inl (i 0, 60, .inl (fun _ => 0)))] ++ ([(a2, .inl (i 0, 6, .inl (fun _ => 0)))] ++ ([(a3, .inl (i 0, 60, .inl (fun _ => 0)))])))) X hi 0 rfl rfl 1 (by decide) tyX4 tyX4_ok nmX4 i_X4_init_X4 (by decide +kernel) rfl rfl rfl (by decide +kernel) rfl rfl (Nat.le_of_ble_eq_true rfl) rfl dX4_init_35 ?_
  exact g_vret X (fun j => ([a1, a2, a3] : List Nat).getD j 0) trivial rfl dX4_init_38
set_option maxRecDepth 100000 in
theorem i_X2_init_X2 : ∀ w ∈ u_ws RX2 TX2 14, w ∈ wsX2_init := by decide +kernel
abbrev rmN_X2 : Room := { frames := 1, cells := 8, slots := 168, locals := 21 }
set_option maxRecDepth 100000 in
set_option maxHeartbeats 4000000 in
theorem n_X2 (l : Launch) (D : va_G) (i : Nat → ClassId) (b : Nat) : ∀ sz, Met l yX2_init wsX2_init rmN_X2 (va_Pc [.ref b] (vN D i [(b, .inr (2, [.int 0, .int 0, .int 0, .int 0, .int 0, .int 0, .null, .null, .null, .null, .null, .null, .null, .null]))] sz)) (va_Qv (fun u : (Nat → Nat) × vS => pOK u.2) (fun u t => vO D (va_A [(b, .inr (2, [.int 0, .int 0, .int 0, .int 0, .int 0, .int 0, .null, .null, .null, .null, .null, .null, .null, .null]))] sz) (wP (qb b u.1) i u.2) t) (va_A [(b, .inr (2, [.int 0, .int 0, .int 0, .int 0, .int 0, .int 0, .null, .null, .null, .null, .null, .null, .null, .null]))] sz)) 8 168 (va_A [(b, .inr (2, [.int 0, .int 0, .int 0, .int 0, .int 0, .int 0, .null, .null, .null, .null, .null, .null, .null, .null]))] sz) := by
  refine n_ofG (own := RX2) (lv := [(0, .ref b)]) (w1 := fun u : (Nat → Nat) × vS => (wP (qb b u.1) i u.2)) rfl rfl (by decide) rfl (Nat.le_of_ble_eq_true rfl) rfl ?_
  intro A p e s m below meth c X hA hx hi
  refine g_aload_n X rfl 0 rfl dX2_init_0 ?_
  refine g_obj X (by decide +kernel) (Nat.le_of_ble_eq_true rfl) (Nat.le_of_ble_eq_true rfl) (Nat.le_of_ble_eq_true rfl) dX2_init_1 ?_
  refine g_aload_n X rfl 0 rfl dX2_init_4 ?_
  refine g_bipush (v := (6 : Int32)) X (by decide) dX2_init_5 ?_
  refine g_newI X hA (by decide +kernel) (by decide) (N := 6) (by decide) (by decide) (Nat.le_of_ble_eq_true rfl) (Nat.le_of_ble_eq_true rfl) dX2_init_7 (fun a1 => ?_)
  refine g_putF (ty := tyX2 6) (ws' := [(b, .inr (2, [.int 0, .int 0, .int 0, .int 0, .int 0, .int 0, .ref a1, .null, .null, .null, .null, .null, .null, .null]))] ++ ([(a1, .inl (i 0, 6, .inl (fun _ => 0)))])) X hi 0 rfl rfl 6 (by decide) tyX2 tyX2_ok nmX2 i_X2_init_X2 (by decide +kernel) rfl rfl rfl (by decide +kernel) rfl rfl (Nat.le_of_ble_eq_true rfl) rfl dX2_init_9 ?_
  refine g_aload_n X rfl 0 rfl dX2_init_12 ?_
  refine g_bipush (v := (6 : Int32)) X (by decide) dX2_init_13 ?_
  refine g_newI X hA (by decide +kernel) (by decide) (N := 6) (by decide) (by decide) (Nat.le_of_ble_eq_true rfl) (Nat.le_of_ble_eq_true rfl) dX2_init_15 (fun a2 => ?_)
  refine g_putF (ty := tyX2 7) (ws' := [(b, .inr (2, [.int 0, .int 0, .int 0, .int 0, .int 0, .int 0, .ref a1, .ref a2, .null, .null, .null, .null, .null, .null]))] ++ ([(a1, .inl (i 0, 6, .inl (fun _ => 0)))] ++ ([(a2, .inl (i 0, 6, .inl (fun _ => 0)))]))) X hi 0 rfl rfl 7 (by decide) tyX2 tyX2_ok nmX2 i_X2_init_X2 (by decide +kernel) rfl rfl rfl (by decide +kernel) rfl rfl (Nat.le_of_ble_eq_true rfl) rfl dX2_init_17 ?_
  refine g_aload_n X rfl 0 rfl dX2_init_20 ?_
  refine g_bipush (v := (6 : Int32)) X (by decide) dX2_init_21 ?_
  refine g_newI X hA (by decide +kernel) (by decide) (N := 6) (by decide) (by decide) (Nat.le_of_ble_eq_true rfl) (Nat.le_of_ble_eq_true rfl) dX2_init_23 (fun a3 => ?_)
  refine g_putF (ty := tyX2 8) (ws' := [(b, .inr (2, [.int 0, .int 0, .int 0, .int 0, .int 0, .int 0, .ref a1, .ref a2, .ref a3, .null, .null, .null, .null, .null]))] ++ ([(a1, .inl (i 0, 6, .inl (fun _ => 0)))] ++ ([(a2, .inl (i 0, 6, .inl (fun _ => 0)))] ++ ([(a3, .inl (i 0, 6, .inl (fun _ => 0)))])))) X hi 0 rfl rfl 8 (by decide) tyX2 tyX2_ok nmX2 i_X2_init_X2 (by decide +kernel) rfl rfl rfl (by decide +kernel) rfl rfl (Nat.le_of_ble_eq_true rfl) rfl dX2_init_25 ?_
  refine g_aload_n X rfl 0 rfl dX2_init_28 ?_
  refine g_bipush (v := (60 : Int32)) X (by decide) dX2_init_29 ?_
  refine g_newI X hA (by decide +kernel) (by decide) (N := 60) (by decide) (by decide) (Nat.le_of_ble_eq_true rfl) (Nat.le_of_ble_eq_true rfl) dX2_init_31 (fun a4 => ?_)
  refine g_putF (ty := tyX2 9) (ws' := [(b, .inr (2, [.int 0, .int 0, .int 0, .int 0, .int 0, .int 0, .ref a1, .ref a2, .ref a3, .ref a4, .null, .null, .null, .null]))] ++ ([(a1, .inl (i 0, 6, .inl (fun _ => 0)))] ++ ([(a2, .inl (i 0, 6, .inl (fun _ => 0)))] ++ ([(a3, .inl (i 0, 6, .inl (fun _ => 0)))] ++ ([(a4, .inl (i 0, 60, .inl (fun _ => 0)))]))))) X hi 0 rfl rfl 9 (by decide) tyX2 tyX2_ok nmX2 i_X2_init_X2 (by decide +kernel) rfl rfl rfl (by decide +kernel) rfl rfl (Nat.le_of_ble_eq_true rfl) rfl dX2_init_33 ?_
  refine g_aload_n X rfl 0 rfl dX2_init_36 ?_
  refine g_bipush (v := (60 : Int32)) X (by decide) dX2_init_37 ?_
  refine g_newI X hA (by decide +kernel) (by decide) (N := 60) (by decide) (by decide) (Nat.le_of_ble_eq_true rfl) (Nat.le_of_ble_eq_true rfl) dX2_init_39 (fun a5 => ?_)
  refine g_putF (ty := tyX2 10) (ws' := [(b, .inr (2, [.int 0, .int 0, .int 0, .int 0, .int 0, .int 0, .ref a1, .ref a2, .ref a3, .ref a4, .ref a5, .null, .null, .null]))] ++ ([(a1, .inl (i 0, 6, .inl (fun _ => 0)))] ++ ([(a2, .inl (i 0, 6, .inl (fun _ => 0)))] ++ ([(a3, .inl (i 0, 6, .inl (fun _ => 0)))] ++ ([(a4, .inl (i 0, 60, .inl (fun _ => 0)))] ++ ([(a5, .inl (i 0, 60, .inl (fun _ => 0)))])))))) X hi 0 rfl rfl 10 (by decide) tyX2 tyX2_ok nmX2 i_X2_init_X2 (by decide +kernel) rfl rfl rfl (by decide +kernel) rfl rfl (Nat.le_of_ble_eq_true rfl) rfl dX2_init_41 ?_
  refine g_aload_n X rfl 0 rfl dX2_init_44 ?_
  refine g_bipush (v := (10 : Int32)) X (by decide) dX2_init_45 ?_
  refine g_newI X hA (by decide +kernel) (by decide) (N := 10) (by decide) (by decide) (Nat.le_of_ble_eq_true rfl) (Nat.le_of_ble_eq_true rfl) dX2_init_47 (fun a6 => ?_)
  refine g_putF (ty := tyX2 11) (ws' := [(b, .inr (2, [.int 0, .int 0, .int 0, .int 0, .int 0, .int 0, .ref a1, .ref a2, .ref a3, .ref a4, .ref a5, .ref a6, .null, .null]))] ++ ([(a1, .inl (i 0, 6, .inl (fun _ => 0)))] ++ ([(a2, .inl (i 0, 6, .inl (fun _ => 0)))] ++ ([(a3, .inl (i 0, 6, .inl (fun _ => 0)))] ++ ([(a4, .inl (i 0, 60, .inl (fun _ => 0)))] ++ ([(a5, .inl (i 0, 60, .inl (fun _ => 0)))] ++ ([(a6, .inl (i 0, 10, .inl (fun _ => 0)))]))))))) X hi 0 rfl rfl 11 (by decide) tyX2 tyX2_ok nmX2 i_X2_init_X2 (by decide +kernel) rfl rfl rfl (by decide +kernel) rfl rfl (Nat.le_of_ble_eq_true rfl) rfl dX2_init_49 ?_
  refine g_aload_n X rfl 0 rfl dX2_init_52 ?_
  refine g_bipush (v := (10 : Int32)) X (by decide) dX2_init_53 ?_
  refine g_newI X hA (by decide +kernel) (by decide) (N := 10) (by decide) (by decide) (Nat.le_of_ble_eq_true rfl) (Nat.le_of_ble_eq_true rfl) dX2_init_55 (fun a7 => ?_)
  refine g_putF (ty := tyX2 12) (ws' := [(b, .inr (2, [.int 0, .int 0, .int 0, .int 0, .int 0, .int 0, .ref a1, .ref a2, .ref a3, .ref a4, .ref a5, .ref a6, .ref a7, .null]))] ++ ([(a1, .inl (i 0, 6, .inl (fun _ => 0)))] ++ ([(a2, .inl (i 0, 6, .inl (fun _ => 0)))] ++ ([(a3, .inl (i 0, 6, .inl (fun _ => 0)))] ++ ([(a4, .inl (i 0, 60, .inl (fun _ => 0)))] ++ ([(a5, .inl (i 0, 60, .inl (fun _ => 0)))] ++ ([(a6, .inl (i 0, 10, .inl (fun _ => 0)))] ++ ([(a7, .inl (i 0, 10, .inl (fun _ => 0)))])))))))) X hi 0 rfl rfl 12 (by decide) tyX2 tyX2_ok nmX2 i_X2_init_X2 (by decide +kernel) rfl rfl rfl (by decide +kernel) rfl rfl (Nat.le_of_ble_eq_true rfl) rfl dX2_init_57 ?_
  refine g_aload_n X rfl 0 rfl dX2_init_60 ?_
  refine g_bipush (v := (10 : Int32)) X (by decide) dX2_init_61 ?_
  refine g_newI X hA (by decide +kernel) (by decide) (N := 10) (by decide) (by decide) (Nat.le_of_ble_eq_true rfl) (Nat.le_of_ble_eq_true rfl) dX2_init_63 (fun a8 => ?_)
  refine g_putF (ty := tyX2 13) (ws' := [(b, .inr (2, [.int 0, .int 0, .int 0, .int 0, .int 0, .int 0, .ref a1, .ref a2, .ref a3, .ref a4, .ref a5, .ref a6, .ref a7, .ref a8]))] ++ ([(a1, .inl (i 0, 6, .inl (fun _ => 0)))] ++ ([(a2, .inl (i 0, 6, .inl (fun _ => 0)))] ++ ([(a3, .inl (i 0, 6, .inl (fun _ => 0)))] ++ ([(a4, .inl (i 0, 60, .inl (fun _ => 0)))] ++ ([(a5, .inl (i 0, 60, .inl (fun _ => 0)))] ++ ([(a6, .inl (i 0, 10, .inl (fun _ => 0)))] ++ ([(a7, .inl (i 0, 10, .inl (fun _ => 0)))] ++ ([(a8, .inl (i 0, 10, .inl (fun _ => 0)))]))))))))) X hi 0 rfl rfl 13 (by decide) tyX2 tyX2_ok nmX2 i_X2_init_X2 (by decide +kernel) rfl rfl rfl (by decide +kernel) rfl rfl (Nat.le_of_ble_eq_true rfl) rfl dX2_init_65 ?_
  refine g_aload_n X rfl 0 rfl dX2_init_68 ?_
  refine g_Vv (st := []) (w := wP (qb b (fun j => ([0, a1, a2, a3, a4, a5, a6, a7, a8] : List Nat).getD j 0)) i) (S := pS0) X [] 0 rfl (c_X2_clear_plan l D i (qb b (fun j => ([0, a1, a2, a3, a4, a5, a6, a7, a8] : List Nat).getD j 0)) A pS0 (fun S1 => pOK S1) p_clear) (cwV 0 X.ts gX2_init_X2_clear rfl rfl rfl (by decide +kernel) ⟨(Nat.le_of_ble_eq_true rfl), (Nat.le_of_ble_eq_true rfl)⟩) rfl rfl rfl rfl (Nat.le_of_ble_eq_true rfl) ⟨(Nat.le_of_ble_eq_true rfl), (Nat.le_of_ble_eq_true rfl)⟩ dX2_init_69 (fun S9 hS9 => ?_)
  exact g_vret X ((fun j => ([0, a1, a2, a3, a4, a5, a6, a7, a8] : List Nat).getD j 0), S9) hS9 rfl dX2_init_72
set_option maxRecDepth 100000 in
theorem i_X3_init_X2 : ∀ w ∈ u_ws RX2 TX2 14, w ∈ wsX3_init := by decide +kernel
set_option maxRecDepth 100000 in
theorem i_X3_init_X3 : ∀ w ∈ u_ws RX3 TX3 9, w ∈ wsX3_init := by decide +kernel
abbrev rmN_X3 : Room := { frames := 2, cells := 13, slots := 751, locals := 41 }
set_option maxRecDepth 100000 in
set_option maxHeartbeats 4000000 in
theorem n_X3 (l : Launch) (D : va_G) (i : Nat → ClassId) (b : Nat) : ∀ sz, Met l yX3_init wsX3_init rmN_X3 (va_Pc [.ref b] (vN D i [(b, .inr (3, [.null, .int 0, .int 0, .int 0, .null, .null, .null, .null, .int 0]))] sz)) (va_Qv (fun u : (Nat → Nat) × vS => pOK u.2) (fun u t => vO D (va_A [(b, .inr (3, [.null, .int 0, .int 0, .int 0, .null, .null, .null, .null, .int 0]))] sz) (wB3 b u.1 i u.2) t) (va_A [(b, .inr (3, [.null, .int 0, .int 0, .int 0, .null, .null, .null, .null, .int 0]))] sz)) 13 751 (va_A [(b, .inr (3, [.null, .int 0, .int 0, .int 0, .null, .null, .null, .null, .int 0]))] sz) := by
  refine n_ofG (own := RX3) (lv := [(0, .ref b)]) (w1 := fun u : (Nat → Nat) × vS => (wB3 b u.1 i u.2)) rfl rfl (by decide) rfl (Nat.le_of_ble_eq_true rfl) rfl ?_
  intro A p e s m below meth c X hA hx hi
  refine g_aload_n X rfl 0 rfl dX3_init_0 ?_
  refine g_obj X (by decide +kernel) (Nat.le_of_ble_eq_true rfl) (Nat.le_of_ble_eq_true rfl) (Nat.le_of_ble_eq_true rfl) dX3_init_1 ?_
  refine g_aload_n X rfl 0 rfl dX3_init_4 ?_
  refine g_new (ci := 2) (fs := [.int 0, .int 0, .int 0, .int 0, .int 0, .int 0, .null, .null, .null, .null, .null, .null, .null, .null]) X hA rfl tyX2 tyX2_ok i_X3_init_X2 (by decide +kernel) (fun j hj => by rcases (show j = 0 ∨ j = 1 ∨ j = 2 ∨ j = 3 ∨ j = 4 ∨ j = 5 ∨ j = 6 ∨ j = 7 ∨ j = 8 ∨ j = 9 ∨ j = 10 ∨ j = 11 ∨ j = 12 ∨ j = 13 by omega) with rfl | rfl | rfl | rfl | rfl | rfl | rfl | rfl | rfl | rfl | rfl | rfl | rfl | rfl <;> rfl) (Nat.le_of_ble_eq_true rfl) (Nat.le_of_ble_eq_true rfl) dX3_init_5 (fun o1 => ?_)
  refine g_dup X rfl dX3_init_8 ?_
  refine g_I (st := [.ref o1, .ref b]) (wr := [(b, .inr (3, [.null, .int 0, .int 0, .int 0, .null, .null, .null, .null, .int 0]))]) X hA hx [] [1] [0] rfl rfl rfl (by decide) (by decide) (by decide) (n_X2 l D i o1) (cwI 0 X.ts gX3_init_X2_init rfl rfl rfl (X.ts _ (by decide +kernel)) (X.ts _ (by decide +kernel)) (X.ts _ (by decide +kernel)) rfl (by decide +kernel) ⟨(Nat.le_of_ble_eq_true rfl), (Nat.le_of_ble_eq_true rfl)⟩) rfl rfl (Nat.le_of_ble_eq_true rfl) dX3_init_9 ⟨(Nat.le_of_ble_eq_true rfl), (Nat.le_of_ble_eq_true rfl)⟩ (fun u2 hu2 => ?_)
  refine g_putF (ty := tyX3 0) (ws' := [(b, .inr (3, [.ref o1, .int 0, .int 0, .int 0, .null, .null, .null, .null, .int 0]))] ++ (wP (qb o1 u2.1) i u2.2)) X hi 0 rfl rfl 0 (by decide) tyX3 tyX3_ok nmX3 i_X3_init_X3 (by decide +kernel) rfl rfl rfl (by decide +kernel) rfl rfl (Nat.le_of_ble_eq_true rfl) rfl dX3_init_12 ?_
  refine g_aload_n X rfl 0 rfl dX3_init_15 ?_
  refine g_iconst (v := (-1 : Int32)) X (by decide) dX3_init_16 ?_
  refine g_put (ty := .int) (ws' := [(b, .inr (3, [.ref o1, .int 0, .int 0, .int (-1 : Int32), .null, .null, .null, .null, .int 0]))] ++ (wP (qb o1 u2.1) i u2.2)) X 0 rfl rfl 3 (by decide) tyX3 tyX3_ok nmX3 i_X3_init_X3 (by decide +kernel) rfl rfl (by decide +kernel) rfl rfl (Nat.le_of_ble_eq_true rfl) rfl dX3_init_17 ?_
  refine g_aload_n X rfl 0 rfl dX3_init_20 ?_
  refine g_sipush (v := (500 : Int32)) X (by decide) dX3_init_21 ?_
  refine g_newB X hA (by decide +kernel) (by decide) (N := 500) (by decide) (by decide) (Nat.le_of_ble_eq_true rfl) (Nat.le_of_ble_eq_true rfl) dX3_init_24 (fun a3 => ?_)
  refine g_putF (ty := tyX3 4) (ws' := [(b, .inr (3, [.ref o1, .int 0, .int 0, .int (-1 : Int32), .ref a3, .null, .null, .null, .int 0]))] ++ (wP (qb o1 u2.1) i u2.2 ++ ([(a3, .inl (i 1, 500, .inl (fun _ => 0)))]))) X hi 0 rfl rfl 4 (by decide) tyX3 tyX3_ok nmX3 i_X3_init_X3 (by decide +kernel) rfl rfl rfl (by decide +kernel) rfl rfl (Nat.le_of_ble_eq_true rfl) rfl dX3_init_26 ?_
  refine g_aload_n X rfl 0 rfl dX3_init_29 ?_
  refine g_iconst (v := (3 : Int32)) X (by decide) dX3_init_30 ?_
  refine g_newI X hA (by decide +kernel) (by decide) (N := 3) (by decide) (by decide) (Nat.le_of_ble_eq_true rfl) (Nat.le_of_ble_eq_true rfl) dX3_init_31 (fun a4 => ?_)
  refine g_putF (ty := tyX3 5) (ws' := [(b, .inr (3, [.ref o1, .int 0, .int 0, .int (-1 : Int32), .ref a3, .ref a4, .null, .null, .int 0]))] ++ (wP (qb o1 u2.1) i u2.2 ++ ([(a3, .inl (i 1, 500, .inl (fun _ => 0)))] ++ ([(a4, .inl (i 0, 3, .inl (fun _ => 0)))])))) X hi 0 rfl rfl 5 (by decide) tyX3 tyX3_ok nmX3 i_X3_init_X3 (by decide +kernel) rfl rfl rfl (by decide +kernel) rfl rfl (Nat.le_of_ble_eq_true rfl) rfl dX3_init_33 ?_
  refine g_aload_n X rfl 0 rfl dX3_init_36 ?_
  refine g_bipush (v := (6 : Int32)) X (by decide) dX3_init_37 ?_
  refine g_newI X hA (by decide +kernel) (by decide) (N := 6) (by decide) (by decide) (Nat.le_of_ble_eq_true rfl) (Nat.le_of_ble_eq_true rfl) dX3_init_39 (fun a5 => ?_)
  refine g_putF (ty := tyX3 6) (ws' := [(b, .inr (3, [.ref o1, .int 0, .int 0, .int (-1 : Int32), .ref a3, .ref a4, .ref a5, .null, .int 0]))] ++ (wP (qb o1 u2.1) i u2.2 ++ ([(a3, .inl (i 1, 500, .inl (fun _ => 0)))] ++ ([(a4, .inl (i 0, 3, .inl (fun _ => 0)))] ++ ([(a5, .inl (i 0, 6, .inl (fun _ => 0)))]))))) X hi 0 rfl rfl 6 (by decide) tyX3 tyX3_ok nmX3 i_X3_init_X3 (by decide +kernel) rfl rfl rfl (by decide +kernel) rfl rfl (Nat.le_of_ble_eq_true rfl) rfl dX3_init_41 ?_
  refine g_aload_n X rfl 0 rfl dX3_init_44 ?_
  refine g_bipush (v := (60 : Int32)) X (by decide) dX3_init_45 ?_
  refine g_newZ X hA (by decide +kernel) (by decide) (N := 60) (by decide) (by decide) (Nat.le_of_ble_eq_true rfl) (Nat.le_of_ble_eq_true rfl) dX3_init_47 (fun a6 => ?_)
  refine g_putF (ty := tyX3 7) (ws' := [(b, .inr (3, [.ref o1, .int 0, .int 0, .int (-1 : Int32), .ref a3, .ref a4, .ref a5, .ref a6, .int 0]))] ++ (wP (qb o1 u2.1) i u2.2 ++ ([(a3, .inl (i 1, 500, .inl (fun _ => 0)))] ++ ([(a4, .inl (i 0, 3, .inl (fun _ => 0)))] ++ ([(a5, .inl (i 0, 6, .inl (fun _ => 0)))] ++ ([(a6, .inl (i 2, 60, .inl (fun _ => 0)))])))))) X hi 0 rfl rfl 7 (by decide) tyX3 tyX3_ok nmX3 i_X3_init_X3 (by decide +kernel) rfl rfl rfl (by decide +kernel) rfl rfl (Nat.le_of_ble_eq_true rfl) rfl dX3_init_49 ?_
  exact g_vret X ((fun j => if j < 9 then qb o1 u2.1 j else ([a3, a4, a5, a6] : List Nat).getD (j - 9) 0), u2.2) hu2 rfl dX3_init_52
def mS0 : vS := (fun j => if j = 4 then 3 else if j = 5 then 100 else if j = 10 then -1 else 0, fun _ _ => 0, fun _ => 0)
