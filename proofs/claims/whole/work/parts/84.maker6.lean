theorem img_eq (x y : Nat) : va_up (va_up (fun _ => none) 0 (some x)) 1 (some y) = (fun j => if j = 0 then some x else if j = 1 then some y else none) := by
  funext j
  unfold va_up
  by_cases h0 : j = 0
  · subst h0; rfl
  · by_cases h1 : j = 1
    · subst h1; rfl
    · simp [h0, h1]
def cS0 (P R : vS) : vS := (fun j => if j < 6 then P.1 j else if j < 12 then R.1 (j - 6) else if j = 14 then -1 else 0, fun a => if a = 0 then fun _ => 0 else if a < 9 then P.2.1 (a - 1) else if a < 17 then R.2.1 (a - 9) else fun _ => 0, fun _ => 0)
set_option maxRecDepth 100000 in
theorem i_X6_init_X0 : ∀ w ∈ u_ws RX0 TX0 5, w ∈ wsX6_init := by decide +kernel
set_option maxRecDepth 100000 in
theorem i_X6_init_X1 : ∀ w ∈ u_ws RX1 TX1 4, w ∈ wsX6_init := by decide +kernel
set_option maxRecDepth 100000 in
theorem i_X6_init_X2 : ∀ w ∈ u_ws RX2 TX2 14, w ∈ wsX6_init := by decide +kernel
set_option maxRecDepth 100000 in
theorem i_X6_init_X3 : ∀ w ∈ u_ws RX3 TX3 9, w ∈ wsX6_init := by decide +kernel
set_option maxRecDepth 100000 in
theorem i_X6_init_X4 : ∀ w ∈ u_ws RX4 TX4 8, w ∈ wsX6_init := by decide +kernel
set_option maxRecDepth 100000 in
theorem i_X6_init_X5 : ∀ w ∈ u_ws RX5 TX5 7, w ∈ wsX6_init := by decide +kernel
set_option maxRecDepth 100000 in
theorem i_X6_init_X6 : ∀ w ∈ u_ws RX6 TX6 8, w ∈ wsX6_init := by decide +kernel
abbrev rmN_X6 : Room := { frames := 3, cells := 47, slots := 1520, locals := 61 }
set_option maxRecDepth 100000 in
set_option maxHeartbeats 4000000 in
theorem n_X6 (l : Launch) (D : va_G) (i : Nat → ClassId) (b : Nat) : ∀ sz, Met l yX6_init wsX6_init rmN_X6 (va_Pc [.ref b] (vN D i [(b, .inr (6, [.null, .null, .null, .null, .null, .null, .null, .null]))] sz)) (va_Qv (fun u : (Nat → Nat) × vS => u.1 0 = b ∧ ∃ P R : vS, pOK P ∧ pOK R ∧ u.2 = cS0 P R) (fun u t => vO D (va_A [(b, .inr (6, [.null, .null, .null, .null, .null, .null, .null, .null]))] sz) (wC u.1 i u.2) t) (va_A [(b, .inr (6, [.null, .null, .null, .null, .null, .null, .null, .null]))] sz)) 47 1520 (va_A [(b, .inr (6, [.null, .null, .null, .null, .null, .null, .null, .null]))] sz) := by
  refine n_ofG (own := RX6) (lv := [(0, .ref b)]) (w1 := fun u : (Nat → Nat) × vS => (wC u.1 i u.2)) rfl rfl (by decide) rfl (Nat.le_of_ble_eq_true rfl) rfl ?_
  intro A p e s m below meth c X hA hx hi
  refine g_aload_n X rfl 0 rfl dX6_init_0 ?_
  refine g_obj X (by decide +kernel) (Nat.le_of_ble_eq_true rfl) (Nat.le_of_ble_eq_true rfl) (Nat.le_of_ble_eq_true rfl) dX6_init_1 ?_
  refine g_aload_n X rfl 0 rfl dX6_init_4 ?_
  refine g_new (ci := 2) (fs := [.int 0, .int 0, .int 0, .int 0, .int 0, .int 0, .null, .null, .null, .null, .null, .null, .null, .null]) X hA rfl tyX2 tyX2_ok i_X6_init_X2 (by decide +kernel) (fun j hj => by rcases (show j = 0 ∨ j = 1 ∨ j = 2 ∨ j = 3 ∨ j = 4 ∨ j = 5 ∨ j = 6 ∨ j = 7 ∨ j = 8 ∨ j = 9 ∨ j = 10 ∨ j = 11 ∨ j = 12 ∨ j = 13 by omega) with rfl | rfl | rfl | rfl | rfl | rfl | rfl | rfl | rfl | rfl | rfl | rfl | rfl | rfl <;> rfl) (Nat.le_of_ble_eq_true rfl) (Nat.le_of_ble_eq_true rfl) dX6_init_5 (fun o1 => ?_)
  refine g_dup X rfl dX6_init_8 ?_
  refine g_I (st := [.ref o1, .ref b]) (wr := [(b, .inr (6, [.null, .null, .null, .null, .null, .null, .null, .null]))]) X hA hx [] [1] [0] rfl rfl rfl (by decide) (by decide) (by decide) (n_X2 l D i o1) (cwI 0 X.ts gX6_init_X2_init rfl rfl rfl (X.ts _ (by decide +kernel)) (X.ts _ (by decide +kernel)) (X.ts _ (by decide +kernel)) rfl (by decide +kernel) ⟨(Nat.le_of_ble_eq_true rfl), (Nat.le_of_ble_eq_true rfl)⟩) rfl rfl (Nat.le_of_ble_eq_true rfl) dX6_init_9 ⟨(Nat.le_of_ble_eq_true rfl), (Nat.le_of_ble_eq_true rfl)⟩ (fun u2 hu2 => ?_)
  refine g_putF (ty := tyX6 0) (ws' := [(b, .inr (6, [.ref o1, .null, .null, .null, .null, .null, .null, .null]))] ++ (wP (qb o1 u2.1) i u2.2)) X hi 0 rfl rfl 0 (by decide) tyX6 tyX6_ok nmX6 i_X6_init_X6 (by decide +kernel) rfl rfl rfl (by decide +kernel) rfl rfl (Nat.le_of_ble_eq_true rfl) rfl dX6_init_12 ?_
  refine g_aload_n X rfl 0 rfl dX6_init_15 ?_
  refine g_new (ci := 3) (fs := [.null, .int 0, .int 0, .int 0, .null, .null, .null, .null, .int 0]) X hA rfl tyX3 tyX3_ok i_X6_init_X3 (by decide +kernel) (fun j hj => by rcases (show j = 0 ∨ j = 1 ∨ j = 2 ∨ j = 3 ∨ j = 4 ∨ j = 5 ∨ j = 6 ∨ j = 7 ∨ j = 8 by omega) with rfl | rfl | rfl | rfl | rfl | rfl | rfl | rfl | rfl <;> rfl) (Nat.le_of_ble_eq_true rfl) (Nat.le_of_ble_eq_true rfl) dX6_init_16 (fun o3 => ?_)
  refine g_dup X rfl dX6_init_19 ?_
  refine g_IN (st := [.ref o3, .ref b]) (wr := [(b, .inr (6, [.ref o1, .null, .null, .null, .null, .null, .null, .null]))] ++ (wP (qb o1 u2.1) i u2.2)) X hA hx [] [10] [0, 1, 2, 3, 4, 5, 6, 7, 8, 9] rfl rfl rfl (by decide) (by decide) (by decide) (n_X3 l D i o3) ⟨va_cnB 0 X.ts gX6_init_X3_init_n18 rfl rfl rfl hx.2.1 (X.ts _ (by decide +kernel)) (by decide +kernel) ⟨(Nat.le_of_ble_eq_true rfl), (Nat.le_of_ble_eq_true rfl)⟩, rfl, X.ts _ (by decide +kernel)⟩ rfl rfl (Nat.le_of_ble_eq_true rfl) dX6_init_20 ⟨(Nat.le_of_ble_eq_true rfl), (Nat.le_of_ble_eq_true rfl)⟩ (fun u4 hu4 => ?_)
  refine g_putF (ty := tyX6 1) (ws' := [(b, .inr (6, [.ref o1, .ref o3, .null, .null, .null, .null, .null, .null]))] ++ (wP (qb o1 u2.1) i u2.2 ++ (wB3 o3 u4.1 i u4.2))) X hi 0 rfl rfl 1 (by decide) tyX6 tyX6_ok nmX6 i_X6_init_X6 (by decide +kernel) rfl rfl rfl (by decide +kernel) rfl rfl (Nat.le_of_ble_eq_true rfl) rfl dX6_init_23 ?_
  refine g_aload_n X rfl 0 rfl dX6_init_26 ?_
  refine g_new (ci := 5) (fs := [.int 0, .int 0, .int 0, .int 0, .null, .null, .null]) X hA rfl tyX5 tyX5_ok i_X6_init_X5 (by decide +kernel) (fun j hj => by rcases (show j = 0 ∨ j = 1 ∨ j = 2 ∨ j = 3 ∨ j = 4 ∨ j = 5 ∨ j = 6 by omega) with rfl | rfl | rfl | rfl | rfl | rfl | rfl <;> rfl) (Nat.le_of_ble_eq_true rfl) (Nat.le_of_ble_eq_true rfl) dX6_init_27 (fun o5 => ?_)
  refine g_dup X rfl dX6_init_30 ?_
  refine g_IN (st := [.ref o5, .ref b]) (wr := [(b, .inr (6, [.ref o1, .ref o3, .null, .null, .null, .null, .null, .null]))] ++ (wP (qb o1 u2.1) i u2.2 ++ (wB3 o3 u4.1 i u4.2))) X hA hx [] [24] [0, 1, 2, 3, 4, 5, 6, 7, 8, 9, 10, 11, 12, 13, 14, 15, 16, 17, 18, 19, 20, 21, 22, 23] rfl rfl rfl (by decide) (by decide) (by decide) (n_X5 l D i o5) ⟨va_cnB 0 X.ts gX6_init_X5_init_n25 rfl rfl rfl hx.2.2.1 (X.ts _ (by decide +kernel)) (by decide +kernel) ⟨(Nat.le_of_ble_eq_true rfl), (Nat.le_of_ble_eq_true rfl)⟩, rfl, X.ts _ (by decide +kernel)⟩ rfl rfl (Nat.le_of_ble_eq_true rfl) dX6_init_31 ⟨(Nat.le_of_ble_eq_true rfl), (Nat.le_of_ble_eq_true rfl)⟩ (fun u6 hu6 => ?_)
  refine g_putF (ty := tyX6 2) (ws' := [(b, .inr (6, [.ref o1, .ref o3, .ref o5, .null, .null, .null, .null, .null]))] ++ (wP (qb o1 u2.1) i u2.2 ++ (wB3 o3 u4.1 i u4.2 ++ (wB5 o5 u6 i)))) X hi 0 rfl rfl 2 (by decide) tyX6 tyX6_ok nmX6 i_X6_init_X6 (by decide +kernel) rfl rfl rfl (by decide +kernel) rfl rfl (Nat.le_of_ble_eq_true rfl) rfl dX6_init_34 ?_
  refine g_aload_n X rfl 0 rfl dX6_init_37 ?_
  refine g_iconst (v := (2 : Int32)) X (by decide) dX6_init_38 ?_
  refine g_newA X hA hx (by decide +kernel) (by decide) (N := 2) (by decide) (by decide) (Nat.le_of_ble_eq_true rfl) (Nat.le_of_ble_eq_true rfl) dX6_init_39 (fun a7 => ?_)
  refine g_putF (ty := tyX6 3) (ws' := [(b, .inr (6, [.ref o1, .ref o3, .ref o5, .ref a7, .null, .null, .null, .null]))] ++ (wP (qb o1 u2.1) i u2.2 ++ (wB3 o3 u4.1 i u4.2 ++ (wB5 o5 u6 i ++ ([(a7, .inl (i 3, 2, .inr (.inr (.inr (.inr (fun _ => none))))))]))))) X hi 0 rfl rfl 3 (by decide) tyX6 tyX6_ok nmX6 i_X6_init_X6 (by decide +kernel) rfl rfl rfl (by decide +kernel) rfl rfl (Nat.le_of_ble_eq_true rfl) rfl dX6_init_42 ?_
  refine g_iconst (v := (0 : Int32)) X (by decide) dX6_init_45 ?_
  refine g_istore_n (lv' := [(1, .int (0 : Int32)), (0, .ref b)]) X rfl (by decide) rfl dX6_init_46 ?_
  refine g_iload_n X rfl 0 rfl dX6_init_47 ?_
  refine g_iconst (v := (2 : Int32)) X (by decide) dX6_init_48 ?_
  refine g_icmp_ge (tgt := 71) X dX6_init_49 (by decide) (fun c => absurd c (by decide)) (fun _ => ?_)
  refine g_aload_n X rfl 1 rfl dX6_init_52 ?_
  refine g_get X 0 rfl rfl 3 (by decide) i_X6_init_X6 (by decide +kernel) rfl rfl dX6_init_53 ?_
  refine g_iload_n X rfl 0 rfl dX6_init_56 ?_
  refine g_new (ci := 5) (fs := [.int 0, .int 0, .int 0, .int 0, .null, .null, .null]) X hA rfl tyX5 tyX5_ok i_X6_init_X5 (by decide +kernel) (fun j hj => by rcases (show j = 0 ∨ j = 1 ∨ j = 2 ∨ j = 3 ∨ j = 4 ∨ j = 5 ∨ j = 6 by omega) with rfl | rfl | rfl | rfl | rfl | rfl | rfl <;> rfl) (Nat.le_of_ble_eq_true rfl) (Nat.le_of_ble_eq_true rfl) dX6_init_57 (fun o8 => ?_)
  refine g_dup X rfl dX6_init_60 ?_
  refine g_IN (st := [.ref o8, .int (0 : Int32), .ref a7]) (wr := [(b, .inr (6, [.ref o1, .ref o3, .ref o5, .ref a7, .null, .null, .null, .null]))] ++ (wP (qb o1 u2.1) i u2.2 ++ (wB3 o3 u4.1 i u4.2 ++ (wB5 o5 u6 i ++ ([(a7, .inl (i 3, 2, .inr (.inr (.inr (.inr (fun _ => none))))))]))))) X hA hx [] [29] [0, 1, 2, 3, 4, 5, 6, 7, 8, 9, 10, 11, 12, 13, 14, 15, 16, 17, 18, 19, 20, 21, 22, 23, 24, 25, 26, 27, 28] rfl rfl rfl (by decide) (by decide) (by decide) (n_X5 l D i o8) ⟨va_cnB 0 X.ts gX6_init_X5_init_n25 rfl rfl rfl hx.2.2.1 (X.ts _ (by decide +kernel)) (by decide +kernel) ⟨(Nat.le_of_ble_eq_true rfl), (Nat.le_of_ble_eq_true rfl)⟩, rfl, X.ts _ (by decide +kernel)⟩ rfl rfl (Nat.le_of_ble_eq_true rfl) dX6_init_61 ⟨(Nat.le_of_ble_eq_true rfl), (Nat.le_of_ble_eq_true rfl)⟩ (fun u9 hu9 => ?_)
  refine g_aast (ws' := [(b, .inr (6, [.ref o1, .ref o3, .ref o5, .ref a7, .null, .null, .null, .null]))] ++ (wP (qb o1 u2.1) i u2.2 ++ (wB3 o3 u4.1 i u4.2 ++ (wB5 o5 u6 i ++ ([(a7, .inl (i 3, 2, .inr (.inr (.inr (.inr (va_up (fun _ => none) 0 (some o8)))))))] ++ (wB5 o8 u9 i)))))) X 28 29 rfl rfl (in_nI (k := 0) (by decide) (by decide)) rfl dX6_init_64 ?_
  refine g_iinc (dv := (1 : Int32)) (lv' := fun v => [(1, .int v), (0, .ref b)]) X dX6_init_65 (pl := 0) rfl (by decide) (by decide) (fun _ => rfl) (fun v ev => ?_)
  have ev : v = (1 : Int32) := ev
  subst ev
  refine g_goto (tgt := 47) X dX6_init_68 (by decide) ?_
  refine g_iload_n X rfl 0 rfl dX6_init_47 ?_
  refine g_iconst (v := (2 : Int32)) X (by decide) dX6_init_48 ?_
  refine g_icmp_ge (tgt := 71) X dX6_init_49 (by decide) (fun c => absurd c (by decide)) (fun _ => ?_)
  refine g_aload_n X rfl 1 rfl dX6_init_52 ?_
  refine g_get X 0 rfl rfl 3 (by decide) i_X6_init_X6 (by decide +kernel) rfl rfl dX6_init_53 ?_
  refine g_iload_n X rfl 0 rfl dX6_init_56 ?_
  refine g_new (ci := 5) (fs := [.int 0, .int 0, .int 0, .int 0, .null, .null, .null]) X hA rfl tyX5 tyX5_ok i_X6_init_X5 (by decide +kernel) (fun j hj => by rcases (show j = 0 ∨ j = 1 ∨ j = 2 ∨ j = 3 ∨ j = 4 ∨ j = 5 ∨ j = 6 by omega) with rfl | rfl | rfl | rfl | rfl | rfl | rfl <;> rfl) (Nat.le_of_ble_eq_true rfl) (Nat.le_of_ble_eq_true rfl) dX6_init_57 (fun o10 => ?_)
  refine g_dup X rfl dX6_init_60 ?_
  refine g_IN (st := [.ref o10, .int (1 : Int32), .ref a7]) (wr := [(b, .inr (6, [.ref o1, .ref o3, .ref o5, .ref a7, .null, .null, .null, .null]))] ++ (wP (qb o1 u2.1) i u2.2 ++ (wB3 o3 u4.1 i u4.2 ++ (wB5 o5 u6 i ++ ([(a7, .inl (i 3, 2, .inr (.inr (.inr (.inr (va_up (fun _ => none) 0 (some o8)))))))] ++ (wB5 o8 u9 i)))))) X hA hx [] [33] [0, 1, 2, 3, 4, 5, 6, 7, 8, 9, 10, 11, 12, 13, 14, 15, 16, 17, 18, 19, 20, 21, 22, 23, 24, 25, 26, 27, 28, 29, 30, 31, 32] rfl rfl rfl (by decide) (by decide) (by decide) (n_X5 l D i o10) ⟨va_cnB 0 X.ts gX6_init_X5_init_n25 rfl rfl rfl hx.2.2.1 (X.ts _ (by decide +kernel)) (by decide +kernel) ⟨(Nat.le_of_ble_eq_true rfl), (Nat.le_of_ble_eq_true rfl)⟩, rfl, X.ts _ (by decide +kernel)⟩ rfl rfl (Nat.le_of_ble_eq_true rfl) dX6_init_61 ⟨(Nat.le_of_ble_eq_true rfl), (Nat.le_of_ble_eq_true rfl)⟩ (fun u11 hu11 => ?_)
  refine g_aast (ws' := [(b, .inr (6, [.ref o1, .ref o3, .ref o5, .ref a7, .null, .null, .null, .null]))] ++ (wP (qb o1 u2.1) i u2.2 ++ (wB3 o3 u4.1 i u4.2 ++ (wB5 o5 u6 i ++ ([(a7, .inl (i 3, 2, .inr (.inr (.inr (.inr (va_up (va_up (fun _ => none) 0 (some o8)) 1 (some o10)))))))] ++ (wB5 o8 u9 i ++ (wB5 o10 u11 i))))))) X 28 33 rfl rfl (in_nI (k := 1) (by decide) (by decide)) rfl dX6_init_64 ?_
  refine g_iinc (dv := (1 : Int32)) (lv' := fun v => [(1, .int v), (0, .ref b)]) X dX6_init_65 (pl := 0) rfl (by decide) (by decide) (fun _ => rfl) (fun v ev => ?_)
  have ev : v = (2 : Int32) := ev
  subst ev
  refine g_goto (tgt := 47) X dX6_init_68 (by decide) ?_
  refine g_iload_n X rfl 0 rfl dX6_init_47 ?_
  refine g_iconst (v := (2 : Int32)) X (by decide) dX6_init_48 ?_
  refine g_icmp_ge (tgt := 71) X dX6_init_49 (by decide) (fun _ => ?_) (fun c => absurd (by decide) c)
  refine g_aload_n X rfl 1 rfl dX6_init_71 ?_
  refine g_new (ci := 4) (fs := [.null, .null, .null, .null, .int 0, .int 0, .int 0, .null]) X hA rfl tyX4 tyX4_ok i_X6_init_X4 (by decide +kernel) (fun j hj => by rcases (show j = 0 ∨ j = 1 ∨ j = 2 ∨ j = 3 ∨ j = 4 ∨ j = 5 ∨ j = 6 ∨ j = 7 by omega) with rfl | rfl | rfl | rfl | rfl | rfl | rfl | rfl <;> rfl) (Nat.le_of_ble_eq_true rfl) (Nat.le_of_ble_eq_true rfl) dX6_init_72 (fun o12 => ?_)
  refine g_dup X rfl dX6_init_75 ?_
  refine g_aload_n X rfl 1 rfl dX6_init_76 ?_
  refine g_get X 0 rfl rfl 0 (by decide) i_X6_init_X6 (by decide +kernel) rfl rfl dX6_init_77 ?_
  refine g_aload_n X rfl 1 rfl dX6_init_80 ?_
  refine g_get X 0 rfl rfl 2 (by decide) i_X6_init_X6 (by decide +kernel) rfl rfl dX6_init_81 ?_
  refine g_I (st := [.ref o12, .ref b]) (wr := [(b, .inr (6, [.ref o1, .ref o3, .ref o5, .ref a7, .null, .null, .null, .null]))] ++ (wP (qb o1 u2.1) i u2.2 ++ (wB3 o3 u4.1 i u4.2 ++ (wB5 o5 u6 i ++ ([(a7, .inl (i 3, 2, .inr (.inr (.inr (.inr (va_up (va_up (fun _ => none) 0 (some o8)) 1 (some o10)))))))] ++ (wB5 o8 u9 i ++ (wB5 o10 u11 i))))))) X hA hx [.ref o1, .ref o5] [37] [0, 1, 2, 3, 4, 5, 6, 7, 8, 9, 10, 11, 12, 13, 14, 15, 16, 17, 18, 19, 20, 21, 22, 23, 24, 25, 26, 27, 28, 29, 30, 31, 32, 33, 34, 35, 36] rfl rfl rfl (by decide) (by decide) (by decide) (n_X4 l D i o12 o1 o5) (cwI 2 X.ts gX6_init_X4_init rfl rfl rfl (X.ts _ (by decide +kernel)) (X.ts _ (by decide +kernel)) (X.ts _ (by decide +kernel)) rfl (by decide +kernel) ⟨(Nat.le_of_ble_eq_true rfl), (Nat.le_of_ble_eq_true rfl)⟩) rfl rfl (Nat.le_of_ble_eq_true rfl) dX6_init_84 ⟨(Nat.le_of_ble_eq_true rfl), (Nat.le_of_ble_eq_true rfl)⟩ (fun u13 hu13 => ?_)
  refine g_putF (ty := tyX6 4) (ws' := [(b, .inr (6, [.ref o1, .ref o3, .ref o5, .ref a7, .ref o12, .null, .null, .null]))] ++ (wP (qb o1 u2.1) i u2.2 ++ (wB3 o3 u4.1 i u4.2 ++ (wB5 o5 u6 i ++ ([(a7, .inl (i 3, 2, .inr (.inr (.inr (.inr (va_up (va_up (fun _ => none) 0 (some o8)) 1 (some o10)))))))] ++ (wB5 o8 u9 i ++ (wB5 o10 u11 i ++ (wB4 o12 o1 o5 u13 i)))))))) X hi 0 rfl rfl 4 (by decide) tyX6 tyX6_ok nmX6 i_X6_init_X6 (by decide +kernel) rfl rfl rfl (by decide +kernel) rfl rfl (Nat.le_of_ble_eq_true rfl) rfl dX6_init_87 ?_
  refine g_aload_n X rfl 1 rfl dX6_init_90 ?_
  refine g_new (ci := 1) (fs := [.int 0, .null, .null, .null]) X hA rfl tyX1 tyX1_ok i_X6_init_X1 (by decide +kernel) (fun j hj => by rcases (show j = 0 ∨ j = 1 ∨ j = 2 ∨ j = 3 by omega) with rfl | rfl | rfl | rfl <;> rfl) (Nat.le_of_ble_eq_true rfl) (Nat.le_of_ble_eq_true rfl) dX6_init_91 (fun o14 => ?_)
  refine g_dup X rfl dX6_init_94 ?_
  refine g_IN (st := [.ref o14, .ref b]) (wr := [(b, .inr (6, [.ref o1, .ref o3, .ref o5, .ref a7, .ref o12, .null, .null, .null]))] ++ (wP (qb o1 u2.1) i u2.2 ++ (wB3 o3 u4.1 i u4.2 ++ (wB5 o5 u6 i ++ ([(a7, .inl (i 3, 2, .inr (.inr (.inr (.inr (va_up (va_up (fun _ => none) 0 (some o8)) 1 (some o10)))))))] ++ (wB5 o8 u9 i ++ (wB5 o10 u11 i ++ (wB4 o12 o1 o5 u13 i)))))))) X hA hx [] [41] [0, 1, 2, 3, 4, 5, 6, 7, 8, 9, 10, 11, 12, 13, 14, 15, 16, 17, 18, 19, 20, 21, 22, 23, 24, 25, 26, 27, 28, 29, 30, 31, 32, 33, 34, 35, 36, 37, 38, 39, 40] rfl rfl rfl (by decide) (by decide) (by decide) (n_X1 l D i o14) ⟨va_cnB 0 X.ts gX6_init_X1_init_n45 rfl rfl rfl hx.2.2.2.1 (X.ts _ (by decide +kernel)) (by decide +kernel) ⟨(Nat.le_of_ble_eq_true rfl), (Nat.le_of_ble_eq_true rfl)⟩, rfl, X.ts _ (by decide +kernel)⟩ rfl rfl (Nat.le_of_ble_eq_true rfl) dX6_init_95 ⟨(Nat.le_of_ble_eq_true rfl), (Nat.le_of_ble_eq_true rfl)⟩ (fun u15 hu15 => ?_)
  refine g_putF (ty := tyX6 5) (ws' := [(b, .inr (6, [.ref o1, .ref o3, .ref o5, .ref a7, .ref o12, .ref o14, .null, .null]))] ++ (wP (qb o1 u2.1) i u2.2 ++ (wB3 o3 u4.1 i u4.2 ++ (wB5 o5 u6 i ++ ([(a7, .inl (i 3, 2, .inr (.inr (.inr (.inr (va_up (va_up (fun _ => none) 0 (some o8)) 1 (some o10)))))))] ++ (wB5 o8 u9 i ++ (wB5 o10 u11 i ++ (wB4 o12 o1 o5 u13 i ++ (wB1 o14 u15 i))))))))) X hi 0 rfl rfl 5 (by decide) tyX6 tyX6_ok nmX6 i_X6_init_X6 (by decide +kernel) rfl rfl rfl (by decide +kernel) rfl rfl (Nat.le_of_ble_eq_true rfl) rfl dX6_init_98 ?_
  refine g_aload_n X rfl 1 rfl dX6_init_101 ?_
  refine g_new (ci := 0) (fs := [.null, .int 0, .int 0, .int 0, .int 0]) X hA rfl tyX0 tyX0_ok i_X6_init_X0 (by decide +kernel) (fun j hj => by rcases (show j = 0 ∨ j = 1 ∨ j = 2 ∨ j = 3 ∨ j = 4 by omega) with rfl | rfl | rfl | rfl | rfl <;> rfl) (Nat.le_of_ble_eq_true rfl) (Nat.le_of_ble_eq_true rfl) dX6_init_102 (fun o16 => ?_)
  refine g_dup X rfl dX6_init_105 ?_
  refine g_IN (st := [.ref o16, .ref b]) (wr := [(b, .inr (6, [.ref o1, .ref o3, .ref o5, .ref a7, .ref o12, .ref o14, .null, .null]))] ++ (wP (qb o1 u2.1) i u2.2 ++ (wB3 o3 u4.1 i u4.2 ++ (wB5 o5 u6 i ++ ([(a7, .inl (i 3, 2, .inr (.inr (.inr (.inr (va_up (va_up (fun _ => none) 0 (some o8)) 1 (some o10)))))))] ++ (wB5 o8 u9 i ++ (wB5 o10 u11 i ++ (wB4 o12 o1 o5 u13 i ++ (wB1 o14 u15 i))))))))) X hA hx [] [45] [0, 1, 2, 3, 4, 5, 6, 7, 8, 9, 10, 11, 12, 13, 14, 15, 16, 17, 18, 19, 20, 21, 22, 23, 24, 25, 26, 27, 28, 29, 30, 31, 32, 33, 34, 35, 36, 37, 38, 39, 40, 41, 42, 43, 44] rfl rfl rfl (by decide) (by decide) (by decide) (n_X0 l D i o16) ⟨va_cnB 0 X.ts gX6_init_X0_init_n52 rfl rfl rfl hx.2.2.2.2 (X.ts _ (by decide +kernel)) (by decide +kernel) ⟨(Nat.le_of_ble_eq_true rfl), (Nat.le_of_ble_eq_true rfl)⟩, rfl, X.ts _ (by decide +kernel)⟩ rfl rfl (Nat.le_of_ble_eq_true rfl) dX6_init_106 ⟨(Nat.le_of_ble_eq_true rfl), (Nat.le_of_ble_eq_true rfl)⟩ (fun u17 hu17 => ?_)
  refine g_putF (ty := tyX6 6) (ws' := [(b, .inr (6, [.ref o1, .ref o3, .ref o5, .ref a7, .ref o12, .ref o14, .ref o16, .null]))] ++ (wP (qb o1 u2.1) i u2.2 ++ (wB3 o3 u4.1 i u4.2 ++ (wB5 o5 u6 i ++ ([(a7, .inl (i 3, 2, .inr (.inr (.inr (.inr (va_up (va_up (fun _ => none) 0 (some o8)) 1 (some o10)))))))] ++ (wB5 o8 u9 i ++ (wB5 o10 u11 i ++ (wB4 o12 o1 o5 u13 i ++ (wB1 o14 u15 i ++ (wB0 o16 u17 i)))))))))) X hi 0 rfl rfl 6 (by decide) tyX6 tyX6_ok nmX6 i_X6_init_X6 (by decide +kernel) rfl rfl rfl (by decide +kernel) rfl rfl (Nat.le_of_ble_eq_true rfl) rfl dX6_init_109 ?_
  refine g_aload_n X rfl 1 rfl dX6_init_112 ?_
  refine g_bipush (v := (16 : Int32)) X (by decide) dX6_init_113 ?_
  refine g_newI X hA (by decide +kernel) (by decide) (N := 16) (by decide) (by decide) (Nat.le_of_ble_eq_true rfl) (Nat.le_of_ble_eq_true rfl) dX6_init_115 (fun a18 => ?_)
  refine g_putF (ty := tyX6 7) (ws' := [(b, .inr (6, [.ref o1, .ref o3, .ref o5, .ref a7, .ref o12, .ref o14, .ref o16, .ref a18]))] ++ (wP (qb o1 u2.1) i u2.2 ++ (wB3 o3 u4.1 i u4.2 ++ (wB5 o5 u6 i ++ ([(a7, .inl (i 3, 2, .inr (.inr (.inr (.inr (va_up (va_up (fun _ => none) 0 (some o8)) 1 (some o10)))))))] ++ (wB5 o8 u9 i ++ (wB5 o10 u11 i ++ (wB4 o12 o1 o5 u13 i ++ (wB1 o14 u15 i ++ (wB0 o16 u17 i ++ ([(a18, .inl (i 0, 16, .inl (fun _ => 0)))]))))))))))) X hi 0 rfl rfl 7 (by decide) tyX6 tyX6_ok nmX6 i_X6_init_X6 (by decide +kernel) rfl rfl rfl (by decide +kernel) rfl rfl (Nat.le_of_ble_eq_true rfl) rfl dX6_init_117 ?_
  rw [img_eq]
  refine g_perm (ws' := wC (fun j => ([b, o1, (u4.1 0), o3, o5, o8, o10, o12, o14, o16, a18, (u2.1 1), (u2.1 2), (u2.1 3), (u2.1 4), (u2.1 5), (u2.1 6), (u2.1 7), (u2.1 8), (u4.1 1), (u4.1 2), (u4.1 3), (u4.1 4), (u4.1 5), (u4.1 6), (u4.1 7), (u4.1 8), (u4.1 9), (u4.1 10), (u4.1 11), (u4.1 12), (u6 0), (u6 1), (u6 2), (u9 0), (u9 1), (u9 2), (u11 0), (u11 1), (u11 2), (u13 0), (u13 1), (u13 2), (u15 0), (u15 1), (u15 2), (u17 0), a7] : List Nat).getD j 0) i (cS0 u2.2 u4.2)) [0, 1, 11, 10, 24, 29, 33, 37, 41, 45, 47, 2, 3, 4, 5, 6, 7, 8, 9, 12, 13, 14, 15, 16, 17, 18, 19, 20, 21, 22, 23, 25, 26, 27, 30, 31, 32, 34, 35, 36, 38, 39, 40, 42, 43, 44, 46, 28] (by decide) rfl rfl ?_
  exact g_vret X ((fun j => ([b, o1, (u4.1 0), o3, o5, o8, o10, o12, o14, o16, a18, (u2.1 1), (u2.1 2), (u2.1 3), (u2.1 4), (u2.1 5), (u2.1 6), (u2.1 7), (u2.1 8), (u4.1 1), (u4.1 2), (u4.1 3), (u4.1 4), (u4.1 5), (u4.1 6), (u4.1 7), (u4.1 8), (u4.1 9), (u4.1 10), (u4.1 11), (u4.1 12), (u6 0), (u6 1), (u6 2), (u9 0), (u9 1), (u9 2), (u11 0), (u11 1), (u11 2), (u13 0), (u13 1), (u13 2), (u15 0), (u15 1), (u15 2), (u17 0), a7] : List Nat).getD j 0), (cS0 u2.2 u4.2)) ⟨rfl, u2.2, u4.2, hu2, hu4, rfl⟩ rfl dX6_init_120
