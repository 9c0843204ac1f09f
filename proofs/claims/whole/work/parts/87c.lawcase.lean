/-! ===== the law, case by case ===== -/
section LL
variable {D : va_G} {i : Nat → ClassId} {A : Nat → Prop} {p : Program} {l : Launch} {e : Env} {s : State} {m : MethodId} {below : List Frame} {meth : Method} {c : Code} {nc ns b L j : Nat} {xs : Nat → Int32} {q q2 : Nat → Nat} {C M : vS}
set_option maxRecDepth 100000 in
set_option maxHeartbeats 4000000 in
theorem lc_14 (X : cX D i A p s m #[Value.ref b] meth c cL_law RL 4 wsL_law ret) (hA : ∀ q : Nat, s.heap.size ≤ q → A q) (hf : nc ≤ room_1.cells ∧ ns ≤ room_1.slots) (hX : va_X b L xs s s.heap) (hbl : b < s.heap.size) (hbA : ¬ A b) (h5 : ∀ n : Nat, n ≤ 5 → vp_in (nI j + Int32.ofNat n) L) (hR : Rel C M) (next : ∀ C1 M1, Rel C1 M1 → cG D A p l e room_1 s m #[Value.ref b] below meth c (lw_Z below #[Value.ref b] s) 4 nc ns (wC q i C1 ++ wM q2 i M1) [(3, .int (nI j)), (2, .ref (q2 0)), (1, .ref (q 0)), (0, .ref b)] 994 []) : cG D A p l e room_1 s m #[Value.ref b] below meth c (lw_Z below #[Value.ref b] s) 4 nc ns (wC q i C ++ wM q2 i M) [(3, .int (nI j)), (2, .ref (q2 0)), (1, .ref (q 0)), (0, .ref b)] 592 [] := by
  refine g_aload_n X rfl 2 rfl dL_law_592 ?_
  refine g_aload_n X rfl 3 rfl dL_law_593 ?_
  refine g_iload_n X rfl 0 rfl dL_law_594 ?_
  refine g_iconst (v := (1 : Int32)) X (by decide) dL_law_595 ?_
  refine g_iadd X dL_law_596 ?_
  refine g_sld X hX hbl hbA (h5 1 (by decide)) dL_law_597 ?_
  refine law_C (st := []) X hA hf [.int (xs (nI j + (1 : Int32)).toNatClampNeg)] (fun A => c_X6_drift l D i q A (xs (nI j + (1 : Int32)).toNatClampNeg) C _ (t_drift hR (xs (nI j + (1 : Int32)).toNatClampNeg))) (cwV 1 X.ts gL_law_X6_drift rfl rfl rfl (by decide +kernel) ⟨(Nat.le_of_ble_eq_true rfl), (Nat.le_of_ble_eq_true rfl)⟩) rfl rfl (Nat.le_of_ble_eq_true rfl) dL_law_598 (fun r C1 h => ?_)
  refine g_aload_n X rfl 1 rfl dL_law_601 ?_
  refine g_aload_n X rfl 3 rfl dL_law_602 ?_
  refine g_iload_n X rfl 0 rfl dL_law_603 ?_
  refine g_iconst (v := (1 : Int32)) X (by decide) dL_law_604 ?_
  refine g_iadd X dL_law_605 ?_
  refine g_sld X hX hbl hbA (h5 1 (by decide)) dL_law_606 ?_
  refine law_M (C := C1) (st := [.int r]) X hA hf [.int (xs (nI j + (1 : Int32)).toNatClampNeg)] (fun A => c_X7_drift l D i q2 A (xs (nI j + (1 : Int32)).toNatClampNeg) M _ h) (cwV 1 X.ts gL_law_X7_drift rfl rfl rfl (by decide +kernel) ⟨(Nat.le_of_ble_eq_true rfl), (Nat.le_of_ble_eq_true rfl)⟩) rfl rfl (Nat.le_of_ble_eq_true rfl) dL_law_607 (fun r2 M1 h2 => ?_)
  exact g_icmp_eq (tgt := 994) X dL_law_610 (by decide) (fun _ => next C1 M1 h2.2) (fun c => absurd h2.1 c)
set_option maxRecDepth 100000 in
set_option maxHeartbeats 4000000 in
theorem lc_15 (X : cX D i A p s m #[Value.ref b] meth c cL_law RL 4 wsL_law ret) (hA : ∀ q : Nat, s.heap.size ≤ q → A q) (hf : nc ≤ room_1.cells ∧ ns ≤ room_1.slots) (hX : va_X b L xs s s.heap) (hbl : b < s.heap.size) (hbA : ¬ A b) (h5 : ∀ n : Nat, n ≤ 5 → vp_in (nI j + Int32.ofNat n) L) (hR : Rel C M) (next : ∀ C1 M1, Rel C1 M1 → cG D A p l e room_1 s m #[Value.ref b] below meth c (lw_Z below #[Value.ref b] s) 4 nc ns (wC q i C1 ++ wM q2 i M1) [(3, .int (nI j)), (2, .ref (q2 0)), (1, .ref (q 0)), (0, .ref b)] 994 []) : cG D A p l e room_1 s m #[Value.ref b] below meth c (lw_Z below #[Value.ref b] s) 4 nc ns (wC q i C ++ wM q2 i M) [(3, .int (nI j)), (2, .ref (q2 0)), (1, .ref (q 0)), (0, .ref b)] 615 [] := by
  refine g_aload_n X rfl 2 rfl dL_law_615 ?_
  refine law_C (st := []) X hA hf [] (fun A => c_X6_begin l D i q A C _ (t_begin hR)) (cwV 0 X.ts gL_law_X6_begin rfl rfl rfl (by decide +kernel) ⟨(Nat.le_of_ble_eq_true rfl), (Nat.le_of_ble_eq_true rfl)⟩) rfl rfl (Nat.le_of_ble_eq_true rfl) dL_law_616 (fun r C1 h => ?_)
  refine g_aload_n X rfl 1 rfl dL_law_619 ?_
  refine law_M (C := C1) (st := [.int r]) X hA hf [] (fun A => c_X7_begin l D i q2 A M _ h) (cwV 0 X.ts gL_law_X7_begin rfl rfl rfl (by decide +kernel) ⟨(Nat.le_of_ble_eq_true rfl), (Nat.le_of_ble_eq_true rfl)⟩) rfl rfl (Nat.le_of_ble_eq_true rfl) dL_law_620 (fun r2 M1 h2 => ?_)
  exact g_icmp_eq (tgt := 994) X dL_law_623 (by decide) (fun _ => next C1 M1 h2.2) (fun c => absurd h2.1 c)
set_option maxRecDepth 100000 in
set_option maxHeartbeats 4000000 in
theorem lc_16 (X : cX D i A p s m #[Value.ref b] meth c cL_law RL 4 wsL_law ret) (hA : ∀ q : Nat, s.heap.size ≤ q → A q) (hf : nc ≤ room_1.cells ∧ ns ≤ room_1.slots) (hX : va_X b L xs s s.heap) (hbl : b < s.heap.size) (hbA : ¬ A b) (h5 : ∀ n : Nat, n ≤ 5 → vp_in (nI j + Int32.ofNat n) L) (hR : Rel C M) (next : ∀ C1 M1, Rel C1 M1 → cG D A p l e room_1 s m #[Value.ref b] below meth c (lw_Z below #[Value.ref b] s) 4 nc ns (wC q i C1 ++ wM q2 i M1) [(3, .int (nI j)), (2, .ref (q2 0)), (1, .ref (q 0)), (0, .ref b)] 994 []) : cG D A p l e room_1 s m #[Value.ref b] below meth c (lw_Z below #[Value.ref b] s) 4 nc ns (wC q i C ++ wM q2 i M) [(3, .int (nI j)), (2, .ref (q2 0)), (1, .ref (q 0)), (0, .ref b)] 628 [] := by
  refine g_aload_n X rfl 2 rfl dL_law_628 ?_
  refine g_aload_n X rfl 3 rfl dL_law_629 ?_
  refine g_iload_n X rfl 0 rfl dL_law_630 ?_
  refine g_iconst (v := (1 : Int32)) X (by decide) dL_law_631 ?_
  refine g_iadd X dL_law_632 ?_
  refine g_sld X hX hbl hbA (h5 1 (by decide)) dL_law_633 ?_
  refine g_aload_n X rfl 3 rfl dL_law_634 ?_
  refine g_iload_n X rfl 0 rfl dL_law_635 ?_
  refine g_iconst (v := (2 : Int32)) X (by decide) dL_law_636 ?_
  refine g_iadd X dL_law_637 ?_
  refine g_sld X hX hbl hbA (h5 2 (by decide)) dL_law_638 ?_
  refine g_aload_n X rfl 3 rfl dL_law_639 ?_
  refine g_iload_n X rfl 0 rfl dL_law_640 ?_
  refine g_iconst (v := (3 : Int32)) X (by decide) dL_law_641 ?_
  refine g_iadd X dL_law_642 ?_
  refine g_sld X hX hbl hbA (h5 3 (by decide)) dL_law_643 ?_
  refine law_C (st := []) X hA hf [.int (xs (nI j + (1 : Int32)).toNatClampNeg), .int (xs (nI j + (2 : Int32)).toNatClampNeg), .int (xs (nI j + (3 : Int32)).toNatClampNeg)] (fun A => c_X6_tree l D i q A (xs (nI j + (1 : Int32)).toNatClampNeg) (xs (nI j + (2 : Int32)).toNatClampNeg) (xs (nI j + (3 : Int32)).toNatClampNeg) C _ (t_tree hR (xs (nI j + (1 : Int32)).toNatClampNeg) (xs (nI j + (2 : Int32)).toNatClampNeg) (xs (nI j + (3 : Int32)).toNatClampNeg))) (cwV 3 X.ts gL_law_X6_tree rfl rfl rfl (by decide +kernel) ⟨(Nat.le_of_ble_eq_true rfl), (Nat.le_of_ble_eq_true rfl)⟩) rfl rfl (Nat.le_of_ble_eq_true rfl) dL_law_644 (fun r C1 h => ?_)
  refine g_aload_n X rfl 1 rfl dL_law_647 ?_
  refine g_aload_n X rfl 3 rfl dL_law_648 ?_
  refine g_iload_n X rfl 0 rfl dL_law_649 ?_
  refine g_iconst (v := (1 : Int32)) X (by decide) dL_law_650 ?_
  refine g_iadd X dL_law_651 ?_
  refine g_sld X hX hbl hbA (h5 1 (by decide)) dL_law_652 ?_
  refine g_aload_n X rfl 3 rfl dL_law_653 ?_
  refine g_iload_n X rfl 0 rfl dL_law_654 ?_
  refine g_iconst (v := (2 : Int32)) X (by decide) dL_law_655 ?_
  refine g_iadd X dL_law_656 ?_
  refine g_sld X hX hbl hbA (h5 2 (by decide)) dL_law_657 ?_
  refine g_aload_n X rfl 3 rfl dL_law_658 ?_
  refine g_iload_n X rfl 0 rfl dL_law_659 ?_
  refine g_iconst (v := (3 : Int32)) X (by decide) dL_law_660 ?_
  refine g_iadd X dL_law_661 ?_
  refine g_sld X hX hbl hbA (h5 3 (by decide)) dL_law_662 ?_
  refine law_M (C := C1) (st := [.int r]) X hA hf [.int (xs (nI j + (1 : Int32)).toNatClampNeg), .int (xs (nI j + (2 : Int32)).toNatClampNeg), .int (xs (nI j + (3 : Int32)).toNatClampNeg)] (fun A => c_X7_tree l D i q2 A (xs (nI j + (1 : Int32)).toNatClampNeg) (xs (nI j + (2 : Int32)).toNatClampNeg) (xs (nI j + (3 : Int32)).toNatClampNeg) M _ h) (cwV 3 X.ts gL_law_X7_tree rfl rfl rfl (by decide +kernel) ⟨(Nat.le_of_ble_eq_true rfl), (Nat.le_of_ble_eq_true rfl)⟩) rfl rfl (Nat.le_of_ble_eq_true rfl) dL_law_663 (fun r2 M1 h2 => ?_)
  exact g_icmp_eq (tgt := 994) X dL_law_666 (by decide) (fun _ => next C1 M1 h2.2) (fun c => absurd h2.1 c)
set_option maxRecDepth 100000 in
set_option maxHeartbeats 4000000 in
theorem lc_17 (X : cX D i A p s m #[Value.ref b] meth c cL_law RL 4 wsL_law ret) (hA : ∀ q : Nat, s.heap.size ≤ q → A q) (hf : nc ≤ room_1.cells ∧ ns ≤ room_1.slots) (hX : va_X b L xs s s.heap) (hbl : b < s.heap.size) (hbA : ¬ A b) (h5 : ∀ n : Nat, n ≤ 5 → vp_in (nI j + Int32.ofNat n) L) (hR : Rel C M) (next : ∀ C1 M1, Rel C1 M1 → cG D A p l e room_1 s m #[Value.ref b] below meth c (lw_Z below #[Value.ref b] s) 4 nc ns (wC q i C1 ++ wM q2 i M1) [(3, .int (nI j)), (2, .ref (q2 0)), (1, .ref (q 0)), (0, .ref b)] 994 []) : cG D A p l e room_1 s m #[Value.ref b] below meth c (lw_Z below #[Value.ref b] s) 4 nc ns (wC q i C ++ wM q2 i M) [(3, .int (nI j)), (2, .ref (q2 0)), (1, .ref (q 0)), (0, .ref b)] 671 [] := by
  refine g_aload_n X rfl 2 rfl dL_law_671 ?_
  refine g_aload_n X rfl 3 rfl dL_law_672 ?_
  refine g_iload_n X rfl 0 rfl dL_law_673 ?_
  refine g_iconst (v := (1 : Int32)) X (by decide) dL_law_674 ?_
  refine g_iadd X dL_law_675 ?_
  refine g_sld X hX hbl hbA (h5 1 (by decide)) dL_law_676 ?_
  refine law_C (st := []) X hA hf [.int (xs (nI j + (1 : Int32)).toNatClampNeg)] (fun A => c_X6_wins l D i q A (xs (nI j + (1 : Int32)).toNatClampNeg) C _ (t_wins hR (xs (nI j + (1 : Int32)).toNatClampNeg))) (cwV 1 X.ts gL_law_X6_wins rfl rfl rfl (by decide +kernel) ⟨(Nat.le_of_ble_eq_true rfl), (Nat.le_of_ble_eq_true rfl)⟩) rfl rfl (Nat.le_of_ble_eq_true rfl) dL_law_677 (fun r C1 h => ?_)
  refine g_aload_n X rfl 1 rfl dL_law_680 ?_
  refine g_aload_n X rfl 3 rfl dL_law_681 ?_
  refine g_iload_n X rfl 0 rfl dL_law_682 ?_
  refine g_iconst (v := (1 : Int32)) X (by decide) dL_law_683 ?_
  refine g_iadd X dL_law_684 ?_
  refine g_sld X hX hbl hbA (h5 1 (by decide)) dL_law_685 ?_
  refine law_M (C := C1) (st := [.int r]) X hA hf [.int (xs (nI j + (1 : Int32)).toNatClampNeg)] (fun A => c_X7_wins l D i q2 A (xs (nI j + (1 : Int32)).toNatClampNeg) M _ h) (cwV 1 X.ts gL_law_X7_wins rfl rfl rfl (by decide +kernel) ⟨(Nat.le_of_ble_eq_true rfl), (Nat.le_of_ble_eq_true rfl)⟩) rfl rfl (Nat.le_of_ble_eq_true rfl) dL_law_686 (fun r2 M1 h2 => ?_)
  exact g_icmp_eq (tgt := 994) X dL_law_689 (by decide) (fun _ => next C1 M1 h2.2) (fun c => absurd h2.1 c)
set_option maxRecDepth 100000 in
set_option maxHeartbeats 4000000 in
theorem lc_18 (X : cX D i A p s m #[Value.ref b] meth c cL_law RL 4 wsL_law ret) (hA : ∀ q : Nat, s.heap.size ≤ q → A q) (hf : nc ≤ room_1.cells ∧ ns ≤ room_1.slots) (hX : va_X b L xs s s.heap) (hbl : b < s.heap.size) (hbA : ¬ A b) (h5 : ∀ n : Nat, n ≤ 5 → vp_in (nI j + Int32.ofNat n) L) (hR : Rel C M) (next : ∀ C1 M1, Rel C1 M1 → cG D A p l e room_1 s m #[Value.ref b] below meth c (lw_Z below #[Value.ref b] s) 4 nc ns (wC q i C1 ++ wM q2 i M1) [(3, .int (nI j)), (2, .ref (q2 0)), (1, .ref (q 0)), (0, .ref b)] 994 []) : cG D A p l e room_1 s m #[Value.ref b] below meth c (lw_Z below #[Value.ref b] s) 4 nc ns (wC q i C ++ wM q2 i M) [(3, .int (nI j)), (2, .ref (q2 0)), (1, .ref (q 0)), (0, .ref b)] 694 [] := by
  refine g_aload_n X rfl 2 rfl dL_law_694 ?_
  refine g_aload_n X rfl 3 rfl dL_law_695 ?_
  refine g_iload_n X rfl 0 rfl dL_law_696 ?_
  refine g_iconst (v := (1 : Int32)) X (by decide) dL_law_697 ?_
  refine g_iadd X dL_law_698 ?_
  refine g_sld X hX hbl hbA (h5 1 (by decide)) dL_law_699 ?_
  refine g_aload_n X rfl 3 rfl dL_law_700 ?_
  refine g_iload_n X rfl 0 rfl dL_law_701 ?_
  refine g_iconst (v := (2 : Int32)) X (by decide) dL_law_702 ?_
  refine g_iadd X dL_law_703 ?_
  refine g_sld X hX hbl hbA (h5 2 (by decide)) dL_law_704 ?_
  refine g_aload_n X rfl 3 rfl dL_law_705 ?_
  refine g_iload_n X rfl 0 rfl dL_law_706 ?_
  refine g_iconst (v := (3 : Int32)) X (by decide) dL_law_707 ?_
  refine g_iadd X dL_law_708 ?_
  refine g_sld X hX hbl hbA (h5 3 (by decide)) dL_law_709 ?_
  refine law_C (st := []) X hA hf [.int (xs (nI j + (1 : Int32)).toNatClampNeg), .int (xs (nI j + (2 : Int32)).toNatClampNeg), .int (xs (nI j + (3 : Int32)).toNatClampNeg)] (fun A => c_X6_view l D i q A (xs (nI j + (1 : Int32)).toNatClampNeg) (xs (nI j + (2 : Int32)).toNatClampNeg) (xs (nI j + (3 : Int32)).toNatClampNeg) C _ (t_view hR (xs (nI j + (1 : Int32)).toNatClampNeg) (xs (nI j + (2 : Int32)).toNatClampNeg) (xs (nI j + (3 : Int32)).toNatClampNeg))) (cwV 3 X.ts gL_law_X6_view rfl rfl rfl (by decide +kernel) ⟨(Nat.le_of_ble_eq_true rfl), (Nat.le_of_ble_eq_true rfl)⟩) rfl rfl (Nat.le_of_ble_eq_true rfl) dL_law_710 (fun r C1 h => ?_)
  refine g_aload_n X rfl 1 rfl dL_law_713 ?_
  refine g_aload_n X rfl 3 rfl dL_law_714 ?_
  refine g_iload_n X rfl 0 rfl dL_law_715 ?_
  refine g_iconst (v := (1 : Int32)) X (by decide) dL_law_716 ?_
  refine g_iadd X dL_law_717 ?_
  refine g_sld X hX hbl hbA (h5 1 (by decide)) dL_law_718 ?_
  refine g_aload_n X rfl 3 rfl dL_law_719 ?_
  refine g_iload_n X rfl 0 rfl dL_law_720 ?_
  refine g_iconst (v := (2 : Int32)) X (by decide) dL_law_721 ?_
  refine g_iadd X dL_law_722 ?_
  refine g_sld X hX hbl hbA (h5 2 (by decide)) dL_law_723 ?_
  refine g_aload_n X rfl 3 rfl dL_law_724 ?_
  refine g_iload_n X rfl 0 rfl dL_law_725 ?_
  refine g_iconst (v := (3 : Int32)) X (by decide) dL_law_726 ?_
  refine g_iadd X dL_law_727 ?_
  refine g_sld X hX hbl hbA (h5 3 (by decide)) dL_law_728 ?_
  refine law_M (C := C1) (st := [.int r]) X hA hf [.int (xs (nI j + (1 : Int32)).toNatClampNeg), .int (xs (nI j + (2 : Int32)).toNatClampNeg), .int (xs (nI j + (3 : Int32)).toNatClampNeg)] (fun A => c_X7_view l D i q2 A (xs (nI j + (1 : Int32)).toNatClampNeg) (xs (nI j + (2 : Int32)).toNatClampNeg) (xs (nI j + (3 : Int32)).toNatClampNeg) M _ h) (cwV 3 X.ts gL_law_X7_view rfl rfl rfl (by decide +kernel) ⟨(Nat.le_of_ble_eq_true rfl), (Nat.le_of_ble_eq_true rfl)⟩) rfl rfl (Nat.le_of_ble_eq_true rfl) dL_law_729 (fun r2 M1 h2 => ?_)
  exact g_icmp_eq (tgt := 994) X dL_law_732 (by decide) (fun _ => next C1 M1 h2.2) (fun c => absurd h2.1 c)
set_option maxRecDepth 100000 in
set_option maxHeartbeats 4000000 in
theorem lc_19 (X : cX D i A p s m #[Value.ref b] meth c cL_law RL 4 wsL_law ret) (hA : ∀ q : Nat, s.heap.size ≤ q → A q) (hf : nc ≤ room_1.cells ∧ ns ≤ room_1.slots) (hX : va_X b L xs s s.heap) (hbl : b < s.heap.size) (hbA : ¬ A b) (h5 : ∀ n : Nat, n ≤ 5 → vp_in (nI j + Int32.ofNat n) L) (hR : Rel C M) (next : ∀ C1 M1, Rel C1 M1 → cG D A p l e room_1 s m #[Value.ref b] below meth c (lw_Z below #[Value.ref b] s) 4 nc ns (wC q i C1 ++ wM q2 i M1) [(3, .int (nI j)), (2, .ref (q2 0)), (1, .ref (q 0)), (0, .ref b)] 994 []) : cG D A p l e room_1 s m #[Value.ref b] below meth c (lw_Z below #[Value.ref b] s) 4 nc ns (wC q i C ++ wM q2 i M) [(3, .int (nI j)), (2, .ref (q2 0)), (1, .ref (q 0)), (0, .ref b)] 737 [] := by
  refine g_aload_n X rfl 2 rfl dL_law_737 ?_
  refine g_aload_n X rfl 3 rfl dL_law_738 ?_
  refine g_iload_n X rfl 0 rfl dL_law_739 ?_
  refine g_iconst (v := (1 : Int32)) X (by decide) dL_law_740 ?_
  refine g_iadd X dL_law_741 ?_
  refine g_sld X hX hbl hbA (h5 1 (by decide)) dL_law_742 ?_
  refine g_aload_n X rfl 3 rfl dL_law_743 ?_
  refine g_iload_n X rfl 0 rfl dL_law_744 ?_
  refine g_iconst (v := (2 : Int32)) X (by decide) dL_law_745 ?_
  refine g_iadd X dL_law_746 ?_
  refine g_sld X hX hbl hbA (h5 2 (by decide)) dL_law_747 ?_
  refine g_aload_n X rfl 3 rfl dL_law_748 ?_
  refine g_iload_n X rfl 0 rfl dL_law_749 ?_
  refine g_iconst (v := (3 : Int32)) X (by decide) dL_law_750 ?_
  refine g_iadd X dL_law_751 ?_
  refine g_sld X hX hbl hbA (h5 3 (by decide)) dL_law_752 ?_
  refine g_aload_n X rfl 3 rfl dL_law_753 ?_
  refine g_iload_n X rfl 0 rfl dL_law_754 ?_
  refine g_iconst (v := (4 : Int32)) X (by decide) dL_law_755 ?_
  refine g_iadd X dL_law_756 ?_
  refine g_sld X hX hbl hbA (h5 4 (by decide)) dL_law_757 ?_
  refine g_aload_n X rfl 3 rfl dL_law_758 ?_
  refine g_iload_n X rfl 0 rfl dL_law_759 ?_
  refine g_iconst (v := (5 : Int32)) X (by decide) dL_law_760 ?_
  refine g_iadd X dL_law_761 ?_
  refine g_sld X hX hbl hbA (h5 5 (by decide)) dL_law_762 ?_
  refine law_C (st := []) X hA hf [.int (xs (nI j + (1 : Int32)).toNatClampNeg), .int (xs (nI j + (2 : Int32)).toNatClampNeg), .int (xs (nI j + (3 : Int32)).toNatClampNeg), .int (xs (nI j + (4 : Int32)).toNatClampNeg), .int (xs (nI j + (5 : Int32)).toNatClampNeg)] (fun A => c_X6_towers l D i q A (xs (nI j + (1 : Int32)).toNatClampNeg) (xs (nI j + (2 : Int32)).toNatClampNeg) (xs (nI j + (3 : Int32)).toNatClampNeg) (xs (nI j + (4 : Int32)).toNatClampNeg) (xs (nI j + (5 : Int32)).toNatClampNeg) C _ (t_towers hR (xs (nI j + (1 : Int32)).toNatClampNeg) (xs (nI j + (2 : Int32)).toNatClampNeg) (xs (nI j + (3 : Int32)).toNatClampNeg) (xs (nI j + (4 : Int32)).toNatClampNeg) (xs (nI j + (5 : Int32)).toNatClampNeg))) (cwV 5 X.ts gL_law_X6_towers rfl rfl rfl (by decide +kernel) ⟨(Nat.le_of_ble_eq_true rfl), (Nat.le_of_ble_eq_true rfl)⟩) rfl rfl (Nat.le_of_ble_eq_true rfl) dL_law_763 (fun r C1 h => ?_)
  refine g_aload_n X rfl 1 rfl dL_law_766 ?_
  refine g_aload_n X rfl 3 rfl dL_law_767 ?_
  refine g_iload_n X rfl 0 rfl dL_law_768 ?_
  refine g_iconst (v := (1 : Int32)) X (by decide) dL_law_769 ?_
  refine g_iadd X dL_law_770 ?_
  refine g_sld X hX hbl hbA (h5 1 (by decide)) dL_law_771 ?_
  refine g_aload_n X rfl 3 rfl dL_law_772 ?_
  refine g_iload_n X rfl 0 rfl dL_law_773 ?_
  refine g_iconst (v := (2 : Int32)) X (by decide) dL_law_774 ?_
  refine g_iadd X dL_law_775 ?_
  refine g_sld X hX hbl hbA (h5 2 (by decide)) dL_law_776 ?_
  refine g_aload_n X rfl 3 rfl dL_law_777 ?_
  refine g_iload_n X rfl 0 rfl dL_law_778 ?_
  refine g_iconst (v := (3 : Int32)) X (by decide) dL_law_779 ?_
  refine g_iadd X dL_law_780 ?_
  refine g_sld X hX hbl hbA (h5 3 (by decide)) dL_law_781 ?_
  refine g_aload_n X rfl 3 rfl dL_law_782 ?_
  refine g_iload_n X rfl 0 rfl dL_law_783 ?_
  refine g_iconst (v := (4 : Int32)) X (by decide) dL_law_784 ?_
  refine g_iadd X dL_law_785 ?_
  refine g_sld X hX hbl hbA (h5 4 (by decide)) dL_law_786 ?_
  refine g_aload_n X rfl 3 rfl dL_law_787 ?_
  refine g_iload_n X rfl 0 rfl dL_law_788 ?_
  refine g_iconst (v := (5 : Int32)) X (by decide) dL_law_789 ?_
  refine g_iadd X dL_law_790 ?_
  refine g_sld X hX hbl hbA (h5 5 (by decide)) dL_law_791 ?_
  refine law_M (C := C1) (st := [.int r]) X hA hf [.int (xs (nI j + (1 : Int32)).toNatClampNeg), .int (xs (nI j + (2 : Int32)).toNatClampNeg), .int (xs (nI j + (3 : Int32)).toNatClampNeg), .int (xs (nI j + (4 : Int32)).toNatClampNeg), .int (xs (nI j + (5 : Int32)).toNatClampNeg)] (fun A => c_X7_towers l D i q2 A (xs (nI j + (1 : Int32)).toNatClampNeg) (xs (nI j + (2 : Int32)).toNatClampNeg) (xs (nI j + (3 : Int32)).toNatClampNeg) (xs (nI j + (4 : Int32)).toNatClampNeg) (xs (nI j + (5 : Int32)).toNatClampNeg) M _ h) (cwV 5 X.ts gL_law_X7_towers rfl rfl rfl (by decide +kernel) ⟨(Nat.le_of_ble_eq_true rfl), (Nat.le_of_ble_eq_true rfl)⟩) rfl rfl (Nat.le_of_ble_eq_true rfl) dL_law_792 (fun r2 M1 h2 => ?_)
  exact g_icmp_eq (tgt := 994) X dL_law_795 (by decide) (fun _ => next C1 M1 h2.2) (fun c => absurd h2.1 c)
set_option maxRecDepth 100000 in
set_option maxHeartbeats 4000000 in
theorem lc_20 (X : cX D i A p s m #[Value.ref b] meth c cL_law RL 4 wsL_law ret) (hA : ∀ q : Nat, s.heap.size ≤ q → A q) (hf : nc ≤ room_1.cells ∧ ns ≤ room_1.slots) (hX : va_X b L xs s s.heap) (hbl : b < s.heap.size) (hbA : ¬ A b) (h5 : ∀ n : Nat, n ≤ 5 → vp_in (nI j + Int32.ofNat n) L) (hR : Rel C M) (next : ∀ C1 M1, Rel C1 M1 → cG D A p l e room_1 s m #[Value.ref b] below meth c (lw_Z below #[Value.ref b] s) 4 nc ns (wC q i C1 ++ wM q2 i M1) [(3, .int (nI j)), (2, .ref (q2 0)), (1, .ref (q 0)), (0, .ref b)] 994 []) : cG D A p l e room_1 s m #[Value.ref b] below meth c (lw_Z below #[Value.ref b] s) 4 nc ns (wC q i C ++ wM q2 i M) [(3, .int (nI j)), (2, .ref (q2 0)), (1, .ref (q 0)), (0, .ref b)] 800 [] := by
  refine g_aload_n X rfl 2 rfl dL_law_800 ?_
  refine g_aload_n X rfl 3 rfl dL_law_801 ?_
  refine g_iload_n X rfl 0 rfl dL_law_802 ?_
  refine g_iconst (v := (1 : Int32)) X (by decide) dL_law_803 ?_
  refine g_iadd X dL_law_804 ?_
  refine g_sld X hX hbl hbA (h5 1 (by decide)) dL_law_805 ?_
  refine g_aload_n X rfl 3 rfl dL_law_806 ?_
  refine g_iload_n X rfl 0 rfl dL_law_807 ?_
  refine g_iconst (v := (2 : Int32)) X (by decide) dL_law_808 ?_
  refine g_iadd X dL_law_809 ?_
  refine g_sld X hX hbl hbA (h5 2 (by decide)) dL_law_810 ?_
  refine law_C (st := []) X hA hf [.int (xs (nI j + (1 : Int32)).toNatClampNeg), .int (xs (nI j + (2 : Int32)).toNatClampNeg)] (fun A => c_X6_boat l D i q A (xs (nI j + (1 : Int32)).toNatClampNeg) (xs (nI j + (2 : Int32)).toNatClampNeg) C _ (t_boat hR (xs (nI j + (1 : Int32)).toNatClampNeg) (xs (nI j + (2 : Int32)).toNatClampNeg))) (cwV 2 X.ts gL_law_X6_boat rfl rfl rfl (by decide +kernel) ⟨(Nat.le_of_ble_eq_true rfl), (Nat.le_of_ble_eq_true rfl)⟩) rfl rfl (Nat.le_of_ble_eq_true rfl) dL_law_811 (fun r C1 h => ?_)
  refine g_aload_n X rfl 1 rfl dL_law_814 ?_
  refine g_aload_n X rfl 3 rfl dL_law_815 ?_
  refine g_iload_n X rfl 0 rfl dL_law_816 ?_
  refine g_iconst (v := (1 : Int32)) X (by decide) dL_law_817 ?_
  refine g_iadd X dL_law_818 ?_
  refine g_sld X hX hbl hbA (h5 1 (by decide)) dL_law_819 ?_
  refine g_aload_n X rfl 3 rfl dL_law_820 ?_
  refine g_iload_n X rfl 0 rfl dL_law_821 ?_
  refine g_iconst (v := (2 : Int32)) X (by decide) dL_law_822 ?_
  refine g_iadd X dL_law_823 ?_
  refine g_sld X hX hbl hbA (h5 2 (by decide)) dL_law_824 ?_
  refine law_M (C := C1) (st := [.int r]) X hA hf [.int (xs (nI j + (1 : Int32)).toNatClampNeg), .int (xs (nI j + (2 : Int32)).toNatClampNeg)] (fun A => c_X7_boat l D i q2 A (xs (nI j + (1 : Int32)).toNatClampNeg) (xs (nI j + (2 : Int32)).toNatClampNeg) M _ h) (cwV 2 X.ts gL_law_X7_boat rfl rfl rfl (by decide +kernel) ⟨(Nat.le_of_ble_eq_true rfl), (Nat.le_of_ble_eq_true rfl)⟩) rfl rfl (Nat.le_of_ble_eq_true rfl) dL_law_825 (fun r2 M1 h2 => ?_)
  exact g_icmp_eq (tgt := 994) X dL_law_828 (by decide) (fun _ => next C1 M1 h2.2) (fun c => absurd h2.1 c)
end LL
