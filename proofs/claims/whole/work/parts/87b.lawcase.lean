/-! ===== the law, case by case ===== -/
section LL
variable {D : va_G} {i : Nat → ClassId} {A : Nat → Prop} {p : Program} {l : Launch} {e : Env} {s : State} {m : MethodId} {below : List Frame} {meth : Method} {c : Code} {nc ns b L j : Nat} {xs : Nat → Int32} {q q2 : Nat → Nat} {C M : vS}
set_option maxRecDepth 100000 in
set_option maxHeartbeats 4000000 in
theorem lc_7 (X : cX D i A p s m #[Value.ref b] meth c cL_law RL 4 wsL_law ret) (hA : ∀ q : Nat, s.heap.size ≤ q → A q) (hf : nc ≤ room_1.cells ∧ ns ≤ room_1.slots) (hX : va_X b L xs s s.heap) (hbl : b < s.heap.size) (hbA : ¬ A b) (h5 : ∀ n : Nat, n ≤ 5 → vp_in (nI j + Int32.ofNat n) L) (hR : Rel C M) (next : ∀ C1 M1, Rel C1 M1 → cG D A p l e room_1 s m #[Value.ref b] below meth c (lw_Z below #[Value.ref b] s) 4 nc ns (wC q i C1 ++ wM q2 i M1) [(3, .int (nI j)), (2, .ref (q2 0)), (1, .ref (q 0)), (0, .ref b)] 994 []) : cG D A p l e room_1 s m #[Value.ref b] below meth c (lw_Z below #[Value.ref b] s) 4 nc ns (wC q i C ++ wM q2 i M) [(3, .int (nI j)), (2, .ref (q2 0)), (1, .ref (q 0)), (0, .ref b)] 391 [] := by
  refine g_aload_n X rfl 2 rfl dL_law_391 ?_
  refine g_aload_n X rfl 3 rfl dL_law_392 ?_
  refine g_iload_n X rfl 0 rfl dL_law_393 ?_
  refine g_iconst (v := (1 : Int32)) X (by decide) dL_law_394 ?_
  refine g_iadd X dL_law_395 ?_
  refine g_sld X hX hbl hbA (h5 1 (by decide)) dL_law_396 ?_
  refine g_aload_n X rfl 3 rfl dL_law_397 ?_
  refine g_iload_n X rfl 0 rfl dL_law_398 ?_
  refine g_iconst (v := (2 : Int32)) X (by decide) dL_law_399 ?_
  refine g_iadd X dL_law_400 ?_
  refine g_sld X hX hbl hbA (h5 2 (by decide)) dL_law_401 ?_
  refine g_aload_n X rfl 3 rfl dL_law_402 ?_
  refine g_iload_n X rfl 0 rfl dL_law_403 ?_
  refine g_iconst (v := (3 : Int32)) X (by decide) dL_law_404 ?_
  refine g_iadd X dL_law_405 ?_
  refine g_sld X hX hbl hbA (h5 3 (by decide)) dL_law_406 ?_
  refine law_C (st := []) X hA hf [.int (xs (nI j + (1 : Int32)).toNatClampNeg), .int (xs (nI j + (2 : Int32)).toNatClampNeg), .int (xs (nI j + (3 : Int32)).toNatClampNeg)] (fun A => c_X6_blocker l D i q A (xs (nI j + (1 : Int32)).toNatClampNeg) (xs (nI j + (2 : Int32)).toNatClampNeg) (xs (nI j + (3 : Int32)).toNatClampNeg) C _ (t_blocker hR (xs (nI j + (1 : Int32)).toNatClampNeg) (xs (nI j + (2 : Int32)).toNatClampNeg) (xs (nI j + (3 : Int32)).toNatClampNeg))) (cwV 3 X.ts gL_law_X6_blocker rfl rfl rfl (by decide +kernel) ⟨(Nat.le_of_ble_eq_true rfl), (Nat.le_of_ble_eq_true rfl)⟩) rfl rfl (Nat.le_of_ble_eq_true rfl) dL_law_407 (fun r C1 h => ?_)
  refine g_aload_n X rfl 1 rfl dL_law_410 ?_
  refine g_aload_n X rfl 3 rfl dL_law_411 ?_
  refine g_iload_n X rfl 0 rfl dL_law_412 ?_
  refine g_iconst (v := (1 : Int32)) X (by decide) dL_law_413 ?_
  refine g_iadd X dL_law_414 ?_
  refine g_sld X hX hbl hbA (h5 1 (by decide)) dL_law_415 ?_
  refine g_aload_n X rfl 3 rfl dL_law_416 ?_
  refine g_iload_n X rfl 0 rfl dL_law_417 ?_
  refine g_iconst (v := (2 : Int32)) X (by decide) dL_law_418 ?_
  refine g_iadd X dL_law_419 ?_
  refine g_sld X hX hbl hbA (h5 2 (by decide)) dL_law_420 ?_
  refine g_aload_n X rfl 3 rfl dL_law_421 ?_
  refine g_iload_n X rfl 0 rfl dL_law_422 ?_
  refine g_iconst (v := (3 : Int32)) X (by decide) dL_law_423 ?_
  refine g_iadd X dL_law_424 ?_
  refine g_sld X hX hbl hbA (h5 3 (by decide)) dL_law_425 ?_
  refine law_M (C := C1) (st := [.int r]) X hA hf [.int (xs (nI j + (1 : Int32)).toNatClampNeg), .int (xs (nI j + (2 : Int32)).toNatClampNeg), .int (xs (nI j + (3 : Int32)).toNatClampNeg)] (fun A => c_X7_blocker l D i q2 A (xs (nI j + (1 : Int32)).toNatClampNeg) (xs (nI j + (2 : Int32)).toNatClampNeg) (xs (nI j + (3 : Int32)).toNatClampNeg) M _ h) (cwV 3 X.ts gL_law_X7_blocker rfl rfl rfl (by decide +kernel) ⟨(Nat.le_of_ble_eq_true rfl), (Nat.le_of_ble_eq_true rfl)⟩) rfl rfl (Nat.le_of_ble_eq_true rfl) dL_law_426 (fun r2 M1 h2 => ?_)
  exact g_icmp_eq (tgt := 994) X dL_law_429 (by decide) (fun _ => next C1 M1 h2.2) (fun c => absurd h2.1 c)
set_option maxRecDepth 100000 in
set_option maxHeartbeats 4000000 in
theorem lc_8 (X : cX D i A p s m #[Value.ref b] meth c cL_law RL 4 wsL_law ret) (hA : ∀ q : Nat, s.heap.size ≤ q → A q) (hf : nc ≤ room_1.cells ∧ ns ≤ room_1.slots) (hX : va_X b L xs s s.heap) (hbl : b < s.heap.size) (hbA : ¬ A b) (h5 : ∀ n : Nat, n ≤ 5 → vp_in (nI j + Int32.ofNat n) L) (hR : Rel C M) (next : ∀ C1 M1, Rel C1 M1 → cG D A p l e room_1 s m #[Value.ref b] below meth c (lw_Z below #[Value.ref b] s) 4 nc ns (wC q i C1 ++ wM q2 i M1) [(3, .int (nI j)), (2, .ref (q2 0)), (1, .ref (q 0)), (0, .ref b)] 994 []) : cG D A p l e room_1 s m #[Value.ref b] below meth c (lw_Z below #[Value.ref b] s) 4 nc ns (wC q i C ++ wM q2 i M) [(3, .int (nI j)), (2, .ref (q2 0)), (1, .ref (q 0)), (0, .ref b)] 434 [] := by
  refine g_aload_n X rfl 2 rfl dL_law_434 ?_
  refine g_aload_n X rfl 3 rfl dL_law_435 ?_
  refine g_iload_n X rfl 0 rfl dL_law_436 ?_
  refine g_iconst (v := (1 : Int32)) X (by decide) dL_law_437 ?_
  refine g_iadd X dL_law_438 ?_
  refine g_sld X hX hbl hbA (h5 1 (by decide)) dL_law_439 ?_
  refine law_C (st := []) X hA hf [.int (xs (nI j + (1 : Int32)).toNatClampNeg)] (fun A => c_X6_share l D i q A (xs (nI j + (1 : Int32)).toNatClampNeg) C _ (t_share hR (xs (nI j + (1 : Int32)).toNatClampNeg))) (cwV 1 X.ts gL_law_X6_share rfl rfl rfl (by decide +kernel) ⟨(Nat.le_of_ble_eq_true rfl), (Nat.le_of_ble_eq_true rfl)⟩) rfl rfl (Nat.le_of_ble_eq_true rfl) dL_law_440 (fun r C1 h => ?_)
  refine g_aload_n X rfl 1 rfl dL_law_443 ?_
  refine g_aload_n X rfl 3 rfl dL_law_444 ?_
  refine g_iload_n X rfl 0 rfl dL_law_445 ?_
  refine g_iconst (v := (1 : Int32)) X (by decide) dL_law_446 ?_
  refine g_iadd X dL_law_447 ?_
  refine g_sld X hX hbl hbA (h5 1 (by decide)) dL_law_448 ?_
  refine law_M (C := C1) (st := [.int r]) X hA hf [.int (xs (nI j + (1 : Int32)).toNatClampNeg)] (fun A => c_X7_share l D i q2 A (xs (nI j + (1 : Int32)).toNatClampNeg) M _ h) (cwV 1 X.ts gL_law_X7_share rfl rfl rfl (by decide +kernel) ⟨(Nat.le_of_ble_eq_true rfl), (Nat.le_of_ble_eq_true rfl)⟩) rfl rfl (Nat.le_of_ble_eq_true rfl) dL_law_449 (fun r2 M1 h2 => ?_)
  exact g_icmp_eq (tgt := 994) X dL_law_452 (by decide) (fun _ => next C1 M1 h2.2) (fun c => absurd h2.1 c)
set_option maxRecDepth 100000 in
set_option maxHeartbeats 4000000 in
theorem lc_9 (X : cX D i A p s m #[Value.ref b] meth c cL_law RL 4 wsL_law ret) (hA : ∀ q : Nat, s.heap.size ≤ q → A q) (hf : nc ≤ room_1.cells ∧ ns ≤ room_1.slots) (hX : va_X b L xs s s.heap) (hbl : b < s.heap.size) (hbA : ¬ A b) (h5 : ∀ n : Nat, n ≤ 5 → vp_in (nI j + Int32.ofNat n) L) (hR : Rel C M) (next : ∀ C1 M1, Rel C1 M1 → cG D A p l e room_1 s m #[Value.ref b] below meth c (lw_Z below #[Value.ref b] s) 4 nc ns (wC q i C1 ++ wM q2 i M1) [(3, .int (nI j)), (2, .ref (q2 0)), (1, .ref (q 0)), (0, .ref b)] 994 []) : cG D A p l e room_1 s m #[Value.ref b] below meth c (lw_Z below #[Value.ref b] s) 4 nc ns (wC q i C ++ wM q2 i M) [(3, .int (nI j)), (2, .ref (q2 0)), (1, .ref (q 0)), (0, .ref b)] 457 [] := by
  refine g_aload_n X rfl 2 rfl dL_law_457 ?_
  refine g_aload_n X rfl 3 rfl dL_law_458 ?_
  refine g_iload_n X rfl 0 rfl dL_law_459 ?_
  refine g_iconst (v := (1 : Int32)) X (by decide) dL_law_460 ?_
  refine g_iadd X dL_law_461 ?_
  refine g_sld X hX hbl hbA (h5 1 (by decide)) dL_law_462 ?_
  refine law_C (st := []) X hA hf [.int (xs (nI j + (1 : Int32)).toNatClampNeg)] (fun A => c_X6_free l D i q A (xs (nI j + (1 : Int32)).toNatClampNeg) C _ (t_free hR (xs (nI j + (1 : Int32)).toNatClampNeg))) (cwV 1 X.ts gL_law_X6_free rfl rfl rfl (by decide +kernel) ⟨(Nat.le_of_ble_eq_true rfl), (Nat.le_of_ble_eq_true rfl)⟩) rfl rfl (Nat.le_of_ble_eq_true rfl) dL_law_463 (fun r C1 h => ?_)
  refine g_aload_n X rfl 1 rfl dL_law_466 ?_
  refine g_aload_n X rfl 3 rfl dL_law_467 ?_
  refine g_iload_n X rfl 0 rfl dL_law_468 ?_
  refine g_iconst (v := (1 : Int32)) X (by decide) dL_law_469 ?_
  refine g_iadd X dL_law_470 ?_
  refine g_sld X hX hbl hbA (h5 1 (by decide)) dL_law_471 ?_
  refine law_M (C := C1) (st := [.int r]) X hA hf [.int (xs (nI j + (1 : Int32)).toNatClampNeg)] (fun A => c_X7_free l D i q2 A (xs (nI j + (1 : Int32)).toNatClampNeg) M _ h) (cwV 1 X.ts gL_law_X7_free rfl rfl rfl (by decide +kernel) ⟨(Nat.le_of_ble_eq_true rfl), (Nat.le_of_ble_eq_true rfl)⟩) rfl rfl (Nat.le_of_ble_eq_true rfl) dL_law_472 (fun r2 M1 h2 => ?_)
  exact g_icmp_eq (tgt := 994) X dL_law_475 (by decide) (fun _ => next C1 M1 h2.2) (fun c => absurd h2.1 c)
set_option maxRecDepth 100000 in
set_option maxHeartbeats 4000000 in
theorem lc_10 (X : cX D i A p s m #[Value.ref b] meth c cL_law RL 4 wsL_law ret) (hA : ∀ q : Nat, s.heap.size ≤ q → A q) (hf : nc ≤ room_1.cells ∧ ns ≤ room_1.slots) (hX : va_X b L xs s s.heap) (hbl : b < s.heap.size) (hbA : ¬ A b) (h5 : ∀ n : Nat, n ≤ 5 → vp_in (nI j + Int32.ofNat n) L) (hR : Rel C M) (next : ∀ C1 M1, Rel C1 M1 → cG D A p l e room_1 s m #[Value.ref b] below meth c (lw_Z below #[Value.ref b] s) 4 nc ns (wC q i C1 ++ wM q2 i M1) [(3, .int (nI j)), (2, .ref (q2 0)), (1, .ref (q 0)), (0, .ref b)] 994 []) : cG D A p l e room_1 s m #[Value.ref b] below meth c (lw_Z below #[Value.ref b] s) 4 nc ns (wC q i C ++ wM q2 i M) [(3, .int (nI j)), (2, .ref (q2 0)), (1, .ref (q 0)), (0, .ref b)] 480 [] := by
  refine g_aload_n X rfl 2 rfl dL_law_480 ?_
  refine g_aload_n X rfl 3 rfl dL_law_481 ?_
  refine g_iload_n X rfl 0 rfl dL_law_482 ?_
  refine g_iconst (v := (1 : Int32)) X (by decide) dL_law_483 ?_
  refine g_iadd X dL_law_484 ?_
  refine g_sld X hX hbl hbA (h5 1 (by decide)) dL_law_485 ?_
  refine law_C (st := []) X hA hf [.int (xs (nI j + (1 : Int32)).toNatClampNeg)] (fun A => c_X6_law l D i q A (xs (nI j + (1 : Int32)).toNatClampNeg) C _ (t_law hR (xs (nI j + (1 : Int32)).toNatClampNeg))) (cwV 1 X.ts gL_law_X6_law rfl rfl rfl (by decide +kernel) ⟨(Nat.le_of_ble_eq_true rfl), (Nat.le_of_ble_eq_true rfl)⟩) rfl rfl (Nat.le_of_ble_eq_true rfl) dL_law_486 (fun r C1 h => ?_)
  refine g_aload_n X rfl 1 rfl dL_law_489 ?_
  refine g_aload_n X rfl 3 rfl dL_law_490 ?_
  refine g_iload_n X rfl 0 rfl dL_law_491 ?_
  refine g_iconst (v := (1 : Int32)) X (by decide) dL_law_492 ?_
  refine g_iadd X dL_law_493 ?_
  refine g_sld X hX hbl hbA (h5 1 (by decide)) dL_law_494 ?_
  refine law_M (C := C1) (st := [.int r]) X hA hf [.int (xs (nI j + (1 : Int32)).toNatClampNeg)] (fun A => c_X7_law l D i q2 A (xs (nI j + (1 : Int32)).toNatClampNeg) M _ h) (cwV 1 X.ts gL_law_X7_law rfl rfl rfl (by decide +kernel) ⟨(Nat.le_of_ble_eq_true rfl), (Nat.le_of_ble_eq_true rfl)⟩) rfl rfl (Nat.le_of_ble_eq_true rfl) dL_law_495 (fun r2 M1 h2 => ?_)
  exact g_icmp_eq (tgt := 994) X dL_law_498 (by decide) (fun _ => next C1 M1 h2.2) (fun c => absurd h2.1 c)
set_option maxRecDepth 100000 in
set_option maxHeartbeats 4000000 in
theorem lc_11 (X : cX D i A p s m #[Value.ref b] meth c cL_law RL 4 wsL_law ret) (hA : ∀ q : Nat, s.heap.size ≤ q → A q) (hf : nc ≤ room_1.cells ∧ ns ≤ room_1.slots) (hX : va_X b L xs s s.heap) (hbl : b < s.heap.size) (hbA : ¬ A b) (h5 : ∀ n : Nat, n ≤ 5 → vp_in (nI j + Int32.ofNat n) L) (hR : Rel C M) (next : ∀ C1 M1, Rel C1 M1 → cG D A p l e room_1 s m #[Value.ref b] below meth c (lw_Z below #[Value.ref b] s) 4 nc ns (wC q i C1 ++ wM q2 i M1) [(3, .int (nI j)), (2, .ref (q2 0)), (1, .ref (q 0)), (0, .ref b)] 994 []) : cG D A p l e room_1 s m #[Value.ref b] below meth c (lw_Z below #[Value.ref b] s) 4 nc ns (wC q i C ++ wM q2 i M) [(3, .int (nI j)), (2, .ref (q2 0)), (1, .ref (q 0)), (0, .ref b)] 503 [] := by
  refine g_aload_n X rfl 2 rfl dL_law_503 ?_
  refine g_aload_n X rfl 3 rfl dL_law_504 ?_
  refine g_iload_n X rfl 0 rfl dL_law_505 ?_
  refine g_iconst (v := (1 : Int32)) X (by decide) dL_law_506 ?_
  refine g_iadd X dL_law_507 ?_
  refine g_sld X hX hbl hbA (h5 1 (by decide)) dL_law_508 ?_
  refine law_C (st := []) X hA hf [.int (xs (nI j + (1 : Int32)).toNatClampNeg)] (fun A => c_X6_build l D i q A (xs (nI j + (1 : Int32)).toNatClampNeg) C _ (t_build hR (xs (nI j + (1 : Int32)).toNatClampNeg))) (cwV 1 X.ts gL_law_X6_build rfl rfl rfl (by decide +kernel) ⟨(Nat.le_of_ble_eq_true rfl), (Nat.le_of_ble_eq_true rfl)⟩) rfl rfl (Nat.le_of_ble_eq_true rfl) dL_law_509 (fun r C1 h => ?_)
  refine g_aload_n X rfl 1 rfl dL_law_512 ?_
  refine g_aload_n X rfl 3 rfl dL_law_513 ?_
  refine g_iload_n X rfl 0 rfl dL_law_514 ?_
  refine g_iconst (v := (1 : Int32)) X (by decide) dL_law_515 ?_
  refine g_iadd X dL_law_516 ?_
  refine g_sld X hX hbl hbA (h5 1 (by decide)) dL_law_517 ?_
  refine law_M (C := C1) (st := [.int r]) X hA hf [.int (xs (nI j + (1 : Int32)).toNatClampNeg)] (fun A => c_X7_build l D i q2 A (xs (nI j + (1 : Int32)).toNatClampNeg) M _ h) (cwV 1 X.ts gL_law_X7_build rfl rfl rfl (by decide +kernel) ⟨(Nat.le_of_ble_eq_true rfl), (Nat.le_of_ble_eq_true rfl)⟩) rfl rfl (Nat.le_of_ble_eq_true rfl) dL_law_518 (fun r2 M1 h2 => ?_)
  exact g_icmp_eq (tgt := 994) X dL_law_521 (by decide) (fun _ => next C1 M1 h2.2) (fun c => absurd h2.1 c)
set_option maxRecDepth 100000 in
set_option maxHeartbeats 4000000 in
theorem lc_12 (X : cX D i A p s m #[Value.ref b] meth c cL_law RL 4 wsL_law ret) (hA : ∀ q : Nat, s.heap.size ≤ q → A q) (hf : nc ≤ room_1.cells ∧ ns ≤ room_1.slots) (hX : va_X b L xs s s.heap) (hbl : b < s.heap.size) (hbA : ¬ A b) (h5 : ∀ n : Nat, n ≤ 5 → vp_in (nI j + Int32.ofNat n) L) (hR : Rel C M) (next : ∀ C1 M1, Rel C1 M1 → cG D A p l e room_1 s m #[Value.ref b] below meth c (lw_Z below #[Value.ref b] s) 4 nc ns (wC q i C1 ++ wM q2 i M1) [(3, .int (nI j)), (2, .ref (q2 0)), (1, .ref (q 0)), (0, .ref b)] 994 []) : cG D A p l e room_1 s m #[Value.ref b] below meth c (lw_Z below #[Value.ref b] s) 4 nc ns (wC q i C ++ wM q2 i M) [(3, .int (nI j)), (2, .ref (q2 0)), (1, .ref (q 0)), (0, .ref b)] 526 [] := by
  refine g_aload_n X rfl 2 rfl dL_law_526 ?_
  refine g_aload_n X rfl 3 rfl dL_law_527 ?_
  refine g_iload_n X rfl 0 rfl dL_law_528 ?_
  refine g_iconst (v := (1 : Int32)) X (by decide) dL_law_529 ?_
  refine g_iadd X dL_law_530 ?_
  refine g_sld X hX hbl hbA (h5 1 (by decide)) dL_law_531 ?_
  refine g_aload_n X rfl 3 rfl dL_law_532 ?_
  refine g_iload_n X rfl 0 rfl dL_law_533 ?_
  refine g_iconst (v := (2 : Int32)) X (by decide) dL_law_534 ?_
  refine g_iadd X dL_law_535 ?_
  refine g_sld X hX hbl hbA (h5 2 (by decide)) dL_law_536 ?_
  refine g_aload_n X rfl 3 rfl dL_law_537 ?_
  refine g_iload_n X rfl 0 rfl dL_law_538 ?_
  refine g_iconst (v := (3 : Int32)) X (by decide) dL_law_539 ?_
  refine g_iadd X dL_law_540 ?_
  refine g_sld X hX hbl hbA (h5 3 (by decide)) dL_law_541 ?_
  refine law_C (st := []) X hA hf [.int (xs (nI j + (1 : Int32)).toNatClampNeg), .int (xs (nI j + (2 : Int32)).toNatClampNeg), .int (xs (nI j + (3 : Int32)).toNatClampNeg)] (fun A => c_X6_plant l D i q A (xs (nI j + (1 : Int32)).toNatClampNeg) (xs (nI j + (2 : Int32)).toNatClampNeg) (xs (nI j + (3 : Int32)).toNatClampNeg) C _ (t_plant hR (xs (nI j + (1 : Int32)).toNatClampNeg) (xs (nI j + (2 : Int32)).toNatClampNeg) (xs (nI j + (3 : Int32)).toNatClampNeg))) (cwV 3 X.ts gL_law_X6_plant rfl rfl rfl (by decide +kernel) ⟨(Nat.le_of_ble_eq_true rfl), (Nat.le_of_ble_eq_true rfl)⟩) rfl rfl (Nat.le_of_ble_eq_true rfl) dL_law_542 (fun r C1 h => ?_)
  refine g_aload_n X rfl 1 rfl dL_law_545 ?_
  refine g_aload_n X rfl 3 rfl dL_law_546 ?_
  refine g_iload_n X rfl 0 rfl dL_law_547 ?_
  refine g_iconst (v := (1 : Int32)) X (by decide) dL_law_548 ?_
  refine g_iadd X dL_law_549 ?_
  refine g_sld X hX hbl hbA (h5 1 (by decide)) dL_law_550 ?_
  refine g_aload_n X rfl 3 rfl dL_law_551 ?_
  refine g_iload_n X rfl 0 rfl dL_law_552 ?_
  refine g_iconst (v := (2 : Int32)) X (by decide) dL_law_553 ?_
  refine g_iadd X dL_law_554 ?_
  refine g_sld X hX hbl hbA (h5 2 (by decide)) dL_law_555 ?_
  refine g_aload_n X rfl 3 rfl dL_law_556 ?_
  refine g_iload_n X rfl 0 rfl dL_law_557 ?_
  refine g_iconst (v := (3 : Int32)) X (by decide) dL_law_558 ?_
  refine g_iadd X dL_law_559 ?_
  refine g_sld X hX hbl hbA (h5 3 (by decide)) dL_law_560 ?_
  refine law_M (C := C1) (st := [.int r]) X hA hf [.int (xs (nI j + (1 : Int32)).toNatClampNeg), .int (xs (nI j + (2 : Int32)).toNatClampNeg), .int (xs (nI j + (3 : Int32)).toNatClampNeg)] (fun A => c_X7_plant l D i q2 A (xs (nI j + (1 : Int32)).toNatClampNeg) (xs (nI j + (2 : Int32)).toNatClampNeg) (xs (nI j + (3 : Int32)).toNatClampNeg) M _ h) (cwV 3 X.ts gL_law_X7_plant rfl rfl rfl (by decide +kernel) ⟨(Nat.le_of_ble_eq_true rfl), (Nat.le_of_ble_eq_true rfl)⟩) rfl rfl (Nat.le_of_ble_eq_true rfl) dL_law_561 (fun r2 M1 h2 => ?_)
  exact g_icmp_eq (tgt := 994) X dL_law_564 (by decide) (fun _ => next C1 M1 h2.2) (fun c => absurd h2.1 c)
set_option maxRecDepth 100000 in
set_option maxHeartbeats 4000000 in
theorem lc_13 (X : cX D i A p s m #[Value.ref b] meth c cL_law RL 4 wsL_law ret) (hA : ∀ q : Nat, s.heap.size ≤ q → A q) (hf : nc ≤ room_1.cells ∧ ns ≤ room_1.slots) (hX : va_X b L xs s s.heap) (hbl : b < s.heap.size) (hbA : ¬ A b) (h5 : ∀ n : Nat, n ≤ 5 → vp_in (nI j + Int32.ofNat n) L) (hR : Rel C M) (next : ∀ C1 M1, Rel C1 M1 → cG D A p l e room_1 s m #[Value.ref b] below meth c (lw_Z below #[Value.ref b] s) 4 nc ns (wC q i C1 ++ wM q2 i M1) [(3, .int (nI j)), (2, .ref (q2 0)), (1, .ref (q 0)), (0, .ref b)] 994 []) : cG D A p l e room_1 s m #[Value.ref b] below meth c (lw_Z below #[Value.ref b] s) 4 nc ns (wC q i C ++ wM q2 i M) [(3, .int (nI j)), (2, .ref (q2 0)), (1, .ref (q 0)), (0, .ref b)] 569 [] := by
  refine g_aload_n X rfl 2 rfl dL_law_569 ?_
  refine g_aload_n X rfl 3 rfl dL_law_570 ?_
  refine g_iload_n X rfl 0 rfl dL_law_571 ?_
  refine g_iconst (v := (1 : Int32)) X (by decide) dL_law_572 ?_
  refine g_iadd X dL_law_573 ?_
  refine g_sld X hX hbl hbA (h5 1 (by decide)) dL_law_574 ?_
  refine law_C (st := []) X hA hf [.int (xs (nI j + (1 : Int32)).toNatClampNeg)] (fun A => c_X6_day l D i q A (xs (nI j + (1 : Int32)).toNatClampNeg) C _ (t_day hR (xs (nI j + (1 : Int32)).toNatClampNeg))) (cwV 1 X.ts gL_law_X6_day rfl rfl rfl (by decide +kernel) ⟨(Nat.le_of_ble_eq_true rfl), (Nat.le_of_ble_eq_true rfl)⟩) rfl rfl (Nat.le_of_ble_eq_true rfl) dL_law_575 (fun r C1 h => ?_)
  refine g_aload_n X rfl 1 rfl dL_law_578 ?_
  refine g_aload_n X rfl 3 rfl dL_law_579 ?_
  refine g_iload_n X rfl 0 rfl dL_law_580 ?_
  refine g_iconst (v := (1 : Int32)) X (by decide) dL_law_581 ?_
  refine g_iadd X dL_law_582 ?_
  refine g_sld X hX hbl hbA (h5 1 (by decide)) dL_law_583 ?_
  refine law_M (C := C1) (st := [.int r]) X hA hf [.int (xs (nI j + (1 : Int32)).toNatClampNeg)] (fun A => c_X7_day l D i q2 A (xs (nI j + (1 : Int32)).toNatClampNeg) M _ h) (cwV 1 X.ts gL_law_X7_day rfl rfl rfl (by decide +kernel) ⟨(Nat.le_of_ble_eq_true rfl), (Nat.le_of_ble_eq_true rfl)⟩) rfl rfl (Nat.le_of_ble_eq_true rfl) dL_law_584 (fun r2 M1 h2 => ?_)
  exact g_icmp_eq (tgt := 994) X dL_law_587 (by decide) (fun _ => next C1 M1 h2.2) (fun c => absurd h2.1 c)
end LL
