/-! ===== the law, case by case ===== -/
section LL
variable {D : va_G} {i : Nat → ClassId} {A : Nat → Prop} {p : Program} {l : Launch} {e : Env} {s : State} {m : MethodId} {below : List Frame} {meth : Method} {c : Code} {nc ns b L j : Nat} {xs : Nat → Int32} {q q2 : Nat → Nat} {C M : vS}
set_option maxRecDepth 100000 in
set_option maxHeartbeats 4000000 in
theorem lc_21 (X : cX D i A p s m #[Value.ref b] meth c cL_law RL 4 wsL_law ret) (hA : ∀ q : Nat, s.heap.size ≤ q → A q) (hf : nc ≤ room_1.cells ∧ ns ≤ room_1.slots) (hX : va_X b L xs s s.heap) (hbl : b < s.heap.size) (hbA : ¬ A b) (h5 : ∀ n : Nat, n ≤ 5 → vp_in (nI j + Int32.ofNat n) L) (hR : Rel C M) (next : ∀ C1 M1, Rel C1 M1 → cG D A p l e room_1 s m #[Value.ref b] below meth c (lw_Z below #[Value.ref b] s) 4 nc ns (wC q i C1 ++ wM q2 i M1) [(3, .int (nI j)), (2, .ref (q2 0)), (1, .ref (q 0)), (0, .ref b)] 994 []) : cG D A p l e room_1 s m #[Value.ref b] below meth c (lw_Z below #[Value.ref b] s) 4 nc ns (wC q i C ++ wM q2 i M) [(3, .int (nI j)), (2, .ref (q2 0)), (1, .ref (q 0)), (0, .ref b)] 833 [] := by
  refine g_aload_n X rfl 2 rfl dL_law_833 ?_
  refine g_aload_n X rfl 3 rfl dL_law_834 ?_
  refine g_iload_n X rfl 0 rfl dL_law_835 ?_
  refine g_iconst (v := (1 : Int32)) X (by decide) dL_law_836 ?_
  refine g_iadd X dL_law_837 ?_
  refine g_sld X hX hbl hbA (h5 1 (by decide)) dL_law_838 ?_
  refine law_C (st := []) X hA hf [.int (xs (nI j + (1 : Int32)).toNatClampNeg)] (fun A => c_X6_needed l D i q A (xs (nI j + (1 : Int32)).toNatClampNeg) C _ (t_needed hR (xs (nI j + (1 : Int32)).toNatClampNeg))) (cwV 1 X.ts gL_law_X6_needed rfl rfl rfl (by decide +kernel) ⟨(Nat.le_of_ble_eq_true rfl), (Nat.le_of_ble_eq_true rfl)⟩) rfl rfl (Nat.le_of_ble_eq_true rfl) dL_law_839 (fun r C1 h => ?_)
  refine g_aload_n X rfl 1 rfl dL_law_842 ?_
  refine g_aload_n X rfl 3 rfl dL_law_843 ?_
  refine g_iload_n X rfl 0 rfl dL_law_844 ?_
  refine g_iconst (v := (1 : Int32)) X (by decide) dL_law_845 ?_
  refine g_iadd X dL_law_846 ?_
  refine g_sld X hX hbl hbA (h5 1 (by decide)) dL_law_847 ?_
  refine law_M (C := C1) (st := [.int r]) X hA hf [.int (xs (nI j + (1 : Int32)).toNatClampNeg)] (fun A => c_X7_needed l D i q2 A (xs (nI j + (1 : Int32)).toNatClampNeg) M _ h) (cwV 1 X.ts gL_law_X7_needed rfl rfl rfl (by decide +kernel) ⟨(Nat.le_of_ble_eq_true rfl), (Nat.le_of_ble_eq_true rfl)⟩) rfl rfl (Nat.le_of_ble_eq_true rfl) dL_law_848 (fun r2 M1 h2 => ?_)
  exact g_icmp_eq (tgt := 994) X dL_law_851 (by decide) (fun _ => next C1 M1 h2.2) (fun c => absurd h2.1 c)
set_option maxRecDepth 100000 in
set_option maxHeartbeats 4000000 in
theorem lc_22 (X : cX D i A p s m #[Value.ref b] meth c cL_law RL 4 wsL_law ret) (hA : ∀ q : Nat, s.heap.size ≤ q → A q) (hf : nc ≤ room_1.cells ∧ ns ≤ room_1.slots) (hX : va_X b L xs s s.heap) (hbl : b < s.heap.size) (hbA : ¬ A b) (h5 : ∀ n : Nat, n ≤ 5 → vp_in (nI j + Int32.ofNat n) L) (hR : Rel C M) (next : ∀ C1 M1, Rel C1 M1 → cG D A p l e room_1 s m #[Value.ref b] below meth c (lw_Z below #[Value.ref b] s) 4 nc ns (wC q i C1 ++ wM q2 i M1) [(3, .int (nI j)), (2, .ref (q2 0)), (1, .ref (q 0)), (0, .ref b)] 994 []) : cG D A p l e room_1 s m #[Value.ref b] below meth c (lw_Z below #[Value.ref b] s) 4 nc ns (wC q i C ++ wM q2 i M) [(3, .int (nI j)), (2, .ref (q2 0)), (1, .ref (q 0)), (0, .ref b)] 856 [] := by
  refine g_aload_n X rfl 2 rfl dL_law_856 ?_
  refine g_aload_n X rfl 3 rfl dL_law_857 ?_
  refine g_iload_n X rfl 0 rfl dL_law_858 ?_
  refine g_iconst (v := (1 : Int32)) X (by decide) dL_law_859 ?_
  refine g_iadd X dL_law_860 ?_
  refine g_sld X hX hbl hbA (h5 1 (by decide)) dL_law_861 ?_
  refine g_aload_n X rfl 3 rfl dL_law_862 ?_
  refine g_iload_n X rfl 0 rfl dL_law_863 ?_
  refine g_iconst (v := (2 : Int32)) X (by decide) dL_law_864 ?_
  refine g_iadd X dL_law_865 ?_
  refine g_sld X hX hbl hbA (h5 2 (by decide)) dL_law_866 ?_
  refine g_aload_n X rfl 3 rfl dL_law_867 ?_
  refine g_iload_n X rfl 0 rfl dL_law_868 ?_
  refine g_iconst (v := (3 : Int32)) X (by decide) dL_law_869 ?_
  refine g_iadd X dL_law_870 ?_
  refine g_sld X hX hbl hbA (h5 3 (by decide)) dL_law_871 ?_
  refine law_C (st := []) X hA hf [.int (xs (nI j + (1 : Int32)).toNatClampNeg), .int (xs (nI j + (2 : Int32)).toNatClampNeg), .int (xs (nI j + (3 : Int32)).toNatClampNeg)] (fun A => c_X6_write l D i q A (xs (nI j + (1 : Int32)).toNatClampNeg) (xs (nI j + (2 : Int32)).toNatClampNeg) (xs (nI j + (3 : Int32)).toNatClampNeg) C _ (t_write hR (xs (nI j + (1 : Int32)).toNatClampNeg) (xs (nI j + (2 : Int32)).toNatClampNeg) (xs (nI j + (3 : Int32)).toNatClampNeg))) (cwV 3 X.ts gL_law_X6_write rfl rfl rfl (by decide +kernel) ⟨(Nat.le_of_ble_eq_true rfl), (Nat.le_of_ble_eq_true rfl)⟩) rfl rfl (Nat.le_of_ble_eq_true rfl) dL_law_872 (fun r C1 h => ?_)
  refine g_aload_n X rfl 1 rfl dL_law_875 ?_
  refine g_aload_n X rfl 3 rfl dL_law_876 ?_
  refine g_iload_n X rfl 0 rfl dL_law_877 ?_
  refine g_iconst (v := (1 : Int32)) X (by decide) dL_law_878 ?_
  refine g_iadd X dL_law_879 ?_
  refine g_sld X hX hbl hbA (h5 1 (by decide)) dL_law_880 ?_
  refine g_aload_n X rfl 3 rfl dL_law_881 ?_
  refine g_iload_n X rfl 0 rfl dL_law_882 ?_
  refine g_iconst (v := (2 : Int32)) X (by decide) dL_law_883 ?_
  refine g_iadd X dL_law_884 ?_
  refine g_sld X hX hbl hbA (h5 2 (by decide)) dL_law_885 ?_
  refine g_aload_n X rfl 3 rfl dL_law_886 ?_
  refine g_iload_n X rfl 0 rfl dL_law_887 ?_
  refine g_iconst (v := (3 : Int32)) X (by decide) dL_law_888 ?_
  refine g_iadd X dL_law_889 ?_
  refine g_sld X hX hbl hbA (h5 3 (by decide)) dL_law_890 ?_
  refine law_M (C := C1) (st := [.int r]) X hA hf [.int (xs (nI j + (1 : Int32)).toNatClampNeg), .int (xs (nI j + (2 : Int32)).toNatClampNeg), .int (xs (nI j + (3 : Int32)).toNatClampNeg)] (fun A => c_X7_write l D i q2 A (xs (nI j + (1 : Int32)).toNatClampNeg) (xs (nI j + (2 : Int32)).toNatClampNeg) (xs (nI j + (3 : Int32)).toNatClampNeg) M _ h) (cwV 3 X.ts gL_law_X7_write rfl rfl rfl (by decide +kernel) ⟨(Nat.le_of_ble_eq_true rfl), (Nat.le_of_ble_eq_true rfl)⟩) rfl rfl (Nat.le_of_ble_eq_true rfl) dL_law_891 (fun r2 M1 h2 => ?_)
  exact g_icmp_eq (tgt := 994) X dL_law_894 (by decide) (fun _ => next C1 M1 h2.2) (fun c => absurd h2.1 c)
set_option maxRecDepth 100000 in
set_option maxHeartbeats 4000000 in
theorem lc_23 (X : cX D i A p s m #[Value.ref b] meth c cL_law RL 4 wsL_law ret) (hA : ∀ q : Nat, s.heap.size ≤ q → A q) (hf : nc ≤ room_1.cells ∧ ns ≤ room_1.slots) (hX : va_X b L xs s s.heap) (hbl : b < s.heap.size) (hbA : ¬ A b) (h5 : ∀ n : Nat, n ≤ 5 → vp_in (nI j + Int32.ofNat n) L) (hR : Rel C M) (next : ∀ C1 M1, Rel C1 M1 → cG D A p l e room_1 s m #[Value.ref b] below meth c (lw_Z below #[Value.ref b] s) 4 nc ns (wC q i C1 ++ wM q2 i M1) [(3, .int (nI j)), (2, .ref (q2 0)), (1, .ref (q 0)), (0, .ref b)] 994 []) : cG D A p l e room_1 s m #[Value.ref b] below meth c (lw_Z below #[Value.ref b] s) 4 nc ns (wC q i C ++ wM q2 i M) [(3, .int (nI j)), (2, .ref (q2 0)), (1, .ref (q 0)), (0, .ref b)] 899 [] := by
  refine g_aload_n X rfl 2 rfl dL_law_899 ?_
  refine law_C (st := []) X hA hf [] (fun A => c_X6_tear l D i q A C _ (t_tear hR)) (cwV 0 X.ts gL_law_X6_tear rfl rfl rfl (by decide +kernel) ⟨(Nat.le_of_ble_eq_true rfl), (Nat.le_of_ble_eq_true rfl)⟩) rfl rfl (Nat.le_of_ble_eq_true rfl) dL_law_900 (fun r C1 h => ?_)
  refine g_aload_n X rfl 1 rfl dL_law_903 ?_
  refine law_M (C := C1) (st := [.int r]) X hA hf [] (fun A => c_X7_tear l D i q2 A M _ h) (cwV 0 X.ts gL_law_X7_tear rfl rfl rfl (by decide +kernel) ⟨(Nat.le_of_ble_eq_true rfl), (Nat.le_of_ble_eq_true rfl)⟩) rfl rfl (Nat.le_of_ble_eq_true rfl) dL_law_904 (fun r2 M1 h2 => ?_)
  exact g_icmp_eq (tgt := 994) X dL_law_907 (by decide) (fun _ => next C1 M1 h2.2) (fun c => absurd h2.1 c)
set_option maxRecDepth 100000 in
set_option maxHeartbeats 4000000 in
theorem lc_24 (X : cX D i A p s m #[Value.ref b] meth c cL_law RL 4 wsL_law ret) (hA : ∀ q : Nat, s.heap.size ≤ q → A q) (hf : nc ≤ room_1.cells ∧ ns ≤ room_1.slots) (hX : va_X b L xs s s.heap) (hbl : b < s.heap.size) (hbA : ¬ A b) (h5 : ∀ n : Nat, n ≤ 5 → vp_in (nI j + Int32.ofNat n) L) (hR : Rel C M) (next : ∀ C1 M1, Rel C1 M1 → cG D A p l e room_1 s m #[Value.ref b] below meth c (lw_Z below #[Value.ref b] s) 4 nc ns (wC q i C1 ++ wM q2 i M1) [(3, .int (nI j)), (2, .ref (q2 0)), (1, .ref (q 0)), (0, .ref b)] 994 []) : cG D A p l e room_1 s m #[Value.ref b] below meth c (lw_Z below #[Value.ref b] s) 4 nc ns (wC q i C ++ wM q2 i M) [(3, .int (nI j)), (2, .ref (q2 0)), (1, .ref (q 0)), (0, .ref b)] 912 [] := by
  refine g_aload_n X rfl 2 rfl dL_law_912 ?_
  refine law_C (st := []) X hA hf [] (fun A => c_X6_judge l D i q A C _ (t_judge hR)) (cwV 0 X.ts gL_law_X6_judge rfl rfl rfl (by decide +kernel) ⟨(Nat.le_of_ble_eq_true rfl), (Nat.le_of_ble_eq_true rfl)⟩) rfl rfl (Nat.le_of_ble_eq_true rfl) dL_law_913 (fun r C1 h => ?_)
  refine g_aload_n X rfl 1 rfl dL_law_916 ?_
  refine law_M (C := C1) (st := [.int r]) X hA hf [] (fun A => c_X7_judge l D i q2 A M _ h) (cwV 0 X.ts gL_law_X7_judge rfl rfl rfl (by decide +kernel) ⟨(Nat.le_of_ble_eq_true rfl), (Nat.le_of_ble_eq_true rfl)⟩) rfl rfl (Nat.le_of_ble_eq_true rfl) dL_law_917 (fun r2 M1 h2 => ?_)
  exact g_icmp_eq (tgt := 994) X dL_law_920 (by decide) (fun _ => next C1 M1 h2.2) (fun c => absurd h2.1 c)
set_option maxRecDepth 100000 in
set_option maxHeartbeats 4000000 in
theorem lc_25 (X : cX D i A p s m #[Value.ref b] meth c cL_law RL 4 wsL_law ret) (hA : ∀ q : Nat, s.heap.size ≤ q → A q) (hf : nc ≤ room_1.cells ∧ ns ≤ room_1.slots) (hX : va_X b L xs s s.heap) (hbl : b < s.heap.size) (hbA : ¬ A b) (h5 : ∀ n : Nat, n ≤ 5 → vp_in (nI j + Int32.ofNat n) L) (hR : Rel C M) (next : ∀ C1 M1, Rel C1 M1 → cG D A p l e room_1 s m #[Value.ref b] below meth c (lw_Z below #[Value.ref b] s) 4 nc ns (wC q i C1 ++ wM q2 i M1) [(3, .int (nI j)), (2, .ref (q2 0)), (1, .ref (q 0)), (0, .ref b)] 994 []) : cG D A p l e room_1 s m #[Value.ref b] below meth c (lw_Z below #[Value.ref b] s) 4 nc ns (wC q i C ++ wM q2 i M) [(3, .int (nI j)), (2, .ref (q2 0)), (1, .ref (q 0)), (0, .ref b)] 925 [] := by
  refine g_aload_n X rfl 2 rfl dL_law_925 ?_
  refine g_aload_n X rfl 3 rfl dL_law_926 ?_
  refine g_iload_n X rfl 0 rfl dL_law_927 ?_
  refine g_iconst (v := (1 : Int32)) X (by decide) dL_law_928 ?_
  refine g_iadd X dL_law_929 ?_
  refine g_sld X hX hbl hbA (h5 1 (by decide)) dL_law_930 ?_
  refine law_C (st := []) X hA hf [.int (xs (nI j + (1 : Int32)).toNatClampNeg)] (fun A => c_X6_seed l D i q A (xs (nI j + (1 : Int32)).toNatClampNeg) C _ (t_seed hR (xs (nI j + (1 : Int32)).toNatClampNeg))) (cwV 1 X.ts gL_law_X6_seed rfl rfl rfl (by decide +kernel) ⟨(Nat.le_of_ble_eq_true rfl), (Nat.le_of_ble_eq_true rfl)⟩) rfl rfl (Nat.le_of_ble_eq_true rfl) dL_law_931 (fun r C1 h => ?_)
  refine g_aload_n X rfl 1 rfl dL_law_934 ?_
  refine g_aload_n X rfl 3 rfl dL_law_935 ?_
  refine g_iload_n X rfl 0 rfl dL_law_936 ?_
  refine g_iconst (v := (1 : Int32)) X (by decide) dL_law_937 ?_
  refine g_iadd X dL_law_938 ?_
  refine g_sld X hX hbl hbA (h5 1 (by decide)) dL_law_939 ?_
  refine law_M (C := C1) (st := [.int r]) X hA hf [.int (xs (nI j + (1 : Int32)).toNatClampNeg)] (fun A => c_X7_seed l D i q2 A (xs (nI j + (1 : Int32)).toNatClampNeg) M _ h) (cwV 1 X.ts gL_law_X7_seed rfl rfl rfl (by decide +kernel) ⟨(Nat.le_of_ble_eq_true rfl), (Nat.le_of_ble_eq_true rfl)⟩) rfl rfl (Nat.le_of_ble_eq_true rfl) dL_law_940 (fun r2 M1 h2 => ?_)
  exact g_icmp_eq (tgt := 994) X dL_law_943 (by decide) (fun _ => next C1 M1 h2.2) (fun c => absurd h2.1 c)
set_option maxRecDepth 100000 in
set_option maxHeartbeats 4000000 in
theorem lc_26 (X : cX D i A p s m #[Value.ref b] meth c cL_law RL 4 wsL_law ret) (hA : ∀ q : Nat, s.heap.size ≤ q → A q) (hf : nc ≤ room_1.cells ∧ ns ≤ room_1.slots) (hX : va_X b L xs s s.heap) (hbl : b < s.heap.size) (hbA : ¬ A b) (h5 : ∀ n : Nat, n ≤ 5 → vp_in (nI j + Int32.ofNat n) L) (hR : Rel C M) (next : ∀ C1 M1, Rel C1 M1 → cG D A p l e room_1 s m #[Value.ref b] below meth c (lw_Z below #[Value.ref b] s) 4 nc ns (wC q i C1 ++ wM q2 i M1) [(3, .int (nI j)), (2, .ref (q2 0)), (1, .ref (q 0)), (0, .ref b)] 994 []) : cG D A p l e room_1 s m #[Value.ref b] below meth c (lw_Z below #[Value.ref b] s) 4 nc ns (wC q i C ++ wM q2 i M) [(3, .int (nI j)), (2, .ref (q2 0)), (1, .ref (q 0)), (0, .ref b)] 948 [] := by
  refine g_aload_n X rfl 2 rfl dL_law_948 ?_
  refine g_aload_n X rfl 3 rfl dL_law_949 ?_
  refine g_iload_n X rfl 0 rfl dL_law_950 ?_
  refine g_iconst (v := (1 : Int32)) X (by decide) dL_law_951 ?_
  refine g_iadd X dL_law_952 ?_
  refine g_sld X hX hbl hbA (h5 1 (by decide)) dL_law_953 ?_
  refine law_C (st := []) X hA hf [.int (xs (nI j + (1 : Int32)).toNatClampNeg)] (fun A => c_X6_keep l D i q A (xs (nI j + (1 : Int32)).toNatClampNeg) C _ (t_keep hR (xs (nI j + (1 : Int32)).toNatClampNeg))) (cwV 1 X.ts gL_law_X6_keep rfl rfl rfl (by decide +kernel) ⟨(Nat.le_of_ble_eq_true rfl), (Nat.le_of_ble_eq_true rfl)⟩) rfl rfl (Nat.le_of_ble_eq_true rfl) dL_law_954 (fun r C1 h => ?_)
  refine g_aload_n X rfl 1 rfl dL_law_957 ?_
  refine g_aload_n X rfl 3 rfl dL_law_958 ?_
  refine g_iload_n X rfl 0 rfl dL_law_959 ?_
  refine g_iconst (v := (1 : Int32)) X (by decide) dL_law_960 ?_
  refine g_iadd X dL_law_961 ?_
  refine g_sld X hX hbl hbA (h5 1 (by decide)) dL_law_962 ?_
  refine law_M (C := C1) (st := [.int r]) X hA hf [.int (xs (nI j + (1 : Int32)).toNatClampNeg)] (fun A => c_X7_keep l D i q2 A (xs (nI j + (1 : Int32)).toNatClampNeg) M _ h) (cwV 1 X.ts gL_law_X7_keep rfl rfl rfl (by decide +kernel) ⟨(Nat.le_of_ble_eq_true rfl), (Nat.le_of_ble_eq_true rfl)⟩) rfl rfl (Nat.le_of_ble_eq_true rfl) dL_law_963 (fun r2 M1 h2 => ?_)
  exact g_icmp_eq (tgt := 994) X dL_law_966 (by decide) (fun _ => next C1 M1 h2.2) (fun c => absurd h2.1 c)
set_option maxRecDepth 100000 in
set_option maxHeartbeats 4000000 in
theorem lc_27 (X : cX D i A p s m #[Value.ref b] meth c cL_law RL 4 wsL_law ret) (hA : ∀ q : Nat, s.heap.size ≤ q → A q) (hf : nc ≤ room_1.cells ∧ ns ≤ room_1.slots) (hX : va_X b L xs s s.heap) (hbl : b < s.heap.size) (hbA : ¬ A b) (h5 : ∀ n : Nat, n ≤ 5 → vp_in (nI j + Int32.ofNat n) L) (hR : Rel C M) (next : ∀ C1 M1, Rel C1 M1 → cG D A p l e room_1 s m #[Value.ref b] below meth c (lw_Z below #[Value.ref b] s) 4 nc ns (wC q i C1 ++ wM q2 i M1) [(3, .int (nI j)), (2, .ref (q2 0)), (1, .ref (q 0)), (0, .ref b)] 994 []) : cG D A p l e room_1 s m #[Value.ref b] below meth c (lw_Z below #[Value.ref b] s) 4 nc ns (wC q i C ++ wM q2 i M) [(3, .int (nI j)), (2, .ref (q2 0)), (1, .ref (q 0)), (0, .ref b)] 971 [] := by
  refine g_aload_n X rfl 2 rfl dL_law_971 ?_
  refine g_aload_n X rfl 3 rfl dL_law_972 ?_
  refine g_iload_n X rfl 0 rfl dL_law_973 ?_
  refine g_iconst (v := (1 : Int32)) X (by decide) dL_law_974 ?_
  refine g_iadd X dL_law_975 ?_
  refine g_sld X hX hbl hbA (h5 1 (by decide)) dL_law_976 ?_
  refine law_C (st := []) X hA hf [.int (xs (nI j + (1 : Int32)).toNatClampNeg)] (fun A => c_X6_goBack l D i q A (xs (nI j + (1 : Int32)).toNatClampNeg) C _ (t_goBack hR (xs (nI j + (1 : Int32)).toNatClampNeg))) (cwV 1 X.ts gL_law_X6_goBack rfl rfl rfl (by decide +kernel) ⟨(Nat.le_of_ble_eq_true rfl), (Nat.le_of_ble_eq_true rfl)⟩) rfl rfl (Nat.le_of_ble_eq_true rfl) dL_law_977 (fun r C1 h => ?_)
  refine g_aload_n X rfl 1 rfl dL_law_980 ?_
  refine g_aload_n X rfl 3 rfl dL_law_981 ?_
  refine g_iload_n X rfl 0 rfl dL_law_982 ?_
  refine g_iconst (v := (1 : Int32)) X (by decide) dL_law_983 ?_
  refine g_iadd X dL_law_984 ?_
  refine g_sld X hX hbl hbA (h5 1 (by decide)) dL_law_985 ?_
  refine law_M (C := C1) (st := [.int r]) X hA hf [.int (xs (nI j + (1 : Int32)).toNatClampNeg)] (fun A => c_X7_goBack l D i q2 A (xs (nI j + (1 : Int32)).toNatClampNeg) M _ h) (cwV 1 X.ts gL_law_X7_goBack rfl rfl rfl (by decide +kernel) ⟨(Nat.le_of_ble_eq_true rfl), (Nat.le_of_ble_eq_true rfl)⟩) rfl rfl (Nat.le_of_ble_eq_true rfl) dL_law_986 (fun r2 M1 h2 => ?_)
  exact g_icmp_eq (tgt := 994) X dL_law_989 (by decide) (fun _ => next C1 M1 h2.2) (fun c => absurd h2.1 c)
end LL
