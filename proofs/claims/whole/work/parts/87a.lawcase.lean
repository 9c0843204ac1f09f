/-! ===== the law, case by case ===== -/
section LL
variable {D : va_G} {i : Nat → ClassId} {A : Nat → Prop} {p : Program} {l : Launch} {e : Env} {s : State} {m : MethodId} {below : List Frame} {meth : Method} {c : Code} {nc ns b L j : Nat} {xs : Nat → Int32} {q q2 : Nat → Nat} {C M : vS}
set_option maxRecDepth 100000 in
set_option maxHeartbeats 4000000 in
theorem lc_0 (X : cX D i A p s m #[Value.ref b] meth c cL_law RL 4 wsL_law ret) (hA : ∀ q : Nat, s.heap.size ≤ q → A q) (hf : nc ≤ room_1.cells ∧ ns ≤ room_1.slots) (hX : va_X b L xs s s.heap) (hbl : b < s.heap.size) (hbA : ¬ A b) (h5 : ∀ n : Nat, n ≤ 5 → vp_in (nI j + Int32.ofNat n) L) (hR : Rel C M) (next : ∀ C1 M1, Rel C1 M1 → cG D A p l e room_1 s m #[Value.ref b] below meth c (lw_Z below #[Value.ref b] s) 4 nc ns (wC q i C1 ++ wM q2 i M1) [(3, .int (nI j)), (2, .ref (q2 0)), (1, .ref (q 0)), (0, .ref b)] 994 []) : cG D A p l e room_1 s m #[Value.ref b] below meth c (lw_Z below #[Value.ref b] s) 4 nc ns (wC q i C ++ wM q2 i M) [(3, .int (nI j)), (2, .ref (q2 0)), (1, .ref (q 0)), (0, .ref b)] 160 [] := by
  refine g_aload_n X rfl 2 rfl dL_law_160 ?_
  refine g_aload_n X rfl 3 rfl dL_law_161 ?_
  refine g_iload_n X rfl 0 rfl dL_law_162 ?_
  refine g_iconst (v := (1 : Int32)) X (by decide) dL_law_163 ?_
  refine g_iadd X dL_law_164 ?_
  refine g_sld X hX hbl hbA (h5 1 (by decide)) dL_law_165 ?_
  refine g_aload_n X rfl 3 rfl dL_law_166 ?_
  refine g_iload_n X rfl 0 rfl dL_law_167 ?_
  refine g_iconst (v := (2 : Int32)) X (by decide) dL_law_168 ?_
  refine g_iadd X dL_law_169 ?_
  refine g_sld X hX hbl hbA (h5 2 (by decide)) dL_law_170 ?_
  refine g_i2l X dL_law_171 ?_
  refine g_bipush (v := (32 : Int32)) X (by decide) dL_law_172 ?_
  refine g_lshl X dL_law_174 ?_
  refine g_aload_n X rfl 3 rfl dL_law_175 ?_
  refine g_iload_n X rfl 0 rfl dL_law_176 ?_
  refine g_iconst (v := (3 : Int32)) X (by decide) dL_law_177 ?_
  refine g_iadd X dL_law_178 ?_
  refine g_sld X hX hbl hbA (h5 3 (by decide)) dL_law_179 ?_
  refine g_i2l X dL_law_180 ?_
  refine g_ldc2 (v := (4294967295 : Int64)) X (by decide +kernel) dL_law_181 ?_
  refine g_land X dL_law_184 ?_
  refine g_lor X dL_law_185 ?_
  refine law_C (st := []) X hA hf [.int (xs (nI j + (1 : Int32)).toNatClampNeg), .long ((((xs (nI j + (2 : Int32)).toNatClampNeg)).toInt64 <<< (((32 : Int32)).toInt64 &&& 63)) ||| (((xs (nI j + (3 : Int32)).toNatClampNeg)).toInt64 &&& (4294967295 : Int64)))] (fun A => c_X6_feed l D i q A (xs (nI j + (1 : Int32)).toNatClampNeg) ((((xs (nI j + (2 : Int32)).toNatClampNeg)).toInt64 <<< (((32 : Int32)).toInt64 &&& 63)) ||| (((xs (nI j + (3 : Int32)).toNatClampNeg)).toInt64 &&& (4294967295 : Int64))) C _ (t_feed hR (xs (nI j + (1 : Int32)).toNatClampNeg) ((((xs (nI j + (2 : Int32)).toNatClampNeg)).toInt64 <<< (((32 : Int32)).toInt64 &&& 63)) ||| (((xs (nI j + (3 : Int32)).toNatClampNeg)).toInt64 &&& (4294967295 : Int64))))) (cwV 2 X.ts gL_law_X6_feed rfl rfl rfl (by decide +kernel) ⟨(Nat.le_of_ble_eq_true rfl), (Nat.le_of_ble_eq_true rfl)⟩) rfl rfl (Nat.le_of_ble_eq_true rfl) dL_law_186 (fun r C1 h => ?_)
  refine g_aload_n X rfl 1 rfl dL_law_189 ?_
  refine g_aload_n X rfl 3 rfl dL_law_190 ?_
  refine g_iload_n X rfl 0 rfl dL_law_191 ?_
  refine g_iconst (v := (1 : Int32)) X (by decide) dL_law_192 ?_
  refine g_iadd X dL_law_193 ?_
  refine g_sld X hX hbl hbA (h5 1 (by decide)) dL_law_194 ?_
  refine g_aload_n X rfl 3 rfl dL_law_195 ?_
  refine g_iload_n X rfl 0 rfl dL_law_196 ?_
  refine g_iconst (v := (2 : Int32)) X (by decide) dL_law_197 ?_
  refine g_iadd X dL_law_198 ?_
  refine g_sld X hX hbl hbA (h5 2 (by decide)) dL_law_199 ?_
  refine g_i2l X dL_law_200 ?_
  refine g_bipush (v := (32 : Int32)) X (by decide) dL_law_201 ?_
  refine g_lshl X dL_law_203 ?_
  refine g_aload_n X rfl 3 rfl dL_law_204 ?_
  refine g_iload_n X rfl 0 rfl dL_law_205 ?_
  refine g_iconst (v := (3 : Int32)) X (by decide) dL_law_206 ?_
  refine g_iadd X dL_law_207 ?_
  refine g_sld X hX hbl hbA (h5 3 (by decide)) dL_law_208 ?_
  refine g_i2l X dL_law_209 ?_
  refine g_ldc2 (v := (4294967295 : Int64)) X (by decide +kernel) dL_law_210 ?_
  refine g_land X dL_law_213 ?_
  refine g_lor X dL_law_214 ?_
  refine law_M (C := C1) (st := [.int r]) X hA hf [.int (xs (nI j + (1 : Int32)).toNatClampNeg), .long ((((xs (nI j + (2 : Int32)).toNatClampNeg)).toInt64 <<< (((32 : Int32)).toInt64 &&& 63)) ||| (((xs (nI j + (3 : Int32)).toNatClampNeg)).toInt64 &&& (4294967295 : Int64)))] (fun A => c_X7_feed l D i q2 A (xs (nI j + (1 : Int32)).toNatClampNeg) ((((xs (nI j + (2 : Int32)).toNatClampNeg)).toInt64 <<< (((32 : Int32)).toInt64 &&& 63)) ||| (((xs (nI j + (3 : Int32)).toNatClampNeg)).toInt64 &&& (4294967295 : Int64))) M _ h) (cwV 2 X.ts gL_law_X7_feed rfl rfl rfl (by decide +kernel) ⟨(Nat.le_of_ble_eq_true rfl), (Nat.le_of_ble_eq_true rfl)⟩) rfl rfl (Nat.le_of_ble_eq_true rfl) dL_law_215 (fun r2 M1 h2 => ?_)
  exact g_icmp_eq (tgt := 994) X dL_law_218 (by decide) (fun _ => next C1 M1 h2.2) (fun c => absurd h2.1 c)
set_option maxRecDepth 100000 in
set_option maxHeartbeats 4000000 in
theorem lc_1 (X : cX D i A p s m #[Value.ref b] meth c cL_law RL 4 wsL_law ret) (hA : ∀ q : Nat, s.heap.size ≤ q → A q) (hf : nc ≤ room_1.cells ∧ ns ≤ room_1.slots) (hX : va_X b L xs s s.heap) (hbl : b < s.heap.size) (hbA : ¬ A b) (h5 : ∀ n : Nat, n ≤ 5 → vp_in (nI j + Int32.ofNat n) L) (hR : Rel C M) (next : ∀ C1 M1, Rel C1 M1 → cG D A p l e room_1 s m #[Value.ref b] below meth c (lw_Z below #[Value.ref b] s) 4 nc ns (wC q i C1 ++ wM q2 i M1) [(3, .int (nI j)), (2, .ref (q2 0)), (1, .ref (q 0)), (0, .ref b)] 994 []) : cG D A p l e room_1 s m #[Value.ref b] below meth c (lw_Z below #[Value.ref b] s) 4 nc ns (wC q i C ++ wM q2 i M) [(3, .int (nI j)), (2, .ref (q2 0)), (1, .ref (q 0)), (0, .ref b)] 223 [] := by
  refine g_aload_n X rfl 2 rfl dL_law_223 ?_
  refine law_C (st := []) X hA hf [] (fun A => c_X6_lake l D i q A C _ (t_lake hR)) (cwV 0 X.ts gL_law_X6_lake rfl rfl rfl (by decide +kernel) ⟨(Nat.le_of_ble_eq_true rfl), (Nat.le_of_ble_eq_true rfl)⟩) rfl rfl (Nat.le_of_ble_eq_true rfl) dL_law_224 (fun r C1 h => ?_)
  refine g_aload_n X rfl 1 rfl dL_law_227 ?_
  refine law_M (C := C1) (st := [.int r]) X hA hf [] (fun A => c_X7_lake l D i q2 A M _ h) (cwV 0 X.ts gL_law_X7_lake rfl rfl rfl (by decide +kernel) ⟨(Nat.le_of_ble_eq_true rfl), (Nat.le_of_ble_eq_true rfl)⟩) rfl rfl (Nat.le_of_ble_eq_true rfl) dL_law_228 (fun r2 M1 h2 => ?_)
  exact g_icmp_eq (tgt := 994) X dL_law_231 (by decide) (fun _ => next C1 M1 h2.2) (fun c => absurd h2.1 c)
set_option maxRecDepth 100000 in
set_option maxHeartbeats 4000000 in
theorem lc_2 (X : cX D i A p s m #[Value.ref b] meth c cL_law RL 4 wsL_law ret) (hA : ∀ q : Nat, s.heap.size ≤ q → A q) (hf : nc ≤ room_1.cells ∧ ns ≤ room_1.slots) (hX : va_X b L xs s s.heap) (hbl : b < s.heap.size) (hbA : ¬ A b) (h5 : ∀ n : Nat, n ≤ 5 → vp_in (nI j + Int32.ofNat n) L) (hR : Rel C M) (next : ∀ C1 M1, Rel C1 M1 → cG D A p l e room_1 s m #[Value.ref b] below meth c (lw_Z below #[Value.ref b] s) 4 nc ns (wC q i C1 ++ wM q2 i M1) [(3, .int (nI j)), (2, .ref (q2 0)), (1, .ref (q 0)), (0, .ref b)] 994 []) : cG D A p l e room_1 s m #[Value.ref b] below meth c (lw_Z below #[Value.ref b] s) 4 nc ns (wC q i C ++ wM q2 i M) [(3, .int (nI j)), (2, .ref (q2 0)), (1, .ref (q 0)), (0, .ref b)] 236 [] := by
  refine g_aload_n X rfl 2 rfl dL_law_236 ?_
  refine law_C (st := []) X hA hf [] (fun A => c_X6_fault l D i q A C _ (t_fault hR)) (cwV 0 X.ts gL_law_X6_fault rfl rfl rfl (by decide +kernel) ⟨(Nat.le_of_ble_eq_true rfl), (Nat.le_of_ble_eq_true rfl)⟩) rfl rfl (Nat.le_of_ble_eq_true rfl) dL_law_237 (fun r C1 h => ?_)
  refine g_aload_n X rfl 1 rfl dL_law_240 ?_
  refine law_M (C := C1) (st := [.int r]) X hA hf [] (fun A => c_X7_fault l D i q2 A M _ h) (cwV 0 X.ts gL_law_X7_fault rfl rfl rfl (by decide +kernel) ⟨(Nat.le_of_ble_eq_true rfl), (Nat.le_of_ble_eq_true rfl)⟩) rfl rfl (Nat.le_of_ble_eq_true rfl) dL_law_241 (fun r2 M1 h2 => ?_)
  exact g_icmp_eq (tgt := 994) X dL_law_244 (by decide) (fun _ => next C1 M1 h2.2) (fun c => absurd h2.1 c)
set_option maxRecDepth 100000 in
set_option maxHeartbeats 4000000 in
theorem lc_3 (X : cX D i A p s m #[Value.ref b] meth c cL_law RL 4 wsL_law ret) (hA : ∀ q : Nat, s.heap.size ≤ q → A q) (hf : nc ≤ room_1.cells ∧ ns ≤ room_1.slots) (hX : va_X b L xs s s.heap) (hbl : b < s.heap.size) (hbA : ¬ A b) (h5 : ∀ n : Nat, n ≤ 5 → vp_in (nI j + Int32.ofNat n) L) (hR : Rel C M) (next : ∀ C1 M1, Rel C1 M1 → cG D A p l e room_1 s m #[Value.ref b] below meth c (lw_Z below #[Value.ref b] s) 4 nc ns (wC q i C1 ++ wM q2 i M1) [(3, .int (nI j)), (2, .ref (q2 0)), (1, .ref (q 0)), (0, .ref b)] 994 []) : cG D A p l e room_1 s m #[Value.ref b] below meth c (lw_Z below #[Value.ref b] s) 4 nc ns (wC q i C ++ wM q2 i M) [(3, .int (nI j)), (2, .ref (q2 0)), (1, .ref (q 0)), (0, .ref b)] 249 [] := by
  refine g_aload_n X rfl 2 rfl dL_law_249 ?_
  refine g_aload_n X rfl 3 rfl dL_law_250 ?_
  refine g_iload_n X rfl 0 rfl dL_law_251 ?_
  refine g_iconst (v := (1 : Int32)) X (by decide) dL_law_252 ?_
  refine g_iadd X dL_law_253 ?_
  refine g_sld X hX hbl hbA (h5 1 (by decide)) dL_law_254 ?_
  refine law_C (st := []) X hA hf [.int (xs (nI j + (1 : Int32)).toNatClampNeg)] (fun A => c_X6_told l D i q A (xs (nI j + (1 : Int32)).toNatClampNeg) C _ (t_told hR (xs (nI j + (1 : Int32)).toNatClampNeg))) (cwV 1 X.ts gL_law_X6_told rfl rfl rfl (by decide +kernel) ⟨(Nat.le_of_ble_eq_true rfl), (Nat.le_of_ble_eq_true rfl)⟩) rfl rfl (Nat.le_of_ble_eq_true rfl) dL_law_255 (fun r C1 h => ?_)
  refine g_aload_n X rfl 1 rfl dL_law_258 ?_
  refine g_aload_n X rfl 3 rfl dL_law_259 ?_
  refine g_iload_n X rfl 0 rfl dL_law_260 ?_
  refine g_iconst (v := (1 : Int32)) X (by decide) dL_law_261 ?_
  refine g_iadd X dL_law_262 ?_
  refine g_sld X hX hbl hbA (h5 1 (by decide)) dL_law_263 ?_
  refine law_M (C := C1) (st := [.int r]) X hA hf [.int (xs (nI j + (1 : Int32)).toNatClampNeg)] (fun A => c_X7_told l D i q2 A (xs (nI j + (1 : Int32)).toNatClampNeg) M _ h) (cwV 1 X.ts gL_law_X7_told rfl rfl rfl (by decide +kernel) ⟨(Nat.le_of_ble_eq_true rfl), (Nat.le_of_ble_eq_true rfl)⟩) rfl rfl (Nat.le_of_ble_eq_true rfl) dL_law_264 (fun r2 M1 h2 => ?_)
  exact g_icmp_eq (tgt := 994) X dL_law_267 (by decide) (fun _ => next C1 M1 h2.2) (fun c => absurd h2.1 c)
set_option maxRecDepth 100000 in
set_option maxHeartbeats 4000000 in
theorem lc_4 (X : cX D i A p s m #[Value.ref b] meth c cL_law RL 4 wsL_law ret) (hA : ∀ q : Nat, s.heap.size ≤ q → A q) (hf : nc ≤ room_1.cells ∧ ns ≤ room_1.slots) (hX : va_X b L xs s s.heap) (hbl : b < s.heap.size) (hbA : ¬ A b) (h5 : ∀ n : Nat, n ≤ 5 → vp_in (nI j + Int32.ofNat n) L) (hR : Rel C M) (next : ∀ C1 M1, Rel C1 M1 → cG D A p l e room_1 s m #[Value.ref b] below meth c (lw_Z below #[Value.ref b] s) 4 nc ns (wC q i C1 ++ wM q2 i M1) [(3, .int (nI j)), (2, .ref (q2 0)), (1, .ref (q 0)), (0, .ref b)] 994 []) : cG D A p l e room_1 s m #[Value.ref b] below meth c (lw_Z below #[Value.ref b] s) 4 nc ns (wC q i C ++ wM q2 i M) [(3, .int (nI j)), (2, .ref (q2 0)), (1, .ref (q 0)), (0, .ref b)] 272 [] := by
  refine g_aload_n X rfl 2 rfl dL_law_272 ?_
  refine g_aload_n X rfl 3 rfl dL_law_273 ?_
  refine g_iload_n X rfl 0 rfl dL_law_274 ?_
  refine g_iconst (v := (1 : Int32)) X (by decide) dL_law_275 ?_
  refine g_iadd X dL_law_276 ?_
  refine g_sld X hX hbl hbA (h5 1 (by decide)) dL_law_277 ?_
  refine g_aload_n X rfl 3 rfl dL_law_278 ?_
  refine g_iload_n X rfl 0 rfl dL_law_279 ?_
  refine g_iconst (v := (2 : Int32)) X (by decide) dL_law_280 ?_
  refine g_iadd X dL_law_281 ?_
  refine g_sld X hX hbl hbA (h5 2 (by decide)) dL_law_282 ?_
  refine g_aload_n X rfl 3 rfl dL_law_283 ?_
  refine g_iload_n X rfl 0 rfl dL_law_284 ?_
  refine g_iconst (v := (3 : Int32)) X (by decide) dL_law_285 ?_
  refine g_iadd X dL_law_286 ?_
  refine g_sld X hX hbl hbA (h5 3 (by decide)) dL_law_287 ?_
  refine law_C (st := []) X hA hf [.int (xs (nI j + (1 : Int32)).toNatClampNeg), .int (xs (nI j + (2 : Int32)).toNatClampNeg), .int (xs (nI j + (3 : Int32)).toNatClampNeg)] (fun A => c_X6_cell l D i q A (xs (nI j + (1 : Int32)).toNatClampNeg) (xs (nI j + (2 : Int32)).toNatClampNeg) (xs (nI j + (3 : Int32)).toNatClampNeg) C _ (t_cell hR (xs (nI j + (1 : Int32)).toNatClampNeg) (xs (nI j + (2 : Int32)).toNatClampNeg) (xs (nI j + (3 : Int32)).toNatClampNeg))) (cwV 3 X.ts gL_law_X6_cell rfl rfl rfl (by decide +kernel) ⟨(Nat.le_of_ble_eq_true rfl), (Nat.le_of_ble_eq_true rfl)⟩) rfl rfl (Nat.le_of_ble_eq_true rfl) dL_law_288 (fun r C1 h => ?_)
  refine g_aload_n X rfl 1 rfl dL_law_291 ?_
  refine g_aload_n X rfl 3 rfl dL_law_292 ?_
  refine g_iload_n X rfl 0 rfl dL_law_293 ?_
  refine g_iconst (v := (1 : Int32)) X (by decide) dL_law_294 ?_
  refine g_iadd X dL_law_295 ?_
  refine g_sld X hX hbl hbA (h5 1 (by decide)) dL_law_296 ?_
  refine g_aload_n X rfl 3 rfl dL_law_297 ?_
  refine g_iload_n X rfl 0 rfl dL_law_298 ?_
  refine g_iconst (v := (2 : Int32)) X (by decide) dL_law_299 ?_
  refine g_iadd X dL_law_300 ?_
  refine g_sld X hX hbl hbA (h5 2 (by decide)) dL_law_301 ?_
  refine g_aload_n X rfl 3 rfl dL_law_302 ?_
  refine g_iload_n X rfl 0 rfl dL_law_303 ?_
  refine g_iconst (v := (3 : Int32)) X (by decide) dL_law_304 ?_
  refine g_iadd X dL_law_305 ?_
  refine g_sld X hX hbl hbA (h5 3 (by decide)) dL_law_306 ?_
  refine law_M (C := C1) (st := [.int r]) X hA hf [.int (xs (nI j + (1 : Int32)).toNatClampNeg), .int (xs (nI j + (2 : Int32)).toNatClampNeg), .int (xs (nI j + (3 : Int32)).toNatClampNeg)] (fun A => c_X7_cell l D i q2 A (xs (nI j + (1 : Int32)).toNatClampNeg) (xs (nI j + (2 : Int32)).toNatClampNeg) (xs (nI j + (3 : Int32)).toNatClampNeg) M _ h) (cwV 3 X.ts gL_law_X7_cell rfl rfl rfl (by decide +kernel) ⟨(Nat.le_of_ble_eq_true rfl), (Nat.le_of_ble_eq_true rfl)⟩) rfl rfl (Nat.le_of_ble_eq_true rfl) dL_law_307 (fun r2 M1 h2 => ?_)
  exact g_icmp_eq (tgt := 994) X dL_law_310 (by decide) (fun _ => next C1 M1 h2.2) (fun c => absurd h2.1 c)
set_option maxRecDepth 100000 in
set_option maxHeartbeats 4000000 in
theorem lc_5 (X : cX D i A p s m #[Value.ref b] meth c cL_law RL 4 wsL_law ret) (hA : ∀ q : Nat, s.heap.size ≤ q → A q) (hf : nc ≤ room_1.cells ∧ ns ≤ room_1.slots) (hX : va_X b L xs s s.heap) (hbl : b < s.heap.size) (hbA : ¬ A b) (h5 : ∀ n : Nat, n ≤ 5 → vp_in (nI j + Int32.ofNat n) L) (hR : Rel C M) (next : ∀ C1 M1, Rel C1 M1 → cG D A p l e room_1 s m #[Value.ref b] below meth c (lw_Z below #[Value.ref b] s) 4 nc ns (wC q i C1 ++ wM q2 i M1) [(3, .int (nI j)), (2, .ref (q2 0)), (1, .ref (q 0)), (0, .ref b)] 994 []) : cG D A p l e room_1 s m #[Value.ref b] below meth c (lw_Z below #[Value.ref b] s) 4 nc ns (wC q i C ++ wM q2 i M) [(3, .int (nI j)), (2, .ref (q2 0)), (1, .ref (q 0)), (0, .ref b)] 315 [] := by
  refine g_aload_n X rfl 2 rfl dL_law_315 ?_
  refine g_aload_n X rfl 3 rfl dL_law_316 ?_
  refine g_iload_n X rfl 0 rfl dL_law_317 ?_
  refine g_iconst (v := (1 : Int32)) X (by decide) dL_law_318 ?_
  refine g_iadd X dL_law_319 ?_
  refine g_sld X hX hbl hbA (h5 1 (by decide)) dL_law_320 ?_
  refine g_aload_n X rfl 3 rfl dL_law_321 ?_
  refine g_iload_n X rfl 0 rfl dL_law_322 ?_
  refine g_iconst (v := (2 : Int32)) X (by decide) dL_law_323 ?_
  refine g_iadd X dL_law_324 ?_
  refine g_sld X hX hbl hbA (h5 2 (by decide)) dL_law_325 ?_
  refine law_C (st := []) X hA hf [.int (xs (nI j + (1 : Int32)).toNatClampNeg), .int (xs (nI j + (2 : Int32)).toNatClampNeg)] (fun A => c_X6_man l D i q A (xs (nI j + (1 : Int32)).toNatClampNeg) (xs (nI j + (2 : Int32)).toNatClampNeg) C _ (t_man hR (xs (nI j + (1 : Int32)).toNatClampNeg) (xs (nI j + (2 : Int32)).toNatClampNeg))) (cwV 2 X.ts gL_law_X6_man rfl rfl rfl (by decide +kernel) ⟨(Nat.le_of_ble_eq_true rfl), (Nat.le_of_ble_eq_true rfl)⟩) rfl rfl (Nat.le_of_ble_eq_true rfl) dL_law_326 (fun r C1 h => ?_)
  refine g_aload_n X rfl 1 rfl dL_law_329 ?_
  refine g_aload_n X rfl 3 rfl dL_law_330 ?_
  refine g_iload_n X rfl 0 rfl dL_law_331 ?_
  refine g_iconst (v := (1 : Int32)) X (by decide) dL_law_332 ?_
  refine g_iadd X dL_law_333 ?_
  refine g_sld X hX hbl hbA (h5 1 (by decide)) dL_law_334 ?_
  refine g_aload_n X rfl 3 rfl dL_law_335 ?_
  refine g_iload_n X rfl 0 rfl dL_law_336 ?_
  refine g_iconst (v := (2 : Int32)) X (by decide) dL_law_337 ?_
  refine g_iadd X dL_law_338 ?_
  refine g_sld X hX hbl hbA (h5 2 (by decide)) dL_law_339 ?_
  refine law_M (C := C1) (st := [.int r]) X hA hf [.int (xs (nI j + (1 : Int32)).toNatClampNeg), .int (xs (nI j + (2 : Int32)).toNatClampNeg)] (fun A => c_X7_man l D i q2 A (xs (nI j + (1 : Int32)).toNatClampNeg) (xs (nI j + (2 : Int32)).toNatClampNeg) M _ h) (cwV 2 X.ts gL_law_X7_man rfl rfl rfl (by decide +kernel) ⟨(Nat.le_of_ble_eq_true rfl), (Nat.le_of_ble_eq_true rfl)⟩) rfl rfl (Nat.le_of_ble_eq_true rfl) dL_law_340 (fun r2 M1 h2 => ?_)
  exact g_icmp_eq (tgt := 994) X dL_law_343 (by decide) (fun _ => next C1 M1 h2.2) (fun c => absurd h2.1 c)
set_option maxRecDepth 100000 in
set_option maxHeartbeats 4000000 in
theorem lc_6 (X : cX D i A p s m #[Value.ref b] meth c cL_law RL 4 wsL_law ret) (hA : ∀ q : Nat, s.heap.size ≤ q → A q) (hf : nc ≤ room_1.cells ∧ ns ≤ room_1.slots) (hX : va_X b L xs s s.heap) (hbl : b < s.heap.size) (hbA : ¬ A b) (h5 : ∀ n : Nat, n ≤ 5 → vp_in (nI j + Int32.ofNat n) L) (hR : Rel C M) (next : ∀ C1 M1, Rel C1 M1 → cG D A p l e room_1 s m #[Value.ref b] below meth c (lw_Z below #[Value.ref b] s) 4 nc ns (wC q i C1 ++ wM q2 i M1) [(3, .int (nI j)), (2, .ref (q2 0)), (1, .ref (q 0)), (0, .ref b)] 994 []) : cG D A p l e room_1 s m #[Value.ref b] below meth c (lw_Z below #[Value.ref b] s) 4 nc ns (wC q i C ++ wM q2 i M) [(3, .int (nI j)), (2, .ref (q2 0)), (1, .ref (q 0)), (0, .ref b)] 348 [] := by
  refine g_aload_n X rfl 2 rfl dL_law_348 ?_
  refine g_aload_n X rfl 3 rfl dL_law_349 ?_
  refine g_iload_n X rfl 0 rfl dL_law_350 ?_
  refine g_iconst (v := (1 : Int32)) X (by decide) dL_law_351 ?_
  refine g_iadd X dL_law_352 ?_
  refine g_sld X hX hbl hbA (h5 1 (by decide)) dL_law_353 ?_
  refine g_aload_n X rfl 3 rfl dL_law_354 ?_
  refine g_iload_n X rfl 0 rfl dL_law_355 ?_
  refine g_iconst (v := (2 : Int32)) X (by decide) dL_law_356 ?_
  refine g_iadd X dL_law_357 ?_
  refine g_sld X hX hbl hbA (h5 2 (by decide)) dL_law_358 ?_
  refine g_aload_n X rfl 3 rfl dL_law_359 ?_
  refine g_iload_n X rfl 0 rfl dL_law_360 ?_
  refine g_iconst (v := (3 : Int32)) X (by decide) dL_law_361 ?_
  refine g_iadd X dL_law_362 ?_
  refine g_sld X hX hbl hbA (h5 3 (by decide)) dL_law_363 ?_
  refine law_C (st := []) X hA hf [.int (xs (nI j + (1 : Int32)).toNatClampNeg), .int (xs (nI j + (2 : Int32)).toNatClampNeg), .int (xs (nI j + (3 : Int32)).toNatClampNeg)] (fun A => c_X6_sees l D i q A (xs (nI j + (1 : Int32)).toNatClampNeg) (xs (nI j + (2 : Int32)).toNatClampNeg) (xs (nI j + (3 : Int32)).toNatClampNeg) C _ (t_sees hR (xs (nI j + (1 : Int32)).toNatClampNeg) (xs (nI j + (2 : Int32)).toNatClampNeg) (xs (nI j + (3 : Int32)).toNatClampNeg))) (cwV 3 X.ts gL_law_X6_sees rfl rfl rfl (by decide +kernel) ⟨(Nat.le_of_ble_eq_true rfl), (Nat.le_of_ble_eq_true rfl)⟩) rfl rfl (Nat.le_of_ble_eq_true rfl) dL_law_364 (fun r C1 h => ?_)
  refine g_aload_n X rfl 1 rfl dL_law_367 ?_
  refine g_aload_n X rfl 3 rfl dL_law_368 ?_
  refine g_iload_n X rfl 0 rfl dL_law_369 ?_
  refine g_iconst (v := (1 : Int32)) X (by decide) dL_law_370 ?_
  refine g_iadd X dL_law_371 ?_
  refine g_sld X hX hbl hbA (h5 1 (by decide)) dL_law_372 ?_
  refine g_aload_n X rfl 3 rfl dL_law_373 ?_
  refine g_iload_n X rfl 0 rfl dL_law_374 ?_
  refine g_iconst (v := (2 : Int32)) X (by decide) dL_law_375 ?_
  refine g_iadd X dL_law_376 ?_
  refine g_sld X hX hbl hbA (h5 2 (by decide)) dL_law_377 ?_
  refine g_aload_n X rfl 3 rfl dL_law_378 ?_
  refine g_iload_n X rfl 0 rfl dL_law_379 ?_
  refine g_iconst (v := (3 : Int32)) X (by decide) dL_law_380 ?_
  refine g_iadd X dL_law_381 ?_
  refine g_sld X hX hbl hbA (h5 3 (by decide)) dL_law_382 ?_
  refine law_M (C := C1) (st := [.int r]) X hA hf [.int (xs (nI j + (1 : Int32)).toNatClampNeg), .int (xs (nI j + (2 : Int32)).toNatClampNeg), .int (xs (nI j + (3 : Int32)).toNatClampNeg)] (fun A => c_X7_sees l D i q2 A (xs (nI j + (1 : Int32)).toNatClampNeg) (xs (nI j + (2 : Int32)).toNatClampNeg) (xs (nI j + (3 : Int32)).toNatClampNeg) M _ h) (cwV 3 X.ts gL_law_X7_sees rfl rfl rfl (by decide +kernel) ⟨(Nat.le_of_ble_eq_true rfl), (Nat.le_of_ble_eq_true rfl)⟩) rfl rfl (Nat.le_of_ble_eq_true rfl) dL_law_383 (fun r2 M1 h2 => ?_)
  exact g_icmp_eq (tgt := 994) X dL_law_386 (by decide) (fun _ => next C1 M1 h2.2) (fun c => absurd h2.1 c)
end LL
