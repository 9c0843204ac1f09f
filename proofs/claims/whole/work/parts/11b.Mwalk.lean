set_option maxRecDepth 100000 in
theorem i_X7_takeClause_X7 : ∀ w ∈ u_ws RX7 TX7 48, w ∈ wsX7_takeClause := by decide +kernel
abbrev rm_X7_takeClause : Room := { frames := 5, cells := 0, slots := 0, locals := 119 }
set_option maxRecDepth 100000 in
set_option maxHeartbeats 4000000 in
theorem w_X7_takeClause_313 {D : va_G} {i : Nat → ClassId} {q : Nat → Nat} {A : Nat → Prop} {p : Program} {l : Launch} {e : Env} {s : State} {m : MethodId} {args : Array Value} {below : List Frame} {meth : Method} {c : Code} (X : cX D i A p s m args meth c cX7_takeClause RX7 5 wsX7_takeClause (some .int)) {Q : Int32 → vS → Prop} : ∀ (a2 : Int32) (t0 : Int32) (S : vS), e_X7_takeClause_313 Q a2 t0 S → cJ D A p l e (headSpec wsX7_takeClause rm_X7_takeClause).room s m args below meth c (MQ below (va_Qi Q (vB D i A (wM q i)) A) args s 0 0 A) 5 (wM q i S) [(0, .ref (q 0)), (2, .int a2)] 313 [.int t0] := by
  intro a2 t0 S h
  unfold e_X7_takeClause_313 at h
  refine j_istore_n (lv' := [(3, .int t0), (0, .ref (q 0)), (2, .int a2)]) X rfl (by decide) rfl dX7_takeClause_313 ?_
  refine j_iload_n X rfl 0 rfl dX7_takeClause_314 ?_
  refine j_if_eq (tgt := 328) X dX7_takeClause_315 (by decide) (fun c46 => ?_) (fun c46 => ?_)
  · have h := h.1 c46
    refine j_aload_n X rfl 1 rfl dX7_takeClause_328 ?_
    refine j_aload_n X rfl 1 rfl dX7_takeClause_329 ?_
    refine jgM_mod_wordEnd X i_X7_takeClause_X7 (by decide +kernel) dX7_takeClause_330 ?_
    refine jpM_mod_at0 X i_X7_takeClause_X7 (by decide +kernel) dX7_takeClause_333 (fun S47 eS47 => ?_)
    have h := h S47 eS47
    refine j_aload_n X rfl 1 rfl dX7_takeClause_336 ?_
    refine j_iload_n X rfl 2 rfl dX7_takeClause_337 ?_
    refine j_Vi (st := []) X [.int a2] 0 (c_X7_takeKind l D i q A a2 S47 _ h) (cwV 1 X.ts gX7_takeClause_X7_takeKind rfl rfl rfl (by decide +kernel) ⟨Nat.le_of_ble_eq_true rfl, Nat.le_of_ble_eq_true rfl⟩) rfl rfl rfl rfl (Nat.le_of_ble_eq_true rfl) dX7_takeClause_338 (fun r49 S48 h => ?_)
    refine j_istore (lv' := [(4, .int r49), (3, .int t0), (0, .ref (q 0)), (2, .int a2)]) X (by decide) rfl dX7_takeClause_341 ?_
    refine j_iload X 0 rfl dX7_takeClause_343 ?_
    refine j_if_ne (tgt := 367) X dX7_takeClause_345 (by decide) (fun c50 => ?_) (fun c50 => ?_)
    · have h := h.1 c50
      refine j_aload_n X rfl 2 rfl dX7_takeClause_367 ?_
      refine j_dup X rfl dX7_takeClause_368 ?_
      refine jgM_mod_at0 X i_X7_takeClause_X7 (by decide +kernel) dX7_takeClause_369 ?_
      refine j_iconst (v := (1 : Int32)) X (by decide) dX7_takeClause_372 ?_
      refine j_iadd X dX7_takeClause_373 ?_
      refine jpM_mod_at0 X i_X7_takeClause_X7 (by decide +kernel) dX7_takeClause_374 (fun S51 eS51 => ?_)
      have h := h S51 eS51
      refine j_iload X 0 rfl dX7_takeClause_377 ?_
      exact j_iret X h dX7_takeClause_379
    · have h := h.2 c50
      refine j_aload_n X rfl 2 rfl dX7_takeClause_348 ?_
      refine j_Vi (st := []) X [] 0 (c_X7_here l D i q A S48 _ h) (cwV 0 X.ts gX7_takeClause_X7_here rfl rfl rfl (by decide +kernel) ⟨Nat.le_of_ble_eq_true rfl, Nat.le_of_ble_eq_true rfl⟩) rfl rfl rfl rfl (Nat.le_of_ble_eq_true rfl) dX7_takeClause_349 (fun r53 S52 h => ?_)
      refine j_bipush (v := (59 : Int32)) X (by decide) dX7_takeClause_352 ?_
      refine j_icmp_eq (tgt := 367) X dX7_takeClause_354 (by decide) (fun c54 => ?_) (fun c54 => ?_)
      · have h := h.1 c54
        refine j_aload_n X rfl 2 rfl dX7_takeClause_367 ?_
        refine j_dup X rfl dX7_takeClause_368 ?_
        refine jgM_mod_at0 X i_X7_takeClause_X7 (by decide +kernel) dX7_takeClause_369 ?_
        refine j_iconst (v := (1 : Int32)) X (by decide) dX7_takeClause_372 ?_
        refine j_iadd X dX7_takeClause_373 ?_
        refine jpM_mod_at0 X i_X7_takeClause_X7 (by decide +kernel) dX7_takeClause_374 (fun S55 eS55 => ?_)
        have h := h S55 eS55
        refine j_iload X 0 rfl dX7_takeClause_377 ?_
        exact j_iret X h dX7_takeClause_379
      · have h := h.2 c54
        refine j_aload_n X rfl 2 rfl dX7_takeClause_357 ?_
        refine j_iconst (v := (1 : Int32)) X (by decide) dX7_takeClause_358 ?_
        refine j_aload_n X rfl 2 rfl dX7_takeClause_359 ?_
        refine jgM_mod_at0 X i_X7_takeClause_X7 (by decide +kernel) dX7_takeClause_360 ?_
        refine j_Vi (st := []) X [.int (1 : Int32), .int (S52.1 11)] 0 (c_X7_fails l D i q A (1 : Int32) (S52.1 11) S52 _ h) (cwV 2 X.ts gX7_takeClause_X7_fails rfl rfl rfl (by decide +kernel) ⟨Nat.le_of_ble_eq_true rfl, Nat.le_of_ble_eq_true rfl⟩) rfl rfl rfl rfl (Nat.le_of_ble_eq_true rfl) dX7_takeClause_363 (fun r57 S56 h => ?_)
        exact j_iret X h dX7_takeClause_366
  · have h := h.2 c46
    refine j_aload_n X rfl 1 rfl dX7_takeClause_318 ?_
    refine j_iconst (v := (3 : Int32)) X (by decide) dX7_takeClause_319 ?_
    refine j_aload_n X rfl 1 rfl dX7_takeClause_320 ?_
    refine jgM_mod_at0 X i_X7_takeClause_X7 (by decide +kernel) dX7_takeClause_321 ?_
    refine j_Vi (st := []) X [.int (3 : Int32), .int (S.1 11)] 0 (c_X7_fails l D i q A (3 : Int32) (S.1 11) S _ h) (cwV 2 X.ts gX7_takeClause_X7_fails rfl rfl rfl (by decide +kernel) ⟨Nat.le_of_ble_eq_true rfl, Nat.le_of_ble_eq_true rfl⟩) rfl rfl rfl rfl (Nat.le_of_ble_eq_true rfl) dX7_takeClause_324 (fun r59 S58 h => ?_)
    exact j_iret X h dX7_takeClause_327
set_option maxRecDepth 100000 in
set_option maxHeartbeats 4000000 in
theorem w_X7_takeClause_194 {D : va_G} {i : Nat → ClassId} {q : Nat → Nat} {A : Nat → Prop} {p : Program} {l : Launch} {e : Env} {s : State} {m : MethodId} {args : Array Value} {below : List Frame} {meth : Method} {c : Code} (X : cX D i A p s m args meth c cX7_takeClause RX7 5 wsX7_takeClause (some .int)) {Q : Int32 → vS → Prop} : ∀ (a2 : Int32) (S : vS), e_X7_takeClause_194 Q a2 S → cJ D A p l e (headSpec wsX7_takeClause rm_X7_takeClause).room s m args below meth c (MQ below (va_Qi Q (vB D i A (wM q i)) A) args s 0 0 A) 5 (wM q i S) [(0, .ref (q 0)), (2, .int a2)] 194 [] := by
  intro a2 S h
  unfold e_X7_takeClause_194 at h
  refine j_iload_n X rfl 1 rfl dX7_takeClause_194 ?_
  refine j_if_ne (tgt := 213) X dX7_takeClause_195 (by decide) (fun c35 => ?_) (fun c35 => ?_)
  · have h := h.1 c35
    refine j_iload_n X rfl 1 rfl dX7_takeClause_213 ?_
    refine j_iconst (v := (1 : Int32)) X (by decide) dX7_takeClause_214 ?_
    refine j_icmp_ne (tgt := 235) X dX7_takeClause_215 (by decide) (fun c36 => ?_) (fun c36 => ?_)
    · have h := h.1 c36
      refine j_iload_n X rfl 1 rfl dX7_takeClause_235 ?_
      refine j_iconst (v := (2 : Int32)) X (by decide) dX7_takeClause_236 ?_
      refine j_icmp_ne (tgt := 257) X dX7_takeClause_237 (by decide) (fun c37 => ?_) (fun c37 => ?_)
      · have h := h.1 c37
        refine j_iload_n X rfl 1 rfl dX7_takeClause_257 ?_
        refine j_iconst (v := (3 : Int32)) X (by decide) dX7_takeClause_258 ?_
        refine j_icmp_ne (tgt := 279) X dX7_takeClause_259 (by decide) (fun c38 => ?_) (fun c38 => ?_)
        · have h := h.1 c38
          refine j_iload_n X rfl 1 rfl dX7_takeClause_279 ?_
          refine j_iconst (v := (4 : Int32)) X (by decide) dX7_takeClause_280 ?_
          refine j_icmp_ne (tgt := 301) X dX7_takeClause_281 (by decide) (fun c39 => ?_) (fun c39 => ?_)
          · have h := h.1 c39
            refine j_aload_n X rfl 0 rfl dX7_takeClause_301 ?_
            refine jgM_mod_readHigh X i_X7_takeClause_X7 (by decide +kernel) dX7_takeClause_302 ?_
            refine j_if_le (tgt := 312) X dX7_takeClause_305 (by decide) (fun c40 => ?_) (fun c40 => ?_)
            · have h := h.1 c40
              refine j_iconst (v := (0 : Int32)) X (by decide) dX7_takeClause_312 ?_
              exact w_X7_takeClause_313 X a2 (0 : Int32) S h
            · have h := h.2 c40
              refine j_iconst (v := (1 : Int32)) X (by decide) dX7_takeClause_308 ?_
              refine j_goto (tgt := 313) X dX7_takeClause_309 (by decide) ?_
              exact w_X7_takeClause_313 X a2 (1 : Int32) S h
          · have h := h.2 c39
            refine j_aload_n X rfl 0 rfl dX7_takeClause_284 ?_
            refine jgM_mod_readMists X i_X7_takeClause_X7 (by decide +kernel) dX7_takeClause_285 ?_
            refine j_bipush (v := (10 : Int32)) X (by decide) dX7_takeClause_288 ?_
            refine j_icmp_ne (tgt := 297) X dX7_takeClause_290 (by decide) (fun c41 => ?_) (fun c41 => ?_)
            · have h := h.1 c41
              refine j_iconst (v := (0 : Int32)) X (by decide) dX7_takeClause_297 ?_
              refine j_goto (tgt := 313) X dX7_takeClause_298 (by decide) ?_
              exact w_X7_takeClause_313 X a2 (0 : Int32) S h
            · have h := h.2 c41
              refine j_iconst (v := (1 : Int32)) X (by decide) dX7_takeClause_293 ?_
              refine j_goto (tgt := 313) X dX7_takeClause_294 (by decide) ?_
              exact w_X7_takeClause_313 X a2 (1 : Int32) S h
        · have h := h.2 c38
          refine j_aload_n X rfl 0 rfl dX7_takeClause_262 ?_
          refine jgM_mod_readFishes X i_X7_takeClause_X7 (by decide +kernel) dX7_takeClause_263 ?_
          refine j_bipush (v := (30 : Int32)) X (by decide) dX7_takeClause_266 ?_
          refine j_icmp_ne (tgt := 275) X dX7_takeClause_268 (by decide) (fun c42 => ?_) (fun c42 => ?_)
          · have h := h.1 c42
            refine j_iconst (v := (0 : Int32)) X (by decide) dX7_takeClause_275 ?_
            refine j_goto (tgt := 313) X dX7_takeClause_276 (by decide) ?_
            exact w_X7_takeClause_313 X a2 (0 : Int32) S h
          · have h := h.2 c42
            refine j_iconst (v := (1 : Int32)) X (by decide) dX7_takeClause_271 ?_
            refine j_goto (tgt := 313) X dX7_takeClause_272 (by decide) ?_
            exact w_X7_takeClause_313 X a2 (1 : Int32) S h
      · have h := h.2 c37
        refine j_aload_n X rfl 0 rfl dX7_takeClause_240 ?_
        refine jgM_mod_readStands X i_X7_takeClause_X7 (by decide +kernel) dX7_takeClause_241 ?_
        refine j_bipush (v := (30 : Int32)) X (by decide) dX7_takeClause_244 ?_
        refine j_icmp_ne (tgt := 253) X dX7_takeClause_246 (by decide) (fun c43 => ?_) (fun c43 => ?_)
        · have h := h.1 c43
          refine j_iconst (v := (0 : Int32)) X (by decide) dX7_takeClause_253 ?_
          refine j_goto (tgt := 313) X dX7_takeClause_254 (by decide) ?_
          exact w_X7_takeClause_313 X a2 (0 : Int32) S h
        · have h := h.2 c43
          refine j_iconst (v := (1 : Int32)) X (by decide) dX7_takeClause_249 ?_
          refine j_goto (tgt := 313) X dX7_takeClause_250 (by decide) ?_
          exact w_X7_takeClause_313 X a2 (1 : Int32) S h
    · have h := h.2 c36
      refine j_aload_n X rfl 0 rfl dX7_takeClause_218 ?_
      refine jgM_mod_readMen X i_X7_takeClause_X7 (by decide +kernel) dX7_takeClause_219 ?_
      refine j_bipush (v := (6 : Int32)) X (by decide) dX7_takeClause_222 ?_
      refine j_icmp_ne (tgt := 231) X dX7_takeClause_224 (by decide) (fun c44 => ?_) (fun c44 => ?_)
      · have h := h.1 c44
        refine j_iconst (v := (0 : Int32)) X (by decide) dX7_takeClause_231 ?_
        refine j_goto (tgt := 313) X dX7_takeClause_232 (by decide) ?_
        exact w_X7_takeClause_313 X a2 (0 : Int32) S h
      · have h := h.2 c44
        refine j_iconst (v := (1 : Int32)) X (by decide) dX7_takeClause_227 ?_
        refine j_goto (tgt := 313) X dX7_takeClause_228 (by decide) ?_
        exact w_X7_takeClause_313 X a2 (1 : Int32) S h
  · have h := h.2 c35
    refine j_aload_n X rfl 0 rfl dX7_takeClause_198 ?_
    refine jgM_mod_readWide X i_X7_takeClause_X7 (by decide +kernel) dX7_takeClause_199 ?_
    refine j_if_le (tgt := 209) X dX7_takeClause_202 (by decide) (fun c45 => ?_) (fun c45 => ?_)
    · have h := h.1 c45
      refine j_iconst (v := (0 : Int32)) X (by decide) dX7_takeClause_209 ?_
      refine j_goto (tgt := 313) X dX7_takeClause_210 (by decide) ?_
      exact w_X7_takeClause_313 X a2 (0 : Int32) S h
    · have h := h.2 c45
      refine j_iconst (v := (1 : Int32)) X (by decide) dX7_takeClause_205 ?_
      refine j_goto (tgt := 313) X dX7_takeClause_206 (by decide) ?_
      exact w_X7_takeClause_313 X a2 (1 : Int32) S h
set_option maxRecDepth 100000 in
set_option maxHeartbeats 4000000 in
theorem w_X7_takeClause_168 {D : va_G} {i : Nat → ClassId} {q : Nat → Nat} {A : Nat → Prop} {p : Program} {l : Launch} {e : Env} {s : State} {m : MethodId} {args : Array Value} {below : List Frame} {meth : Method} {c : Code} (X : cX D i A p s m args meth c cX7_takeClause RX7 5 wsX7_takeClause (some .int)) {Q : Int32 → vS → Prop} : ∀ (t0 : Int32) (S : vS), e_X7_takeClause_168 Q t0 S → cJ D A p l e (headSpec wsX7_takeClause rm_X7_takeClause).room s m args below meth c (MQ below (va_Qi Q (vB D i A (wM q i)) A) args s 0 0 A) 5 (wM q i S) [(0, .ref (q 0))] 168 [.int t0] := by
  intro t0 S h
  unfold e_X7_takeClause_168 at h
  refine j_istore_n (lv' := [(2, .int t0), (0, .ref (q 0))]) X rfl (by decide) rfl dX7_takeClause_168 ?_
  refine j_iload_n X rfl 0 rfl dX7_takeClause_169 ?_
  refine j_if_lt (tgt := 184) X dX7_takeClause_170 (by decide) (fun c28 => ?_) (fun c28 => ?_)
  · have h := h.1 c28
    refine j_aload_n X rfl 1 rfl dX7_takeClause_184 ?_
    refine j_iconst (v := (1 : Int32)) X (by decide) dX7_takeClause_185 ?_
    refine j_aload_n X rfl 1 rfl dX7_takeClause_186 ?_
    refine jgM_mod_at0 X i_X7_takeClause_X7 (by decide +kernel) dX7_takeClause_187 ?_
    refine j_Vi (st := []) X [.int (1 : Int32), .int (S.1 11)] 0 (c_X7_fails l D i q A (1 : Int32) (S.1 11) S _ h) (cwV 2 X.ts gX7_takeClause_X7_fails rfl rfl rfl (by decide +kernel) ⟨Nat.le_of_ble_eq_true rfl, Nat.le_of_ble_eq_true rfl⟩) rfl rfl rfl rfl (Nat.le_of_ble_eq_true rfl) dX7_takeClause_190 (fun r30 S29 h => ?_)
    exact j_iret X h dX7_takeClause_193
  · have h := h.2 c28
    refine j_iload_n X rfl 0 rfl dX7_takeClause_173 ?_
    refine j_if_le (tgt := 194) X dX7_takeClause_174 (by decide) (fun c31 => ?_) (fun c31 => ?_)
    · have h := h.1 c31
      refine j_loc [1, 0] rfl ?_
      exact w_X7_takeClause_194 X t0 S h
    · have h := h.2 c31
      refine j_aload_n X rfl 1 rfl dX7_takeClause_177 ?_
      refine jgM_mod_readWide X i_X7_takeClause_X7 (by decide +kernel) dX7_takeClause_178 ?_
      refine j_if_ne (tgt := 194) X dX7_takeClause_181 (by decide) (fun c32 => ?_) (fun c32 => ?_)
      · have h := h.1 c32
        refine j_loc [1, 0] rfl ?_
        exact w_X7_takeClause_194 X t0 S h
      · have h := h.2 c32
        refine j_aload_n X rfl 1 rfl dX7_takeClause_184 ?_
        refine j_iconst (v := (1 : Int32)) X (by decide) dX7_takeClause_185 ?_
        refine j_aload_n X rfl 1 rfl dX7_takeClause_186 ?_
        refine jgM_mod_at0 X i_X7_takeClause_X7 (by decide +kernel) dX7_takeClause_187 ?_
        refine j_Vi (st := []) X [.int (1 : Int32), .int (S.1 11)] 0 (c_X7_fails l D i q A (1 : Int32) (S.1 11) S _ h) (cwV 2 X.ts gX7_takeClause_X7_fails rfl rfl rfl (by decide +kernel) ⟨Nat.le_of_ble_eq_true rfl, Nat.le_of_ble_eq_true rfl⟩) rfl rfl rfl rfl (Nat.le_of_ble_eq_true rfl) dX7_takeClause_190 (fun r34 S33 h => ?_)
        exact j_iret X h dX7_takeClause_193
set_option maxRecDepth 100000 in
set_option maxHeartbeats 4000000 in
theorem w_X7_takeClause_79 {D : va_G} {i : Nat → ClassId} {q : Nat → Nat} {A : Nat → Prop} {p : Program} {l : Launch} {e : Env} {s : State} {m : MethodId} {args : Array Value} {below : List Frame} {meth : Method} {c : Code} (X : cX D i A p s m args meth c cX7_takeClause RX7 5 wsX7_takeClause (some .int)) {Q : Int32 → vS → Prop} : ∀ (t0 : Int32) (S : vS), e_X7_takeClause_79 Q t0 S → cJ D A p l e (headSpec wsX7_takeClause rm_X7_takeClause).room s m args below meth c (MQ below (va_Qi Q (vB D i A (wM q i)) A) args s 0 0 A) 5 (wM q i S) [(0, .ref (q 0))] 79 [.int t0] := by
  intro t0 S h
  unfold e_X7_takeClause_79 at h
  refine j_istore_n (lv' := [(1, .int t0), (0, .ref (q 0))]) X rfl (by decide) rfl dX7_takeClause_79 ?_
  refine j_iload_n X rfl 0 rfl dX7_takeClause_80 ?_
  refine j_if_lt (tgt := 88) X dX7_takeClause_81 (by decide) (fun c14 => ?_) (fun c14 => ?_)
  · have h := h.1 c14
    refine j_aload_n X rfl 1 rfl dX7_takeClause_88 ?_
    refine jgM_mod_said X i_X7_takeClause_X7 (by decide +kernel) dX7_takeClause_89 ?_
    refine j_bipush (v := (102 : Int32)) X (by decide) dX7_takeClause_92 ?_
    refine j_bipush (v := (105 : Int32)) X (by decide) dX7_takeClause_94 ?_
    refine j_bipush (v := (115 : Int32)) X (by decide) dX7_takeClause_96 ?_
    refine j_bipush (v := (104 : Int32)) X (by decide) dX7_takeClause_98 ?_
    refine j_Sl (st := [.long (S.2.2 0)]) X [.int (102 : Int32), .int (105 : Int32), .int (115 : Int32), .int (104 : Int32)] (c_X7_code l D i q A (102 : Int32) (105 : Int32) (115 : Int32) (104 : Int32) S _ h) (va_cwS 4 X.ts gX7_takeClause_X7_code rfl rfl rfl (by decide +kernel) ⟨Nat.le_of_ble_eq_true rfl, Nat.le_of_ble_eq_true rfl⟩) rfl rfl (Nat.le_of_ble_eq_true rfl) dX7_takeClause_100 (fun r16 S15 h => ?_)
    refine j_lcmp X dX7_takeClause_103 ?_
    refine j_if_ne (tgt := 111) X dX7_takeClause_104 (by decide) (fun c17 => ?_) (fun c17 => ?_)
    · have h := h.1 c17
      refine j_aload_n X rfl 1 rfl dX7_takeClause_111 ?_
      refine jgM_mod_said X i_X7_takeClause_X7 (by decide +kernel) dX7_takeClause_112 ?_
      refine j_bipush (v := (109 : Int32)) X (by decide) dX7_takeClause_115 ?_
      refine j_bipush (v := (105 : Int32)) X (by decide) dX7_takeClause_117 ?_
      refine j_bipush (v := (115 : Int32)) X (by decide) dX7_takeClause_119 ?_
      refine j_bipush (v := (116 : Int32)) X (by decide) dX7_takeClause_121 ?_
      refine j_Sl (st := [.long (S15.2.2 0)]) X [.int (109 : Int32), .int (105 : Int32), .int (115 : Int32), .int (116 : Int32)] (c_X7_code l D i q A (109 : Int32) (105 : Int32) (115 : Int32) (116 : Int32) S15 _ h) (va_cwS 4 X.ts gX7_takeClause_X7_code rfl rfl rfl (by decide +kernel) ⟨Nat.le_of_ble_eq_true rfl, Nat.le_of_ble_eq_true rfl⟩) rfl rfl (Nat.le_of_ble_eq_true rfl) dX7_takeClause_123 (fun r19 S18 h => ?_)
      refine j_lcmp X dX7_takeClause_126 ?_
      refine j_if_ne (tgt := 134) X dX7_takeClause_127 (by decide) (fun c20 => ?_) (fun c20 => ?_)
      · have h := h.1 c20
        refine j_aload_n X rfl 1 rfl dX7_takeClause_134 ?_
        refine jgM_mod_said X i_X7_takeClause_X7 (by decide +kernel) dX7_takeClause_135 ?_
        refine j_bipush (v := (115 : Int32)) X (by decide) dX7_takeClause_138 ?_
        refine j_bipush (v := (116 : Int32)) X (by decide) dX7_takeClause_140 ?_
        refine j_bipush (v := (111 : Int32)) X (by decide) dX7_takeClause_142 ?_
        refine j_bipush (v := (114 : Int32)) X (by decide) dX7_takeClause_144 ?_
        refine j_Sl (st := [.long (S18.2.2 0)]) X [.int (115 : Int32), .int (116 : Int32), .int (111 : Int32), .int (114 : Int32)] (c_X7_code l D i q A (115 : Int32) (116 : Int32) (111 : Int32) (114 : Int32) S18 _ h) (va_cwS 4 X.ts gX7_takeClause_X7_code rfl rfl rfl (by decide +kernel) ⟨Nat.le_of_ble_eq_true rfl, Nat.le_of_ble_eq_true rfl⟩) rfl rfl (Nat.le_of_ble_eq_true rfl) dX7_takeClause_146 (fun r22 S21 h => ?_)
        refine j_bipush (v := (101 : Int32)) X (by decide) dX7_takeClause_149 ?_
        refine j_Sl (st := [.long (S18.2.2 0)]) X [.long r22, .int (101 : Int32)] (c_X7_longer l D i q A r22 (101 : Int32) S21 _ h) (va_cwS 2 X.ts gX7_takeClause_X7_longer rfl rfl rfl (by decide +kernel) ⟨Nat.le_of_ble_eq_true rfl, Nat.le_of_ble_eq_true rfl⟩) rfl rfl (Nat.le_of_ble_eq_true rfl) dX7_takeClause_151 (fun r24 S23 h => ?_)
        refine j_bipush (v := (121 : Int32)) X (by decide) dX7_takeClause_154 ?_
        refine j_Sl (st := [.long (S18.2.2 0)]) X [.long r24, .int (121 : Int32)] (c_X7_longer l D i q A r24 (121 : Int32) S23 _ h) (va_cwS 2 X.ts gX7_takeClause_X7_longer rfl rfl rfl (by decide +kernel) ⟨Nat.le_of_ble_eq_true rfl, Nat.le_of_ble_eq_true rfl⟩) rfl rfl (Nat.le_of_ble_eq_true rfl) dX7_takeClause_156 (fun r26 S25 h => ?_)
        refine j_lcmp X dX7_takeClause_159 ?_
        refine j_if_ne (tgt := 167) X dX7_takeClause_160 (by decide) (fun c27 => ?_) (fun c27 => ?_)
        · have h := h.1 c27
          refine j_iconst (v := (-1 : Int32)) X (by decide) dX7_takeClause_167 ?_
          refine j_loc [1] rfl ?_
          exact w_X7_takeClause_168 X (-1 : Int32) S25 h
        · have h := h.2 c27
          refine j_iconst (v := (5 : Int32)) X (by decide) dX7_takeClause_163 ?_
          refine j_goto (tgt := 168) X dX7_takeClause_164 (by decide) ?_
          refine j_loc [1] rfl ?_
          exact w_X7_takeClause_168 X (5 : Int32) S25 h
      · have h := h.2 c20
        refine j_iconst (v := (4 : Int32)) X (by decide) dX7_takeClause_130 ?_
        refine j_goto (tgt := 168) X dX7_takeClause_131 (by decide) ?_
        refine j_loc [1] rfl ?_
        exact w_X7_takeClause_168 X (4 : Int32) S18 h
    · have h := h.2 c17
      refine j_iconst (v := (3 : Int32)) X (by decide) dX7_takeClause_107 ?_
      refine j_goto (tgt := 168) X dX7_takeClause_108 (by decide) ?_
      refine j_loc [1] rfl ?_
      exact w_X7_takeClause_168 X (3 : Int32) S15 h
  · have h := h.2 c14
    refine j_iload_n X rfl 0 rfl dX7_takeClause_84 ?_
    refine j_goto (tgt := 168) X dX7_takeClause_85 (by decide) ?_
    refine j_loc [1] rfl ?_
    exact w_X7_takeClause_168 X t0 S h
set_option maxRecDepth 100000 in
set_option maxHeartbeats 4000000 in
theorem c_X7_takeClause (l : Launch) (D : va_G) (i : Nat → ClassId) (q : Nat → Nat) (A : Nat → Prop) (S : vS) (Q : Int32 → vS → Prop) (h : e_X7_takeClause S Q) : Met l yX7_takeClause wsX7_takeClause rm_X7_takeClause (va_Pc [.ref (q 0)] (vB D i A (wM q i) S)) (va_Qi Q (vB D i A (wM q i)) A) 0 0 A := by
  refine m_ofJ (own := RX7) (lv := [(0, .ref (q 0))]) rfl (by decide) rfl (Nat.le_of_ble_eq_true rfl) rfl ?_
  intro p e s m below meth c X
  unfold e_X7_takeClause at h
  refine j_aload_n X rfl 0 rfl dX7_takeClause_0 ?_
  refine j_Vv (st := []) X [] 0 (c_X7_readWord l D i q A S _ h) (cwV 0 X.ts gX7_takeClause_X7_readWord rfl rfl rfl (by decide +kernel) ⟨Nat.le_of_ble_eq_true rfl, Nat.le_of_ble_eq_true rfl⟩) rfl rfl rfl rfl (Nat.le_of_ble_eq_true rfl) dX7_takeClause_1 (fun S1 h => ?_)
  refine j_aload_n X rfl 0 rfl dX7_takeClause_4 ?_
  refine jgM_mod_said X i_X7_takeClause_X7 (by decide +kernel) dX7_takeClause_5 ?_
  refine j_bipush (v := (108 : Int32)) X (by decide) dX7_takeClause_8 ?_
  refine j_bipush (v := (97 : Int32)) X (by decide) dX7_takeClause_10 ?_
  refine j_bipush (v := (107 : Int32)) X (by decide) dX7_takeClause_12 ?_
  refine j_bipush (v := (101 : Int32)) X (by decide) dX7_takeClause_14 ?_
  refine j_Sl (st := [.long (S1.2.2 0)]) X [.int (108 : Int32), .int (97 : Int32), .int (107 : Int32), .int (101 : Int32)] (c_X7_code l D i q A (108 : Int32) (97 : Int32) (107 : Int32) (101 : Int32) S1 _ h) (va_cwS 4 X.ts gX7_takeClause_X7_code rfl rfl rfl (by decide +kernel) ⟨Nat.le_of_ble_eq_true rfl, Nat.le_of_ble_eq_true rfl⟩) rfl rfl (Nat.le_of_ble_eq_true rfl) dX7_takeClause_16 (fun r4 S3 h => ?_)
  refine j_lcmp X dX7_takeClause_19 ?_
  refine j_if_ne (tgt := 27) X dX7_takeClause_20 (by decide) (fun c5 => ?_) (fun c5 => ?_)
  · have h := h.1 c5
    refine j_aload_n X rfl 0 rfl dX7_takeClause_27 ?_
    refine jgM_mod_said X i_X7_takeClause_X7 (by decide +kernel) dX7_takeClause_28 ?_
    refine j_bipush (v := (100 : Int32)) X (by decide) dX7_takeClause_31 ?_
    refine j_bipush (v := (111 : Int32)) X (by decide) dX7_takeClause_33 ?_
    refine j_bipush (v := (111 : Int32)) X (by decide) dX7_takeClause_35 ?_
    refine j_bipush (v := (114 : Int32)) X (by decide) dX7_takeClause_37 ?_
    refine j_Sl (st := [.long (S3.2.2 0)]) X [.int (100 : Int32), .int (111 : Int32), .int (111 : Int32), .int (114 : Int32)] (c_X7_code l D i q A (100 : Int32) (111 : Int32) (111 : Int32) (114 : Int32) S3 _ h) (va_cwS 4 X.ts gX7_takeClause_X7_code rfl rfl rfl (by decide +kernel) ⟨Nat.le_of_ble_eq_true rfl, Nat.le_of_ble_eq_true rfl⟩) rfl rfl (Nat.le_of_ble_eq_true rfl) dX7_takeClause_39 (fun r7 S6 h => ?_)
    refine j_lcmp X dX7_takeClause_42 ?_
    refine j_if_ne (tgt := 50) X dX7_takeClause_43 (by decide) (fun c8 => ?_) (fun c8 => ?_)
    · have h := h.1 c8
      refine j_aload_n X rfl 0 rfl dX7_takeClause_50 ?_
      refine jgM_mod_said X i_X7_takeClause_X7 (by decide +kernel) dX7_takeClause_51 ?_
      refine j_bipush (v := (115 : Int32)) X (by decide) dX7_takeClause_54 ?_
      refine j_bipush (v := (116 : Int32)) X (by decide) dX7_takeClause_56 ?_
      refine j_bipush (v := (97 : Int32)) X (by decide) dX7_takeClause_58 ?_
      refine j_bipush (v := (110 : Int32)) X (by decide) dX7_takeClause_60 ?_
      refine j_Sl (st := [.long (S6.2.2 0)]) X [.int (115 : Int32), .int (116 : Int32), .int (97 : Int32), .int (110 : Int32)] (c_X7_code l D i q A (115 : Int32) (116 : Int32) (97 : Int32) (110 : Int32) S6 _ h) (va_cwS 4 X.ts gX7_takeClause_X7_code rfl rfl rfl (by decide +kernel) ⟨Nat.le_of_ble_eq_true rfl, Nat.le_of_ble_eq_true rfl⟩) rfl rfl (Nat.le_of_ble_eq_true rfl) dX7_takeClause_62 (fun r10 S9 h => ?_)
      refine j_bipush (v := (100 : Int32)) X (by decide) dX7_takeClause_65 ?_
      refine j_Sl (st := [.long (S6.2.2 0)]) X [.long r10, .int (100 : Int32)] (c_X7_longer l D i q A r10 (100 : Int32) S9 _ h) (va_cwS 2 X.ts gX7_takeClause_X7_longer rfl rfl rfl (by decide +kernel) ⟨Nat.le_of_ble_eq_true rfl, Nat.le_of_ble_eq_true rfl⟩) rfl rfl (Nat.le_of_ble_eq_true rfl) dX7_takeClause_67 (fun r12 S11 h => ?_)
      refine j_lcmp X dX7_takeClause_70 ?_
      refine j_if_ne (tgt := 78) X dX7_takeClause_71 (by decide) (fun c13 => ?_) (fun c13 => ?_)
      · have h := h.1 c13
        refine j_iconst (v := (-1 : Int32)) X (by decide) dX7_takeClause_78 ?_
        exact w_X7_takeClause_79 X (-1 : Int32) S11 h
      · have h := h.2 c13
        refine j_iconst (v := (2 : Int32)) X (by decide) dX7_takeClause_74 ?_
        refine j_goto (tgt := 79) X dX7_takeClause_75 (by decide) ?_
        exact w_X7_takeClause_79 X (2 : Int32) S11 h
    · have h := h.2 c8
      refine j_iconst (v := (1 : Int32)) X (by decide) dX7_takeClause_46 ?_
      refine j_goto (tgt := 79) X dX7_takeClause_47 (by decide) ?_
      exact w_X7_takeClause_79 X (1 : Int32) S6 h
  · have h := h.2 c5
    refine j_iconst (v := (0 : Int32)) X (by decide) dX7_takeClause_23 ?_
    refine j_goto (tgt := 79) X dX7_takeClause_24 (by decide) ?_
    exact w_X7_takeClause_79 X (0 : Int32) S3 h
set_option maxRecDepth 100000 in
theorem i_X7_begin_X7 : ∀ w ∈ u_ws RX7 TX7 48, w ∈ wsX7_begin := by decide +kernel
abbrev rm_X7_begin : Room := { frames := 0, cells := 0, slots := 0, locals := 0 }
set_option maxRecDepth 100000 in
set_option maxHeartbeats 4000000 in
theorem w_X7_begin_45 {D : va_G} {i : Nat → ClassId} {q : Nat → Nat} {A : Nat → Prop} {p : Program} {l : Launch} {e : Env} {s : State} {m : MethodId} {args : Array Value} {below : List Frame} {meth : Method} {c : Code} (X : cX D i A p s m args meth c cX7_begin RX7 3 wsX7_begin (some .int)) {Q : Int32 → vS → Prop} : ∀ (n : Nat) (a1 : Int32) (a2 : Int32) (S : vS), e_X7_begin_45 Q n a1 a2 S → cJ D A p l e (headSpec wsX7_begin rm_X7_begin).room s m args below meth c (MQ below (va_Qi Q (vB D i A (wM q i)) A) args s 0 0 A) 3 (wM q i S) [(0, .ref (q 0)), (1, .int a1), (2, .int a2)] 45 [] := by
  intro n
  induction n with
  | zero =>
    intro _ _ S h
    rw [e_X7_begin_45.eq_1] at h
    exact h.elim
  | succ n ih =>
    intro a1 a2 S h
    rw [e_X7_begin_45.eq_2] at h
    refine j_iload_n X rfl 2 rfl dX7_begin_45 ?_
    refine j_bipush (v := (60 : Int32)) X (by decide) dX7_begin_46 ?_
    refine j_icmp_ge (tgt := 69) X dX7_begin_48 (by decide) (fun c8 => ?_) (fun c8 => ?_)
    · have h := h.1 c8
      refine j_iload_n X rfl 1 rfl dX7_begin_69 ?_
      exact j_iret X h dX7_begin_70
    · have h := h.2 c8
      refine j_aload_n X rfl 0 rfl dX7_begin_51 ?_
      refine jgM_mod_stand X i_X7_begin_X7 (by decide +kernel) dX7_begin_52 ?_
      refine j_iload_n X rfl 2 rfl dX7_begin_55 ?_
      refine j_aload_n X rfl 0 rfl dX7_begin_56 ?_
      refine jgM_mod_toldStand X i_X7_begin_X7 (by decide +kernel) dX7_begin_57 ?_
      refine j_iload_n X rfl 2 rfl dX7_begin_60 ?_
      obtain ⟨k9, h⟩ := h
      refine jlM_mod_toldStand X k9 dX7_begin_61 ?_
      refine jsM_mod_stand X k9 dX7_begin_62 (fun S10 eS10 => ?_)
      have h := h S10 eS10
      refine j_iinc (dv := (1 : Int32)) (lv' := fun v11 => [(2, .int v11), (0, .ref (q 0)), (1, .int a1)]) X dX7_begin_63 (pl := 2) rfl (by decide) (by decide) (fun _ => rfl) (fun v11 ev11 => ?_)
      have h := h v11 ev11
      refine j_goto (tgt := 45) X dX7_begin_66 (by decide) ?_
      refine j_loc [1, 2, 0] rfl ?_
      exact ih a1 v11 S10 h
set_option maxRecDepth 100000 in
set_option maxHeartbeats 4000000 in
theorem w_X7_begin_12 {D : va_G} {i : Nat → ClassId} {q : Nat → Nat} {A : Nat → Prop} {p : Program} {l : Launch} {e : Env} {s : State} {m : MethodId} {args : Array Value} {below : List Frame} {meth : Method} {c : Code} (X : cX D i A p s m args meth c cX7_begin RX7 3 wsX7_begin (some .int)) {Q : Int32 → vS → Prop} : ∀ (n : Nat) (a1 : Int32) (a2 : Int32) (S : vS), e_X7_begin_12 Q n a1 a2 S → cJ D A p l e (headSpec wsX7_begin rm_X7_begin).room s m args below meth c (MQ below (va_Qi Q (vB D i A (wM q i)) A) args s 0 0 A) 3 (wM q i S) [(0, .ref (q 0)), (1, .int a1), (2, .int a2)] 12 [] := by
  intro n
  induction n with
  | zero =>
    intro _ _ S h
    rw [e_X7_begin_12.eq_1] at h
    exact h.elim
  | succ n ih =>
    intro a1 a2 S h
    rw [e_X7_begin_12.eq_2] at h
    refine j_iload_n X rfl 2 rfl dX7_begin_12 ?_
    refine j_bipush (v := (6 : Int32)) X (by decide) dX7_begin_13 ?_
    refine j_icmp_ge (tgt := 43) X dX7_begin_15 (by decide) (fun c3 => ?_) (fun c3 => ?_)
    · have h := h.1 c3
      refine j_iconst (v := (0 : Int32)) X (by decide) dX7_begin_43 ?_
      refine j_istore_n (lv' := [(2, .int (0 : Int32)), (0, .ref (q 0)), (1, .int a1)]) X rfl (by decide) rfl dX7_begin_44 ?_
      refine j_loc [1, 2, 0] rfl ?_
      obtain ⟨j, h⟩ := h
      exact w_X7_begin_45 X j a1 (0 : Int32) S h
    · have h := h.2 c3
      refine j_aload_n X rfl 0 rfl dX7_begin_18 ?_
      refine jgM_mod_storeys X i_X7_begin_X7 (by decide +kernel) dX7_begin_19 ?_
      refine j_iload_n X rfl 2 rfl dX7_begin_22 ?_
      refine j_aload_n X rfl 0 rfl dX7_begin_23 ?_
      refine jgM_mod_toldStoreys X i_X7_begin_X7 (by decide +kernel) dX7_begin_24 ?_
      refine j_iload_n X rfl 2 rfl dX7_begin_27 ?_
      obtain ⟨k4, h⟩ := h
      refine jlM_mod_toldStoreys X k4 dX7_begin_28 ?_
      refine jsM_mod_storeys X k4 dX7_begin_29 (fun S5 eS5 => ?_)
      have h := h S5 eS5
      refine j_aload_n X rfl 0 rfl dX7_begin_30 ?_
      refine jgM_mod_purse X i_X7_begin_X7 (by decide +kernel) dX7_begin_31 ?_
      refine j_iload_n X rfl 2 rfl dX7_begin_34 ?_
      refine j_iconst (v := (0 : Int32)) X (by decide) dX7_begin_35 ?_
      refine jsM_mod_purse X k4 dX7_begin_36 (fun S6 eS6 => ?_)
      have h := h S6 eS6
      refine j_iinc (dv := (1 : Int32)) (lv' := fun v7 => [(2, .int v7), (0, .ref (q 0)), (1, .int a1)]) X dX7_begin_37 (pl := 2) rfl (by decide) (by decide) (fun _ => rfl) (fun v7 ev7 => ?_)
      have h := h v7 ev7
      refine j_goto (tgt := 12) X dX7_begin_40 (by decide) ?_
      refine j_loc [1, 2, 0] rfl ?_
      exact ih a1 v7 S6 h
set_option maxRecDepth 100000 in
set_option maxHeartbeats 4000000 in
theorem c_X7_begin (l : Launch) (D : va_G) (i : Nat → ClassId) (q : Nat → Nat) (A : Nat → Prop) (S : vS) (Q : Int32 → vS → Prop) (h : e_X7_begin S Q) : Met l yX7_begin wsX7_begin rm_X7_begin (va_Pc [.ref (q 0)] (vB D i A (wM q i) S)) (va_Qi Q (vB D i A (wM q i)) A) 0 0 A := by
  refine m_ofJ (own := RX7) (lv := [(0, .ref (q 0))]) rfl (by decide) rfl (Nat.le_of_ble_eq_true rfl) rfl ?_
  intro p e s m below meth c X
  unfold e_X7_begin at h
  refine j_aload_n X rfl 0 rfl dX7_begin_0 ?_
  refine jgM_mod_day X i_X7_begin_X7 (by decide +kernel) dX7_begin_1 ?_
  refine j_topi (fun v1 ev1 => ?_)
  have h := h v1 ev1
  refine j_istore_n (lv' := [(1, .int v1), (0, .ref (q 0))]) X rfl (by decide) rfl dX7_begin_4 ?_
  refine j_aload_n X rfl 1 rfl dX7_begin_5 ?_
  refine j_iconst (v := (0 : Int32)) X (by decide) dX7_begin_6 ?_
  refine jpM_mod_day X i_X7_begin_X7 (by decide +kernel) dX7_begin_7 (fun S2 eS2 => ?_)
  have h := h S2 eS2
  refine j_iconst (v := (0 : Int32)) X (by decide) dX7_begin_10 ?_
  refine j_istore_n (lv' := [(2, .int (0 : Int32)), (1, .int v1), (0, .ref (q 0))]) X rfl (by decide) rfl dX7_begin_11 ?_
  refine j_loc [2, 1, 0] rfl ?_
  obtain ⟨j, h⟩ := h
  exact w_X7_begin_12 X j v1 (0 : Int32) S2 h
set_option maxRecDepth 100000 in
theorem i_X7_cells_X7 : ∀ w ∈ u_ws RX7 TX7 48, w ∈ wsX7_cells := by decide +kernel
abbrev rm_X7_cells : Room := { frames := 0, cells := 0, slots := 0, locals := 0 }
set_option maxRecDepth 100000 in
set_option maxHeartbeats 4000000 in
theorem c_X7_cells (l : Launch) (D : va_G) (i : Nat → ClassId) (q : Nat → Nat) (A : Nat → Prop) (S : vS) (Q : Int32 → vS → Prop) (h : e_X7_cells S Q) : Met l yX7_cells wsX7_cells rm_X7_cells (va_Pc [.ref (q 0)] (vB D i A (wM q i) S)) (va_Qi Q (vB D i A (wM q i)) A) 0 0 A := by
  refine m_ofJ (own := RX7) (lv := [(0, .ref (q 0))]) rfl (by decide) rfl (Nat.le_of_ble_eq_true rfl) rfl ?_
  intro p e s m below meth c X
  unfold e_X7_cells at h
  refine j_aload_n X rfl 0 rfl dX7_cells_0 ?_
  refine jgM_mod_wide X i_X7_cells_X7 (by decide +kernel) dX7_cells_1 ?_
  refine j_aload_n X rfl 0 rfl dX7_cells_4 ?_
  refine jgM_mod_deep X i_X7_cells_X7 (by decide +kernel) dX7_cells_5 ?_
  refine j_imul X dX7_cells_8 ?_
  exact j_iret X h dX7_cells_9
set_option maxRecDepth 100000 in
theorem i_X7_lake_X7 : ∀ w ∈ u_ws RX7 TX7 48, w ∈ wsX7_lake := by decide +kernel
abbrev rm_X7_lake : Room := { frames := 6, cells := 0, slots := 0, locals := 143 }
set_option maxRecDepth 100000 in
set_option maxHeartbeats 4000000 in
theorem w_X7_lake_202 {D : va_G} {i : Nat → ClassId} {q : Nat → Nat} {A : Nat → Prop} {p : Program} {l : Launch} {e : Env} {s : State} {m : MethodId} {args : Array Value} {below : List Frame} {meth : Method} {c : Code} (X : cX D i A p s m args meth c cX7_lake RX7 3 wsX7_lake (some .int)) {K172 : Int32 → vS → Prop} {Q : Int32 → vS → Prop} (hK172 : ∀ (a2 : Int32) (S : vS), K172 a2 S → cJ D A p l e (headSpec wsX7_lake rm_X7_lake).room s m args below meth c (MQ below (va_Qi Q (vB D i A (wM q i)) A) args s 0 0 A) 3 (wM q i S) [(0, .ref (q 0)), (2, .int a2)] 172 []) : ∀ (a2 : Int32) (t0 : Int32) (t1 : Int32) (S : vS), e_X7_lake_202 K172 Q a2 t0 t1 S → cJ D A p l e (headSpec wsX7_lake rm_X7_lake).room s m args below meth c (MQ below (va_Qi Q (vB D i A (wM q i)) A) args s 0 0 A) 3 (wM q i S) [(0, .ref (q 0)), (2, .int a2)] 202 [.int t0, .int t1, .ref (q 4)] := by
  intro a2 t0 t1 S h
  unfold e_X7_lake_202 at h
  obtain ⟨k42, h⟩ := h
  refine jsM_mod_toldStand X k42 dX7_lake_202 (fun S43 eS43 => ?_)
  have h := h S43 eS43
  refine j_aload_n X rfl 0 rfl dX7_lake_203 ?_
  refine jgM_mod_fish X i_X7_lake_X7 (by decide +kernel) dX7_lake_204 ?_
  refine j_iload_n X rfl 1 rfl dX7_lake_207 ?_
  refine j_aload_n X rfl 0 rfl dX7_lake_208 ?_
  refine jgM_mod_readFish X i_X7_lake_X7 (by decide +kernel) dX7_lake_209 ?_
  refine j_iload_n X rfl 1 rfl dX7_lake_212 ?_
  obtain ⟨k44, h⟩ := h
  refine jlM_mod_readFish X k44 dX7_lake_213 ?_
  refine j_if_ge (tgt := 221) X dX7_lake_214 (by decide) (fun c45 => ?_) (fun c45 => ?_)
  · have h := h.1 c45
    refine j_aload_n X rfl 0 rfl dX7_lake_221 ?_
    refine jgM_mod_readFish X i_X7_lake_X7 (by decide +kernel) dX7_lake_222 ?_
    refine j_iload_n X rfl 1 rfl dX7_lake_225 ?_
    refine jlM_mod_readFish X k44 dX7_lake_226 ?_
    refine jsM_mod_fish X k44 dX7_lake_227 (fun S46 eS46 => ?_)
    have h := h S46 eS46
    refine j_iinc (dv := (1 : Int32)) (lv' := fun v47 => [(2, .int v47), (0, .ref (q 0))]) X dX7_lake_228 (pl := 1) rfl (by decide) (by decide) (fun _ => rfl) (fun v47 ev47 => ?_)
    have h := h v47 ev47
    refine j_goto (tgt := 172) X dX7_lake_231 (by decide) ?_
    refine j_loc [1, 0] rfl ?_
    exact hK172 v47 S46 h
  · have h := h.2 c45
    refine j_iconst (v := (1 : Int32)) X (by decide) dX7_lake_217 ?_
    refine j_goto (tgt := 227) X dX7_lake_218 (by decide) ?_
    refine jsM_mod_fish X k44 dX7_lake_227 (fun S48 eS48 => ?_)
    have h := h S48 eS48
    refine j_iinc (dv := (1 : Int32)) (lv' := fun v49 => [(2, .int v49), (0, .ref (q 0))]) X dX7_lake_228 (pl := 1) rfl (by decide) (by decide) (fun _ => rfl) (fun v49 ev49 => ?_)
    have h := h v49 ev49
    refine j_goto (tgt := 172) X dX7_lake_231 (by decide) ?_
    refine j_loc [1, 0] rfl ?_
    exact hK172 v49 S48 h
set_option maxRecDepth 100000 in
set_option maxHeartbeats 4000000 in
theorem w_X7_lake_236 {D : va_G} {i : Nat → ClassId} {q : Nat → Nat} {A : Nat → Prop} {p : Program} {l : Launch} {e : Env} {s : State} {m : MethodId} {args : Array Value} {below : List Frame} {meth : Method} {c : Code} (X : cX D i A p s m args meth c cX7_lake RX7 3 wsX7_lake (some .int)) {Q : Int32 → vS → Prop} : ∀ (n : Nat) (a2 : Int32) (S : vS), e_X7_lake_236 Q n a2 S → cJ D A p l e (headSpec wsX7_lake rm_X7_lake).room s m args below meth c (MQ below (va_Qi Q (vB D i A (wM q i)) A) args s 0 0 A) 3 (wM q i S) [(0, .ref (q 0)), (2, .int a2)] 236 [] := by
  intro n
  induction n with
  | zero =>
    intro _ S h
    rw [e_X7_lake_236.eq_1] at h
    exact h.elim
  | succ n ih =>
    intro a2 S h
    rw [e_X7_lake_236.eq_2] at h
    refine j_iload_n X rfl 1 rfl dX7_lake_236 ?_
    refine j_bipush (v := (30 : Int32)) X (by decide) dX7_lake_237 ?_
    refine j_icmp_ge (tgt := 260) X dX7_lake_239 (by decide) (fun c31 => ?_) (fun c31 => ?_)
    · have h := h.1 c31
      refine j_aload_n X rfl 0 rfl dX7_lake_260 ?_
      refine j_iconst (v := (0 : Int32)) X (by decide) dX7_lake_261 ?_
      refine jpM_mod_booked X i_X7_lake_X7 (by decide +kernel) dX7_lake_262 (fun S32 eS32 => ?_)
      have h := h S32 eS32
      refine j_aload_n X rfl 0 rfl dX7_lake_265 ?_
      refine jgM_mod_isKept X i_X7_lake_X7 (by decide +kernel) dX7_lake_266 ?_
      refine j_iconst (v := (0 : Int32)) X (by decide) dX7_lake_269 ?_
      refine j_iconst (v := (0 : Int32)) X (by decide) dX7_lake_270 ?_
      refine jsM_mod_isKept X (by unfold vp_in; decide) dX7_lake_271 (fun S33 eS33 => ?_)
      have h := h S33 eS33
      refine j_aload_n X rfl 0 rfl dX7_lake_272 ?_
      refine jgM_mod_isKept X i_X7_lake_X7 (by decide +kernel) dX7_lake_273 ?_
      refine j_iconst (v := (1 : Int32)) X (by decide) dX7_lake_276 ?_
      refine j_iconst (v := (0 : Int32)) X (by decide) dX7_lake_277 ?_
      refine jsM_mod_isKept X (by unfold vp_in; decide) dX7_lake_278 (fun S34 eS34 => ?_)
      have h := h S34 eS34
      refine j_aload_n X rfl 0 rfl dX7_lake_279 ?_
      refine j_Vi (st := []) X [] 0 (c_X7_begin l D i q A S34 _ h) (cwV 0 X.ts gX7_lake_X7_begin rfl rfl rfl (by decide +kernel) ⟨Nat.le_of_ble_eq_true rfl, Nat.le_of_ble_eq_true rfl⟩) rfl rfl rfl rfl (Nat.le_of_ble_eq_true rfl) dX7_lake_280 (fun r36 S35 h => ?_)
      refine j_istore_n (lv' := [(2, .int r36), (0, .ref (q 0))]) X rfl (by decide) rfl dX7_lake_283 ?_
      refine j_aload_n X rfl 1 rfl dX7_lake_284 ?_
      refine j_Vi (st := []) X [] 0 (c_X7_cells l D i q A S35 _ h) (cwV 0 X.ts gX7_lake_X7_cells rfl rfl rfl (by decide +kernel) ⟨Nat.le_of_ble_eq_true rfl, Nat.le_of_ble_eq_true rfl⟩) rfl rfl rfl rfl (Nat.le_of_ble_eq_true rfl) dX7_lake_285 (fun r38 S37 h => ?_)
      exact j_iret X h dX7_lake_288
    · have h := h.2 c31
      refine j_aload_n X rfl 0 rfl dX7_lake_242 ?_
      refine jgM_mod_mist X i_X7_lake_X7 (by decide +kernel) dX7_lake_243 ?_
      refine j_iload_n X rfl 1 rfl dX7_lake_246 ?_
      refine j_aload_n X rfl 0 rfl dX7_lake_247 ?_
      refine jgM_mod_readMist X i_X7_lake_X7 (by decide +kernel) dX7_lake_248 ?_
      refine j_iload_n X rfl 1 rfl dX7_lake_251 ?_
      obtain ⟨k39, h⟩ := h
      refine jlM_mod_readMist X k39 dX7_lake_252 ?_
      refine jsM_mod_mist X k39 dX7_lake_253 (fun S40 eS40 => ?_)
      have h := h S40 eS40
      refine j_iinc (dv := (1 : Int32)) (lv' := fun v41 => [(2, .int v41), (0, .ref (q 0))]) X dX7_lake_254 (pl := 1) rfl (by decide) (by decide) (fun _ => rfl) (fun v41 ev41 => ?_)
      have h := h v41 ev41
      refine j_goto (tgt := 236) X dX7_lake_257 (by decide) ?_
      refine j_loc [1, 0] rfl ?_
      exact ih v41 S40 h
set_option maxRecDepth 100000 in
set_option maxHeartbeats 4000000 in
theorem w_X7_lake_172 {D : va_G} {i : Nat → ClassId} {q : Nat → Nat} {A : Nat → Prop} {p : Program} {l : Launch} {e : Env} {s : State} {m : MethodId} {args : Array Value} {below : List Frame} {meth : Method} {c : Code} (X : cX D i A p s m args meth c cX7_lake RX7 3 wsX7_lake (some .int)) {Q : Int32 → vS → Prop} : ∀ (n : Nat) (a2 : Int32) (S : vS), e_X7_lake_172 Q n a2 S → cJ D A p l e (headSpec wsX7_lake rm_X7_lake).room s m args below meth c (MQ below (va_Qi Q (vB D i A (wM q i)) A) args s 0 0 A) 3 (wM q i S) [(0, .ref (q 0)), (2, .int a2)] 172 [] := by
  intro n
  induction n with
  | zero =>
    intro _ S h
    rw [e_X7_lake_172.eq_1] at h
    exact h.elim
  | succ n ih =>
    intro a2 S h
    rw [e_X7_lake_172.eq_2] at h
    refine j_iload_n X rfl 1 rfl dX7_lake_172 ?_
    refine j_bipush (v := (60 : Int32)) X (by decide) dX7_lake_173 ?_
    refine j_icmp_ge (tgt := 234) X dX7_lake_175 (by decide) (fun c28 => ?_) (fun c28 => ?_)
    · have h := h.1 c28
      refine j_iconst (v := (0 : Int32)) X (by decide) dX7_lake_234 ?_
      refine j_istore_n (lv' := [(2, .int (0 : Int32)), (0, .ref (q 0))]) X rfl (by decide) rfl dX7_lake_235 ?_
      refine j_loc [1, 0] rfl ?_
      obtain ⟨j, h⟩ := h
      exact w_X7_lake_236 X j (0 : Int32) S h
    · have h := h.2 c28
      refine j_aload_n X rfl 0 rfl dX7_lake_178 ?_
      refine jgM_mod_toldStand X i_X7_lake_X7 (by decide +kernel) dX7_lake_179 ?_
      refine j_iload_n X rfl 1 rfl dX7_lake_182 ?_
      refine j_aload_n X rfl 0 rfl dX7_lake_183 ?_
      refine jgM_mod_readStand X i_X7_lake_X7 (by decide +kernel) dX7_lake_184 ?_
      refine j_iload_n X rfl 1 rfl dX7_lake_187 ?_
      obtain ⟨k29, h⟩ := h
      refine jlM_mod_readStand X k29 dX7_lake_188 ?_
      refine j_if_ge (tgt := 196) X dX7_lake_189 (by decide) (fun c30 => ?_) (fun c30 => ?_)
      · have h := h.1 c30
        refine j_aload_n X rfl 0 rfl dX7_lake_196 ?_
        refine jgM_mod_readStand X i_X7_lake_X7 (by decide +kernel) dX7_lake_197 ?_
        refine j_iload_n X rfl 1 rfl dX7_lake_200 ?_
        refine jlM_mod_readStand X k29 dX7_lake_201 ?_
        exact w_X7_lake_202 X (fun y0 S h => ih y0 S h) a2 (S.2.1 13 (a2).toNatClampNeg) a2 S h
      · have h := h.2 c30
        refine j_iconst (v := (0 : Int32)) X (by decide) dX7_lake_192 ?_
        refine j_goto (tgt := 202) X dX7_lake_193 (by decide) ?_
        exact w_X7_lake_202 X (fun y0 S h => ih y0 S h) a2 (0 : Int32) a2 S h
set_option maxRecDepth 100000 in
set_option maxHeartbeats 4000000 in
theorem w_X7_lake_122 {D : va_G} {i : Nat → ClassId} {q : Nat → Nat} {A : Nat → Prop} {p : Program} {l : Launch} {e : Env} {s : State} {m : MethodId} {args : Array Value} {below : List Frame} {meth : Method} {c : Code} (X : cX D i A p s m args meth c cX7_lake RX7 3 wsX7_lake (some .int)) {Q : Int32 → vS → Prop} : ∀ (n : Nat) (a2 : Int32) (S : vS), e_X7_lake_122 Q n a2 S → cJ D A p l e (headSpec wsX7_lake rm_X7_lake).room s m args below meth c (MQ below (va_Qi Q (vB D i A (wM q i)) A) args s 0 0 A) 3 (wM q i S) [(0, .ref (q 0)), (2, .int a2)] 122 [] := by
  intro n
  induction n with
  | zero =>
    intro _ S h
    rw [e_X7_lake_122.eq_1] at h
    exact h.elim
  | succ n ih =>
    intro a2 S h
    rw [e_X7_lake_122.eq_2] at h
    refine j_iload_n X rfl 1 rfl dX7_lake_122 ?_
    refine j_bipush (v := (6 : Int32)) X (by decide) dX7_lake_123 ?_
    refine j_icmp_ge (tgt := 170) X dX7_lake_125 (by decide) (fun c22 => ?_) (fun c22 => ?_)
    · have h := h.1 c22
      refine j_iconst (v := (0 : Int32)) X (by decide) dX7_lake_170 ?_
      refine j_istore_n (lv' := [(2, .int (0 : Int32)), (0, .ref (q 0))]) X rfl (by decide) rfl dX7_lake_171 ?_
      refine j_loc [1, 0] rfl ?_
      obtain ⟨j, h⟩ := h
      exact w_X7_lake_172 X j (0 : Int32) S h
    · have h := h.2 c22
      refine j_aload_n X rfl 0 rfl dX7_lake_128 ?_
      refine jgM_mod_shore X i_X7_lake_X7 (by decide +kernel) dX7_lake_129 ?_
      refine j_iload_n X rfl 1 rfl dX7_lake_132 ?_
      refine j_aload_n X rfl 0 rfl dX7_lake_133 ?_
      refine jgM_mod_readShore X i_X7_lake_X7 (by decide +kernel) dX7_lake_134 ?_
      refine j_iload_n X rfl 1 rfl dX7_lake_137 ?_
      obtain ⟨k23, h⟩ := h
      refine jlM_mod_readShore X k23 dX7_lake_138 ?_
      refine jsM_mod_shore X k23 dX7_lake_139 (fun S24 eS24 => ?_)
      have h := h S24 eS24
      refine j_aload_n X rfl 0 rfl dX7_lake_140 ?_
      refine jgM_mod_ground X i_X7_lake_X7 (by decide +kernel) dX7_lake_141 ?_
      refine j_iload_n X rfl 1 rfl dX7_lake_144 ?_
      refine j_aload_n X rfl 0 rfl dX7_lake_145 ?_
      refine jgM_mod_readGround X i_X7_lake_X7 (by decide +kernel) dX7_lake_146 ?_
      refine j_iload_n X rfl 1 rfl dX7_lake_149 ?_
      refine jlM_mod_readGround X k23 dX7_lake_150 ?_
      refine jsM_mod_ground X k23 dX7_lake_151 (fun S25 eS25 => ?_)
      have h := h S25 eS25
      refine j_aload_n X rfl 0 rfl dX7_lake_152 ?_
      refine jgM_mod_toldStoreys X i_X7_lake_X7 (by decide +kernel) dX7_lake_153 ?_
      refine j_iload_n X rfl 1 rfl dX7_lake_156 ?_
      refine j_aload_n X rfl 0 rfl dX7_lake_157 ?_
      refine jgM_mod_readStoreys X i_X7_lake_X7 (by decide +kernel) dX7_lake_158 ?_
      refine j_iload_n X rfl 1 rfl dX7_lake_161 ?_
      refine jlM_mod_readStoreys X k23 dX7_lake_162 ?_
      refine jsM_mod_toldStoreys X k23 dX7_lake_163 (fun S26 eS26 => ?_)
      have h := h S26 eS26
      refine j_iinc (dv := (1 : Int32)) (lv' := fun v27 => [(2, .int v27), (0, .ref (q 0))]) X dX7_lake_164 (pl := 1) rfl (by decide) (by decide) (fun _ => rfl) (fun v27 ev27 => ?_)
      have h := h v27 ev27
      refine j_goto (tgt := 122) X dX7_lake_167 (by decide) ?_
      refine j_loc [1, 0] rfl ?_
      exact ih v27 S26 h
set_option maxRecDepth 100000 in
set_option maxHeartbeats 4000000 in
theorem w_X7_lake_97 {D : va_G} {i : Nat → ClassId} {q : Nat → Nat} {A : Nat → Prop} {p : Program} {l : Launch} {e : Env} {s : State} {m : MethodId} {args : Array Value} {below : List Frame} {meth : Method} {c : Code} (X : cX D i A p s m args meth c cX7_lake RX7 3 wsX7_lake (some .int)) {Q : Int32 → vS → Prop} : ∀ (t0 : Int32) (S : vS), e_X7_lake_97 Q t0 S → cJ D A p l e (headSpec wsX7_lake rm_X7_lake).room s m args below meth c (MQ below (va_Qi Q (vB D i A (wM q i)) A) args s 0 0 A) 3 (wM q i S) [(0, .ref (q 0))] 97 [.int t0, .ref (q 0)] := by
  intro t0 S h
  unfold e_X7_lake_97 at h
  refine jpM_mod_storeyHigh X i_X7_lake_X7 (by decide +kernel) dX7_lake_97 (fun S18 eS18 => ?_)
  have h := h S18 eS18
  refine j_aload_n X rfl 0 rfl dX7_lake_100 ?_
  refine j_aload_n X rfl 0 rfl dX7_lake_101 ?_
  refine jgM_mod_readHigh X i_X7_lake_X7 (by decide +kernel) dX7_lake_102 ?_
  refine j_if_le (tgt := 115) X dX7_lake_105 (by decide) (fun c19 => ?_) (fun c19 => ?_)
  · have h := h.1 c19
    refine j_bipush (v := (100 : Int32)) X (by decide) dX7_lake_115 ?_
    refine jpM_mod_storeyCost X i_X7_lake_X7 (by decide +kernel) dX7_lake_117 (fun S20 eS20 => ?_)
    have h := h S20 eS20
    refine j_iconst (v := (0 : Int32)) X (by decide) dX7_lake_120 ?_
    refine j_istore_n (lv' := [(2, .int (0 : Int32)), (0, .ref (q 0))]) X rfl (by decide) rfl dX7_lake_121 ?_
    refine j_loc [1, 0] rfl ?_
    obtain ⟨j, h⟩ := h
    exact w_X7_lake_122 X j (0 : Int32) S20 h
  · have h := h.2 c19
    refine j_aload_n X rfl 0 rfl dX7_lake_108 ?_
    refine jgM_mod_readCost X i_X7_lake_X7 (by decide +kernel) dX7_lake_109 ?_
    refine j_goto (tgt := 117) X dX7_lake_112 (by decide) ?_
    refine jpM_mod_storeyCost X i_X7_lake_X7 (by decide +kernel) dX7_lake_117 (fun S21 eS21 => ?_)
    have h := h S21 eS21
    refine j_iconst (v := (0 : Int32)) X (by decide) dX7_lake_120 ?_
    refine j_istore_n (lv' := [(2, .int (0 : Int32)), (0, .ref (q 0))]) X rfl (by decide) rfl dX7_lake_121 ?_
    refine j_loc [1, 0] rfl ?_
    obtain ⟨j, h⟩ := h
    exact w_X7_lake_122 X j (0 : Int32) S21 h
set_option maxRecDepth 100000 in
set_option maxHeartbeats 4000000 in
theorem w_X7_lake_35 {D : va_G} {i : Nat → ClassId} {q : Nat → Nat} {A : Nat → Prop} {p : Program} {l : Launch} {e : Env} {s : State} {m : MethodId} {args : Array Value} {below : List Frame} {meth : Method} {c : Code} (X : cX D i A p s m args meth c cX7_lake RX7 3 wsX7_lake (some .int)) {Q : Int32 → vS → Prop} : ∀ (a1 : Int32) (S : vS), e_X7_lake_35 Q a1 S → cJ D A p l e (headSpec wsX7_lake rm_X7_lake).room s m args below meth c (MQ below (va_Qi Q (vB D i A (wM q i)) A) args s 0 0 A) 3 (wM q i S) [(0, .ref (q 0)), (1, .int a1)] 35 [] := by
  intro a1 S h
  unfold e_X7_lake_35 at h
  refine j_aload_n X rfl 0 rfl dX7_lake_35 ?_
  refine j_iconst (v := (0 : Int32)) X (by decide) dX7_lake_36 ?_
  refine jpM_mod_texted X i_X7_lake_X7 (by decide +kernel) dX7_lake_37 (fun S11 eS11 => ?_)
  have h := h S11 eS11
  refine j_iload_n X rfl 1 rfl dX7_lake_40 ?_
  refine j_if_le (tgt := 49) X dX7_lake_41 (by decide) (fun c12 => ?_) (fun c12 => ?_)
  · have h := h.1 c12
    refine j_aload_n X rfl 0 rfl dX7_lake_49 ?_
    refine j_aload_n X rfl 0 rfl dX7_lake_50 ?_
    refine jgM_mod_readWide X i_X7_lake_X7 (by decide +kernel) dX7_lake_51 ?_
    refine jpM_mod_wide X i_X7_lake_X7 (by decide +kernel) dX7_lake_54 (fun S13 eS13 => ?_)
    have h := h S13 eS13
    refine j_aload_n X rfl 0 rfl dX7_lake_57 ?_
    refine j_aload_n X rfl 0 rfl dX7_lake_58 ?_
    refine jgM_mod_readDeep X i_X7_lake_X7 (by decide +kernel) dX7_lake_59 ?_
    refine jpM_mod_deep X i_X7_lake_X7 (by decide +kernel) dX7_lake_62 (fun S14 eS14 => ?_)
    have h := h S14 eS14
    refine j_aload_n X rfl 0 rfl dX7_lake_65 ?_
    refine j_aload_n X rfl 0 rfl dX7_lake_66 ?_
    refine jgM_mod_readMen X i_X7_lake_X7 (by decide +kernel) dX7_lake_67 ?_
    refine jpM_mod_men X i_X7_lake_X7 (by decide +kernel) dX7_lake_70 (fun S15 eS15 => ?_)
    have h := h S15 eS15
    refine j_aload_n X rfl 0 rfl dX7_lake_73 ?_
    refine j_aload_n X rfl 0 rfl dX7_lake_74 ?_
    refine jgM_mod_readMists X i_X7_lake_X7 (by decide +kernel) dX7_lake_75 ?_
    refine jpM_mod_mists X i_X7_lake_X7 (by decide +kernel) dX7_lake_78 (fun S16 eS16 => ?_)
    have h := h S16 eS16
    refine j_aload_n X rfl 0 rfl dX7_lake_81 ?_
    refine j_aload_n X rfl 0 rfl dX7_lake_82 ?_
    refine jgM_mod_readHigh X i_X7_lake_X7 (by decide +kernel) dX7_lake_83 ?_
    refine j_if_le (tgt := 96) X dX7_lake_86 (by decide) (fun c17 => ?_) (fun c17 => ?_)
    · have h := h.1 c17
      refine j_iconst (v := (3 : Int32)) X (by decide) dX7_lake_96 ?_
      refine j_loc [0] rfl ?_
      exact w_X7_lake_97 X (3 : Int32) S16 h
    · have h := h.2 c17
      refine j_aload_n X rfl 0 rfl dX7_lake_89 ?_
      refine jgM_mod_readHigh X i_X7_lake_X7 (by decide +kernel) dX7_lake_90 ?_
      refine j_goto (tgt := 97) X dX7_lake_93 (by decide) ?_
      refine j_loc [0] rfl ?_
      exact w_X7_lake_97 X (S16.1 21) S16 h
  · have h := h.2 c12
    refine j_bipush (v := (-10 : Int32)) X (by decide) dX7_lake_44 ?_
    refine j_iload_n X rfl 1 rfl dX7_lake_46 ?_
    refine j_isub X dX7_lake_47 ?_
    exact j_iret X h dX7_lake_48
set_option maxRecDepth 100000 in
set_option maxHeartbeats 4000000 in
theorem w_X7_lake_16 {D : va_G} {i : Nat → ClassId} {q : Nat → Nat} {A : Nat → Prop} {p : Program} {l : Launch} {e : Env} {s : State} {m : MethodId} {args : Array Value} {below : List Frame} {meth : Method} {c : Code} (X : cX D i A p s m args meth c cX7_lake RX7 3 wsX7_lake (some .int)) {Q : Int32 → vS → Prop} : ∀ (n : Nat) (a1 : Int32) (S : vS), e_X7_lake_16 Q n a1 S → cJ D A p l e (headSpec wsX7_lake rm_X7_lake).room s m args below meth c (MQ below (va_Qi Q (vB D i A (wM q i)) A) args s 0 0 A) 3 (wM q i S) [(0, .ref (q 0)), (1, .int a1)] 16 [] := by
  intro n
  induction n with
  | zero =>
    intro _ S h
    rw [e_X7_lake_16.eq_1] at h
    exact h.elim
  | succ n ih =>
    intro a1 S h
    rw [e_X7_lake_16.eq_2] at h
    refine j_iload_n X rfl 1 rfl dX7_lake_16 ?_
    refine j_if_ne (tgt := 35) X dX7_lake_17 (by decide) (fun c5 => ?_) (fun c5 => ?_)
    · have h := h.1 c5
      exact w_X7_lake_35 X a1 S h
    · have h := h.2 c5
      refine j_aload_n X rfl 0 rfl dX7_lake_20 ?_
      refine j_Vi (st := []) X [] 0 (c_X7_here l D i q A S _ h) (cwV 0 X.ts gX7_lake_X7_here rfl rfl rfl (by decide +kernel) ⟨Nat.le_of_ble_eq_true rfl, Nat.le_of_ble_eq_true rfl⟩) rfl rfl rfl rfl (Nat.le_of_ble_eq_true rfl) dX7_lake_21 (fun r7 S6 h => ?_)
      refine j_if_lt (tgt := 35) X dX7_lake_24 (by decide) (fun c8 => ?_) (fun c8 => ?_)
      · have h := h.1 c8
        exact w_X7_lake_35 X a1 S6 h
      · have h := h.2 c8
        refine j_aload_n X rfl 0 rfl dX7_lake_27 ?_
        refine j_Vi (st := []) X [] 0 (c_X7_takeClause l D i q A S6 _ h) (cwV 0 X.ts gX7_lake_X7_takeClause rfl rfl rfl (by decide +kernel) ⟨Nat.le_of_ble_eq_true rfl, Nat.le_of_ble_eq_true rfl⟩) rfl rfl rfl rfl (Nat.le_of_ble_eq_true rfl) dX7_lake_28 (fun r10 S9 h => ?_)
        refine j_istore_n (lv' := [(1, .int r10), (0, .ref (q 0))]) X rfl (by decide) rfl dX7_lake_31 ?_
        refine j_goto (tgt := 16) X dX7_lake_32 (by decide) ?_
        refine j_loc [1, 0] rfl ?_
        exact ih r10 S9 h
set_option maxRecDepth 100000 in
set_option maxHeartbeats 4000000 in
theorem c_X7_lake (l : Launch) (D : va_G) (i : Nat → ClassId) (q : Nat → Nat) (A : Nat → Prop) (S : vS) (Q : Int32 → vS → Prop) (h : e_X7_lake S Q) : Met l yX7_lake wsX7_lake rm_X7_lake (va_Pc [.ref (q 0)] (vB D i A (wM q i) S)) (va_Qi Q (vB D i A (wM q i)) A) 0 0 A := by
  refine m_ofJ (own := RX7) (lv := [(0, .ref (q 0))]) rfl (by decide) rfl (Nat.le_of_ble_eq_true rfl) rfl ?_
  intro p e s m below meth c X
  unfold e_X7_lake at h
  refine j_aload_n X rfl 0 rfl dX7_lake_0 ?_
  refine j_iconst (v := (-1 : Int32)) X (by decide) dX7_lake_1 ?_
  refine jpM_mod_faultPlace X i_X7_lake_X7 (by decide +kernel) dX7_lake_2 (fun S1 eS1 => ?_)
  have h := h S1 eS1
  refine j_aload_n X rfl 0 rfl dX7_lake_5 ?_
  refine j_iconst (v := (0 : Int32)) X (by decide) dX7_lake_6 ?_
  refine jpM_mod_at0 X i_X7_lake_X7 (by decide +kernel) dX7_lake_7 (fun S2 eS2 => ?_)
  have h := h S2 eS2
  refine j_aload_n X rfl 0 rfl dX7_lake_10 ?_
  refine j_Vv (st := []) X [] 0 (c_X7_clear l D i q A S2 _ h) (cwV 0 X.ts gX7_lake_X7_clear rfl rfl rfl (by decide +kernel) ⟨Nat.le_of_ble_eq_true rfl, Nat.le_of_ble_eq_true rfl⟩) rfl rfl rfl rfl (Nat.le_of_ble_eq_true rfl) dX7_lake_11 (fun S3 h => ?_)
  refine j_iconst (v := (0 : Int32)) X (by decide) dX7_lake_14 ?_
  refine j_istore_n (lv' := [(1, .int (0 : Int32)), (0, .ref (q 0))]) X rfl (by decide) rfl dX7_lake_15 ?_
  refine j_loc [1, 0] rfl ?_
  obtain ⟨j, h⟩ := h
  exact w_X7_lake_16 X j (0 : Int32) S3 h
set_option maxRecDepth 100000 in
theorem i_X7_fault_X7 : ∀ w ∈ u_ws RX7 TX7 48, w ∈ wsX7_fault := by decide +kernel
abbrev rm_X7_fault : Room := { frames := 0, cells := 0, slots := 0, locals := 0 }
set_option maxRecDepth 100000 in
set_option maxHeartbeats 4000000 in
theorem c_X7_fault (l : Launch) (D : va_G) (i : Nat → ClassId) (q : Nat → Nat) (A : Nat → Prop) (S : vS) (Q : Int32 → vS → Prop) (h : e_X7_fault S Q) : Met l yX7_fault wsX7_fault rm_X7_fault (va_Pc [.ref (q 0)] (vB D i A (wM q i) S)) (va_Qi Q (vB D i A (wM q i)) A) 0 0 A := by
  refine m_ofJ (own := RX7) (lv := [(0, .ref (q 0))]) rfl (by decide) rfl (Nat.le_of_ble_eq_true rfl) rfl ?_
  intro p e s m below meth c X
  unfold e_X7_fault at h
  refine j_aload_n X rfl 0 rfl dX7_fault_0 ?_
  refine jgM_mod_faultPlace X i_X7_fault_X7 (by decide +kernel) dX7_fault_1 ?_
  exact j_iret X h dX7_fault_4
set_option maxRecDepth 100000 in
theorem i_X7_farNow_X7 : ∀ w ∈ u_ws RX7 TX7 48, w ∈ wsX7_farNow := by decide +kernel
abbrev rm_X7_farNow : Room := { frames := 1, cells := 0, slots := 0, locals := 25 }
set_option maxRecDepth 100000 in
set_option maxHeartbeats 4000000 in
theorem w_X7_farNow_63 {D : va_G} {i : Nat → ClassId} {q : Nat → Nat} {A : Nat → Prop} {p : Program} {l : Launch} {e : Env} {s : State} {m : MethodId} {args : Array Value} {below : List Frame} {meth : Method} {c : Code} (X : cX D i A p s m args meth c cX7_farNow RX7 4 wsX7_farNow (some .int)) {K4 : Int32 → Int32 → vS → Prop} {Q : Int32 → vS → Prop} (hK4 : ∀ (a1 : Int32) (a2 : Int32) (S : vS), K4 a1 a2 S → cJ D A p l e (headSpec wsX7_farNow rm_X7_farNow).room s m args below meth c (MQ below (va_Qi Q (vB D i A (wM q i)) A) args s 0 0 A) 4 (wM q i S) [(0, .ref (q 0)), (1, .int a1), (2, .int a2)] 4 []) : ∀ (a2 : Int32) (S : vS), e_X7_farNow_63 K4 Q a2 S → cJ D A p l e (headSpec wsX7_farNow rm_X7_farNow).room s m args below meth c (MQ below (va_Qi Q (vB D i A (wM q i)) A) args s 0 0 A) 4 (wM q i S) [(0, .ref (q 0)), (2, .int a2)] 63 [] := by
  intro a2 S h
  unfold e_X7_farNow_63 at h
  refine j_aload_n X rfl 0 rfl dX7_farNow_63 ?_
  refine jgM_mod_mist X i_X7_farNow_X7 (by decide +kernel) dX7_farNow_64 ?_
  refine j_iconst (v := (3 : Int32)) X (by decide) dX7_farNow_67 ?_
  refine j_iload_n X rfl 1 rfl dX7_farNow_68 ?_
  refine j_imul X dX7_farNow_69 ?_
  refine j_iconst (v := (2 : Int32)) X (by decide) dX7_farNow_70 ?_
  refine j_iadd X dX7_farNow_71 ?_
  obtain ⟨k12, h⟩ := h
  refine jlM_mod_mist X k12 dX7_farNow_72 ?_
  refine j_goto (tgt := 77) X dX7_farNow_73 (by decide) ?_
  refine j_topi (fun v13 ev13 => ?_)
  have h := h v13 ev13
  refine j_istore_n (lv' := [(1, .int v13), (0, .ref (q 0)), (2, .int a2)]) X rfl (by decide) rfl dX7_farNow_77 ?_
  refine j_iinc (dv := (1 : Int32)) (lv' := fun v14 => [(2, .int v14), (1, .int v13), (0, .ref (q 0))]) X dX7_farNow_78 (pl := 2) rfl (by decide) (by decide) (fun _ => rfl) (fun v14 ev14 => ?_)
  have h := h v14 ev14
  refine j_goto (tgt := 4) X dX7_farNow_81 (by decide) ?_
  refine j_loc [2, 1, 0] rfl ?_
  exact hK4 v13 v14 S h
set_option maxRecDepth 100000 in
set_option maxHeartbeats 4000000 in
theorem w_X7_farNow_4 {D : va_G} {i : Nat → ClassId} {q : Nat → Nat} {A : Nat → Prop} {p : Program} {l : Launch} {e : Env} {s : State} {m : MethodId} {args : Array Value} {below : List Frame} {meth : Method} {c : Code} (X : cX D i A p s m args meth c cX7_farNow RX7 4 wsX7_farNow (some .int)) {Q : Int32 → vS → Prop} : ∀ (n : Nat) (a1 : Int32) (a2 : Int32) (S : vS), e_X7_farNow_4 Q n a1 a2 S → cJ D A p l e (headSpec wsX7_farNow rm_X7_farNow).room s m args below meth c (MQ below (va_Qi Q (vB D i A (wM q i)) A) args s 0 0 A) 4 (wM q i S) [(0, .ref (q 0)), (1, .int a1), (2, .int a2)] 4 [] := by
  intro n
  induction n with
  | zero =>
    intro _ _ S h
    rw [e_X7_farNow_4.eq_1] at h
    exact h.elim
  | succ n ih =>
    intro a1 a2 S h
    rw [e_X7_farNow_4.eq_2] at h
    refine j_iload_n X rfl 2 rfl dX7_farNow_4 ?_
    refine j_aload_n X rfl 0 rfl dX7_farNow_5 ?_
    refine jgM_mod_mists X i_X7_farNow_X7 (by decide +kernel) dX7_farNow_6 ?_
    refine j_icmp_ge (tgt := 84) X dX7_farNow_9 (by decide) (fun c1 => ?_) (fun c1 => ?_)
    · have h := h.1 c1
      refine j_iload_n X rfl 1 rfl dX7_farNow_84 ?_
      exact j_iret X h dX7_farNow_85
    · have h := h.2 c1
      refine j_aload_n X rfl 0 rfl dX7_farNow_12 ?_
      refine jgM_mod_day X i_X7_farNow_X7 (by decide +kernel) dX7_farNow_13 ?_
      refine j_i2l X dX7_farNow_16 ?_
      refine j_aload_n X rfl 0 rfl dX7_farNow_17 ?_
      refine jgM_mod_mist X i_X7_farNow_X7 (by decide +kernel) dX7_farNow_18 ?_
      refine j_iconst (v := (3 : Int32)) X (by decide) dX7_farNow_21 ?_
      refine j_iload_n X rfl 2 rfl dX7_farNow_22 ?_
      refine j_imul X dX7_farNow_23 ?_
      obtain ⟨k2, h⟩ := h
      refine jlM_mod_mist X k2 dX7_farNow_24 ?_
      refine j_i2l X dX7_farNow_25 ?_
      refine j_aload_n X rfl 0 rfl dX7_farNow_26 ?_
      refine jgM_mod_mist X i_X7_farNow_X7 (by decide +kernel) dX7_farNow_27 ?_
      refine j_iconst (v := (3 : Int32)) X (by decide) dX7_farNow_30 ?_
      refine j_iload_n X rfl 2 rfl dX7_farNow_31 ?_
      refine j_imul X dX7_farNow_32 ?_
      refine j_iconst (v := (1 : Int32)) X (by decide) dX7_farNow_33 ?_
      refine j_iadd X dX7_farNow_34 ?_
      obtain ⟨k3, h⟩ := h
      refine jlM_mod_mist X k3 dX7_farNow_35 ?_
      refine j_i2l X dX7_farNow_36 ?_
      refine j_Si (st := []) X [.long ((S.1 7)).toInt64, .long ((S.2.1 5 (((3 : Int32) * a2)).toNatClampNeg)).toInt64, .long ((S.2.1 5 ((((3 : Int32) * a2) + (1 : Int32))).toNatClampNeg)).toInt64] (c_X7_in l D i q A ((S.1 7)).toInt64 ((S.2.1 5 (((3 : Int32) * a2)).toNatClampNeg)).toInt64 ((S.2.1 5 ((((3 : Int32) * a2) + (1 : Int32))).toNatClampNeg)).toInt64 S _ h) (va_cwS 3 X.ts gX7_farNow_X7_in rfl rfl rfl (by decide +kernel) ⟨Nat.le_of_ble_eq_true rfl, Nat.le_of_ble_eq_true rfl⟩) rfl rfl (Nat.le_of_ble_eq_true rfl) dX7_farNow_37 (fun r5 S4 h => ?_)
      refine j_istore_n (lv' := [(3, .int r5), (0, .ref (q 0)), (1, .int a1), (2, .int a2)]) X rfl (by decide) rfl dX7_farNow_40 ?_
      refine j_iload_n X rfl 0 rfl dX7_farNow_41 ?_
      refine j_if_eq (tgt := 76) X dX7_farNow_42 (by decide) (fun c6 => ?_) (fun c6 => ?_)
      · have h := h.1 c6
        refine j_iload_n X rfl 2 rfl dX7_farNow_76 ?_
        refine j_istore_n (lv' := [(1, .int a1), (3, .int r5), (0, .ref (q 0)), (2, .int a2)]) X rfl (by decide) rfl dX7_farNow_77 ?_
        refine j_iinc (dv := (1 : Int32)) (lv' := fun v7 => [(2, .int v7), (1, .int a1), (3, .int r5), (0, .ref (q 0))]) X dX7_farNow_78 (pl := 3) rfl (by decide) (by decide) (fun _ => rfl) (fun v7 ev7 => ?_)
        have h := h v7 ev7
        refine j_goto (tgt := 4) X dX7_farNow_81 (by decide) ?_
        refine j_loc [3, 1, 0] rfl ?_
        exact ih a1 v7 S4 h
      · have h := h.2 c6
        refine j_iload_n X rfl 2 rfl dX7_farNow_45 ?_
        refine j_if_lt (tgt := 63) X dX7_farNow_46 (by decide) (fun c8 => ?_) (fun c8 => ?_)
        · have h := h.1 c8
          refine j_loc [1, 3] rfl ?_
          exact w_X7_farNow_63 X (fun y0 y1 S h => ih y0 y1 S h) a2 S4 h
        · have h := h.2 c8
          refine j_aload_n X rfl 1 rfl dX7_farNow_49 ?_
          refine jgM_mod_mist X i_X7_farNow_X7 (by decide +kernel) dX7_farNow_50 ?_
          refine j_iconst (v := (3 : Int32)) X (by decide) dX7_farNow_53 ?_
          refine j_iload_n X rfl 3 rfl dX7_farNow_54 ?_
          refine j_imul X dX7_farNow_55 ?_
          refine j_iconst (v := (2 : Int32)) X (by decide) dX7_farNow_56 ?_
          refine j_iadd X dX7_farNow_57 ?_
          obtain ⟨k9, h⟩ := h
          refine jlM_mod_mist X k9 dX7_farNow_58 ?_
          refine j_iload_n X rfl 2 rfl dX7_farNow_59 ?_
          refine j_icmp_ge (tgt := 76) X dX7_farNow_60 (by decide) (fun c10 => ?_) (fun c10 => ?_)
          · have h := h.1 c10
            refine j_iload_n X rfl 2 rfl dX7_farNow_76 ?_
            refine j_istore_n (lv' := [(1, .int a1), (3, .int r5), (0, .ref (q 0)), (2, .int a2)]) X rfl (by decide) rfl dX7_farNow_77 ?_
            refine j_iinc (dv := (1 : Int32)) (lv' := fun v11 => [(2, .int v11), (1, .int a1), (3, .int r5), (0, .ref (q 0))]) X dX7_farNow_78 (pl := 3) rfl (by decide) (by decide) (fun _ => rfl) (fun v11 ev11 => ?_)
            have h := h v11 ev11
            refine j_goto (tgt := 4) X dX7_farNow_81 (by decide) ?_
            refine j_loc [3, 1, 0] rfl ?_
            exact ih a1 v11 S4 h
          · have h := h.2 c10
            refine j_loc [1, 3] rfl ?_
            exact w_X7_farNow_63 X (fun y0 y1 S h => ih y0 y1 S h) a2 S4 h
set_option maxRecDepth 100000 in
set_option maxHeartbeats 4000000 in
theorem c_X7_farNow (l : Launch) (D : va_G) (i : Nat → ClassId) (q : Nat → Nat) (A : Nat → Prop) (S : vS) (Q : Int32 → vS → Prop) (h : e_X7_farNow S Q) : Met l yX7_farNow wsX7_farNow rm_X7_farNow (va_Pc [.ref (q 0)] (vB D i A (wM q i) S)) (va_Qi Q (vB D i A (wM q i)) A) 0 0 A := by
  refine m_ofJ (own := RX7) (lv := [(0, .ref (q 0))]) rfl (by decide) rfl (Nat.le_of_ble_eq_true rfl) rfl ?_
  intro p e s m below meth c X
  unfold e_X7_farNow at h
  refine j_iconst (v := (-1 : Int32)) X (by decide) dX7_farNow_0 ?_
  refine j_istore_n (lv' := [(1, .int (-1 : Int32)), (0, .ref (q 0))]) X rfl (by decide) rfl dX7_farNow_1 ?_
  refine j_iconst (v := (0 : Int32)) X (by decide) dX7_farNow_2 ?_
  refine j_istore_n (lv' := [(2, .int (0 : Int32)), (1, .int (-1 : Int32)), (0, .ref (q 0))]) X rfl (by decide) rfl dX7_farNow_3 ?_
  refine j_loc [2, 1, 0] rfl ?_
  obtain ⟨j, h⟩ := h
  exact w_X7_farNow_4 X j (-1 : Int32) (0 : Int32) S h
abbrev rm_X7_size : Room := { frames := 0, cells := 0, slots := 0, locals := 0 }
set_option maxRecDepth 100000 in
set_option maxHeartbeats 4000000 in
theorem c_X7_size (l : Launch) (D : va_G) (i : Nat → ClassId) (q : Nat → Nat) (A : Nat → Prop) (x0 : Int32) (S : vS) (Q : Int32 → vS → Prop) (h : e_X7_size x0 S Q) : Met l yX7_size wsX7_size rm_X7_size (va_Pc [.int x0] (vB D i A (wM q i) S)) (va_Qi Q (vB D i A (wM q i)) A) 0 0 A := by
  refine m_ofJ (own := RX7) (lv := [(0, .int x0)]) rfl (by decide) rfl (Nat.le_of_ble_eq_true rfl) rfl ?_
  intro p e s m below meth c X
  unfold e_X7_size at h
  refine j_iload_n X rfl 0 rfl dX7_size_0 ?_
  refine j_if_ge (tgt := 9) X dX7_size_1 (by decide) (fun c1 => ?_) (fun c1 => ?_)
  · have h := h.1 c1
    refine j_iload_n X rfl 0 rfl dX7_size_9 ?_
    exact j_iret X h dX7_size_10
  · have h := h.2 c1
    refine j_iload_n X rfl 0 rfl dX7_size_4 ?_
    refine j_ineg X dX7_size_5 ?_
    refine j_goto (tgt := 10) X dX7_size_6 (by decide) ?_
    exact j_iret X h dX7_size_10
set_option maxRecDepth 100000 in
theorem i_X7_isClear_X7 : ∀ w ∈ u_ws RX7 TX7 48, w ∈ wsX7_isClear := by decide +kernel
abbrev rm_X7_isClear : Room := { frames := 1, cells := 0, slots := 0, locals := 20 }
set_option maxRecDepth 100000 in
set_option maxHeartbeats 4000000 in
theorem c_X7_isClear (l : Launch) (D : va_G) (i : Nat → ClassId) (q : Nat → Nat) (A : Nat → Prop) (x1 : Int32) (x2 : Int32) (x3 : Int32) (x4 : Int32) (S : vS) (Q : Int32 → vS → Prop) (h : e_X7_isClear x1 x2 x3 x4 S Q) : Met l yX7_isClear wsX7_isClear rm_X7_isClear (va_Pc [.ref (q 0), .int x1, .int x2, .int x3, .int x4] (vB D i A (wM q i) S)) (va_Qi Q (vB D i A (wM q i)) A) 0 0 A := by
  refine m_ofJ (own := RX7) (lv := [(0, .ref (q 0)), (1, .int x1), (2, .int x2), (3, .int x3), (4, .int x4)]) rfl (by decide) rfl (Nat.le_of_ble_eq_true rfl) rfl ?_
  intro p e s m below meth c X
  unfold e_X7_isClear at h
  refine j_iload_n X rfl 2 rfl dX7_isClear_0 ?_
  refine j_aload_n X rfl 0 rfl dX7_isClear_1 ?_
  refine jgM_mod_shore X i_X7_isClear_X7 (by decide +kernel) dX7_isClear_2 ?_
  refine j_iload_n X rfl 1 rfl dX7_isClear_5 ?_
  obtain ⟨k1, h⟩ := h
  refine jlM_mod_shore X k1 dX7_isClear_6 ?_
  refine j_isub X dX7_isClear_7 ?_
  refine j_Si (st := []) X [.int (x2 - (S.2.1 0 (x1).toNatClampNeg))] (c_X7_size l D i q A (x2 - (S.2.1 0 (x1).toNatClampNeg)) S _ h) (va_cwS 1 X.ts gX7_isClear_X7_size rfl rfl rfl (by decide +kernel) ⟨Nat.le_of_ble_eq_true rfl, Nat.le_of_ble_eq_true rfl⟩) rfl rfl (Nat.le_of_ble_eq_true rfl) dX7_isClear_8 (fun r3 S2 h => ?_)
  refine j_istore (lv' := [(5, .int r3), (0, .ref (q 0)), (1, .int x1), (2, .int x2), (3, .int x3), (4, .int x4)]) X (by decide) rfl dX7_isClear_11 ?_
  refine j_iload X 5 rfl dX7_isClear_13 ?_
  refine j_if_lt (tgt := 33) X dX7_isClear_15 (by decide) (fun c4 => ?_) (fun c4 => ?_)
  · have h := h.1 c4
    refine j_iconst (v := (1 : Int32)) X (by decide) dX7_isClear_33 ?_
    refine j_goto (tgt := 38) X dX7_isClear_34 (by decide) ?_
    exact j_zret X rfl h dX7_isClear_38
  · have h := h.2 c4
    refine j_iload X 0 rfl dX7_isClear_18 ?_
    refine j_iload X 5 rfl dX7_isClear_20 ?_
    refine j_icmp_gt (tgt := 37) X dX7_isClear_22 (by decide) (fun c5 => ?_) (fun c5 => ?_)
    · have h := h.1 c5
      refine j_iconst (v := (0 : Int32)) X (by decide) dX7_isClear_37 ?_
      exact j_zret X rfl h dX7_isClear_38
    · have h := h.2 c5
      refine j_iload_n X rfl 4 rfl dX7_isClear_25 ?_
      refine j_iconst (v := (1 : Int32)) X (by decide) dX7_isClear_26 ?_
      refine j_iadd X dX7_isClear_27 ?_
      refine j_iload X 5 rfl dX7_isClear_28 ?_
      refine j_icmp_gt (tgt := 37) X dX7_isClear_30 (by decide) (fun c6 => ?_) (fun c6 => ?_)
      · have h := h.1 c6
        refine j_iconst (v := (0 : Int32)) X (by decide) dX7_isClear_37 ?_
        exact j_zret X rfl h dX7_isClear_38
      · have h := h.2 c6
        refine j_iconst (v := (1 : Int32)) X (by decide) dX7_isClear_33 ?_
        refine j_goto (tgt := 38) X dX7_isClear_34 (by decide) ?_
        exact j_zret X rfl h dX7_isClear_38
set_option maxRecDepth 100000 in
theorem i_X7_eyeOf_X7 : ∀ w ∈ u_ws RX7 TX7 48, w ∈ wsX7_eyeOf := by decide +kernel
abbrev rm_X7_eyeOf : Room := { frames := 0, cells := 0, slots := 0, locals := 0 }
set_option maxRecDepth 100000 in
set_option maxHeartbeats 4000000 in
theorem c_X7_eyeOf (l : Launch) (D : va_G) (i : Nat → ClassId) (q : Nat → Nat) (A : Nat → Prop) (x1 : Int32) (S : vS) (Q : Int32 → vS → Prop) (h : e_X7_eyeOf x1 S Q) : Met l yX7_eyeOf wsX7_eyeOf rm_X7_eyeOf (va_Pc [.ref (q 0), .int x1] (vB D i A (wM q i) S)) (va_Qi Q (vB D i A (wM q i)) A) 0 0 A := by
  refine m_ofJ (own := RX7) (lv := [(0, .ref (q 0)), (1, .int x1)]) rfl (by decide) rfl (Nat.le_of_ble_eq_true rfl) rfl ?_
  intro p e s m below meth c X
  unfold e_X7_eyeOf at h
  refine j_aload_n X rfl 0 rfl dX7_eyeOf_0 ?_
  refine jgM_mod_ground X i_X7_eyeOf_X7 (by decide +kernel) dX7_eyeOf_1 ?_
  refine j_iload_n X rfl 1 rfl dX7_eyeOf_4 ?_
  obtain ⟨k1, h⟩ := h
  refine jlM_mod_ground X k1 dX7_eyeOf_5 ?_
  refine j_aload_n X rfl 0 rfl dX7_eyeOf_6 ?_
  refine jgM_mod_storeys X i_X7_eyeOf_X7 (by decide +kernel) dX7_eyeOf_7 ?_
  refine j_iload_n X rfl 1 rfl dX7_eyeOf_10 ?_
  refine jlM_mod_storeys X k1 dX7_eyeOf_11 ?_
  refine j_aload_n X rfl 0 rfl dX7_eyeOf_12 ?_
  refine jgM_mod_storeyHigh X i_X7_eyeOf_X7 (by decide +kernel) dX7_eyeOf_13 ?_
  refine j_imul X dX7_eyeOf_16 ?_
  refine j_iadd X dX7_eyeOf_17 ?_
  refine j_iconst (v := (1 : Int32)) X (by decide) dX7_eyeOf_18 ?_
  refine j_iadd X dX7_eyeOf_19 ?_
  exact j_iret X h dX7_eyeOf_20
set_option maxRecDepth 100000 in
theorem i_X7_blockerOf_X7 : ∀ w ∈ u_ws RX7 TX7 48, w ∈ wsX7_blockerOf := by decide +kernel
abbrev rm_X7_blockerOf : Room := { frames := 0, cells := 0, slots := 0, locals := 0 }
set_option maxRecDepth 100000 in
set_option maxHeartbeats 4000000 in
theorem w_X7_blockerOf_11 {D : va_G} {i : Nat → ClassId} {q : Nat → Nat} {A : Nat → Prop} {p : Program} {l : Launch} {e : Env} {s : State} {m : MethodId} {args : Array Value} {below : List Frame} {meth : Method} {c : Code} (X : cX D i A p s m args meth c cX7_blockerOf RX7 10 wsX7_blockerOf (some .int)) {Q : Int32 → vS → Prop} : ∀ (n : Nat) (a2 : Int32) (a3 : Int32) (a4 : Int32) (a5 : Int32) (a6 : Int32) (S : vS), e_X7_blockerOf_11 Q n a2 a3 a4 a5 a6 S → cJ D A p l e (headSpec wsX7_blockerOf rm_X7_blockerOf).room s m args below meth c (MQ below (va_Qi Q (vB D i A (wM q i)) A) args s 0 0 A) 10 (wM q i S) [(0, .ref (q 0)), (2, .int a2), (3, .int a3), (4, .int a4), (5, .int a5), (6, .int a6)] 11 [] := by
  intro n
  induction n with
  | zero =>
    intro _ _ _ _ _ S h
    rw [e_X7_blockerOf_11.eq_1] at h
    exact h.elim
  | succ n ih =>
    intro a2 a3 a4 a5 a6 S h
    rw [e_X7_blockerOf_11.eq_2] at h
    refine j_iload X 5 rfl dX7_blockerOf_11 ?_
    refine j_iload X 3 rfl dX7_blockerOf_13 ?_
    refine j_icmp_ge (tgt := 108) X dX7_blockerOf_15 (by decide) (fun c3 => ?_) (fun c3 => ?_)
    · have h := h.1 c3
      refine j_iconst (v := (-1 : Int32)) X (by decide) dX7_blockerOf_108 ?_
      exact j_iret X h dX7_blockerOf_109
    · have h := h.2 c3
      refine j_iconst (v := (2 : Int32)) X (by decide) dX7_blockerOf_18 ?_
      refine j_iload_n X rfl 2 rfl dX7_blockerOf_19 ?_
      refine j_iload X 4 rfl dX7_blockerOf_20 ?_
      refine j_isub X dX7_blockerOf_22 ?_
      refine j_imul X dX7_blockerOf_23 ?_
      refine j_iload X 5 rfl dX7_blockerOf_24 ?_
      refine j_iconst (v := (1 : Int32)) X (by decide) dX7_blockerOf_26 ?_
      refine j_iadd X dX7_blockerOf_27 ?_
      refine j_imul X dX7_blockerOf_28 ?_
      refine j_iload X 3 rfl dX7_blockerOf_29 ?_
      refine j_iadd X dX7_blockerOf_31 ?_
      refine j_iconst (v := (1 : Int32)) X (by decide) dX7_blockerOf_32 ?_
      refine j_iadd X dX7_blockerOf_33 ?_
      refine j_topi (fun v4 ev4 => ?_)
      have h := h v4 ev4
      refine j_istore (lv' := [(7, .int v4), (0, .ref (q 0)), (2, .int a2), (3, .int a3), (4, .int a4), (5, .int a5), (6, .int a6)]) X (by decide) rfl dX7_blockerOf_34 ?_
      refine j_iconst (v := (2 : Int32)) X (by decide) dX7_blockerOf_36 ?_
      refine j_iload X 4 rfl dX7_blockerOf_37 ?_
      refine j_iconst (v := (1 : Int32)) X (by decide) dX7_blockerOf_39 ?_
      refine j_iadd X dX7_blockerOf_40 ?_
      refine j_imul X dX7_blockerOf_41 ?_
      refine j_topi (fun v5 ev5 => ?_)
      have h := h v5 ev5
      refine j_istore (lv' := [(8, .int v5), (7, .int v4), (0, .ref (q 0)), (2, .int a2), (3, .int a3), (4, .int a4), (5, .int a5), (6, .int a6)]) X (by decide) rfl dX7_blockerOf_42 ?_
      refine j_iload X 6 rfl dX7_blockerOf_44 ?_
      refine j_iload X 1 rfl dX7_blockerOf_46 ?_
      refine j_bipush (v := (100 : Int32)) X (by decide) dX7_blockerOf_48 ?_
      refine j_iload X 0 rfl dX7_blockerOf_50 ?_
      refine j_imul X dX7_blockerOf_52 ?_
      refine j_iadd X dX7_blockerOf_53 ?_
      refine j_iload X 0 rfl dX7_blockerOf_54 ?_
      obtain ⟨k6, h⟩ := h
      refine j_idiv X k6 dX7_blockerOf_56 ?_
      refine j_iadd X dX7_blockerOf_57 ?_
      refine j_bipush (v := (100 : Int32)) X (by decide) dX7_blockerOf_58 ?_
      refine j_isub X dX7_blockerOf_60 ?_
      refine j_topi (fun v7 ev7 => ?_)
      have h := h v7 ev7
      refine j_istore (lv' := [(9, .int v7), (8, .int v5), (7, .int v4), (0, .ref (q 0)), (2, .int a2), (3, .int a3), (4, .int a4), (5, .int a5), (6, .int a6)]) X (by decide) rfl dX7_blockerOf_61 ?_
      refine j_aload_n X rfl 3 rfl dX7_blockerOf_63 ?_
      refine jgM_mod_stand X i_X7_blockerOf_X7 (by decide +kernel) dX7_blockerOf_64 ?_
      refine j_aload_n X rfl 3 rfl dX7_blockerOf_67 ?_
      refine jgM_mod_wide X i_X7_blockerOf_X7 (by decide +kernel) dX7_blockerOf_68 ?_
      refine j_iload X 8 rfl dX7_blockerOf_71 ?_
      refine j_imul X dX7_blockerOf_73 ?_
      refine j_iload X 0 rfl dX7_blockerOf_74 ?_
      refine j_iadd X dX7_blockerOf_76 ?_
      obtain ⟨k8, h⟩ := h
      refine jlM_mod_stand X k8 dX7_blockerOf_77 ?_
      refine j_iload X 6 rfl dX7_blockerOf_78 ?_
      refine j_iconst (v := (1 : Int32)) X (by decide) dX7_blockerOf_80 ?_
      refine j_iadd X dX7_blockerOf_81 ?_
      refine j_imul X dX7_blockerOf_82 ?_
      refine j_iload_n X rfl 4 rfl dX7_blockerOf_83 ?_
      refine j_iload X 6 rfl dX7_blockerOf_84 ?_
      refine j_iload X 8 rfl dX7_blockerOf_86 ?_
      refine j_isub X dX7_blockerOf_88 ?_
      refine j_imul X dX7_blockerOf_89 ?_
      refine j_icmp_le (tgt := 102) X dX7_blockerOf_90 (by decide) (fun c9 => ?_) (fun c9 => ?_)
      · have h := h.1 c9
        refine j_iinc (dv := (1 : Int32)) (lv' := fun v10 => [(6, .int v10), (9, .int v7), (8, .int v5), (7, .int v4), (0, .ref (q 0)), (2, .int a2), (3, .int a3), (4, .int a4), (5, .int a5)]) X dX7_blockerOf_102 (pl := 8) rfl (by decide) (by decide) (fun _ => rfl) (fun v10 ev10 => ?_)
        have h := h v10 ev10
        refine j_goto (tgt := 11) X dX7_blockerOf_105 (by decide) ?_
        refine j_loc [4, 5, 6, 7, 8, 0] rfl ?_
        exact ih a2 a3 a4 a5 v10 S h
      · have h := h.2 c9
        refine j_bipush (v := (100 : Int32)) X (by decide) dX7_blockerOf_93 ?_
        refine j_iload X 0 rfl dX7_blockerOf_95 ?_
        refine j_imul X dX7_blockerOf_97 ?_
        refine j_iload X 8 rfl dX7_blockerOf_98 ?_
        refine j_iadd X dX7_blockerOf_100 ?_
        exact j_iret X h dX7_blockerOf_101
set_option maxRecDepth 100000 in
set_option maxHeartbeats 4000000 in
theorem c_X7_blockerOf (l : Launch) (D : va_G) (i : Nat → ClassId) (q : Nat → Nat) (A : Nat → Prop) (x1 : Int32) (x2 : Int32) (x3 : Int32) (x4 : Int32) (S : vS) (Q : Int32 → vS → Prop) (h : e_X7_blockerOf x1 x2 x3 x4 S Q) : Met l yX7_blockerOf wsX7_blockerOf rm_X7_blockerOf (va_Pc [.ref (q 0), .int x1, .int x2, .int x3, .int x4] (vB D i A (wM q i) S)) (va_Qi Q (vB D i A (wM q i)) A) 0 0 A := by
  refine m_ofJ (own := RX7) (lv := [(0, .ref (q 0)), (1, .int x1), (2, .int x2), (3, .int x3), (4, .int x4)]) rfl (by decide) rfl (Nat.le_of_ble_eq_true rfl) rfl ?_
  intro p e s m below meth c X
  unfold e_X7_blockerOf at h
  refine j_aload_n X rfl 0 rfl dX7_blockerOf_0 ?_
  refine jgM_mod_shore X i_X7_blockerOf_X7 (by decide +kernel) dX7_blockerOf_1 ?_
  refine j_iload_n X rfl 1 rfl dX7_blockerOf_4 ?_
  obtain ⟨k1, h⟩ := h
  refine jlM_mod_shore X k1 dX7_blockerOf_5 ?_
  refine j_topi (fun v2 ev2 => ?_)
  have h := h v2 ev2
  refine j_istore (lv' := [(5, .int v2), (0, .ref (q 0)), (1, .int x1), (2, .int x2), (3, .int x3), (4, .int x4)]) X (by decide) rfl dX7_blockerOf_6 ?_
  refine j_iconst (v := (0 : Int32)) X (by decide) dX7_blockerOf_8 ?_
  refine j_istore (lv' := [(6, .int (0 : Int32)), (5, .int v2), (0, .ref (q 0)), (1, .int x1), (2, .int x2), (3, .int x3), (4, .int x4)]) X (by decide) rfl dX7_blockerOf_9 ?_
  refine j_loc [2, 4, 5, 6, 1, 0] rfl ?_
  obtain ⟨j, h⟩ := h
  exact w_X7_blockerOf_11 X j x2 x3 x4 v2 (0 : Int32) S h
abbrev rm_X7_canSee : Room := { frames := 2, cells := 0, slots := 0, locals := 45 }
set_option maxRecDepth 100000 in
set_option maxHeartbeats 4000000 in
theorem c_X7_canSee (l : Launch) (D : va_G) (i : Nat → ClassId) (q : Nat → Nat) (A : Nat → Prop) (x1 : Int32) (x2 : Int32) (x3 : Int32) (x4 : Int32) (S : vS) (Q : Int32 → vS → Prop) (h : e_X7_canSee x1 x2 x3 x4 S Q) : Met l yX7_canSee wsX7_canSee rm_X7_canSee (va_Pc [.ref (q 0), .int x1, .int x2, .int x3, .int x4] (vB D i A (wM q i) S)) (va_Qi Q (vB D i A (wM q i)) A) 0 0 A := by
  refine m_ofJ (own := RX7) (lv := [(0, .ref (q 0)), (1, .int x1), (2, .int x2), (3, .int x3), (4, .int x4)]) rfl (by decide) rfl (Nat.le_of_ble_eq_true rfl) rfl ?_
  intro p e s m below meth c X
  unfold e_X7_canSee at h
  refine j_aload_n X rfl 0 rfl dX7_canSee_0 ?_
  refine j_iload_n X rfl 1 rfl dX7_canSee_1 ?_
  refine j_iload_n X rfl 2 rfl dX7_canSee_2 ?_
  refine j_iload_n X rfl 3 rfl dX7_canSee_3 ?_
  refine j_iload X 4 rfl dX7_canSee_4 ?_
  refine j_Vi (st := []) X [.int x1, .int x2, .int x3, .int x4] 0 (c_X7_isClear l D i q A x1 x2 x3 x4 S _ h) (cwV 4 X.ts gX7_canSee_X7_isClear rfl rfl rfl (by decide +kernel) ⟨Nat.le_of_ble_eq_true rfl, Nat.le_of_ble_eq_true rfl⟩) rfl rfl rfl rfl (Nat.le_of_ble_eq_true rfl) dX7_canSee_6 (fun r2 S1 h => ?_)
  refine j_if_eq (tgt := 31) X dX7_canSee_9 (by decide) (fun c3 => ?_) (fun c3 => ?_)
  · have h := h.1 c3
    refine j_iconst (v := (0 : Int32)) X (by decide) dX7_canSee_31 ?_
    exact j_zret X rfl h dX7_canSee_32
  · have h := h.2 c3
    refine j_aload_n X rfl 0 rfl dX7_canSee_12 ?_
    refine j_iload_n X rfl 1 rfl dX7_canSee_13 ?_
    refine j_aload_n X rfl 0 rfl dX7_canSee_14 ?_
    refine j_iload_n X rfl 1 rfl dX7_canSee_15 ?_
    refine j_Vi (st := [.int x1, .ref (q 0)]) X [.int x1] 0 (c_X7_eyeOf l D i q A x1 S1 _ h) (cwV 1 X.ts gX7_canSee_X7_eyeOf rfl rfl rfl (by decide +kernel) ⟨Nat.le_of_ble_eq_true rfl, Nat.le_of_ble_eq_true rfl⟩) rfl rfl rfl rfl (Nat.le_of_ble_eq_true rfl) dX7_canSee_16 (fun r5 S4 h => ?_)
    refine j_iload_n X rfl 2 rfl dX7_canSee_19 ?_
    refine j_iload_n X rfl 3 rfl dX7_canSee_20 ?_
    refine j_Vi (st := []) X [.int x1, .int r5, .int x2, .int x3] 0 (c_X7_blockerOf l D i q A x1 r5 x2 x3 S4 _ h) (cwV 4 X.ts gX7_canSee_X7_blockerOf rfl rfl rfl (by decide +kernel) ⟨Nat.le_of_ble_eq_true rfl, Nat.le_of_ble_eq_true rfl⟩) rfl rfl rfl rfl (Nat.le_of_ble_eq_true rfl) dX7_canSee_21 (fun r7 S6 h => ?_)
    refine j_if_ge (tgt := 31) X dX7_canSee_24 (by decide) (fun c8 => ?_) (fun c8 => ?_)
    · have h := h.1 c8
      refine j_iconst (v := (0 : Int32)) X (by decide) dX7_canSee_31 ?_
      exact j_zret X rfl h dX7_canSee_32
    · have h := h.2 c8
      refine j_iconst (v := (1 : Int32)) X (by decide) dX7_canSee_27 ?_
      refine j_goto (tgt := 32) X dX7_canSee_28 (by decide) ?_
      exact j_zret X rfl h dX7_canSee_32
set_option maxRecDepth 100000 in
theorem i_X7_seers_X7 : ∀ w ∈ u_ws RX7 TX7 48, w ∈ wsX7_seers := by decide +kernel
abbrev rm_X7_seers : Room := { frames := 3, cells := 0, slots := 0, locals := 69 }
set_option maxRecDepth 100000 in
set_option maxHeartbeats 4000000 in
theorem w_X7_seers_11 {D : va_G} {i : Nat → ClassId} {q : Nat → Nat} {A : Nat → Prop} {p : Program} {l : Launch} {e : Env} {s : State} {m : MethodId} {args : Array Value} {below : List Frame} {meth : Method} {c : Code} (X : cX D i A p s m args meth c cX7_seers RX7 6 wsX7_seers (some .int)) {Q : Int32 → vS → Prop} : ∀ (n : Nat) (a1 : Int32) (a2 : Int32) (a3 : Int32) (a4 : Int32) (a5 : Int32) (S : vS), e_X7_seers_11 Q n a1 a2 a3 a4 a5 S → cJ D A p l e (headSpec wsX7_seers rm_X7_seers).room s m args below meth c (MQ below (va_Qi Q (vB D i A (wM q i)) A) args s 0 0 A) 6 (wM q i S) [(0, .ref (q 0)), (1, .int a1), (2, .int a2), (3, .int a3), (4, .int a4), (5, .int a5)] 11 [] := by
  intro n
  induction n with
  | zero =>
    intro _ _ _ _ _ S h
    rw [e_X7_seers_11.eq_1] at h
    exact h.elim
  | succ n ih =>
    intro a1 a2 a3 a4 a5 S h
    rw [e_X7_seers_11.eq_2] at h
    refine j_iload X 5 rfl dX7_seers_11 ?_
    refine j_aload_n X rfl 0 rfl dX7_seers_13 ?_
    refine jgM_mod_men X i_X7_seers_X7 (by decide +kernel) dX7_seers_14 ?_
    refine j_icmp_ge (tgt := 50) X dX7_seers_17 (by decide) (fun c3 => ?_) (fun c3 => ?_)
    · have h := h.1 c3
      refine j_iload_n X rfl 3 rfl dX7_seers_50 ?_
      exact j_iret X h dX7_seers_51
    · have h := h.2 c3
      refine j_iload_n X rfl 3 rfl dX7_seers_20 ?_
      refine j_aload_n X rfl 0 rfl dX7_seers_21 ?_
      refine j_iload X 5 rfl dX7_seers_22 ?_
      refine j_iload_n X rfl 1 rfl dX7_seers_24 ?_
      refine j_iload_n X rfl 2 rfl dX7_seers_25 ?_
      refine j_iload X 4 rfl dX7_seers_26 ?_
      refine j_Vi (st := [.int a3]) X [.int a5, .int a1, .int a2, .int a4] 0 (c_X7_canSee l D i q A a5 a1 a2 a4 S _ h) (cwV 4 X.ts gX7_seers_X7_canSee rfl rfl rfl (by decide +kernel) ⟨Nat.le_of_ble_eq_true rfl, Nat.le_of_ble_eq_true rfl⟩) rfl rfl rfl rfl (Nat.le_of_ble_eq_true rfl) dX7_seers_28 (fun r5 S4 h => ?_)
      refine j_if_eq (tgt := 41) X dX7_seers_31 (by decide) (fun c6 => ?_) (fun c6 => ?_)
      · have h := h.1 c6
        refine j_iconst (v := (0 : Int32)) X (by decide) dX7_seers_41 ?_
        refine j_ior X dX7_seers_42 ?_
        refine j_topi (fun v7 ev7 => ?_)
        have h := h v7 ev7
        refine j_istore_n (lv' := [(3, .int v7), (0, .ref (q 0)), (1, .int a1), (2, .int a2), (4, .int a4), (5, .int a5)]) X rfl (by decide) rfl dX7_seers_43 ?_
        refine j_iinc (dv := (1 : Int32)) (lv' := fun v8 => [(5, .int v8), (3, .int v7), (0, .ref (q 0)), (1, .int a1), (2, .int a2), (4, .int a4)]) X dX7_seers_44 (pl := 5) rfl (by decide) (by decide) (fun _ => rfl) (fun v8 ev8 => ?_)
        have h := h v8 ev8
        refine j_goto (tgt := 11) X dX7_seers_47 (by decide) ?_
        refine j_loc [2, 3, 4, 1, 5, 0] rfl ?_
        exact ih a1 a2 v7 a4 v8 S4 h
      · have h := h.2 c6
        refine j_iconst (v := (1 : Int32)) X (by decide) dX7_seers_34 ?_
        refine j_iload X 5 rfl dX7_seers_35 ?_
        refine j_ishl X dX7_seers_37 ?_
        refine j_goto (tgt := 42) X dX7_seers_38 (by decide) ?_
        refine j_ior X dX7_seers_42 ?_
        refine j_topi (fun v9 ev9 => ?_)
        have h := h v9 ev9
        refine j_istore_n (lv' := [(3, .int v9), (0, .ref (q 0)), (1, .int a1), (2, .int a2), (4, .int a4), (5, .int a5)]) X rfl (by decide) rfl dX7_seers_43 ?_
        refine j_iinc (dv := (1 : Int32)) (lv' := fun v10 => [(5, .int v10), (3, .int v9), (0, .ref (q 0)), (1, .int a1), (2, .int a2), (4, .int a4)]) X dX7_seers_44 (pl := 5) rfl (by decide) (by decide) (fun _ => rfl) (fun v10 ev10 => ?_)
        have h := h v10 ev10
        refine j_goto (tgt := 11) X dX7_seers_47 (by decide) ?_
        refine j_loc [2, 3, 4, 1, 5, 0] rfl ?_
        exact ih a1 a2 v9 a4 v10 S4 h
set_option maxRecDepth 100000 in
set_option maxHeartbeats 4000000 in
theorem c_X7_seers (l : Launch) (D : va_G) (i : Nat → ClassId) (q : Nat → Nat) (A : Nat → Prop) (x1 : Int32) (x2 : Int32) (S : vS) (Q : Int32 → vS → Prop) (h : e_X7_seers x1 x2 S Q) : Met l yX7_seers wsX7_seers rm_X7_seers (va_Pc [.ref (q 0), .int x1, .int x2] (vB D i A (wM q i) S)) (va_Qi Q (vB D i A (wM q i)) A) 0 0 A := by
  refine m_ofJ (own := RX7) (lv := [(0, .ref (q 0)), (1, .int x1), (2, .int x2)]) rfl (by decide) rfl (Nat.le_of_ble_eq_true rfl) rfl ?_
  intro p e s m below meth c X
  unfold e_X7_seers at h
  refine j_iconst (v := (0 : Int32)) X (by decide) dX7_seers_0 ?_
  refine j_istore_n (lv' := [(3, .int (0 : Int32)), (0, .ref (q 0)), (1, .int x1), (2, .int x2)]) X rfl (by decide) rfl dX7_seers_1 ?_
  refine j_aload_n X rfl 1 rfl dX7_seers_2 ?_
  refine j_Vi (st := []) X [] 0 (c_X7_farNow l D i q A S _ h) (cwV 0 X.ts gX7_seers_X7_farNow rfl rfl rfl (by decide +kernel) ⟨Nat.le_of_ble_eq_true rfl, Nat.le_of_ble_eq_true rfl⟩) rfl rfl rfl rfl (Nat.le_of_ble_eq_true rfl) dX7_seers_3 (fun r2 S1 h => ?_)
  refine j_istore (lv' := [(4, .int r2), (3, .int (0 : Int32)), (0, .ref (q 0)), (1, .int x1), (2, .int x2)]) X (by decide) rfl dX7_seers_6 ?_
  refine j_iconst (v := (0 : Int32)) X (by decide) dX7_seers_8 ?_
  refine j_istore (lv' := [(5, .int (0 : Int32)), (4, .int r2), (3, .int (0 : Int32)), (0, .ref (q 0)), (1, .int x1), (2, .int x2)]) X (by decide) rfl dX7_seers_9 ?_
  refine j_loc [3, 4, 5, 2, 1, 0] rfl ?_
  obtain ⟨j, h⟩ := h
  exact w_X7_seers_11 X j x1 x2 (0 : Int32) r2 (0 : Int32) S1 h
set_option maxRecDepth 100000 in
theorem i_X7_countFree_X7 : ∀ w ∈ u_ws RX7 TX7 48, w ∈ wsX7_countFree := by decide +kernel
abbrev rm_X7_countFree : Room := { frames := 4, cells := 0, slots := 0, locals := 94 }
set_option maxRecDepth 100000 in
set_option maxHeartbeats 4000000 in
theorem w_X7_countFree_4 {D : va_G} {i : Nat → ClassId} {q : Nat → Nat} {A : Nat → Prop} {p : Program} {l : Launch} {e : Env} {s : State} {m : MethodId} {args : Array Value} {below : List Frame} {meth : Method} {c : Code} (X : cX D i A p s m args meth c cX7_countFree RX7 3 wsX7_countFree (some .int)) {Q : Int32 → vS → Prop} : ∀ (n : Nat) (a1 : Int32) (a2 : Int32) (S : vS), e_X7_countFree_4 Q n a1 a2 S → cJ D A p l e (headSpec wsX7_countFree rm_X7_countFree).room s m args below meth c (MQ below (va_Qi Q (vB D i A (wM q i)) A) args s 0 0 A) 3 (wM q i S) [(0, .ref (q 0)), (1, .int a1), (2, .int a2)] 4 [] := by
  intro n
  induction n with
  | zero =>
    intro _ _ S h
    rw [e_X7_countFree_4.eq_1] at h
    exact h.elim
  | succ n ih =>
    intro a1 a2 S h
    rw [e_X7_countFree_4.eq_2] at h
    refine j_iload_n X rfl 2 rfl dX7_countFree_4 ?_
    refine j_aload_n X rfl 0 rfl dX7_countFree_5 ?_
    refine j_Vi (st := [.int a2]) X [] 0 (c_X7_cells l D i q A S _ h) (cwV 0 X.ts gX7_countFree_X7_cells rfl rfl rfl (by decide +kernel) ⟨Nat.le_of_ble_eq_true rfl, Nat.le_of_ble_eq_true rfl⟩) rfl rfl rfl rfl (Nat.le_of_ble_eq_true rfl) dX7_countFree_6 (fun r2 S1 h => ?_)
    refine j_icmp_ge (tgt := 45) X dX7_countFree_9 (by decide) (fun c3 => ?_) (fun c3 => ?_)
    · have h := h.1 c3
      refine j_iload_n X rfl 1 rfl dX7_countFree_45 ?_
      exact j_iret X h dX7_countFree_46
    · have h := h.2 c3
      refine j_iload_n X rfl 1 rfl dX7_countFree_12 ?_
      refine j_aload_n X rfl 0 rfl dX7_countFree_13 ?_
      refine j_iload_n X rfl 2 rfl dX7_countFree_14 ?_
      refine j_aload_n X rfl 0 rfl dX7_countFree_15 ?_
      refine jgM_mod_wide X i_X7_countFree_X7 (by decide +kernel) dX7_countFree_16 ?_
      obtain ⟨k4, h⟩ := h
      refine j_irem X k4 dX7_countFree_19 ?_
      refine j_iload_n X rfl 2 rfl dX7_countFree_20 ?_
      refine j_aload_n X rfl 0 rfl dX7_countFree_21 ?_
      refine jgM_mod_wide X i_X7_countFree_X7 (by decide +kernel) dX7_countFree_22 ?_
      refine j_idiv X k4 dX7_countFree_25 ?_
      refine j_Vi (st := [.int a1]) X [.int (a2 - a2 / (S1.1 0) * (S1.1 0)), .int (a2 / (S1.1 0))] 0 (c_X7_seers l D i q A (a2 - a2 / (S1.1 0) * (S1.1 0)) (a2 / (S1.1 0)) S1 _ h) (cwV 2 X.ts gX7_countFree_X7_seers rfl rfl rfl (by decide +kernel) ⟨Nat.le_of_ble_eq_true rfl, Nat.le_of_ble_eq_true rfl⟩) rfl rfl rfl rfl (Nat.le_of_ble_eq_true rfl) dX7_countFree_26 (fun r6 S5 h => ?_)
      refine j_if_ne (tgt := 36) X dX7_countFree_29 (by decide) (fun c7 => ?_) (fun c7 => ?_)
      · have h := h.1 c7
        refine j_iconst (v := (0 : Int32)) X (by decide) dX7_countFree_36 ?_
        refine j_iadd X dX7_countFree_37 ?_
        refine j_topi (fun v8 ev8 => ?_)
        have h := h v8 ev8
        refine j_istore_n (lv' := [(1, .int v8), (0, .ref (q 0)), (2, .int a2)]) X rfl (by decide) rfl dX7_countFree_38 ?_
        refine j_iinc (dv := (1 : Int32)) (lv' := fun v9 => [(2, .int v9), (1, .int v8), (0, .ref (q 0))]) X dX7_countFree_39 (pl := 2) rfl (by decide) (by decide) (fun _ => rfl) (fun v9 ev9 => ?_)
        have h := h v9 ev9
        refine j_goto (tgt := 4) X dX7_countFree_42 (by decide) ?_
        refine j_loc [2, 1, 0] rfl ?_
        exact ih v8 v9 S5 h
      · have h := h.2 c7
        refine j_iconst (v := (1 : Int32)) X (by decide) dX7_countFree_32 ?_
        refine j_goto (tgt := 37) X dX7_countFree_33 (by decide) ?_
        refine j_iadd X dX7_countFree_37 ?_
        refine j_topi (fun v10 ev10 => ?_)
        have h := h v10 ev10
        refine j_istore_n (lv' := [(1, .int v10), (0, .ref (q 0)), (2, .int a2)]) X rfl (by decide) rfl dX7_countFree_38 ?_
        refine j_iinc (dv := (1 : Int32)) (lv' := fun v11 => [(2, .int v11), (1, .int v10), (0, .ref (q 0))]) X dX7_countFree_39 (pl := 2) rfl (by decide) (by decide) (fun _ => rfl) (fun v11 ev11 => ?_)
        have h := h v11 ev11
        refine j_goto (tgt := 4) X dX7_countFree_42 (by decide) ?_
        refine j_loc [2, 1, 0] rfl ?_
        exact ih v10 v11 S5 h
set_option maxRecDepth 100000 in
set_option maxHeartbeats 4000000 in
theorem c_X7_countFree (l : Launch) (D : va_G) (i : Nat → ClassId) (q : Nat → Nat) (A : Nat → Prop) (S : vS) (Q : Int32 → vS → Prop) (h : e_X7_countFree S Q) : Met l yX7_countFree wsX7_countFree rm_X7_countFree (va_Pc [.ref (q 0)] (vB D i A (wM q i) S)) (va_Qi Q (vB D i A (wM q i)) A) 0 0 A := by
  refine m_ofJ (own := RX7) (lv := [(0, .ref (q 0))]) rfl (by decide) rfl (Nat.le_of_ble_eq_true rfl) rfl ?_
  intro p e s m below meth c X
  unfold e_X7_countFree at h
  refine j_iconst (v := (0 : Int32)) X (by decide) dX7_countFree_0 ?_
  refine j_istore_n (lv' := [(1, .int (0 : Int32)), (0, .ref (q 0))]) X rfl (by decide) rfl dX7_countFree_1 ?_
  refine j_iconst (v := (0 : Int32)) X (by decide) dX7_countFree_2 ?_
  refine j_istore_n (lv' := [(2, .int (0 : Int32)), (1, .int (0 : Int32)), (0, .ref (q 0))]) X rfl (by decide) rfl dX7_countFree_3 ?_
  refine j_loc [2, 1, 0] rfl ?_
  obtain ⟨j, h⟩ := h
  exact w_X7_countFree_4 X j (0 : Int32) (0 : Int32) S h
