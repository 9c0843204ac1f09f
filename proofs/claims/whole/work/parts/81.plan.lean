/-! ===== the world P: plan.width=0, plan.height=1, plan.men=2, plan.mists=3, plan.storeyHigh=4, plan.storeyCost=5; rows: plan.places=0, plan.grounds=1, plan.storeys=2, plan.stands=3, plan.fish=4, plan.mistFirst=5, plan.mistLast=6, plan.mistFar=7; longs:  ===== -/
def wP (q : Nat → Nat) (i : Nat → ClassId) (S : vS) : va_W := [(q 0, .inr (2, [.int (S.1 0), .int (S.1 1), .int (S.1 2), .int (S.1 3), .int (S.1 4), .int (S.1 5), .ref (q 1), .ref (q 2), .ref (q 3), .ref (q 4), .ref (q 5), .ref (q 6), .ref (q 7), .ref (q 8)])), (q 1, .inl (i 0, 6, .inl (S.2.1 0))), (q 2, .inl (i 0, 6, .inl (S.2.1 1))), (q 3, .inl (i 0, 6, .inl (S.2.1 2))), (q 4, .inl (i 0, 60, .inl (S.2.1 3))), (q 5, .inl (i 0, 60, .inl (S.2.1 4))), (q 6, .inl (i 0, 10, .inl (S.2.1 5))), (q 7, .inl (i 0, 10, .inl (S.2.1 6))), (q 8, .inl (i 0, 10, .inl (S.2.1 7)))]
section WP
variable {D : va_G} {i : Nat → ClassId} {q : Nat → Nat} {A : Nat → Prop} {p : Program} {l : Launch} {e : Env} {R : Room} {s : State} {m : MethodId} {args : Array Value} {below : List Frame} {meth : Method} {c : Code} {G : State → Prop} {nL : Nat} {lv : List (Nat × Value)} {pc : Nat} {st : List Value} {cc : ByteArray} {own : String} {Ts : List Cond} {rt : Option FieldType} {S : vS}
theorem jgP_plan_width (X : cX D i A p s m args meth c cc own nL Ts rt) (hin : ∀ w ∈ u_ws RX2 TX2 14, w ∈ Ts) {index : Nat} (hlk : Cond.fieldLink own index "SeenWaters$Plan" "width" "I" ∈ Ts) (d : decode cc pc = .ok (.getfield index, 3)) (k : cJ D A p l e R s m args below meth c G nL (wP q i S) lv (pc + 3) (.int (S.1 0) :: st)) : cJ D A p l e R s m args below meth c G nL (wP q i S) lv pc (.ref (q 0) :: st) := j_get X 0 rfl rfl 0 (by decide) hin hlk rfl rfl d k
theorem jpP_plan_width (X : cX D i A p s m args meth c cc own nL Ts rt) {v : Int32} (hin : ∀ w ∈ u_ws RX2 TX2 14, w ∈ Ts) {index : Nat} (hlk : Cond.fieldLink own index "SeenWaters$Plan" "width" "I" ∈ Ts) (d : decode cc pc = .ok (.putfield index, 3)) (k : ∀ S1, S1 = sf S 0 v → cJ D A p l e R s m args below meth c G nL (wP q i S1) lv (pc + 3) st) : cJ D A p l e R s m args below meth c G nL (wP q i S) lv pc (.int v :: .ref (q 0) :: st) := j_put (ty := .int) X 0 rfl rfl 0 (by decide) tyX2 tyX2_ok nmX2 hin hlk rfl rfl (by decide +kernel) rfl rfl (Nat.le_of_ble_eq_true rfl) rfl d (k _ rfl)
theorem jgP_plan_height (X : cX D i A p s m args meth c cc own nL Ts rt) (hin : ∀ w ∈ u_ws RX2 TX2 14, w ∈ Ts) {index : Nat} (hlk : Cond.fieldLink own index "SeenWaters$Plan" "height" "I" ∈ Ts) (d : decode cc pc = .ok (.getfield index, 3)) (k : cJ D A p l e R s m args below meth c G nL (wP q i S) lv (pc + 3) (.int (S.1 1) :: st)) : cJ D A p l e R s m args below meth c G nL (wP q i S) lv pc (.ref (q 0) :: st) := j_get X 0 rfl rfl 1 (by decide) hin hlk rfl rfl d k
theorem jpP_plan_height (X : cX D i A p s m args meth c cc own nL Ts rt) {v : Int32} (hin : ∀ w ∈ u_ws RX2 TX2 14, w ∈ Ts) {index : Nat} (hlk : Cond.fieldLink own index "SeenWaters$Plan" "height" "I" ∈ Ts) (d : decode cc pc = .ok (.putfield index, 3)) (k : ∀ S1, S1 = sf S 1 v → cJ D A p l e R s m args below meth c G nL (wP q i S1) lv (pc + 3) st) : cJ D A p l e R s m args below meth c G nL (wP q i S) lv pc (.int v :: .ref (q 0) :: st) := j_put (ty := .int) X 0 rfl rfl 1 (by decide) tyX2 tyX2_ok nmX2 hin hlk rfl rfl (by decide +kernel) rfl rfl (Nat.le_of_ble_eq_true rfl) rfl d (k _ rfl)
theorem jgP_plan_men (X : cX D i A p s m args meth c cc own nL Ts rt) (hin : ∀ w ∈ u_ws RX2 TX2 14, w ∈ Ts) {index : Nat} (hlk : Cond.fieldLink own index "SeenWaters$Plan" "men" "I" ∈ Ts) (d : decode cc pc = .ok (.getfield index, 3)) (k : cJ D A p l e R s m args below meth c G nL (wP q i S) lv (pc + 3) (.int (S.1 2) :: st)) : cJ D A p l e R s m args below meth c G nL (wP q i S) lv pc (.ref (q 0) :: st) := j_get X 0 rfl rfl 2 (by decide) hin hlk rfl rfl d k
theorem jpP_plan_men (X : cX D i A p s m args meth c cc own nL Ts rt) {v : Int32} (hin : ∀ w ∈ u_ws RX2 TX2 14, w ∈ Ts) {index : Nat} (hlk : Cond.fieldLink own index "SeenWaters$Plan" "men" "I" ∈ Ts) (d : decode cc pc = .ok (.putfield index, 3)) (k : ∀ S1, S1 = sf S 2 v → cJ D A p l e R s m args below meth c G nL (wP q i S1) lv (pc + 3) st) : cJ D A p l e R s m args below meth c G nL (wP q i S) lv pc (.int v :: .ref (q 0) :: st) := j_put (ty := .int) X 0 rfl rfl 2 (by decide) tyX2 tyX2_ok nmX2 hin hlk rfl rfl (by decide +kernel) rfl rfl (Nat.le_of_ble_eq_true rfl) rfl d (k _ rfl)
theorem jgP_plan_mists (X : cX D i A p s m args meth c cc own nL Ts rt) (hin : ∀ w ∈ u_ws RX2 TX2 14, w ∈ Ts) {index : Nat} (hlk : Cond.fieldLink own index "SeenWaters$Plan" "mists" "I" ∈ Ts) (d : decode cc pc = .ok (.getfield index, 3)) (k : cJ D A p l e R s m args below meth c G nL (wP q i S) lv (pc + 3) (.int (S.1 3) :: st)) : cJ D A p l e R s m args below meth c G nL (wP q i S) lv pc (.ref (q 0) :: st) := j_get X 0 rfl rfl 3 (by decide) hin hlk rfl rfl d k
theorem jpP_plan_mists (X : cX D i A p s m args meth c cc own nL Ts rt) {v : Int32} (hin : ∀ w ∈ u_ws RX2 TX2 14, w ∈ Ts) {index : Nat} (hlk : Cond.fieldLink own index "SeenWaters$Plan" "mists" "I" ∈ Ts) (d : decode cc pc = .ok (.putfield index, 3)) (k : ∀ S1, S1 = sf S 3 v → cJ D A p l e R s m args below meth c G nL (wP q i S1) lv (pc + 3) st) : cJ D A p l e R s m args below meth c G nL (wP q i S) lv pc (.int v :: .ref (q 0) :: st) := j_put (ty := .int) X 0 rfl rfl 3 (by decide) tyX2 tyX2_ok nmX2 hin hlk rfl rfl (by decide +kernel) rfl rfl (Nat.le_of_ble_eq_true rfl) rfl d (k _ rfl)
theorem jgP_plan_storeyHigh (X : cX D i A p s m args meth c cc own nL Ts rt) (hin : ∀ w ∈ u_ws RX2 TX2 14, w ∈ Ts) {index : Nat} (hlk : Cond.fieldLink own index "SeenWaters$Plan" "storeyHigh" "I" ∈ Ts) (d : decode cc pc = .ok (.getfield index, 3)) (k : cJ D A p l e R s m args below meth c G nL (wP q i S) lv (pc + 3) (.int (S.1 4) :: st)) : cJ D A p l e R s m args below meth c G nL (wP q i S) lv pc (.ref (q 0) :: st) := j_get X 0 rfl rfl 4 (by decide) hin hlk rfl rfl d k
theorem jpP_plan_storeyHigh (X : cX D i A p s m args meth c cc own nL Ts rt) {v : Int32} (hin : ∀ w ∈ u_ws RX2 TX2 14, w ∈ Ts) {index : Nat} (hlk : Cond.fieldLink own index "SeenWaters$Plan" "storeyHigh" "I" ∈ Ts) (d : decode cc pc = .ok (.putfield index, 3)) (k : ∀ S1, S1 = sf S 4 v → cJ D A p l e R s m args below meth c G nL (wP q i S1) lv (pc + 3) st) : cJ D A p l e R s m args below meth c G nL (wP q i S) lv pc (.int v :: .ref (q 0) :: st) := j_put (ty := .int) X 0 rfl rfl 4 (by decide) tyX2 tyX2_ok nmX2 hin hlk rfl rfl (by decide +kernel) rfl rfl (Nat.le_of_ble_eq_true rfl) rfl d (k _ rfl)
theorem jgP_plan_storeyCost (X : cX D i A p s m args meth c cc own nL Ts rt) (hin : ∀ w ∈ u_ws RX2 TX2 14, w ∈ Ts) {index : Nat} (hlk : Cond.fieldLink own index "SeenWaters$Plan" "storeyCost" "I" ∈ Ts) (d : decode cc pc = .ok (.getfield index, 3)) (k : cJ D A p l e R s m args below meth c G nL (wP q i S) lv (pc + 3) (.int (S.1 5) :: st)) : cJ D A p l e R s m args below meth c G nL (wP q i S) lv pc (.ref (q 0) :: st) := j_get X 0 rfl rfl 5 (by decide) hin hlk rfl rfl d k
theorem jpP_plan_storeyCost (X : cX D i A p s m args meth c cc own nL Ts rt) {v : Int32} (hin : ∀ w ∈ u_ws RX2 TX2 14, w ∈ Ts) {index : Nat} (hlk : Cond.fieldLink own index "SeenWaters$Plan" "storeyCost" "I" ∈ Ts) (d : decode cc pc = .ok (.putfield index, 3)) (k : ∀ S1, S1 = sf S 5 v → cJ D A p l e R s m args below meth c G nL (wP q i S1) lv (pc + 3) st) : cJ D A p l e R s m args below meth c G nL (wP q i S) lv pc (.int v :: .ref (q 0) :: st) := j_put (ty := .int) X 0 rfl rfl 5 (by decide) tyX2 tyX2_ok nmX2 hin hlk rfl rfl (by decide +kernel) rfl rfl (Nat.le_of_ble_eq_true rfl) rfl d (k _ rfl)
theorem jgP_plan_places (X : cX D i A p s m args meth c cc own nL Ts rt) (hin : ∀ w ∈ u_ws RX2 TX2 14, w ∈ Ts) {index : Nat} (hlk : Cond.fieldLink own index "SeenWaters$Plan" "places" "[I" ∈ Ts) (d : decode cc pc = .ok (.getfield index, 3)) (k : cJ D A p l e R s m args below meth c G nL (wP q i S) lv (pc + 3) (.ref (q 1) :: st)) : cJ D A p l e R s m args below meth c G nL (wP q i S) lv pc (.ref (q 0) :: st) := j_get X 0 rfl rfl 6 (by decide) hin hlk rfl rfl d k
theorem jgP_plan_grounds (X : cX D i A p s m args meth c cc own nL Ts rt) (hin : ∀ w ∈ u_ws RX2 TX2 14, w ∈ Ts) {index : Nat} (hlk : Cond.fieldLink own index "SeenWaters$Plan" "grounds" "[I" ∈ Ts) (d : decode cc pc = .ok (.getfield index, 3)) (k : cJ D A p l e R s m args below meth c G nL (wP q i S) lv (pc + 3) (.ref (q 2) :: st)) : cJ D A p l e R s m args below meth c G nL (wP q i S) lv pc (.ref (q 0) :: st) := j_get X 0 rfl rfl 7 (by decide) hin hlk rfl rfl d k
theorem jgP_plan_storeys (X : cX D i A p s m args meth c cc own nL Ts rt) (hin : ∀ w ∈ u_ws RX2 TX2 14, w ∈ Ts) {index : Nat} (hlk : Cond.fieldLink own index "SeenWaters$Plan" "storeys" "[I" ∈ Ts) (d : decode cc pc = .ok (.getfield index, 3)) (k : cJ D A p l e R s m args below meth c G nL (wP q i S) lv (pc + 3) (.ref (q 3) :: st)) : cJ D A p l e R s m args below meth c G nL (wP q i S) lv pc (.ref (q 0) :: st) := j_get X 0 rfl rfl 8 (by decide) hin hlk rfl rfl d k
theorem jgP_plan_stands (X : cX D i A p s m args meth c cc own nL Ts rt) (hin : ∀ w ∈ u_ws RX2 TX2 14, w ∈ Ts) {index : Nat} (hlk : Cond.fieldLink own index "SeenWaters$Plan" "stands" "[I" ∈ Ts) (d : decode cc pc = .ok (.getfield index, 3)) (k : cJ D A p l e R s m args below meth c G nL (wP q i S) lv (pc + 3) (.ref (q 4) :: st)) : cJ D A p l e R s m args below meth c G nL (wP q i S) lv pc (.ref (q 0) :: st) := j_get X 0 rfl rfl 9 (by decide) hin hlk rfl rfl d k
theorem jgP_plan_fish (X : cX D i A p s m args meth c cc own nL Ts rt) (hin : ∀ w ∈ u_ws RX2 TX2 14, w ∈ Ts) {index : Nat} (hlk : Cond.fieldLink own index "SeenWaters$Plan" "fish" "[I" ∈ Ts) (d : decode cc pc = .ok (.getfield index, 3)) (k : cJ D A p l e R s m args below meth c G nL (wP q i S) lv (pc + 3) (.ref (q 5) :: st)) : cJ D A p l e R s m args below meth c G nL (wP q i S) lv pc (.ref (q 0) :: st) := j_get X 0 rfl rfl 10 (by decide) hin hlk rfl rfl d k
theorem jgP_plan_mistFirst (X : cX D i A p s m args meth c cc own nL Ts rt) (hin : ∀ w ∈ u_ws RX2 TX2 14, w ∈ Ts) {index : Nat} (hlk : Cond.fieldLink own index "SeenWaters$Plan" "mistFirst" "[I" ∈ Ts) (d : decode cc pc = .ok (.getfield index, 3)) (k : cJ D A p l e R s m args below meth c G nL (wP q i S) lv (pc + 3) (.ref (q 6) :: st)) : cJ D A p l e R s m args below meth c G nL (wP q i S) lv pc (.ref (q 0) :: st) := j_get X 0 rfl rfl 11 (by decide) hin hlk rfl rfl d k
theorem jgP_plan_mistLast (X : cX D i A p s m args meth c cc own nL Ts rt) (hin : ∀ w ∈ u_ws RX2 TX2 14, w ∈ Ts) {index : Nat} (hlk : Cond.fieldLink own index "SeenWaters$Plan" "mistLast" "[I" ∈ Ts) (d : decode cc pc = .ok (.getfield index, 3)) (k : cJ D A p l e R s m args below meth c G nL (wP q i S) lv (pc + 3) (.ref (q 7) :: st)) : cJ D A p l e R s m args below meth c G nL (wP q i S) lv pc (.ref (q 0) :: st) := j_get X 0 rfl rfl 12 (by decide) hin hlk rfl rfl d k
theorem jgP_plan_mistFar (X : cX D i A p s m args meth c cc own nL Ts rt) (hin : ∀ w ∈ u_ws RX2 TX2 14, w ∈ Ts) {index : Nat} (hlk : Cond.fieldLink own index "SeenWaters$Plan" "mistFar" "[I" ∈ Ts) (d : decode cc pc = .ok (.getfield index, 3)) (k : cJ D A p l e R s m args below meth c G nL (wP q i S) lv (pc + 3) (.ref (q 8) :: st)) : cJ D A p l e R s m args below meth c G nL (wP q i S) lv pc (.ref (q 0) :: st) := j_get X 0 rfl rfl 13 (by decide) hin hlk rfl rfl d k
theorem jlP_plan_places (X : cX D i A p s m args meth c cc own nL Ts rt) {x : Int32} (hix : vp_in x 6) (d : decode cc pc = .ok (.iaload, 1)) (k : cJ D A p l e R s m args below meth c G nL (wP q i S) lv (pc + 1) (.int (S.2.1 0 x.toNatClampNeg) :: st)) : cJ D A p l e R s m args below meth c G nL (wP q i S) lv pc (.int x :: .ref (q 1) :: st) := j_iald X 1 rfl hix d k
theorem jsP_plan_places (X : cX D i A p s m args meth c cc own nL Ts rt) {x v : Int32} (hix : vp_in x 6) (d : decode cc pc = .ok (.iastore, 1)) (k : ∀ S1, S1 = sa S 0 x.toNatClampNeg v → cJ D A p l e R s m args below meth c G nL (wP q i S1) lv (pc + 1) st) : cJ D A p l e R s m args below meth c G nL (wP q i S) lv pc (.int v :: .int x :: .ref (q 1) :: st) := j_iast X 1 rfl hix rfl d (k _ rfl)
theorem jlP_plan_grounds (X : cX D i A p s m args meth c cc own nL Ts rt) {x : Int32} (hix : vp_in x 6) (d : decode cc pc = .ok (.iaload, 1)) (k : cJ D A p l e R s m args below meth c G nL (wP q i S) lv (pc + 1) (.int (S.2.1 1 x.toNatClampNeg) :: st)) : cJ D A p l e R s m args below meth c G nL (wP q i S) lv pc (.int x :: .ref (q 2) :: st) := j_iald X 2 rfl hix d k
theorem jsP_plan_grounds (X : cX D i A p s m args meth c cc own nL Ts rt) {x v : Int32} (hix : vp_in x 6) (d : decode cc pc = .ok (.iastore, 1)) (k : ∀ S1, S1 = sa S 1 x.toNatClampNeg v → cJ D A p l e R s m args below meth c G nL (wP q i S1) lv (pc + 1) st) : cJ D A p l e R s m args below meth c G nL (wP q i S) lv pc (.int v :: .int x :: .ref (q 2) :: st) := j_iast X 2 rfl hix rfl d (k _ rfl)
theorem jlP_plan_storeys (X : cX D i A p s m args meth c cc own nL Ts rt) {x : Int32} (hix : vp_in x 6) (d : decode cc pc = .ok (.iaload, 1)) (k : cJ D A p l e R s m args below meth c G nL (wP q i S) lv (pc + 1) (.int (S.2.1 2 x.toNatClampNeg) :: st)) : cJ D A p l e R s m args below meth c G nL (wP q i S) lv pc (.int x :: .ref (q 3) :: st) := j_iald X 3 rfl hix d k
theorem jsP_plan_storeys (X : cX D i A p s m args meth c cc own nL Ts rt) {x v : Int32} (hix : vp_in x 6) (d : decode cc pc = .ok (.iastore, 1)) (k : ∀ S1, S1 = sa S 2 x.toNatClampNeg v → cJ D A p l e R s m args below meth c G nL (wP q i S1) lv (pc + 1) st) : cJ D A p l e R s m args below meth c G nL (wP q i S) lv pc (.int v :: .int x :: .ref (q 3) :: st) := j_iast X 3 rfl hix rfl d (k _ rfl)
theorem jlP_plan_stands (X : cX D i A p s m args meth c cc own nL Ts rt) {x : Int32} (hix : vp_in x 60) (d : decode cc pc = .ok (.iaload, 1)) (k : cJ D A p l e R s m args below meth c G nL (wP q i S) lv (pc + 1) (.int (S.2.1 3 x.toNatClampNeg) :: st)) : cJ D A p l e R s m args below meth c G nL (wP q i S) lv pc (.int x :: .ref (q 4) :: st) := j_iald X 4 rfl hix d k
theorem jsP_plan_stands (X : cX D i A p s m args meth c cc own nL Ts rt) {x v : Int32} (hix : vp_in x 60) (d : decode cc pc = .ok (.iastore, 1)) (k : ∀ S1, S1 = sa S 3 x.toNatClampNeg v → cJ D A p l e R s m args below meth c G nL (wP q i S1) lv (pc + 1) st) : cJ D A p l e R s m args below meth c G nL (wP q i S) lv pc (.int v :: .int x :: .ref (q 4) :: st) := j_iast X 4 rfl hix rfl d (k _ rfl)
theorem jlP_plan_fish (X : cX D i A p s m args meth c cc own nL Ts rt) {x : Int32} (hix : vp_in x 60) (d : decode cc pc = .ok (.iaload, 1)) (k : cJ D A p l e R s m args below meth c G nL (wP q i S) lv (pc + 1) (.int (S.2.1 4 x.toNatClampNeg) :: st)) : cJ D A p l e R s m args below meth c G nL (wP q i S) lv pc (.int x :: .ref (q 5) :: st) := j_iald X 5 rfl hix d k
theorem jsP_plan_fish (X : cX D i A p s m args meth c cc own nL Ts rt) {x v : Int32} (hix : vp_in x 60) (d : decode cc pc = .ok (.iastore, 1)) (k : ∀ S1, S1 = sa S 4 x.toNatClampNeg v → cJ D A p l e R s m args below meth c G nL (wP q i S1) lv (pc + 1) st) : cJ D A p l e R s m args below meth c G nL (wP q i S) lv pc (.int v :: .int x :: .ref (q 5) :: st) := j_iast X 5 rfl hix rfl d (k _ rfl)
theorem jlP_plan_mistFirst (X : cX D i A p s m args meth c cc own nL Ts rt) {x : Int32} (hix : vp_in x 10) (d : decode cc pc = .ok (.iaload, 1)) (k : cJ D A p l e R s m args below meth c G nL (wP q i S) lv (pc + 1) (.int (S.2.1 5 x.toNatClampNeg) :: st)) : cJ D A p l e R s m args below meth c G nL (wP q i S) lv pc (.int x :: .ref (q 6) :: st) := j_iald X 6 rfl hix d k
theorem jsP_plan_mistFirst (X : cX D i A p s m args meth c cc own nL Ts rt) {x v : Int32} (hix : vp_in x 10) (d : decode cc pc = .ok (.iastore, 1)) (k : ∀ S1, S1 = sa S 5 x.toNatClampNeg v → cJ D A p l e R s m args below meth c G nL (wP q i S1) lv (pc + 1) st) : cJ D A p l e R s m args below meth c G nL (wP q i S) lv pc (.int v :: .int x :: .ref (q 6) :: st) := j_iast X 6 rfl hix rfl d (k _ rfl)
theorem jlP_plan_mistLast (X : cX D i A p s m args meth c cc own nL Ts rt) {x : Int32} (hix : vp_in x 10) (d : decode cc pc = .ok (.iaload, 1)) (k : cJ D A p l e R s m args below meth c G nL (wP q i S) lv (pc + 1) (.int (S.2.1 6 x.toNatClampNeg) :: st)) : cJ D A p l e R s m args below meth c G nL (wP q i S) lv pc (.int x :: .ref (q 7) :: st) := j_iald X 7 rfl hix d k
theorem jsP_plan_mistLast (X : cX D i A p s m args meth c cc own nL Ts rt) {x v : Int32} (hix : vp_in x 10) (d : decode cc pc = .ok (.iastore, 1)) (k : ∀ S1, S1 = sa S 6 x.toNatClampNeg v → cJ D A p l e R s m args below meth c G nL (wP q i S1) lv (pc + 1) st) : cJ D A p l e R s m args below meth c G nL (wP q i S) lv pc (.int v :: .int x :: .ref (q 7) :: st) := j_iast X 7 rfl hix rfl d (k _ rfl)
theorem jlP_plan_mistFar (X : cX D i A p s m args meth c cc own nL Ts rt) {x : Int32} (hix : vp_in x 10) (d : decode cc pc = .ok (.iaload, 1)) (k : cJ D A p l e R s m args below meth c G nL (wP q i S) lv (pc + 1) (.int (S.2.1 7 x.toNatClampNeg) :: st)) : cJ D A p l e R s m args below meth c G nL (wP q i S) lv pc (.int x :: .ref (q 8) :: st) := j_iald X 8 rfl hix d k
theorem jsP_plan_mistFar (X : cX D i A p s m args meth c cc own nL Ts rt) {x v : Int32} (hix : vp_in x 10) (d : decode cc pc = .ok (.iastore, 1)) (k : ∀ S1, S1 = sa S 7 x.toNatClampNeg v → cJ D A p l e R s m args below meth c G nL (wP q i S1) lv (pc + 1) st) : cJ D A p l e R s m args below meth c G nL (wP q i S) lv pc (.int v :: .int x :: .ref (q 8) :: st) := j_iast X 8 rfl hix rfl d (k _ rfl)
end WP

def e_X2_clear_plan_33 (Q : vS → Prop) : Nat → Int32 → vS → Prop
  | 0, _, _ => False
  | n + 1, a1, S => (((60 : Int32) ≤ a1 → Q S) ∧ (¬ (60 : Int32) ≤ a1 → (vp_in a1 60 ∧ (∀ S9 : vS, S9 = sa S 3 (a1).toNatClampNeg (0 : Int32) → (∀ S10 : vS, S10 = sa S9 4 (a1).toNatClampNeg (1 : Int32) → (∀ v11 : Int32, v11 = a1 + (1 : Int32) → e_X2_clear_plan_33 Q n v11 S10))))))
def e_X2_clear_plan (S : vS) (Q : vS → Prop) : Prop := (∀ S1 : vS, S1 = sf S 0 (0 : Int32) → (∀ S2 : vS, S2 = sf S1 1 (0 : Int32) → (∀ S3 : vS, S3 = sf S2 2 (0 : Int32) → (∀ S4 : vS, S4 = sf S3 3 (0 : Int32) → (∀ S5 : vS, S5 = sf S4 4 (3 : Int32) → (∀ S6 : vS, S6 = sf S5 5 (100 : Int32) → (∃ j, e_X2_clear_plan_33 Q j (0 : Int32) S6)))))))
set_option maxRecDepth 100000 in
theorem i_X2_clear_plan_X2 : ∀ w ∈ u_ws RX2 TX2 14, w ∈ wsX2_clear := by decide +kernel
abbrev rm_X2_clear_plan : Room := { frames := 0, cells := 0, slots := 0, locals := 0 }
set_option maxRecDepth 100000 in
set_option maxHeartbeats 4000000 in
theorem w_X2_clear_plan_33 {D : va_G} {i : Nat → ClassId} {q : Nat → Nat} {A : Nat → Prop} {p : Program} {l : Launch} {e : Env} {s : State} {m : MethodId} {args : Array Value} {below : List Frame} {meth : Method} {c : Code} (X : cX D i A p s m args meth c cX2_clear RX2 2 wsX2_clear none) {Q : vS → Prop} : ∀ (n : Nat) (a1 : Int32) (S : vS), e_X2_clear_plan_33 Q n a1 S → cJ D A p l e (headSpec wsX2_clear rm_X2_clear_plan).room s m args below meth c (MQ below (va_Qv Q (vB D i A (wP q i)) A) args s 0 0 A) 2 (wP q i S) [(0, .ref (q 0)), (1, .int a1)] 33 [] := by
  intro n
  induction n with
  | zero =>
    intro _ S h
    rw [e_X2_clear_plan_33.eq_1] at h
    exact h.elim
  | succ n ih =>
    intro a1 S h
    rw [e_X2_clear_plan_33.eq_2] at h
    refine j_iload_n X rfl 1 rfl dX2_clear_33 ?_
    refine j_bipush (v := (60 : Int32)) X (by decide) dX2_clear_34 ?_
    refine j_icmp_ge (tgt := 59) X dX2_clear_36 (by decide) (fun c7 => ?_) (fun c7 => ?_)
    · have h := h.1 c7
      exact j_vret X h dX2_clear_59
    · have h := h.2 c7
      refine j_aload_n X rfl 0 rfl dX2_clear_39 ?_
      refine jgP_plan_stands X i_X2_clear_plan_X2 (by decide +kernel) dX2_clear_40 ?_
      refine j_iload_n X rfl 1 rfl dX2_clear_43 ?_
      refine j_iconst (v := (0 : Int32)) X (by decide) dX2_clear_44 ?_
      obtain ⟨k8, h⟩ := h
      refine jsP_plan_stands X k8 dX2_clear_45 (fun S9 eS9 => ?_)
      have h := h S9 eS9
      refine j_aload_n X rfl 0 rfl dX2_clear_46 ?_
      refine jgP_plan_fish X i_X2_clear_plan_X2 (by decide +kernel) dX2_clear_47 ?_
      refine j_iload_n X rfl 1 rfl dX2_clear_50 ?_
      refine j_iconst (v := (1 : Int32)) X (by decide) dX2_clear_51 ?_
      refine jsP_plan_fish X k8 dX2_clear_52 (fun S10 eS10 => ?_)
      have h := h S10 eS10
      refine j_iinc (dv := (1 : Int32)) (lv' := fun v11 => [(1, .int v11), (0, .ref (q 0))]) X dX2_clear_53 (pl := 1) rfl (by decide) (by decide) (fun _ => rfl) (fun v11 ev11 => ?_)
      have h := h v11 ev11
      refine j_goto (tgt := 33) X dX2_clear_56 (by decide) ?_
      refine j_loc [1, 0] rfl ?_
      exact ih v11 S10 h
set_option maxRecDepth 100000 in
set_option maxHeartbeats 4000000 in
theorem c_X2_clear_plan (l : Launch) (D : va_G) (i : Nat → ClassId) (q : Nat → Nat) (A : Nat → Prop) (S : vS) (Q : vS → Prop) (h : e_X2_clear_plan S Q) : Met l yX2_clear wsX2_clear rm_X2_clear_plan (va_Pc [.ref (q 0)] (vB D i A (wP q i) S)) (va_Qv Q (vB D i A (wP q i)) A) 0 0 A := by
  refine m_ofJ (own := RX2) (lv := [(0, .ref (q 0))]) rfl (by decide) rfl (Nat.le_of_ble_eq_true rfl) rfl ?_
  intro p e s m below meth c X
  unfold e_X2_clear_plan at h
  refine j_aload_n X rfl 0 rfl dX2_clear_0 ?_
  refine j_iconst (v := (0 : Int32)) X (by decide) dX2_clear_1 ?_
  refine jpP_plan_width X i_X2_clear_plan_X2 (by decide +kernel) dX2_clear_2 (fun S1 eS1 => ?_)
  have h := h S1 eS1
  refine j_aload_n X rfl 0 rfl dX2_clear_5 ?_
  refine j_iconst (v := (0 : Int32)) X (by decide) dX2_clear_6 ?_
  refine jpP_plan_height X i_X2_clear_plan_X2 (by decide +kernel) dX2_clear_7 (fun S2 eS2 => ?_)
  have h := h S2 eS2
  refine j_aload_n X rfl 0 rfl dX2_clear_10 ?_
  refine j_iconst (v := (0 : Int32)) X (by decide) dX2_clear_11 ?_
  refine jpP_plan_men X i_X2_clear_plan_X2 (by decide +kernel) dX2_clear_12 (fun S3 eS3 => ?_)
  have h := h S3 eS3
  refine j_aload_n X rfl 0 rfl dX2_clear_15 ?_
  refine j_iconst (v := (0 : Int32)) X (by decide) dX2_clear_16 ?_
  refine jpP_plan_mists X i_X2_clear_plan_X2 (by decide +kernel) dX2_clear_17 (fun S4 eS4 => ?_)
  have h := h S4 eS4
  refine j_aload_n X rfl 0 rfl dX2_clear_20 ?_
  refine j_iconst (v := (3 : Int32)) X (by decide) dX2_clear_21 ?_
  refine jpP_plan_storeyHigh X i_X2_clear_plan_X2 (by decide +kernel) dX2_clear_22 (fun S5 eS5 => ?_)
  have h := h S5 eS5
  refine j_aload_n X rfl 0 rfl dX2_clear_25 ?_
  refine j_bipush (v := (100 : Int32)) X (by decide) dX2_clear_26 ?_
  refine jpP_plan_storeyCost X i_X2_clear_plan_X2 (by decide +kernel) dX2_clear_28 (fun S6 eS6 => ?_)
  have h := h S6 eS6
  refine j_iconst (v := (0 : Int32)) X (by decide) dX2_clear_31 ?_
  refine j_istore_n (lv' := [(1, .int (0 : Int32)), (0, .ref (q 0))]) X rfl (by decide) rfl dX2_clear_32 ?_
  refine j_loc [1, 0] rfl ?_
  obtain ⟨j, h⟩ := h
  exact w_X2_clear_plan_33 X j (0 : Int32) S6 h
