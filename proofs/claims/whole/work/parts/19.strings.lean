/-! ===== the six words: the JDK's own members over them, wordOf, isWord ===== -/
def kix (x : Int32) : Nat := if x.toInt = 0 then 0 else if x.toInt = 1 then 1 else if x.toInt = 2 then 2 else if x.toInt = 3 then 3 else if x.toInt = 4 then 4 else 5
theorem kix_lt (x : Int32) : kix x < 6 := by
  unfold kix
  repeat' split
  all_goals decide
abbrev vlen (k : Nat) : Nat := vLen.getD k 0
/-- the char of word k at place j -/
def vch (k : Nat) (j : Nat) : Int32 := (vByt.getD k []).getD j 0
theorem vch_ok : ∀ k, k < 6 → (vlen k < 100 ∧ ∀ j, j < vlen k → (((vByt.getD k []).getD j 0 &&& 255).toUInt32 % 65536).toInt32 = vch k j ∧ narrow .char (.int (vch k j)) = .int (vch k j)) := by decide +kernel
abbrev rm_J0_coder : Room := { frames := 0, cells := 0, slots := 0, locals := 0 }
abbrev rm_J0_length : Room := { frames := 1, cells := 0, slots := 0, locals := 20 }
abbrev rm_J3_checkIndex : Room := { frames := 0, cells := 0, slots := 0, locals := 0 }
abbrev rm_J0_checkIndex : Room := { frames := 1, cells := 0, slots := 0, locals := 22 }
abbrev rm_J1_charAt : Room := { frames := 2, cells := 0, slots := 0, locals := 43 }
abbrev rm_J0_charAt : Room := { frames := 3, cells := 0, slots := 0, locals := 64 }
abbrev rm_X3_wordOf : Room := { frames := 0, cells := 0, slots := 0, locals := 0 }
abbrev rm_X3_isWord : Room := { frames := 4, cells := 0, slots := 0, locals := 85 }
section ST
variable (l : Launch) (D : va_G) (i : Nat → ClassId) (A : Nat → Prop) (w : vS → va_W)
set_option maxRecDepth 100000 in
set_option maxHeartbeats 4000000 in
theorem c_J0_coder (k : Nat) (hk : k < 6) (S : vS) (Q : Int32 → vS → Prop) (h : Q 0 S) : Met l yJ0_coder_7d493 wsJ0_coder_7d493 rm_J0_coder (va_Pc [.ref (D.2 100 k)] (vB D i A w S)) (va_Qi Q (vB D i A w) A) 0 0 A := by
  refine m_ofJ (own := RJ0) (lv := [(0, .ref (D.2 100 k))]) rfl (by decide) rfl (Nat.le_of_ble_eq_true rfl) rfl ?_
  intro p e s m below meth c X
  refine j_gets X X.ee.2.2.1 (by decide +kernel) dJ0_coder_7d493_0 ?_
  refine j_if_eq (tgt := 13) X dJ0_coder_7d493_3 (by decide) (fun c1 => absurd c1 (by decide)) (fun _ => ?_)
  refine j_aload_n X rfl 0 rfl dJ0_coder_7d493_6 ?_
  refine j_getO X (X.ee.2.1.1 k hk).2.1 (by decide +kernel) dJ0_coder_7d493_7 ?_
  refine j_goto (tgt := 14) X dJ0_coder_7d493_10 (by decide) ?_
  exact j_zret X rfl h dJ0_coder_7d493_14
set_option maxRecDepth 100000 in
set_option maxHeartbeats 4000000 in
theorem c_J0_length (k : Nat) (hk : k < 6) (S : vS) (Q : Int32 → vS → Prop) (h : Q (nI (vlen k)) S) : Met l yJ0_length_8abf5 wsJ0_length_8abf5 rm_J0_length (va_Pc [.ref (D.2 100 k)] (vB D i A w S)) (va_Qi Q (vB D i A w) A) 0 0 A := by
  refine m_ofJ (own := RJ0) (lv := [(0, .ref (D.2 100 k))]) rfl (by decide) rfl (Nat.le_of_ble_eq_true rfl) rfl ?_
  intro p e s m below meth c X
  refine j_aload_n X rfl 0 rfl dJ0_length_8abf5_0 ?_
  refine j_getO X (X.ee.2.1.1 k hk).2.2.1 (by decide +kernel) dJ0_length_8abf5_1 ?_
  refine j_tlen (v := nI (vlen k)) X (X.ee.2.1.1 k hk).2.2.2 rfl dJ0_length_8abf5_4 ?_
  refine j_aload_n X rfl 0 rfl dJ0_length_8abf5_5 ?_
  refine j_Oi (st := [.int (nI (vlen k))]) X [] hk rfl (c_J0_coder l D i A w k hk S (fun r S1 => r = 0 ∧ S1 = S) ⟨rfl, rfl⟩) (cwV 0 X.ts gJ0_length_8abf5_J0_coder_7d493 rfl rfl rfl (by decide +kernel) ⟨Nat.le_of_ble_eq_true rfl, Nat.le_of_ble_eq_true rfl⟩) rfl rfl (Nat.le_of_ble_eq_true rfl) dJ0_length_8abf5_6 (fun r S1 hr => ?_)
  obtain ⟨rfl, rfl⟩ := hr
  refine j_ishr X dJ0_length_8abf5_9 ?_
  have e : nI (vlen k) >>> ((0 : Int32) &&& 31) = nI (vlen k) := sb_shr0 _
  rw [e]
  exact j_iret X h dJ0_length_8abf5_10
set_option maxRecDepth 100000 in
set_option maxHeartbeats 4000000 in
theorem c_J0_isLatin1 (k : Nat) (hk : k < 6) (S : vS) (Q : Int32 → vS → Prop) (h : Q 1 S) : Met l yJ0_isLatin1_aae02 wsJ0_isLatin1_aae02 rm_J0_coder (va_Pc [.ref (D.2 100 k)] (vB D i A w S)) (va_Qi Q (vB D i A w) A) 0 0 A := by
  refine m_ofJ (own := RJ0) (lv := [(0, .ref (D.2 100 k))]) rfl (by decide) rfl (Nat.le_of_ble_eq_true rfl) rfl ?_
  intro p e s m below meth c X
  refine j_gets X X.ee.2.2.1 (by decide +kernel) dJ0_isLatin1_aae02_0 ?_
  refine j_if_eq (tgt := 17) X dJ0_isLatin1_aae02_3 (by decide) (fun c1 => absurd c1 (by decide)) (fun _ => ?_)
  refine j_aload_n X rfl 0 rfl dJ0_isLatin1_aae02_6 ?_
  refine j_getO X (X.ee.2.1.1 k hk).2.1 (by decide +kernel) dJ0_isLatin1_aae02_7 ?_
  refine j_if_ne (tgt := 17) X dJ0_isLatin1_aae02_10 (by decide) (fun c1 => absurd rfl c1) (fun _ => ?_)
  refine j_iconst (v := (1 : Int32)) X (by decide) dJ0_isLatin1_aae02_13 ?_
  refine j_goto (tgt := 18) X dJ0_isLatin1_aae02_14 (by decide) ?_
  exact j_zret X rfl h dJ0_isLatin1_aae02_18
set_option maxRecDepth 100000 in
set_option maxHeartbeats 4000000 in
theorem c_J3_checkIndex (x0 x1 : Int32) (fv : Value) (hfv : fv = .null ∨ ∃ t, fv = .ref t) (h0 : ¬ x0 < 0) (h1 : x0 < x1) (S : vS) (Q : Int32 → vS → Prop) (h : Q x0 S) : Met l yJ3_checkIndex_8e157 wsJ3_checkIndex_8e157 rm_J3_checkIndex (va_Pc [.int x0, .int x1, fv] (vB D i A w S)) (va_Qi Q (vB D i A w) A) 0 0 A := by
  rcases hfv with rfl | ⟨t, rfl⟩
  · refine m_ofJ (own := RJ3) (lv := [(0, .int x0), (1, .int x1), (2, .null)]) rfl (by decide) rfl (Nat.le_of_ble_eq_true rfl) rfl ?_
    intro p e s m below meth c X
    refine j_iload_n X rfl 0 rfl dJ3_checkIndex_8e157_0 ?_
    refine j_if_lt (tgt := 9) X dJ3_checkIndex_8e157_1 (by decide) (fun c1 => absurd c1 h0) (fun _ => ?_)
    refine j_iload_n X rfl 0 rfl dJ3_checkIndex_8e157_4 ?_
    refine j_iload_n X rfl 1 rfl dJ3_checkIndex_8e157_5 ?_
    refine j_icmp_lt (tgt := 16) X dJ3_checkIndex_8e157_6 (by decide) (fun _ => ?_) (fun c1 => absurd h1 c1)
    refine j_iload_n X rfl 0 rfl dJ3_checkIndex_8e157_16 ?_
    exact j_iret X h dJ3_checkIndex_8e157_17
  · refine m_ofJ (own := RJ3) (lv := [(0, .int x0), (1, .int x1), (2, .ref t)]) rfl (by decide) rfl (Nat.le_of_ble_eq_true rfl) rfl ?_
    intro p e s m below meth c X
    refine j_iload_n X rfl 0 rfl dJ3_checkIndex_8e157_0 ?_
    refine j_if_lt (tgt := 9) X dJ3_checkIndex_8e157_1 (by decide) (fun c1 => absurd c1 h0) (fun _ => ?_)
    refine j_iload_n X rfl 0 rfl dJ3_checkIndex_8e157_4 ?_
    refine j_iload_n X rfl 1 rfl dJ3_checkIndex_8e157_5 ?_
    refine j_icmp_lt (tgt := 16) X dJ3_checkIndex_8e157_6 (by decide) (fun _ => ?_) (fun c1 => absurd h1 c1)
    refine j_iload_n X rfl 0 rfl dJ3_checkIndex_8e157_16 ?_
    exact j_iret X h dJ3_checkIndex_8e157_17
set_option maxRecDepth 100000 in
set_option maxHeartbeats 4000000 in
theorem c_J0_checkIndex (x0 x1 : Int32) (h0 : ¬ x0 < 0) (h1 : x0 < x1) (S : vS) (Q : vS → Prop) (h : Q S) : Met l yJ0_checkIndex_df160 wsJ0_checkIndex_df160 rm_J0_checkIndex (va_Pc [.int x0, .int x1] (vB D i A w S)) (va_Qv Q (vB D i A w) A) 0 0 A := by
  refine m_ofJ (own := RJ0) (lv := [(0, .int x0), (1, .int x1)]) rfl (by decide) rfl (Nat.le_of_ble_eq_true rfl) rfl ?_
  intro p e s m below meth c X
  refine j_iload_n X rfl 0 rfl dJ0_checkIndex_df160_0 ?_
  refine j_iload_n X rfl 1 rfl dJ0_checkIndex_df160_1 ?_
  have hz : ∃ fv : Value, (fv = .null ∨ ∃ t, fv = .ref t) ∧ va_Z "jdk/internal/util/Preconditions" "SIOOBE_FORMATTER" "Ljava/util/function/BiFunction;" fv A s s.heap := by
    rcases X.ee.2.2.2 with z | ⟨t, z⟩
    · exact ⟨_, Or.inl rfl, z⟩
    · exact ⟨_, Or.inr ⟨t, rfl⟩, z⟩
  obtain ⟨fv, hfv, hz⟩ := hz
  refine j_gets X hz (by decide +kernel) dJ0_checkIndex_df160_2 ?_
  refine j_Si (st := []) X [.int x0, .int x1, fv] (c_J3_checkIndex l D i A w x0 x1 fv hfv h0 h1 S (fun r S1 => S1 = S) rfl) (va_cwS 3 X.ts gJ0_checkIndex_df160_J3_checkIndex_8e157 rfl rfl rfl (by decide +kernel) ⟨Nat.le_of_ble_eq_true rfl, Nat.le_of_ble_eq_true rfl⟩) rfl rfl (Nat.le_of_ble_eq_true rfl) dJ0_checkIndex_df160_5 (fun r S1 hr => ?_)
  subst hr
  refine j_pop X rfl dJ0_checkIndex_df160_8 ?_
  exact j_vret X h dJ0_checkIndex_df160_9
set_option maxRecDepth 100000 in
set_option maxHeartbeats 4000000 in
theorem c_J1_charAt (k : Nat) (hk : k < 6) (j : Nat) (hj : j < vlen k) (S : vS) (Q : Int32 → vS → Prop) (h : Q (vch k j) S) : Met l yJ1_charAt_3b067 wsJ1_charAt_3b067 rm_J1_charAt (va_Pc [.ref (D.2 101 k), .int (nI j)] (vB D i A w S)) (va_Qi Q (vB D i A w) A) 0 0 A := by
  obtain ⟨hl, hc⟩ := vch_ok k hk
  obtain ⟨e1, e2⟩ := hc j hj
  refine m_ofJ (own := RJ1) (lv := [(0, .ref (D.2 101 k)), (1, .int (nI j))]) rfl (by decide) rfl (Nat.le_of_ble_eq_true rfl) rfl ?_
  intro p e s m below meth c X
  refine j_iload_n X rfl 1 rfl dJ1_charAt_3b067_0 ?_
  refine j_aload_n X rfl 0 rfl dJ1_charAt_3b067_1 ?_
  refine j_tlen (v := nI (vlen k)) X (X.ee.2.1.1 k hk).2.2.2 rfl dJ1_charAt_3b067_2 ?_
  refine j_Sv (st := []) X [.int (nI j), .int (nI (vlen k))] (c_J0_checkIndex l D i A w (nI j) (nI (vlen k)) (nI_pos (by omega)) (nI_lt hj (by omega)) S (fun S1 => S1 = S) rfl) (va_cwS 2 X.ts gJ1_charAt_3b067_J0_checkIndex_df160 rfl rfl rfl (by decide +kernel) ⟨Nat.le_of_ble_eq_true rfl, Nat.le_of_ble_eq_true rfl⟩) rfl rfl (Nat.le_of_ble_eq_true rfl) dJ1_charAt_3b067_3 (fun S1 hr => ?_)
  subst hr
  refine j_aload_n X rfl 0 rfl dJ1_charAt_3b067_6 ?_
  refine j_iload_n X rfl 1 rfl dJ1_charAt_3b067_7 ?_
  refine j_tb (v := .int ((vByt.getD k []).getD j 0)) X (X.ee.2.1.1 k hk).2.2.2 (vp_in_nI hj (show vlen k < 2 ^ 31 by omega)) (by rw [nI_clamp (by omega)]) dJ1_charAt_3b067_8 ?_
  refine j_sipush (v := (255 : Int32)) X (by decide) dJ1_charAt_3b067_9 ?_
  refine j_iand X dJ1_charAt_3b067_12 ?_
  refine j_i2c X dJ1_charAt_3b067_13 ?_
  rw [e1]
  exact j_zret X e2 h dJ1_charAt_3b067_14
set_option maxRecDepth 100000 in
set_option maxHeartbeats 4000000 in
theorem c_J0_charAt (k : Nat) (hk : k < 6) (j : Nat) (hj : j < vlen k) (S : vS) (Q : Int32 → vS → Prop) (h : Q (vch k j) S) : Met l yJ0_charAt_5068e wsJ0_charAt_5068e rm_J0_charAt (va_Pc [.ref (D.2 100 k), .int (nI j)] (vB D i A w S)) (va_Qi Q (vB D i A w) A) 0 0 A := by
  obtain ⟨hl, hc⟩ := vch_ok k hk
  obtain ⟨e1, e2⟩ := hc j hj
  refine m_ofJ (own := RJ0) (lv := [(0, .ref (D.2 100 k)), (1, .int (nI j))]) rfl (by decide) rfl (Nat.le_of_ble_eq_true rfl) rfl ?_
  intro p e s m below meth c X
  refine j_aload_n X rfl 0 rfl dJ0_charAt_5068e_0 ?_
  refine j_Oi (st := []) X [] hk rfl (c_J0_isLatin1 l D i A w k hk S (fun r S1 => r = 1 ∧ S1 = S) ⟨rfl, rfl⟩) (cwV 0 X.ts gJ0_charAt_5068e_J0_isLatin1_aae02 rfl rfl rfl (by decide +kernel) ⟨Nat.le_of_ble_eq_true rfl, Nat.le_of_ble_eq_true rfl⟩) rfl rfl (Nat.le_of_ble_eq_true rfl) dJ0_charAt_5068e_1 (fun r S1 hr => ?_)
  obtain ⟨rfl, rfl⟩ := hr
  refine j_if_eq (tgt := 16) X dJ0_charAt_5068e_4 (by decide) (fun c1 => absurd c1 (by decide)) (fun _ => ?_)
  refine j_aload_n X rfl 0 rfl dJ0_charAt_5068e_7 ?_
  refine j_getO X (X.ee.2.1.1 k hk).2.2.1 (by decide +kernel) dJ0_charAt_5068e_8 ?_
  refine j_iload_n X rfl 1 rfl dJ0_charAt_5068e_11 ?_
  refine j_Si (st := []) X [.ref (D.2 101 k), .int (nI j)] (c_J1_charAt l D i A w k hk j hj S1 (fun r S2 => r = vch k j ∧ S2 = S1) ⟨rfl, rfl⟩) (va_cwS 2 X.ts gJ0_charAt_5068e_J1_charAt_3b067 rfl rfl rfl (by decide +kernel) ⟨Nat.le_of_ble_eq_true rfl, Nat.le_of_ble_eq_true rfl⟩) rfl rfl (Nat.le_of_ble_eq_true rfl) dJ0_charAt_5068e_12 (fun r S2 hr => ?_)
  obtain ⟨rfl, rfl⟩ := hr
  exact j_zret X e2 h dJ0_charAt_5068e_15
def e_X3_wordOf (_ : Int32) (S : vS) (Q : vS → Prop) : Prop := Q S
set_option maxRecDepth 100000 in
set_option maxHeartbeats 4000000 in
theorem c_X3_wordOf (q : Nat → Nat) (x0 : Int32) (S : vS) (Q : vS → Prop) (h : e_X3_wordOf x0 S Q) : Met l yX3_wordOf wsX3_wordOf rm_X3_wordOf (va_Pc [.int x0] (vB D i A (wC q i) S)) (va_Qr Q (fun S1 a t => a = D.2 100 (kix x0) ∧ vB D i A (wC q i) S1 t) A) 0 0 A := by
  refine m_ofJ (own := RX3) (lv := [(0, .int x0)]) rfl (by decide) rfl (Nat.le_of_ble_eq_true rfl) rfl ?_
  intro p e s m below meth c X
  unfold e_X3_wordOf at h
  obtain ⟨z0, z1, z2, z3, z4, z5⟩ := X.ee.1
  refine j_iload_n X rfl 0 rfl dX3_wordOf_0 ?_
  rcases (show (x0.toInt < 0 ∨ 4 < x0.toInt) ∨ x0.toInt = 0 ∨ x0.toInt = 1 ∨ x0.toInt = 2 ∨ x0.toInt = 3 ∨ x0.toInt = 4 by omega) with c1 | c1 | c1 | c1 | c1 | c1
  · refine j_tabOut (tgt := 51) X dX3_wordOf_1 c1 (by decide) ?_
    refine j_ldcS X z5 dX3_wordOf_51 ?_
    have e : kix x0 = 5 := by
      unfold kix
      rw [if_neg (by omega), if_neg (by omega), if_neg (by omega), if_neg (by omega), if_neg (by omega)]
    exact j_aret X (by rw [e]) h dX3_wordOf_53
  · refine j_tabIn (tgt := 36) X dX3_wordOf_1 c1 (by decide) (by decide) rfl (by decide) ?_
    refine j_ldcS X z0 dX3_wordOf_36 ?_
    have e : kix x0 = 0 := by unfold kix; rw [if_pos c1]
    exact j_aret X (by rw [e]) h dX3_wordOf_38
  · refine j_tabIn (tgt := 39) X dX3_wordOf_1 c1 (by decide) (by decide) rfl (by decide) ?_
    refine j_ldcS X z1 dX3_wordOf_39 ?_
    have e : kix x0 = 1 := by unfold kix; rw [if_neg (by omega), if_pos c1]
    exact j_aret X (by rw [e]) h dX3_wordOf_41
  · refine j_tabIn (tgt := 42) X dX3_wordOf_1 c1 (by decide) (by decide) rfl (by decide) ?_
    refine j_ldcS X z2 dX3_wordOf_42 ?_
    have e : kix x0 = 2 := by unfold kix; rw [if_neg (by omega), if_neg (by omega), if_pos c1]
    exact j_aret X (by rw [e]) h dX3_wordOf_44
  · refine j_tabIn (tgt := 45) X dX3_wordOf_1 c1 (by decide) (by decide) rfl (by decide) ?_
    refine j_ldcS X z3 dX3_wordOf_45 ?_
    have e : kix x0 = 3 := by unfold kix; rw [if_neg (by omega), if_neg (by omega), if_neg (by omega), if_pos c1]
    exact j_aret X (by rw [e]) h dX3_wordOf_47
  · refine j_tabIn (tgt := 48) X dX3_wordOf_1 c1 (by decide) (by decide) rfl (by decide) ?_
    refine j_ldcS X z4 dX3_wordOf_48 ?_
    have e : kix x0 = 4 := by unfold kix; rw [if_neg (by omega), if_neg (by omega), if_neg (by omega), if_neg (by omega), if_pos c1]
    exact j_aret X (by rw [e]) h dX3_wordOf_50
/-- isWord over word k: from place j on the bytes are the word's -/
def e_X3_isWord_15 (k : Nat) (Q : Int32 → vS → Prop) : Nat → Int32 → Nat → vS → Prop
  | 0, _, _, _ => False
  | n + 1, a1, j, S => (vlen k ≤ j → Q (1 : Int32) S) ∧ (j < vlen k → (vp_in (a1 + nI j) 500 ∧ ((S.2.1 17 (a1 + nI j).toNatClampNeg = vch k j → e_X3_isWord_15 k Q n a1 (j + 1) S) ∧ (¬ S.2.1 17 (a1 + nI j).toNatClampNeg = vch k j → Q (0 : Int32) S))))
def e_X3_isWord (k : Nat) (x1 x2 : Int32) (S : vS) (Q : Int32 → vS → Prop) : Prop := ((x2 - x1) = nI (vlen k) → ∃ j, e_X3_isWord_15 k Q j x1 0 S) ∧ (¬ (x2 - x1) = nI (vlen k) → Q (0 : Int32) S)
set_option maxRecDepth 100000 in
theorem i_X3_isWord_X3 : ∀ w ∈ u_ws RX3 TX3 9, w ∈ wsX3_isWord := by decide +kernel
end ST
set_option maxRecDepth 100000 in
set_option maxHeartbeats 4000000 in
theorem w_X3_isWord_15 {D : va_G} {i : Nat → ClassId} {q : Nat → Nat} {A : Nat → Prop} {p : Program} {l : Launch} {e : Env} {s : State} {m : MethodId} {args : Array Value} {below : List Frame} {meth : Method} {c : Code} (X : cX D i A p s m args meth c cX3_isWord RX3 5 wsX3_isWord (some .boolean)) {Q : Int32 → vS → Prop} {k : Nat} (hk : k < 6) : ∀ (n : Nat) (a1 : Int32) (j : Nat) (S : vS), j ≤ vlen k → e_X3_isWord_15 k Q n a1 j S → cJ D A p l e (headSpec wsX3_isWord rm_X3_isWord).room s m args below meth c (MQ below (va_Qi Q (vB D i A (wC q i)) A) args s 0 0 A) 5 (wC q i S) [(0, .ref (q 3)), (1, .int a1), (3, .ref (D.2 100 k)), (4, .int (nI j))] 15 [] := by
  obtain ⟨hl, -⟩ := vch_ok k hk
  intro n
  induction n with
  | zero =>
    intro _ _ S _ h
    rw [e_X3_isWord_15.eq_1] at h
    exact h.elim
  | succ n ih =>
    intro a1 j S hj h
    rw [e_X3_isWord_15.eq_2] at h
    refine j_iload X 3 rfl dX3_isWord_15 ?_
    refine j_aload_n X rfl 2 rfl dX3_isWord_17 ?_
    refine j_Oi (st := [.int (nI j)]) X [] hk rfl (c_J0_length l D i A (wC q i) k hk S (fun r S1 => r = nI (vlen k) ∧ S1 = S) ⟨rfl, rfl⟩) (cwV 0 X.ts gX3_isWord_J0_length_8abf5 rfl rfl rfl (by decide +kernel) ⟨Nat.le_of_ble_eq_true rfl, Nat.le_of_ble_eq_true rfl⟩) rfl rfl (Nat.le_of_ble_eq_true rfl) dX3_isWord_18 (fun r S1 hr => ?_)
    obtain ⟨rfl, rfl⟩ := hr
    refine j_icmp_ge (tgt := 50) X dX3_isWord_21 (by decide) (fun c1 => ?_) (fun c1 => ?_)
    · have h := h.1 ((nI_leI (by omega) (by omega)).mp c1)
      refine j_iconst (v := (1 : Int32)) X (by decide) dX3_isWord_50 ?_
      exact j_zret X rfl h dX3_isWord_51
    · have hj2 : j < vlen k := Nat.not_le.mp (fun z => c1 ((nI_leI (by omega) (by omega)).mpr z))
      obtain ⟨k1, h⟩ := h.2 hj2
      refine j_aload_n X rfl 0 rfl dX3_isWord_24 ?_
      refine jgC_reader_bytes X i_X3_isWord_X3 (by decide +kernel) dX3_isWord_25 ?_
      refine j_iload_n X rfl 1 rfl dX3_isWord_28 ?_
      refine j_iload X 3 rfl dX3_isWord_29 ?_
      refine j_iadd X dX3_isWord_31 ?_
      refine jlC_reader_bytes X k1 dX3_isWord_32 ?_
      refine j_aload_n X rfl 2 rfl dX3_isWord_33 ?_
      refine j_iload X 3 rfl dX3_isWord_34 ?_
      refine j_Oi (st := [.int (S1.2.1 17 (a1 + nI j).toNatClampNeg)]) X [.int (nI j)] hk rfl (c_J0_charAt l D i A (wC q i) k hk j hj2 S1 (fun r S2 => r = vch k j ∧ S2 = S1) ⟨rfl, rfl⟩) (cwV 1 X.ts gX3_isWord_J0_charAt_5068e rfl rfl rfl (by decide +kernel) ⟨Nat.le_of_ble_eq_true rfl, Nat.le_of_ble_eq_true rfl⟩) rfl rfl (Nat.le_of_ble_eq_true rfl) dX3_isWord_36 (fun r S2 hr => ?_)
      obtain ⟨rfl, rfl⟩ := hr
      refine j_icmp_eq (tgt := 44) X dX3_isWord_39 (by decide) (fun c2 => ?_) (fun c2 => ?_)
      · have h := h.1 c2
        refine j_iinc (dv := (1 : Int32)) (lv' := fun v => [(4, .int v), (0, .ref (q 3)), (1, .int a1), (3, .ref (D.2 100 k))]) X dX3_isWord_44 (pl := 3) rfl (by decide) (by decide) (fun _ => rfl) (fun v ev => ?_)
        rw [← nI_succ] at ev
        subst ev
        refine j_goto (tgt := 15) X dX3_isWord_47 (by decide) ?_
        refine j_loc [1, 2, 3, 0] rfl ?_
        exact ih a1 (j + 1) S2 hj2 h
      · have h := h.2 c2
        refine j_iconst (v := (0 : Int32)) X (by decide) dX3_isWord_42 ?_
        exact j_zret X rfl h dX3_isWord_43
set_option maxRecDepth 100000 in
set_option maxHeartbeats 4000000 in
theorem c_X3_isWord (l : Launch) (D : va_G) (i : Nat → ClassId) (q : Nat → Nat) (A : Nat → Prop) (k : Nat) (hk : k < 6) (x1 x2 : Int32) (S : vS) (Q : Int32 → vS → Prop) (h : e_X3_isWord k x1 x2 S Q) : Met l yX3_isWord wsX3_isWord rm_X3_isWord (va_Pc [.ref (q 3), .int x1, .int x2, .ref (D.2 100 k)] (vB D i A (wC q i) S)) (va_Qi Q (vB D i A (wC q i)) A) 0 0 A := by
  refine m_ofJ (own := RX3) (lv := [(0, .ref (q 3)), (1, .int x1), (2, .int x2), (3, .ref (D.2 100 k))]) rfl (by decide) rfl (Nat.le_of_ble_eq_true rfl) rfl ?_
  intro p e s m below meth c X
  unfold e_X3_isWord at h
  refine j_iload_n X rfl 2 rfl dX3_isWord_0 ?_
  refine j_iload_n X rfl 1 rfl dX3_isWord_1 ?_
  refine j_isub X dX3_isWord_2 ?_
  refine j_aload_n X rfl 3 rfl dX3_isWord_3 ?_
  refine j_Oi (st := [.int (x2 - x1)]) X [] hk rfl (c_J0_length l D i A (wC q i) k hk S (fun r S1 => r = nI (vlen k) ∧ S1 = S) ⟨rfl, rfl⟩) (cwV 0 X.ts gX3_isWord_J0_length_8abf5 rfl rfl rfl (by decide +kernel) ⟨Nat.le_of_ble_eq_true rfl, Nat.le_of_ble_eq_true rfl⟩) rfl rfl (Nat.le_of_ble_eq_true rfl) dX3_isWord_4 (fun r S1 hr => ?_)
  obtain ⟨rfl, rfl⟩ := hr
  refine j_icmp_eq (tgt := 12) X dX3_isWord_7 (by decide) (fun c1 => ?_) (fun c1 => ?_)
  · obtain ⟨j, h⟩ := h.1 c1
    refine j_iconst (v := (0 : Int32)) X (by decide) dX3_isWord_12 ?_
    refine j_istore (lv' := [(4, .int (0 : Int32)), (0, .ref (q 3)), (1, .int x1), (2, .int x2), (3, .ref (D.2 100 k))]) X (by decide) rfl dX3_isWord_13 ?_
    refine j_loc [1, 2, 4, 0] rfl ?_
    exact w_X3_isWord_15 X hk j x1 0 S1 (Nat.zero_le _) h
  · have h := h.2 c1
    refine j_iconst (v := (0 : Int32)) X (by decide) dX3_isWord_10 ?_
    exact j_zret X rfl h dX3_isWord_11
