/-! ===== lake: a clause's numbers, step by step on both sides ===== -/
def R73 (k : Int32) (m p : Nat) (C X : vS) : Prop := ∀ Q : vS → Prop, Q X → e_X3_readStatement_73 Q (m + 1 - p) k (nI m) (nI p) C
def FCx (T : Nat → Int) (t : Nat) (C0 X : vS) (k : Int) (f : Nat) : Prop := txC T t X ∧ frC C0 X ∧ X.1 13 = iI k ∧ X.1 14 = nI f ∧ ∃ a, a ≤ t ∧ X.1 15 = nI a
def FM (M0 : vS) (e : (Int32 → vS → Prop) → Prop) (k : Int) (f : Nat) : Prop := ∃ N, frL M0 N ∧ N.1 10 = nI f ∧ runV e (iI k) N
def eC (k m : Nat) (C : vS) : (vS → Prop) → Prop := fun Q => e_X3_readStatement_73 Q (m + 1) (nI k) (nI m) (nI 0) C
def eM (k a b : Nat) (s : Int) (M : vS) : (Int32 → vS → Prop) → Prop := fun Q => e_X7_takeClause_313 Q (nI k) 0 (mW M a b s)
theorem mA_sf {j : Nat} (h : 11 ≠ j) (M : vS) (x : Nat) (v : Int32) : sf (mA M x) j v = mA (sf M j v) x := sf_comm M h _ _
theorem cA_sf {j : Nat} (h : 15 ≠ j) (M : vS) (x : Nat) (v : Int32) : sf (cA M x) j v = cA (sf M j v) x := sf_comm M h _ _
theorem mA_sa (M : vS) (x r i : Nat) (v : Int32) : sa (mA M x) r i v = mA (sa M r i v) x := rfl
theorem cA_sa (M : vS) (x r i : Nat) (v : Int32) : sa (cA M x) r i v = cA (sa M r i v) x := rfl
section TT
variable {C M C0 M0 X : vS} {T : Nat → Int} {t a b m p k : Nat} {lo hi : Int} {s : Int} {kk : Int32}
theorem fcx (hC : txC T t C) (h : frC C0 C) {x f : Nat} {z : Int} (hx : x ≤ t) : FCx T t C0 (cF (cA C x) z f) z f := ⟨hC, frC_F (frC_A h _) _ _, rfl, rfl, x, hx, rfl⟩
theorem ncd14 : 1 ≤ nCd T t a ∧ nCd T t a ≤ 4 := by
  rcases nCd_bd (T := T) (t := t) (a := a) with h | h <;> rw [h] <;> decide
theorem nle {z : Int} (h : 1 ≤ z ∧ z ≤ 4) : ¬ iI z ≤ 0 := (ne0 ⟨h.1, by omega⟩).2.1
theorem nz {z : Int} (h : 1 ≤ z ∧ z ≤ 4) : ¬ iI z = 0 := (ne0 ⟨h.1, by omega⟩).1
theorem r_no (ht : okT T t) (hC : txC T t C) (ha : a ≤ t) (h13 : C.1 13 = 0) (hm : m ≤ 3) (hp : p < m) (blo : -1000 ≤ lo ∧ lo ≤ 1000) (bhi : -1000 ≤ hi ∧ hi ≤ 1000) (hlo : ∀ (S : vS) (Q : Int32 → vS → Prop), Q (iI lo) S → e_X3_leastOf kk (nI p) S Q) (hhi : ∀ Q : Int32 → vS → Prop, Q (iI hi) (cA C (p2 T t a)) → e_X3_mostOf kk (nI p) (cA C (p2 T t a)) Q) (h : ¬ nOK T t a lo hi) : R73 kk m p (cA C a) (cF (cA C (p2 T t a)) (nCd T t a) (p1 T t a)) := by
  intro Q hq
  have e : m + 1 - p = (m - p - 1 + 1) + 1 := by omega
  rw [e]
  refine c73_step hm hp h13 (pC_num_no ht hC ha (pn := p) (by omega) rfl blo bhi hlo hhi h) ?_
  exact c73_fail (nz ncd14) hq
theorem r_cl (ht : okT T t) (hC : txC T t C) (ha : a ≤ t) (h13 : C.1 13 = 0) (hm : m ≤ 3) (hp : p < m) (blo : -1000 ≤ lo ∧ lo ≤ 1000) (bhi : -1000 ≤ hi ∧ hi ≤ 1000) (hlo : ∀ (S : vS) (Q : Int32 → vS → Prop), Q (iI lo) S → e_X3_leastOf kk (nI p) S Q) (hhi : ∀ Q : Int32 → vS → Prop, Q (iI hi) (cA C (p2 T t a)) → e_X3_mostOf kk (nI p) (cA C (p2 T t a)) Q) (h : nOK T t a lo hi) (hcl : runV (e_X3_clashes kk (nI p) (iI (zN T t a)) (cA C (p2 T t a))) 1 (cA C (p2 T t a))) : R73 kk m p (cA C a) (cF (cA C (p2 T t a)) 4 (p1 T t a)) := by
  intro Q hq
  have e : m + 1 - p = (m - p - 1 + 1) + 1 := by omega
  rw [e]
  refine c73_step hm hp h13 (pC_num_cl ht hC ha (pn := p) (by omega) rfl blo bhi hlo hhi h hcl) ?_
  exact c73_fail (nz (z := 4) (by decide)) hq
theorem r_ok (ht : okT T t) (hC : txC T t C) (ha : a ≤ t) (h13 : C.1 13 = 0) (hm : m ≤ 3) (hp : p < m) (blo : -1000 ≤ lo ∧ lo ≤ 1000) (bhi : -1000 ≤ hi ∧ hi ≤ 1000) (hlo : ∀ (S : vS) (Q : Int32 → vS → Prop), Q (iI lo) S → e_X3_leastOf kk (nI p) S Q) (hhi : ∀ Q : Int32 → vS → Prop, Q (iI hi) (cA C (p2 T t a)) → e_X3_mostOf kk (nI p) (cA C (p2 T t a)) Q) (h : nOK T t a lo hi) (hcl : runV (e_X3_clashes kk (nI p) (iI (zN T t a)) (cA C (p2 T t a))) 0 (cA C (p2 T t a))) (nx : R73 kk m (p + 1) (cA (sa C 18 p (iI (zN T t a))) (p2 T t a)) X) : R73 kk m p (cA C a) X := by
  intro Q hq
  have e : m + 1 - p = (m + 1 - (p + 1)) + 1 := by omega
  rw [e]
  exact c73_step hm hp h13 (pC_num_ok ht hC ha (pn := p) (by omega) rfl blo bhi hlo hhi h hcl) (nx Q hq)
theorem r_end_no (ht : okT T t) (hC : txC T t C) (ha : a ≤ t) (h13 : C.1 13 = 0) (hm : m ≤ 3) (h : ¬ eOK T t a) : R73 kk m m (cA C a) (cF (cA C (sk T t a)) 1 (sk T t a)) := by
  intro Q hq
  have e : m + 1 - m = 0 + 1 := by omega
  rw [e]
  exact c73_end hm h13 ((pC_end ht hC ha).2 h) ⟨fun _ => hq, fun c => absurd c (nz (z := 1) (by decide))⟩
theorem r_end_ok (ht : okT T t) (hC : txC T t C) (ha : a ≤ t) (h13 : C.1 13 = 0) (hm : m ≤ 3) (h : eOK T t a) (hp : runU (e_X3_put kk (cA C (sk T t a + 1))) X) : R73 kk m m (cA C a) X := by
  intro Q hq
  have e : m + 1 - m = 0 + 1 := by omega
  rw [e]
  exact c73_end hm h13 ((pC_end ht hC ha).1 h) ⟨fun c => absurd h13 c, fun _ => hp Q hq⟩
theorem g313 {Q : Int32 → vS → Prop} (h : e_X7_takeKind kk (mA (mK M b s) b) (fin313 Q)) : e_X7_takeClause_313 Q kk 0 (mW M a b s) := by
  unfold e_X7_takeClause_313
  refine ⟨fun _ S47 e47 => ?_, fun c => absurd rfl c⟩
  have e : S47 = mA (mK M b s) b := by
    rw [e47, mW_A]
    exact sf_sf _ _ _ _
  rw [e]
  exact h
theorem oc_f {z : Int} {f : Nat} (cR : R73 (nI k) m 0 C X) (fx : FCx T t C0 X z f) (mR : FM M0 (e_X7_takeKind (nI k) (mA (mK M b s) b)) z f) (hz : 1 ≤ z ∧ z ≤ 4) : OC T t C0 M0 a (eC k m C) (eM k a b s M) := by
  obtain ⟨N, n1, n2, n3⟩ := mR
  refine Or.inr ⟨X, sf N 11 (N.1 11 + 1), z, fun Q hq => cR Q hq, fun Q hq => ?_, fx.1, ⟨fx.2.1, frL_sf n1 (by decide) (by decide) _⟩, fx.2.2.1, hz, ⟨f, fx.2.2.2.1, n2⟩, fx.2.2.2.2⟩
  refine g313 (n3 _ ?_)
  unfold fin313
  exact ⟨fun _ S51 e51 => by rw [e51]; exact hq, fun c => absurd c (nz hz)⟩
theorem oc_e {C1 C2 N : vS} {x : Nat} (ht : okT T t) (hm : m ≤ 3) (pre : ∀ X, R73 (nI k) m m (cA C2 x) X → R73 (nI k) m 0 C1 X) (mR : runV (e_X7_takeKind (nI k) (mA (mK M b s) b)) 0 (mA N x)) (hC : txC T t C2) (hN : txM T t N) (fC : frC C0 C2) (fN : frL M0 N) (h13 : C2.1 13 = 0) (hx : x ≤ t) (hax : a < x) (hput : ∀ y, y ≤ t → ∃ X, runU (e_X3_put (nI k) (cA C2 y)) X ∧ PR T t C0 M0 y X (mA N y)) : OC T t C0 M0 a (eC k m C1) (eM k a b s M) := by
  have hs := sk_le (T := T) hx
  by_cases o : eOK T t x
  · have o1 := o.1
    obtain ⟨X, x1, x2⟩ := hput (sk T t x + 1) (by omega)
    exact Or.inl ⟨X, mA N (sk T t x + 1), sk T t x + 1, by omega, by omega, fun Q hq => pre X (r_end_ok ht hC hx h13 hm o x1) Q hq, fun Q hq => g313 (mR _ (pM_semi ht hN hx (fun _ => hq) (fun c => absurd o c))), x2⟩
  · exact Or.inr ⟨cF (cA C2 (sk T t x)) 1 (sk T t x), sf (mA N (sk T t x)) 10 (nI (sk T t x)), 1, fun Q hq => pre _ (r_end_no ht hC hx h13 hm o) Q hq, fun Q hq => g313 (mR _ (pM_semi ht hN hx (fun c => absurd c o) (fun _ => hq))), hC, ⟨frC_F (frC_A fC _) _ _, frL_sf (frL_A fN _) (by decide) (by decide) _⟩, rfl, by decide, ⟨sk T t x, rfl, rfl⟩, sk T t x, hs.2, rfl⟩
theorem fm_num (ht : okT T t) (hM : txM T t M) (fM : frL M0 M) (ha : a ≤ t) (blo : -1000 ≤ lo ∧ lo ≤ 1000) (bhi : -1000 ≤ hi ∧ hi ≤ 1000) (h : ¬ nOK T t a lo hi) : FM M0 (e_X7_takeNumber (iI lo) (iI hi) (mA M a)) (nCd T t a) (p1 T t a) := by
  obtain ⟨N, n1, n2, n3⟩ := (pM_take ht hM ha blo bhi).2 h
  exact ⟨N, frL_fr fM n1, n2, n3⟩
theorem m_num (ht : okT T t) (hM : txM T t M) (ha : a ≤ t) (blo : -1000 ≤ lo ∧ lo ≤ 1000) (bhi : -1000 ≤ hi ∧ hi ≤ 1000) (h : nOK T t a lo hi) : runV (e_X7_takeNumber (iI lo) (iI hi) (mA M a)) 0 (mA (mZ M (p1 T t a) (zN T t a)) (p2 T t a)) := by
  have := (pM_take ht hM ha blo bhi).1 h
  rw [mN_A] at this
  exact this
end TT
section KK
variable {S N : vS} {r : Int32}
theorem tk0 (h : runV (e_X7_takeLake S) r N) : runV (e_X7_takeKind (nI 0) S) r N := fun Q hq => by
  unfold e_X7_takeKind
  exact ⟨fun c => absurd rfl c, fun _ => h _ hq⟩
theorem tk1 (h : runV (e_X7_takeDoor S) r N) : runV (e_X7_takeKind (nI 1) S) r N := fun Q hq => by
  unfold e_X7_takeKind
  exact ⟨fun _ => ⟨fun c => absurd rfl c, fun _ => h _ hq⟩, fun c => absurd c (by decide)⟩
theorem tk2 (h : runV (e_X7_takeCell_mod_readStand 1 (sf S 18 (S.1 18 + 1))) r N) : runV (e_X7_takeKind (nI 2) S) r N := fun Q hq => by
  unfold e_X7_takeKind
  exact ⟨fun _ => ⟨fun _ => ⟨fun c => absurd rfl c, fun _ => fun S13 e13 => by rw [e13]; exact h _ hq⟩, fun c => absurd c (by decide)⟩, fun c => absurd c (by decide)⟩
theorem tk3 (h : runV (e_X7_takeCell_mod_readFish 0 (sf S 19 (S.1 19 + 1))) r N) : runV (e_X7_takeKind (nI 3) S) r N := fun Q hq => by
  unfold e_X7_takeKind
  exact ⟨fun _ => ⟨fun _ => ⟨fun _ => ⟨fun c => absurd rfl c, fun _ => fun S13 e13 => by rw [e13]; exact h _ hq⟩, fun c => absurd c (by decide)⟩, fun c => absurd c (by decide)⟩, fun c => absurd c (by decide)⟩
theorem tk4 (h : runV (e_X7_takeMist S) r N) : runV (e_X7_takeKind (nI 4) S) r N := fun Q hq => by
  unfold e_X7_takeKind
  exact ⟨fun _ => ⟨fun _ => ⟨fun _ => ⟨fun _ => ⟨fun c => absurd rfl c, fun _ => h _ hq⟩, fun c => absurd c (by decide)⟩, fun c => absurd c (by decide)⟩, fun c => absurd c (by decide)⟩, fun c => absurd c (by decide)⟩
theorem tk5 (h : runV (e_X7_takeStorey S) r N) : runV (e_X7_takeKind (nI 5) S) r N := fun Q hq => by
  unfold e_X7_takeKind
  exact ⟨fun _ => ⟨fun _ => ⟨fun _ => ⟨fun _ => ⟨fun _ => h _ hq, fun c => absurd c (by decide)⟩, fun c => absurd c (by decide)⟩, fun c => absurd c (by decide)⟩, fun c => absurd c (by decide)⟩, fun c => absurd c (by decide)⟩
end KK
