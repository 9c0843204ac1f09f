/-! ===== towers: the moves taken back by the class ===== -/
def tStep (fst : Bool) (rA rB : Nat) (F : Nat → Nat → Int32) (i j : Nat) : Int32 :=
  if fst then (if i < rA then (if F i j < F (i + 1) j then F (i + 1) j else F i j) else F i j)
  else (if j < rB then (if F i (j + 1) < F i j then F i (j + 1) else F i j) else F i j)
theorem tS1 {rA rB i j : Nat} {F : Nat → Nat → Int32} (h : i < rA) : tStep true rA rB F i j = if F i j < F (i + 1) j then F (i + 1) j else F i j := by
  unfold tStep
  rw [if_pos rfl, if_pos h]
theorem tS2 {rA rB i j : Nat} {F : Nat → Nat → Int32} (h : ¬ i < rA) : tStep true rA rB F i j = F i j := by
  unfold tStep
  rw [if_pos rfl, if_neg h]
theorem tS3 {rA rB i j : Nat} {F : Nat → Nat → Int32} (h : j < rB) : tStep false rA rB F i j = if F i (j + 1) < F i j then F i (j + 1) else F i j := by
  unfold tStep
  rw [if_neg (by decide), if_pos h]
theorem tS4 {rA rB i j : Nat} {F : Nat → Nat → Int32} (h : ¬ j < rB) : tStep false rA rB F i j = F i j := by
  unfold tStep
  rw [if_neg (by decide), if_neg h]
def tMid (fst : Bool) (F : Nat → Nat → Int32) (rA rB i j : Nat) (e : Nat → Int32) : Prop := ∀ i' j', i' ≤ rA → j' ≤ rB → e (4 * i' + j') = if (i' < i ∨ (i' = i ∧ j' < j)) then tStep fst rA rB F i' j' else F i' j'
theorem tMid_next {fst : Bool} {F : Nat → Nat → Int32} {rA rB i j : Nat} {e : Nat → Int32} (h : tMid fst F rA rB i j e) (hi : i ≤ 3) (hB : rB ≤ 3) {x : Int32} (hx : i ≤ rA → j ≤ rB → x = tStep fst rA rB F i j) (hj : j ≤ rB) : tMid fst F rA rB i (j + 1) (upd e (4 * i + j) x) := by
  intro i' j' a1 a2
  by_cases k : i' = i ∧ j' = j
  · obtain ⟨k1, k2⟩ := k
    rw [k1, k2, pk_us, if_pos (by omega), hx (by omega) (by omega)]
  · rw [pk_un (by omega), h i' j' a1 a2]
    by_cases c : (i' < i ∨ (i' = i ∧ j' < j))
    · rw [if_pos c, if_pos (by omega)]
    · rw [if_neg c, if_neg (by omega)]
theorem tMid_skip {fst : Bool} {F : Nat → Nat → Int32} {rA rB i j : Nat} {e : Nat → Int32} (h : tMid fst F rA rB i j e) (hx : tStep fst rA rB F i j = F i j) : tMid fst F rA rB i (j + 1) e := by
  intro i' j' a1 a2
  rw [h i' j' a1 a2]
  by_cases k : i' = i ∧ j' = j
  · obtain ⟨k1, k2⟩ := k
    rw [k1, k2, if_neg (by omega), if_pos (by omega), hx]
  · by_cases c : (i' < i ∨ (i' = i ∧ j' < j))
    · rw [if_pos c, if_pos (by omega)]
    · rw [if_neg c, if_neg (by omega)]
section TT
variable {B : vS}
theorem at4 {i j : Nat} : iI (i : Int) * (4 : Int32) + iI (j : Int) = iI ((4 * i + j : Nat) : Int) := by
  rw [show (4 : Int32) = iI 4 from rfl, iI_mul, iI_add]
  congr 1
  omega
theorem pC_back_15 {fst : Bool} {rA rB i : Nat} (rA3 : rA ≤ 3) (rB3 : rB ≤ 3) (hi : i ≤ rA) {F : Nat → Nat → Int32} {Q : vS → Prop} {K : Int32 → Int32 → Int32 → Int32 → Int32 → vS → Prop} (hK : ∀ e, tMid fst F rA rB (i + 1) 0 e → K (bI fst) (iI rA) (iI rB) 4 (iI ((i + 1 : Nat) : Int)) (sr B 0 e)) :
    ∀ (r j : Nat), j + r = rB + 1 → ∀ e : Nat → Int32, tMid fst F rA rB i j e → e_X6_takeMoveBack_15 K Q (r + 1) (bI fst) (iI rA) (iI rB) 4 (iI i) (iI j) (sr B 0 e) := by
  intro r
  induction r with
  | zero =>
    intro j hj e he
    unfold e_X6_takeMoveBack_15
    rw [iI_lt (sm_of (by omega) (by omega)) (sm_of (by omega) (by omega)), L1, iI_add]
    refine ⟨fun _ v3 e3 => ?_, fun c => absurd (by omega) c⟩
    rw [e3]
    refine hK e (fun i' j' a1 a2 => ?_)
    rw [he i' j' a1 a2]
    by_cases c : (i' < i ∨ (i' = i ∧ j' < j))
    · rw [if_pos c, if_pos (by omega)]
    · rw [if_neg c, if_neg (by omega)]
  | succ r ih =>
    intro j hj e he
    have hgo : ∀ e2, tMid fst F rA rB i (j + 1) e2 → ∀ v, v = iI (j : Int) + (1 : Int32) → e_X6_takeMoveBack_15 K Q (r + 1) (bI fst) (iI rA) (iI rB) 4 (iI i) v (sr B 0 e2) := by
      intro e2 h2 v ev
      rw [ev, L1, iI_add]
      exact ih (j + 1) (by omega) e2 h2
    unfold e_X6_takeMoveBack_15
    rw [iI_lt (sm_of (by omega) (by omega)) (sm_of (by omega) (by omega))]
    refine ⟨fun c => absurd c (by omega), fun _ v4 e4 => ?_⟩
    rw [at4] at e4
    rw [e4]
    have h0 := he i j hi (by omega)
    rw [if_neg (by omega)] at h0
    cases fst with
    | true =>
      refine ⟨fun c => absurd c (by decide), fun _ => ?_⟩
      rw [iI_le (sm_of (by omega) (by omega)) (sm_of (by omega) (by omega))]
      refine ⟨fun c => ⟨fun _ => hgo e (tMid_skip he (tS2 (by omega))), fun c => absurd c (by decide)⟩, fun c => ?_⟩
      have e5 : iI ((4 * i + j : Nat) : Int) + (4 : Int32) = iI ((4 * (i + 1) + j : Nat) : Int) := by
        rw [show (4 : Int32) = iI 4 from rfl, iI_add]
        congr 1
        omega
      have h1 := he (i + 1) j (by omega) (by omega)
      rw [if_neg (by omega)] at h1
      rw [e5, cl_nat (by omega), cl_nat (by omega), sr_at, h0, h1, sa_sr]
      refine ⟨in_nat (by omega) (by omega) (by omega), in_nat (by omega) (by omega) (by omega), fun S9 e9 => ?_⟩
      rw [e9]
      refine ⟨fun _ => hgo _ (tMid_next he (by omega) rB3 (fun _ _ => (tS1 (by omega)).symm) (by omega)), fun c => absurd c (by decide)⟩
    | false =>
      refine ⟨fun _ => ?_, fun c => absurd rfl c⟩
      unfold e_X6_takeMoveBack_68
      refine ⟨fun c => absurd rfl c, fun _ => ?_⟩
      rw [iI_le (sm_of (by omega) (by omega)) (sm_of (by omega) (by omega))]
      refine ⟨fun c => hgo e (tMid_skip he (tS4 (by omega))), fun c => ?_⟩
      have e5 : iI ((4 * i + j : Nat) : Int) + (1 : Int32) = iI ((4 * i + (j + 1) : Nat) : Int) := by
        rw [L1, iI_add]
        congr 1
      have h1 := he i (j + 1) (by omega) (by omega)
      rw [if_neg (by omega)] at h1
      rw [e5, cl_nat (by omega), cl_nat (by omega), sr_at, h0, h1, sa_sr]
      refine ⟨in_nat (by omega) (by omega) (by omega), in_nat (by omega) (by omega) (by omega), fun S9 e9 => ?_⟩
      rw [e9]
      exact hgo _ (tMid_next he (by omega) rB3 (fun _ _ => (tS3 (by omega)).symm) (by omega))
theorem pC_back_6 {fst : Bool} {rA rB : Nat} (rA3 : rA ≤ 3) (rB3 : rB ≤ 3) {F : Nat → Nat → Int32} {Q : vS → Prop} (hq : ∀ e, (∀ i j, i ≤ rA → j ≤ rB → e (4 * i + j) = tStep fst rA rB F i j) → Q (sr B 0 e)) :
    ∀ (r i : Nat), i + r = rA + 1 → ∀ e : Nat → Int32, tMid fst F rA rB i 0 e → e_X6_takeMoveBack_6 Q (r + 1) (bI fst) (iI rA) (iI rB) 4 (iI i) (sr B 0 e) := by
  intro r
  induction r with
  | zero =>
    intro i hi e he
    unfold e_X6_takeMoveBack_6
    rw [iI_lt (sm_of (by omega) (by omega)) (sm_of (by omega) (by omega))]
    refine ⟨fun _ => hq e (fun i' j' a1 a2 => ?_), fun c => absurd (by omega) c⟩
    rw [he i' j' a1 a2, if_pos (by omega)]
  | succ r ih =>
    intro i hi e he
    unfold e_X6_takeMoveBack_6
    rw [iI_lt (sm_of (by omega) (by omega)) (sm_of (by omega) (by omega))]
    refine ⟨fun c => absurd c (by omega), fun _ => ⟨rB + 1 + 1, ?_⟩⟩
    exact pC_back_15 rA3 rB3 (by omega) (fun e2 h2 => ih (i + 1) (by omega) e2 h2) (rB + 1) 0 (by omega) e he
theorem pC_back {fst : Bool} {rA rB : Nat} (rA3 : rA ≤ 3) (rB3 : rB ≤ 3) {F : Nat → Nat → Int32} {Q : vS → Prop} {e : Nat → Int32} (he : ∀ i j, i ≤ rA → j ≤ rB → e (4 * i + j) = F i j) (hq : ∀ e, (∀ i j, i ≤ rA → j ≤ rB → e (4 * i + j) = tStep fst rA rB F i j) → Q (sr B 0 e)) : e_X6_takeMoveBack (bI fst) (iI rA) (iI rB) (sr B 0 e) Q := by
  refine ⟨rA + 1 + 1, pC_back_6 rA3 rB3 hq (rA + 1) 0 (by omega) e (fun i' j' a1 a2 => ?_)⟩
  rw [if_neg (by omega)]
  exact he i' j' a1 a2
/-- the play's worth with s moves taken back of n -/
def tF (E : Nat → Nat → Int32) (rA rB n : Nat) : Nat → Nat → Nat → Int32
  | 0 => E
  | s + 1 => tStep ((n - s - 1) % 2 == 0) rA rB (tF E rA rB n s)
theorem rem2 {m : Nat} (h : m < 1000) : (iI (m : Int) - iI (m : Int) / (2 : Int32) * (2 : Int32)) = iI ((m % 2 : Nat) : Int) := by
  rw [L2, iI_div (sm_of (by omega) (by omega)) (sm_of (by decide) (by decide)) (by omega), iI_mul, iI_sub]
  congr 1
  omega
theorem pC_moves {E : Nat → Nat → Int32} {rA rB n : Nat} (rA3 : rA ≤ 3) (rB3 : rB ≤ 3) (hn : n ≤ 6) {x3 x5 : Int32} {Q : Int32 → vS → Prop} :
    ∀ (m : Nat), m + 1 ≤ n → ∀ e : Nat → Int32, (∀ i j, i ≤ rA → j ≤ rB → e (4 * i + j) = tF E rA rB n (n - 1 - m) i j) → (∀ e, (∀ i j, i ≤ rA → j ≤ rB → e (4 * i + j) = tF E rA rB n (n - 1) i j) → e_X6_towers_126 Q 1 x3 x5 (iI rA) (iI rB) (iI 0) (sr B 0 e)) → e_X6_towers_126 Q (m + 1) x3 x5 (iI rA) (iI rB) (iI m) (sr B 0 e) := by
  intro m
  induction m with
  | zero => intro hm e he hq; exact hq e he
  | succ m ih =>
    intro hm e he hq
    unfold e_X6_towers_126
    have cz : ∀ z : Nat, z < 1000 → (iI (z : Int) = 0 ↔ z = 0) := by
      intro z hz
      rw [L0, iI_eq (sm_of (by omega) (by omega)) (sm_of (by decide) (by decide))]
      omega
    have le0 : iI ((m + 1 : Nat) : Int) ≤ 0 ↔ ((m + 1 : Nat) : Int) ≤ 0 := by
      rw [L0, iI_le (sm_of (by omega) (by omega)) (sm_of (by decide) (by decide))]
    rw [rem2 (by omega), cz _ (by omega), le0]
    refine ⟨fun c => absurd c (by omega), fun _ => ?_⟩
    have hs : n - 1 - m = (n - 1 - (m + 1)) + 1 := by omega
    have hgo : ∀ e, (∀ i j, i ≤ rA → j ≤ rB → e (4 * i + j) = tStep ((m + 1) % 2 == 0) rA rB (tF E rA rB n (n - 1 - (m + 1))) i j) → ∀ v, v = iI ((m + 1 : Nat) : Int) + (-1 : Int32) → e_X6_towers_126 Q (m + 1) x3 x5 (iI rA) (iI rB) v (sr B 0 e) := by
      intro e2 h2 v ev
      have : v = iI (m : Int) := by
        rw [ev, Lm1, iI_add]
        congr 1
        omega
      rw [this]
      refine ih (by omega) e2 (fun i j a1 a2 => ?_) hq
      have fs : tF E rA rB n (n - 1 - (m + 1) + 1) = tStep ((n - (n - 1 - (m + 1)) - 1) % 2 == 0) rA rB (tF E rA rB n (n - 1 - (m + 1))) := rfl
      have : n - (n - 1 - (m + 1)) - 1 = m + 1 := by omega
      rw [h2 i j a1 a2, hs, fs, this]
    refine ⟨fun c => ?_, fun c => ?_⟩
    · have c2 : ((m + 1) % 2 == 0) = false := by simpa using c
      rw [c2] at hgo
      exact pC_back (fst := false) rA3 rB3 he hgo
    · have c2 : ((m + 1) % 2 == 0) = true := by simpa using c
      rw [c2] at hgo
      exact pC_back (fst := true) rA3 rB3 he hgo
end TT
