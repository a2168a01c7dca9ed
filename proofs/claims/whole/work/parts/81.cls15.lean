/-! THE CLASS: days of one scout alone are that scout's days among all -/
/-- a scout's own cells, and what no day changes -/
def agr (s : Nat) (S T : Nat → Int32) : Prop := (∀ j, j < 11 ∨ 65 ≤ j → T j = S j) ∧ T (11 + 3 * s) = S (11 + 3 * s) ∧ T (11 + 3 * s + 1) = S (11 + 3 * s + 1) ∧ T (11 + 3 * s + 2) = S (11 + 3 * s + 2) ∧ ∀ k, k < 6 → T (29 + 6 * s + k) = S (29 + 6 * s + k)
def tryc (S : Nat → Int32) (s : Nat) (c : Int32) : Option Nat → Nat → Int32
  | none => S
  | some k => mtry S s k c
def d1 (S : Nat → Int32) (s : Nat) (ch : Option Nat) : Nat → Int32 := upd (tryc S s (calmS S (sD S)) ch) 10 (nI (sD S + 1))
def d1s (S : Nat → Int32) (s : Nat) (cs : Nat → Option Nat) : Nat → Nat → Int32
  | 0 => S
  | k + 1 => d1 (d1s S s cs k) s (cs k)
section
variable {S T U : Nat → Int32} {s : Nat}
theorem agr_refl : agr s S S := ⟨fun _ _ => rfl, rfl, rfl, rfl, fun _ _ => rfl⟩
theorem agr_trans (A : agr s S T) (B : agr s T U) : agr s S U := ⟨fun j hj => (B.1 j hj).trans (A.1 j hj), B.2.1.trans A.2.1, B.2.2.1.trans A.2.2.1, B.2.2.2.1.trans A.2.2.2.1, fun k hk => (B.2.2.2.2 k hk).trans (A.2.2.2.2 k hk)⟩
theorem agr_same {k : Nat} {c : Int32} (hs : s < 6) (hk : k < 6) (A : agr s S T) : agr s (mtry S s k c) (mtry T s k c) := by
  obtain ⟨a0, a1, a2, a3, a4⟩ := A
  have e1 : T (29 + 6 * s + k) = S (29 + 6 * s + k) := a4 k hk
  have e2 : T (77 + k) = S (77 + k) := a0 _ (by omega)
  have e3 : T 1 = S 1 := a0 _ (by omega)
  unfold mtry
  rw [e1, e2, e3, a1, a2, a3]
  by_cases hc : S (29 + 6 * s + k) + c < S (77 + k)
  · rw [if_pos hc, if_pos hc]
    refine ⟨fun j hj => ?_, ?_, ?_, ?_, fun j hj => ?_⟩
    · simp (disch := omega) only [upd_n]
      exact a0 j hj
    · simp (disch := omega) only [upd_s, upd_n]
    · simp (disch := omega) only [upd_s, upd_n]
      exact a2
    · simp (disch := omega) only [upd_s, upd_n]
    · by_cases hjk : j = k
      · subst hjk
        simp (disch := omega) only [upd_s]
      · simp (disch := omega) only [upd_n]
        exact a4 j hj
  · rw [if_neg hc, if_neg hc]
    refine ⟨fun j hj => ?_, ?_, ?_, ?_, fun j hj => ?_⟩
    · simp (disch := omega) only [upd_n]
      exact a0 j hj
    · simp (disch := omega) only [upd_s, upd_n]
    · simp (disch := omega) only [upd_s, upd_n]
    · simp (disch := omega) only [upd_s, upd_n]
    · simp (disch := omega) only [upd_n]
      exact a4 j hj
theorem agr_oth {x k : Nat} {c : Int32} (hs : s < 6) (hx : x < 6) (hne : s ≠ x) (hk : k < 6) : agr s S (mtry S x k c) := by
  have m := fun j hj => mtry_o (S := S) (c := c) (s := x) (t := s) (k := k) (j := j) hx hs hne hk hj
  exact ⟨fun j hj => mtry_eqF hx hk j hj, (m 0 (by omega)).2.1, (m 0 (by omega)).2.2.1, (m 0 (by omega)).2.2.2.1, fun j hj => (m j hj).2.2.2.2⟩
theorem agr_day {rv : Option ((Nat → Int64) → Int64)} {lf c : Int32} {pd : Nat → Option (Option Nat)} {ch : Option Nat} (hK : sK S ≤ 6) (P : pdOk pd) (hp : pd s = some ch) (hs : s < 6) : ∀ n, n ≤ 6 → agr s (if s < n then tryc S s c ch else S) (mday rv lf pd c S n).1 := by
  intro n
  induction n with
  | zero => intro _; exact agr_refl
  | succ n ih =>
    intro hn
    have ih1 := ih (by omega)
    have em : (mday rv lf pd c S (n + 1)).1 = tryc (mday rv lf pd c S n).1 n c (mcho rv (mday rv lf pd c S n).1 c lf pd n) := by
      rw [mday]
      cases mcho rv (mday rv lf pd c S n).1 c lf pd n <;> rfl
    rw [em]
    have eK : sK (mday rv lf pd c S n).1 = sK S := by
      have := ih1.1 4 (by omega)
      unfold sK
      rw [this]
      split
      · cases ch with
        | none => rfl
        | some k => show (mtry S s k c 4).toNatClampNeg = _; rw [mtry_eqF hs (P s k hp) 4 (by omega)]
      · rfl
    by_cases hns : n = s
    · subst hns
      rw [if_neg (by omega)] at ih1
      rw [if_pos (by omega)]
      have hc : mcho rv (mday rv lf pd c S n).1 c lf pd n = ch := by unfold mcho; rw [hp]
      rw [hc]
      cases ch with
      | none => exact ih1
      | some k => exact agr_same hs (P n k hp) ih1
    · have e1 : (if s < n + 1 then tryc S s c ch else S) = if s < n then tryc S s c ch else S := by
        by_cases h1 : s < n
        · rw [if_pos h1, if_pos (by omega)]
        · rw [if_neg h1, if_neg (by omega)]
      rw [e1]
      cases hc : mcho rv (mday rv lf pd c S n).1 c lf pd n with
      | none => exact ih1
      | some k => exact agr_trans ih1 (agr_oth hs (by omega) (fun w => hns w.symm) (mcho_lt (by rw [eK]; exact hK) P hc))
theorem calm_agr (A : agr s S T) : calmS T (sD T) = calmS S (sD S) ∧ sD T = sD S ∧ sN T = sN S ∧ sK T = sK S := by
  have e10 := A.1 10 (by omega)
  have eD : sD T = sD S := by unfold sD; rw [e10]
  refine ⟨?_, eD, by unfold sN; rw [A.1 5 (by omega)], by unfold sK; rw [A.1 4 (by omega)]⟩
  rw [eD]
  unfold calmS sC
  rw [A.1 3 (by omega), A.1 2 (by omega), A.1 (65 + sD S % (S 3).toNatClampNeg) (by omega)]
theorem agr_nxt {rv : Option ((Nat → Int64) → Int64)} {pd : Nat → Option (Option Nat)} {ch : Option Nat} (W : mW T) (P : pdOk pd) (hp : pd s = some ch) (hs : s < sN T) (A : agr s S T) : agr s (d1 S s ch) (mnxt rv 0 pd (-1) T) := by
  obtain ⟨c1, c2, c3, c4⟩ := calm_agr A
  have hs6 : s < 6 := Nat.lt_of_lt_of_le hs W.2.2.1.2
  have em : mcalm (-1) T = calmS T (sD T) := by unfold mcalm; rw [if_pos (by decide)]
  have a := agr_day (rv := rv) (lf := 0) (c := mcalm (-1) T) W.2.1.2 P hp hs6 (sN T) W.2.2.1.2
  rw [if_pos hs, em, c1] at a
  have b : agr s (tryc S s (calmS S (sD S)) ch) (tryc T s (calmS S (sD S)) ch) := by
    cases ch with
    | none => exact A
    | some k => exact agr_same hs6 (P s k hp) A
  have ab := agr_trans b a
  unfold d1 mnxt
  rw [em, c1, c2]
  obtain ⟨a0, a1, a2, a3, a4⟩ := ab
  refine ⟨fun j hj => ?_, ?_, ?_, ?_, fun k hk => ?_⟩
  · by_cases h10 : j = 10
    · rw [h10, upd_s, upd_s]
    · rw [upd_n h10, upd_n h10]
      exact a0 j hj
  · rw [upd_n (by omega), upd_n (by omega)]; exact a1
  · rw [upd_n (by omega), upd_n (by omega)]; exact a2
  · rw [upd_n (by omega), upd_n (by omega)]; exact a3
  · rw [upd_n (by omega), upd_n (by omega)]; exact a4 k hk
theorem d1s_P {rv : Option ((Nat → Int64) → Int64)} {cs : Nat → Option Nat} (hcs : ∀ i k, cs i = some k → k < 6) (W : mW S) (B : mB S) (hs : s < sN S) : ∀ n, sD S + n ≤ 3000 → agr s (d1s S s cs n) (mdaysP rv S s cs n) := by
  intro n
  induction n with
  | zero => intro _; exact agr_refl
  | succ n ih =>
    intro hn
    obtain ⟨e, b, w, dd⟩ := mdaysP_inv (rv := rv) (s := s) hcs W B n (by omega)
    refine agr_nxt w (pl1_ok (hcs n)) (if_pos rfl) ?_ (ih (by omega))
    have : sN (mdaysP rv S s cs n) = sN S := sN_G e
    omega
theorem d1s_R {rv : Option ((Nat → Int64) → Int64)} {pd : Nat → Option (Option Nat)} {k : Nat} (P : pdOk pd) (hp : pd s = some (some k)) (W : mW S) (B : mB S) (hs : s < sN S) : ∀ n, sD S + n ≤ 3000 → agr s (d1s S s (fun _ => some k) n) (mdays rv 0 pd S n) := by
  intro n
  induction n with
  | zero => intro _; exact agr_refl
  | succ n ih =>
    intro hn
    obtain ⟨e, b, w, dd⟩ := mdays_inv (rv := rv) (lf := 0) P W B n (by omega)
    refine agr_nxt w P hp ?_ (ih (by omega))
    have : sN (mdays rv 0 pd S n) = sN S := sN_G e
    omega
/-- one scout's days: what holds on them -/
theorem d1s_inv {cs : Nat → Option Nat} (hcs : ∀ i k, cs i = some k → k < 6) (W : mW S) (B : mB S) (hs : s < 6) : ∀ n, sD S + n ≤ 3000 → eqG S (d1s S s cs n) ∧ mB (d1s S s cs n) ∧ mW (d1s S s cs n) ∧ sD (d1s S s cs n) = sD S + n := by
  intro n
  induction n with
  | zero => intro _; exact ⟨fun _ _ => rfl, B, W, rfl⟩
  | succ n ih =>
    intro hn
    obtain ⟨e, b, w, dd⟩ := ih (by omega)
    have e1 : eqF (d1s S s cs n) (tryc (d1s S s cs n) s (calmS (d1s S s cs n) (sD (d1s S s cs n))) (cs n)) := by
      cases hc : cs n with
      | none => exact fun _ _ => rfl
      | some k => exact mtry_eqF hs (hcs n k hc)
    have b1 : mB (tryc (d1s S s cs n) s (calmS (d1s S s cs n) (sD (d1s S s cs n))) (cs n)) := by
      cases hc : cs n with
      | none => exact b
      | some k => exact mtry_B b hs (hcs n k hc)
    show eqG S (d1 (d1s S s cs n) s (cs n)) ∧ mB (d1 (d1s S s cs n) s (cs n)) ∧ mW (d1 (d1s S s cs n) s (cs n)) ∧ sD (d1 (d1s S s cs n) s (cs n)) = sD S + (n + 1)
    unfold d1
    generalize tryc (d1s S s cs n) s (calmS (d1s S s cs n) (sD (d1s S s cs n))) (cs n) = T at *
    generalize d1s S s cs n = A at *
    have hD : sD (upd T 10 (nI (sD A + 1))) = sD A + 1 := by show (upd T 10 (nI (sD A + 1)) 10).toNatClampNeg = _; rw [upd_s]; exact nI_clamp (by omega)
    refine ⟨fun j hj => ?_, fun t ht => ?_, ⟨?_, ?_, ?_, ?_, ?_⟩, by rw [hD]; omega⟩
    · rw [upd_n (by omega), e1 j (by omega)]
      exact e j hj
    · unfold sB
      rw [upd_n (by omega)]
      exact b1 t ht
    · unfold sC
      rw [upd_n (by omega), e1 3 (by omega)]
      exact w.1
    · unfold sK
      rw [upd_n (by omega), e1 4 (by omega)]
      exact w.2.1
    · unfold sN
      rw [upd_n (by omega), e1 5 (by omega)]
      exact w.2.2.1
    · rw [hD, upd_s]
    · rw [hD]
      omega
end
theorem mbN_cnt (b : Nat) : mbN b = cntU (fun j => b.testBit j) 6 := by
  simp only [mbN, cntU]
  omega
theorem mz_fst : ∀ b, b < 64 → 0 < b → fst1 (fun j => b.testBit j) 6 0 = some (mz b) := by decide +kernel
/-- the greatest gain, and the kinds that have it -/
def gm (g : Nat → Int32) : Nat → Int32
  | 0 => 0
  | k + 1 => if k = 0 ∨ gm g k < g k then g k else gm g k
def gb (g : Nat → Int32) : Nat → Nat
  | 0 => 0
  | k + 1 => if k = 0 ∨ gm g k < g k then 2 ^ k else if g k = gm g k then gb g k ||| 2 ^ k else gb g k
theorem gb_ok {g : Nat → Int32} : ∀ k, (gb g k < 2 ^ k ∧ (0 < k → 0 < gb g k)) ∧ (0 < k → (∀ j, j < k → g j ≤ gm g k) ∧ ∀ j, j < k → ((gb g k).testBit j = true ↔ g j = gm g k)) := by
  intro k
  induction k with
  | zero => exact ⟨⟨show (0 : Nat) < 2 ^ 0 by decide, fun h => by omega⟩, fun h => by omega⟩
  | succ k ih =>
    obtain ⟨⟨i1, i2⟩, i3⟩ := ih
    have h2 : 2 ^ k < 2 ^ (k + 1) := Nat.pow_lt_pow_right (by omega) (by omega)
    have hp : 0 < 2 ^ k := Nat.two_pow_pos k
    show ((if k = 0 ∨ gm g k < g k then 2 ^ k else if g k = gm g k then gb g k ||| 2 ^ k else gb g k) < 2 ^ (k + 1) ∧ (0 < k + 1 → 0 < (if k = 0 ∨ gm g k < g k then 2 ^ k else if g k = gm g k then gb g k ||| 2 ^ k else gb g k))) ∧ (0 < k + 1 → (∀ j, j < k + 1 → g j ≤ (if k = 0 ∨ gm g k < g k then g k else gm g k)) ∧ ∀ j, j < k + 1 → ((if k = 0 ∨ gm g k < g k then 2 ^ k else if g k = gm g k then gb g k ||| 2 ^ k else gb g k).testBit j = true ↔ g j = (if k = 0 ∨ gm g k < g k then g k else gm g k)))
    by_cases hc : k = 0 ∨ gm g k < g k
    · simp only [if_pos hc]
      refine ⟨⟨h2, fun _ => hp⟩, fun _ => ⟨fun j hj => ?_, fun j hj => ?_⟩⟩
      · rcases (by omega : j < k ∨ j = k) with q | q
        · have := (i3 (by omega)).1 j q
          rcases hc with w | w
          · omega
          · exact Int32.le_of_lt (Int32.lt_of_le_of_lt this w)
        · rw [q]; exact Int32.le_refl _
      · rw [Nat.testBit_two_pow]
        rcases (by omega : j < k ∨ j = k) with q | q
        · have := (i3 (by omega)).1 j q
          constructor
          · intro w
            have := of_decide_eq_true w
            omega
          · intro w
            rcases hc with v | v
            · omega
            · rw [w] at this
              exact absurd v (Int32.not_lt.mpr this)
        · subst q
          simp
    · have hk0 : 0 < k := by omega
      have hn : ¬ gm g k < g k := fun w => hc (Or.inr w)
      obtain ⟨m1, m2⟩ := i3 hk0
      simp only [if_neg hc]
      have mle : ∀ j, j < k + 1 → g j ≤ gm g k := fun j hj => by
        rcases (by omega : j < k ∨ j = k) with q | q
        · exact m1 j q
        · rw [q]; exact Int32.not_lt.mp hn
      by_cases he : g k = gm g k
      · simp only [if_pos he]
        refine ⟨⟨Nat.or_lt_two_pow (by omega) h2, fun _ => ?_⟩, fun _ => ⟨mle, fun j hj => ?_⟩⟩
        · have := i2 hk0
          have := Nat.left_le_or (n := gb g k) (m := 2 ^ k)
          omega
        · rw [Nat.testBit_or, Nat.testBit_two_pow, Bool.or_eq_true]
          rcases (by omega : j < k ∨ j = k) with q | q
          · rw [m2 j q]
            constructor
            · rintro (w | w)
              · exact w
              · have := of_decide_eq_true w
                omega
            · intro w; exact Or.inl w
          · subst q
            simp [he]
      · simp only [if_neg he]
        refine ⟨⟨by omega, fun _ => i2 hk0⟩, fun _ => ⟨mle, fun j hj => ?_⟩⟩
        rcases (by omega : j < k ∨ j = k) with q | q
        · exact m2 j q
        · subst q
          rw [Nat.testBit_lt_two_pow i1]
          simp [he]
/-- rests by two lists -/
theorem rIn_two {p1 p2 : Nat → Bool} {a : Nat} {st : Nat × Option (Nat × Nat)} : ∀ n, rIn (fun a b => p1 a && p2 b) a st n = if p1 a then (st.1 + cntU p2 n, if st.1 = 0 then (match fst1 p2 n 0 with | some b => some (a, b) | none => st.2) else st.2) else st := by
  intro n
  induction n with
  | zero =>
    cases p1 a
    · rfl
    · show st = (st.1 + 0, if st.1 = 0 then st.2 else st.2)
      rw [Nat.add_zero, ite_self]
  | succ n ih =>
    show rStep (p1 a && p2 n) a n (rIn (fun a b => p1 a && p2 b) a st n) = _
    rw [ih]
    cases h1 : p1 a with
    | false =>
      simp only [Bool.true_and, Bool.false_and, Bool.and_true, Bool.and_false, Bool.true_or, Bool.false_or, Bool.false_eq_true, Bool.not_true, Bool.not_false, eq_self, if_true, if_false, ite_true, ite_false]
      rfl
    | true =>
      simp only [Bool.true_and, Bool.false_and, Bool.and_true, Bool.and_false, Bool.true_or, Bool.false_or, Bool.false_eq_true, Bool.not_true, Bool.not_false, eq_self, if_true, if_false, ite_true, ite_false]
      rw [fst1_snoc, Nat.zero_add]
      simp only [cntU]
      cases h2 : p2 n with
      | false =>
        simp only [Bool.true_and, Bool.false_and, Bool.and_true, Bool.and_false, Bool.true_or, Bool.false_or, Bool.false_eq_true, Bool.not_true, Bool.not_false, eq_self, if_true, if_false, ite_true, ite_false, Nat.add_zero]
        unfold rStep
        cases fst1 p2 n 0 <;> rfl
      | true =>
        simp only [Bool.true_and, Bool.false_and, Bool.and_true, Bool.and_false, Bool.true_or, Bool.false_or, Bool.false_eq_true, Bool.not_true, Bool.not_false, eq_self, if_true, if_false, ite_true, ite_false]
        unfold rStep
        simp only [if_true]
        have c0 := cntU_0 (p := p2) n
        cases hf : fst1 p2 n 0 with
        | none =>
          have z := c0.mpr hf
          simp only [z, Nat.add_zero, Nat.zero_add]
          by_cases hs : st.1 = 0
          · simp only [hs, if_true]
          · simp only [hs, if_false]
        | some b =>
          have z : ¬ cntU p2 n = 0 := fun w => by rw [c0.mp w] at hf; cases hf
          rw [if_neg (by omega), Nat.add_assoc]
theorem rOut_two {p1 p2 : Nat → Bool} {K : Nat} (h2 : 0 < cntU p2 K) : ∀ n, rOut (fun a b => p1 a && p2 b) K n = (cntU p1 n * cntU p2 K, match fst1 p1 n 0 with
    | none => none
    | some a => match fst1 p2 K 0 with
      | some b => some (a, b)
      | none => none) := by
  intro n
  induction n with
  | zero => simp [rOut, cntU, fst1]
  | succ n ih =>
    show rIn (fun a b => p1 a && p2 b) n (rOut (fun a b => p1 a && p2 b) K n) K = _
    rw [rIn_two, ih, fst1_snoc, Nat.zero_add]
    simp only [cntU]
    have c0 := cntU_0 (p := p1) n
    cases hp : p1 n with
    | false =>
      simp only [Bool.true_and, Bool.false_and, Bool.and_true, Bool.and_false, Bool.true_or, Bool.false_or, Bool.false_eq_true, Bool.not_true, Bool.not_false, eq_self, if_true, if_false, ite_true, ite_false, Nat.add_zero]
      cases fst1 p1 n 0 <;> rfl
    | true =>
      simp only [Bool.true_and, Bool.false_and, Bool.and_true, Bool.and_false, Bool.true_or, Bool.false_or, Bool.false_eq_true, Bool.not_true, Bool.not_false, eq_self, if_true, if_false, ite_true, ite_false]
      rw [Nat.add_mul, Nat.one_mul]
      cases hf : fst1 p1 n 0 with
      | none =>
        have z := c0.mpr hf
        rw [z, Nat.zero_mul]
        simp only [if_true]
      | some a =>
        have z : ¬ cntU p1 n = 0 := fun w => by rw [c0.mp w] at hf; cases hf
        have z2 : ¬ cntU p1 n * cntU p2 K = 0 := fun w => by
          rcases Nat.mul_eq_zero.mp w with q | q <;> omega
        simp only [if_neg z2]
