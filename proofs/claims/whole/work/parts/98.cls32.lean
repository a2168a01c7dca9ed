/-! THE CLASS: a camp read: line by line -/
def cX (i : Nat) (T : Nat → Nat) (L p : Nat) (z : Nat → Nat) : Except Nat (Nat × (Nat → Nat)) :=
  if i = 0 then (match aCel T L p 1 5 z with
    | .error w => .error w
    | .ok r => aCel T L r.1 2 9 r.2)
  else if i = 1 then (match aCel T L p (65 + z 3) 9 z with
    | .error w => .error w
    | .ok r => .ok (r.1, uN r.2 3 (z 3 + 1)))
  else if i = 2 then (match aCel T L p (77 + z 4) 30 z with
    | .error w => .error w
    | .ok r => .ok (r.1, uN r.2 4 (z 4 + 1)))
  else if i = 3 then .ok (p, uN z 5 (z 5 + 1))
  else (match numN T L p (nI (z 5) - 1) with
    | .error w => .error w
    | .ok r => match numN T L r.1 (nI (z 4) - 1) with
      | .error w => .error w
      | .ok r2 => aCel T L r2.1 (83 + 6 * r.2 + r2.2) 20 z)
abbrev cFull (i : Nat) (z : Nat → Nat) : Prop := (i = 1 ∧ z 3 = 12) ∨ (i = 2 ∧ z 4 = 6) ∨ (i = 3 ∧ z 5 = 6)
theorem aCel_0 {T : Nat → Nat} {L p i : Nat} {hi : Int32} {z : Nat → Nat} {r : Nat × (Nat → Nat)} (h0 : i ≠ 0) (h : aCel T L p i hi z = .ok r) : r.2 0 = z 0 := by
  unfold aCel at h
  split at h
  · cases h
  · cases h; exact uN_n (by omega)
theorem cX_0 {i : Nat} {T : Nat → Nat} {L p : Nat} {z : Nat → Nat} {r : Nat × (Nat → Nat)} (h : cX i T L p z = .ok r) : r.2 0 = z 0 := by
  unfold cX at h
  split at h
  · split at h
    · cases h
    · next r1 h1 => rw [aCel_0 (by omega) h, aCel_0 (by omega) h1]
  · split at h
    · split at h
      · cases h
      · next r1 h1 => cases h; show uN r1.2 3 (z 3 + 1) 0 = z 0; rw [uN_n (by omega), aCel_0 (by omega) h1]
    · split at h
      · split at h
        · cases h
        · next r1 h1 => cases h; show uN r1.2 4 (z 4 + 1) 0 = z 0; rw [uN_n (by omega), aCel_0 (by omega) h1]
      · split at h
        · cases h; show uN z 5 (z 5 + 1) 0 = z 0; rw [uN_n (by omega)]
        · split at h
          · cases h
          · split at h
            · cases h
            · exact aCel_0 (by omega) h

theorem aCln_i {T : Nat → Nat} {L p k i : Nat} {z : Nat → Nat} (h : amW T L (skp T L p) 0 = some i) : i < 5 ∧ isW T L (skp T L p) ((txv 0).getD i 0) = true ∧ aCln T L p z k = if k = 40 ∨ (i = 0 ∧ 0 < z 0) ∨ (i ≠ 0 ∧ z 0 = 0) ∨ cFull i z then .error (fW 0 4 (skp T L p)) else (match cX i T L (lnd T L (skp T L p)) z with
    | .error w => .error w
    | .ok r => .ok (r.1, if i = 0 then uN r.2 0 1 else r.2)) := by
  generalize hq : skp T L p = q at *
  obtain ⟨-, f2, f3⟩ := fst1_lt h
  have i5 : i < 5 := f2
  refine ⟨i5, f3, ?_⟩
  unfold aCln icw aLin
  rw [hq]
  have hu : (if isW T L q 1667329392 then some 0 else if isW T L q 1667329133 then some 1 else if isW T L q 1802071652 then some 2 else if isW T L q 495589487988 then some 3 else if isW T L q 6513006 then some 4 else none) = some i := h
  cases b0 : isW T L q 1667329392 with
  | true =>
    rw [b0, if_pos rfl] at hu
    cases hu
    rw [Bool.true_or, if_pos rfl, if_pos rfl]
    by_cases e : k = 40
    · rw [if_pos e, if_pos (Or.inl e)]
    · rw [if_neg e]
      unfold aCamp cX
      by_cases e0 : 0 < z 0
      · rw [if_pos e0, if_pos (by omega)]
      · rw [if_neg e0, if_neg (by omega), if_pos rfl]
        cases aCel T L (lnd T L q) 1 5 z with
        | error w => rfl
        | ok r =>
          show (match aCel T L r.1 2 9 r.2 with
            | .error w => Except.error w
            | .ok r2 => Except.ok (r2.1, uN r2.2 0 1)) = (match aCel T L r.1 2 9 r.2 with
            | .error w => Except.error w
            | .ok r => Except.ok (r.1, if 0 = 0 then uN r.2 0 1 else r.2))
          cases aCel T L r.1 2 9 r.2 <;> rfl
  | false =>
    have n0 : i ≠ 0 := fun w => by subst w; rw [show (txv 0).getD 0 0 = 1667329392 from rfl, b0] at f3; cases f3
    rw [b0, if_neg (by decide)] at hu
    rw [Bool.false_or, if_neg (show ¬ false = true by decide)]
    have hc : (isW T L q 1667329133 || (isW T L q 1802071652 || (isW T L q 495589487988 || isW T L q 6513006))) = true := by
      cases b1 : isW T L q 1667329133
      · cases b2 : isW T L q 1802071652
        · cases b3 : isW T L q 495589487988
          · cases b4 : isW T L q 6513006
            · rw [b1, b2, b3, b4] at hu; simp at hu
            · rfl
          · rfl
        · rfl
      · rfl
    rw [hc, if_pos rfl]
    by_cases e : k = 40
    · rw [if_pos e, if_pos (Or.inl e)]
    · rw [if_neg e]
      by_cases e0 : z 0 = 0
      · rw [if_pos e0, if_pos (by omega)]
      · rw [if_neg e0]
        cases b1 : isW T L q 1667329133 with
        | true =>
          rw [b1, if_pos rfl] at hu
          cases hu
          unfold aMor cX
          rw [if_pos rfl]
          by_cases g : z 3 = 12
          · rw [if_pos g, if_pos (by omega)]
          · rw [if_neg g, if_neg (by omega), if_neg (by omega), if_pos rfl]
            cases aCel T L (lnd T L q) (65 + z 3) 9 z <;> rfl
        | false =>
          rw [b1, if_neg (by decide)] at hu
          rw [if_neg (by decide)]
          cases b2 : isW T L q 1802071652 with
          | true =>
            rw [b2, if_pos rfl] at hu
            cases hu
            unfold aMor cX
            rw [if_pos rfl]
            by_cases g : z 4 = 6
            · rw [if_pos g, if_pos (by omega)]
            · rw [if_neg g, if_neg (by omega), if_neg (by omega), if_neg (by omega), if_pos rfl]
              cases aCel T L (lnd T L q) (77 + z 4) 30 z <;> rfl
          | false =>
            rw [b2, if_neg (by decide)] at hu
            rw [if_neg (by decide)]
            cases b3 : isW T L q 495589487988 with
            | true =>
              rw [b3, if_pos rfl] at hu
              cases hu
              unfold aSct cX
              rw [if_pos rfl]
              by_cases g : z 5 = 6
              · rw [if_pos g, if_pos (by omega)]
              · rw [if_neg g, if_neg (by omega), if_neg (by omega), if_neg (by omega), if_neg (by omega), if_pos rfl]
                rfl
            | false =>
              rw [b3, if_neg (by decide)] at hu
              rw [if_neg (by decide)]
              have i4 : i = 4 := by
                cases b4 : isW T L q 6513006 <;> rw [b4] at hu
                · cases hu
                · cases hu; rfl
              subst i4
              unfold aCan cX
              rw [if_neg (by omega), if_neg (by omega), if_neg (by omega), if_neg (by omega), if_neg (by omega)]
              cases numN T L (lnd T L q) (nI (z 5) - 1) with
              | error w => rfl
              | ok r =>
                show (match numN T L r.1 (nI (z 4) - 1) with
                  | .error w => Except.error w
                  | .ok r2 => aCel T L r2.1 (83 + 6 * r.2 + r2.2) 20 z) = (match (match numN T L r.1 (nI (z 4) - 1) with
                  | .error w => Except.error w
                  | .ok r2 => aCel T L r2.1 (83 + 6 * r.2 + r2.2) 20 z) with
                  | .error w => Except.error w
                  | .ok r => Except.ok (r.1, if 4 = 0 then uN r.2 0 1 else r.2))
                cases numN T L r.1 (nI (z 4) - 1) with
                | error w => rfl
                | ok r2 =>
                  show aCel T L r2.1 (83 + 6 * r.2 + r2.2) 20 z = (match aCel T L r2.1 (83 + 6 * r.2 + r2.2) 20 z with
                    | .error w => Except.error w
                    | .ok r => Except.ok (r.1, if 4 = 0 then uN r.2 0 1 else r.2))
                  cases aCel T L r2.1 (83 + 6 * r.2 + r2.2) 20 z <;> rfl
theorem aCln_no {T : Nat → Nat} {L p k : Nat} {z : Nat → Nat} (h : amW T L (skp T L p) 0 = none) : aCln T L p z k = .error (fW 0 0 (skp T L p)) := by
  generalize hq : skp T L p = q at *
  have hu : (if isW T L q 1667329392 then some 0 else if isW T L q 1667329133 then some 1 else if isW T L q 1802071652 then some 2 else if isW T L q 495589487988 then some 3 else if isW T L q 6513006 then some 4 else none) = none := h
  have : icw T L q = false := by
    unfold icw
    cases b0 : isW T L q 1667329392
    · cases b1 : isW T L q 1667329133
      · cases b2 : isW T L q 1802071652
        · cases b3 : isW T L q 495589487988
          · cases b4 : isW T L q 6513006
            · rfl
            · rw [b0, b1, b2, b3, b4] at hu; simp at hu
          · rw [b0, b1, b2, b3] at hu; simp at hu
        · rw [b0, b1, b2] at hu; simp at hu
      · rw [b0, b1] at hu; simp at hu
    · rw [b0] at hu; simp at hu
  unfold aCln
  rw [hq, this]
  rfl
theorem tsr_e {T : Nat → Nat} {L q : Nat} (hT : ∀ p, p < L → T p < 256) : tsr T L q = -1 ↔ chr T L q = none := by
  have dd : ∀ n, n < 256 → ¬ nI n = -1 := by decide +kernel
  unfold tsr chr
  by_cases e : q < L
  · rw [if_pos e, if_pos e]
    refine ⟨fun w => absurd w ?_, fun w => by cases w⟩
    split
    · decide
    · split
      · decide
      · split
        · split <;> decide
        · exact dd _ (hT q e)
  · rw [if_neg e, if_neg e]
    exact ⟨fun _ => rfl, fun _ => rfl⟩
/-- a sign that stands alone -/
theorem tsr_c {T : Nat → Nat} {L q x : Nat} (hT : ∀ p, p < L → T p < 256) (hx : x < 256) (nl : ¬ (97 ≤ x ∧ x ≤ 122)) (nd : ¬ (48 ≤ x ∧ x ≤ 57)) (n1 : x ≠ 60) (n2 : x ≠ 62) : (tsr T L q = nI x ↔ chr T L q = some x) ∧ (chr T L q = some x → q < L ∧ tnd T L q = q + 1) := by
  have dd : ∀ n, n < 256 → ¬ (-1 : Int32) = nI n ∧ ¬ (-2 : Int32) = nI n ∧ ¬ (-3 : Int32) = nI n ∧ ¬ (-4 : Int32) = nI n ∧ ¬ (-5 : Int32) = nI n := by decide +kernel
  obtain ⟨d1, d2, d3, d4, d5⟩ := dd x hx
  unfold tsr tnd chr
  by_cases e : q < L
  · rw [if_pos e, if_pos e, if_pos e]
    have el : ltr T L q = (decide (97 ≤ T q) && decide (T q ≤ 122)) := by unfold ltr; rw [decide_eq_true e, Bool.true_and]
    have eg : dig T L q = (decide (48 ≤ T q) && decide (T q ≤ 57)) := by unfold dig; rw [decide_eq_true e, Bool.true_and]
    have key : T q = x → ltr T L q = false ∧ dig T L q = false ∧ tle T L q = false := fun w => by
      refine ⟨?_, ?_, ?_⟩
      · rw [el, w]; simp; omega
      · rw [eg, w]; simp; omega
      · unfold tle; rw [w, decide_eq_false n1, decide_eq_false n2]; rfl
    refine ⟨⟨fun w => ?_, fun w => ?_⟩, fun w => ?_⟩
    · cases b1 : ltr T L q with
      | true => rw [b1, if_pos rfl] at w; exact absurd w d2
      | false =>
        rw [b1, if_neg (by decide)] at w
        cases b2 : dig T L q with
        | true => rw [b2, if_pos rfl] at w; exact absurd w d3
        | false =>
          rw [b2, if_neg (by decide)] at w
          cases b3 : tle T L q with
          | true =>
            rw [b3, if_pos rfl] at w
            split at w
            · exact absurd w d4
            · exact absurd w d5
          | false =>
            rw [b3, if_neg (by decide)] at w
            have := hT q e
            rw [(nI_eq (by omega) (by omega)).mp w]
    · injection w with w
      obtain ⟨b1, b2, b3⟩ := key w
      rw [b1, b2, b3, w]
      rfl
    · injection w with w
      obtain ⟨b1, b2, b3⟩ := key w
      rw [b1, b2, b3]
      exact ⟨e, rfl⟩
  · rw [if_neg e, if_neg e, if_neg e]
    exact ⟨⟨fun w => absurd w d1, fun w => by cases w⟩, fun w => by cases w⟩
