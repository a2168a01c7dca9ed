/-! THE CLASS: the reader of rules: a sum -/
def eS (T : Nat → Nat) (L n m : Nat) (ts pl : Option Nat) (p md : Nat) (c : List Nat) : Except Nat (Nat × Nat × List Nat) := match aVal T L p md c with
  | .error w => Except.error w
  | .ok r => match aLp T L tOp (aVal T L) m r.1 r.2.1 (r.2.2 ++ ts.toList) with
    | .error w => Except.error w
    | .ok r2 => aLp T L sOp (aTer T L) n r2.1 r2.2.1 (r2.2.2 ++ pl.toList)
def eB2 (T : Nat → Nat) (L n m : Nat) (pl : Option Nat) (p md : Nat) (c : List Nat) : Except Nat (Nat × Nat × List Nat) := match aLp T L tOp (aVal T L) m p md c with
    | .error w => Except.error w
    | .ok r2 => aLp T L sOp (aTer T L) n r2.1 r2.2.1 (r2.2.2 ++ pl.toList)
theorem eS_v {T : Nat → Nat} {L n m : Nat} {ts pl : Option Nat} {p md : Nat} {c : List Nat} {r : Nat × Nat × List Nat} (h : aVal T L p md c = .ok r) : eS T L n m ts pl p md c = eB2 T L n m pl r.1 r.2.1 (r.2.2 ++ ts.toList) := by
  unfold eS
  rw [h]
  rfl
theorem aSum_eS {T : Nat → Nat} {L p md : Nat} {c : List Nat} : aSum T L p md c = eS T L (L + 1) (L + 1) none none p md c := by
  unfold aSum aBin eS
  unfold aTer aBin
  cases aVal T L p md c with
  | error w => rfl
  | ok r =>
    show (match aLp T L tOp (aVal T L) (L + 1) r.1 r.2.1 r.2.2 with
      | .error w => Except.error w
      | .ok r => aLp T L sOp _ (L + 1) r.1 r.2.1 r.2.2) = (match aLp T L tOp (aVal T L) (L + 1) r.1 r.2.1 (r.2.2 ++ []) with
      | .error w => Except.error w
      | .ok r2 => aLp T L sOp _ (L + 1) r2.1 r2.2.1 (r2.2.2 ++ []))
    rw [List.append_nil]
    cases aLp T L tOp (aVal T L) (L + 1) r.1 r.2.1 r.2.2 with
    | error w => rfl
    | ok r2 =>
      show aLp T L sOp _ (L + 1) r2.1 r2.2.1 r2.2.2 = aLp T L sOp _ (L + 1) r2.1 r2.2.1 (r2.2.2 ++ [])
      rw [List.append_nil]
theorem eB2_t {T : Nat → Nat} {L n m s : Nat} {pl : Option Nat} {p md : Nat} {c : List Nat} (h : (chr T L (skp T L p)).bind tOp = some s) : eB2 T L n (m + 1) pl p md c = eS T L n m (some (s + 16 * 0)) pl (skp T L p + 1) md c := by
  have e : aLp T L tOp (aVal T L) (m + 1) p md c = (match aVal T L (skp T L p + 1) md c with
      | .error w => Except.error w
      | .ok r => aLp T L tOp (aVal T L) m r.1 r.2.1 (r.2.2 ++ [s + 16 * 0])) := by
    show (match (chr T L (skp T L p)).bind tOp with
    | none => Except.ok (skp T L p, md, c)
    | some s => match aVal T L (skp T L p + 1) md c with
      | .error w => Except.error w
      | .ok r => aLp T L tOp (aVal T L) m r.1 r.2.1 (r.2.2 ++ [s + 16 * 0])) = _
    rw [h]
  unfold eB2 eS
  rw [e]
  cases aVal T L (skp T L p + 1) md c <;> rfl
theorem eB2_s {T : Nat → Nat} {L n m s : Nat} {pl : Option Nat} {p md : Nat} {c : List Nat} (hp : p ≤ L) (h0 : (chr T L (skp T L p)).bind tOp = none) (h : (chr T L (skp T L p)).bind sOp = some s) : eB2 T L (n + 1) (m + 1) pl p md c = eS T L n (L + 1) none (some (s + 16 * 0)) (skp T L p + 1) md (c ++ pl.toList) := by
  have e : aLp T L tOp (aVal T L) (m + 1) p md c = .ok (skp T L p, md, c) := by
    show (match (chr T L (skp T L p)).bind tOp with
    | none => Except.ok (skp T L p, md, c)
    | some s => match aVal T L (skp T L p + 1) md c with
      | .error w => Except.error w
      | .ok r => aLp T L tOp (aVal T L) m r.1 r.2.1 (r.2.2 ++ [s + 16 * 0])) = _
    rw [h0]
  have e2 : ∀ c, aLp T L sOp (aTer T L) (n + 1) (skp T L p) md c = (match aTer T L (skp T L p + 1) md c with
      | .error w => Except.error w
      | .ok r => aLp T L sOp (aTer T L) n r.1 r.2.1 (r.2.2 ++ [s + 16 * 0])) := fun c => by
    show (match (chr T L (skp T L (skp T L p))).bind sOp with
    | none => Except.ok (skp T L (skp T L p), md, c)
    | some s => match aTer T L (skp T L (skp T L p) + 1) md c with
      | .error w => Except.error w
      | .ok r => aLp T L sOp (aTer T L) n r.1 r.2.1 (r.2.2 ++ [s + 16 * 0])) = _
    rw [skp_id hp, h]
  unfold eB2 eS
  rw [e]
  show aLp T L sOp (aTer T L) (n + 1) (skp T L p) md (c ++ pl.toList) = _
  rw [e2]
  have e3 : aTer T L (skp T L p + 1) md (c ++ pl.toList) = (match aVal T L (skp T L p + 1) md (c ++ pl.toList) with
    | .error w => Except.error w
    | .ok r => aLp T L tOp (aVal T L) (L + 1) r.1 r.2.1 r.2.2) := rfl
  rw [e3]
  cases aVal T L (skp T L p + 1) md (c ++ pl.toList) with
  | error w => rfl
  | ok r =>
    show (match aLp T L tOp (aVal T L) (L + 1) r.1 r.2.1 r.2.2 with
      | .error w => Except.error w
      | .ok r => aLp T L sOp (aTer T L) n r.1 r.2.1 (r.2.2 ++ [s + 16 * 0])) = (match aLp T L tOp (aVal T L) (L + 1) r.1 r.2.1 (r.2.2 ++ []) with
      | .error w => Except.error w
      | .ok r2 => aLp T L sOp (aTer T L) n r2.1 r2.2.1 (r2.2.2 ++ [s + 16 * 0]))
    rw [List.append_nil]
theorem eB2_n {T : Nat → Nat} {L n m : Nat} {pl : Option Nat} {p md : Nat} {c : List Nat} (hp : p ≤ L) (h0 : (chr T L (skp T L p)).bind tOp = none) (h : (chr T L (skp T L p)).bind sOp = none) : eB2 T L (n + 1) (m + 1) pl p md c = .ok (skp T L p, md, c ++ pl.toList) := by
  have e : aLp T L tOp (aVal T L) (m + 1) p md c = .ok (skp T L p, md, c) := by
    show (match (chr T L (skp T L p)).bind tOp with
    | none => Except.ok (skp T L p, md, c)
    | some s => match aVal T L (skp T L p + 1) md c with
      | .error w => Except.error w
      | .ok r => aLp T L tOp (aVal T L) m r.1 r.2.1 (r.2.2 ++ [s + 16 * 0])) = _
    rw [h0]
  unfold eB2
  rw [e]
  show (match (chr T L (skp T L (skp T L p))).bind sOp with
    | none => Except.ok (skp T L (skp T L p), md, c ++ pl.toList)
    | some s => match aTer T L (skp T L (skp T L p) + 1) md (c ++ pl.toList) with
      | .error w => Except.error w
      | .ok r => aLp T L sOp (aTer T L) n r.1 r.2.1 (r.2.2 ++ [s + 16 * 0])) = _
  rw [skp_id hp, h]
/-- the signs' codes -/
theorem cd_t {T : Nat → Nat} {L q s : Nat} (hT : ∀ p, p < L → T p < 256) (h : (chr T L q).bind tOp = some s) : ∃ v, cdf (tsr T L q) = nI v ∧ v = xc (s + 16 * 0) ∧ 14 ≤ v ∧ v ≤ 16 ∧ tnd T L q = q + 1 ∧ q < L := by
  cases hc : chr T L q with
  | none => rw [hc] at h; cases h
  | some x =>
    rw [hc] at h
    have h' : tOp x = some s := h
    unfold tOp at h'
    split at h'
    · next e =>
      subst e; cases h'
      obtain ⟨a, b⟩ := tsr_c (q := q) (x := 42) hT (by omega) (by omega) (by omega) (by omega) (by omega)
      rw [a.mpr hc]
      exact ⟨14, rfl, rfl, by omega, by omega, (b hc).2, (b hc).1⟩
    · split at h'
      · next e =>
        subst e; cases h'
        obtain ⟨a, b⟩ := tsr_c (q := q) (x := 47) hT (by omega) (by omega) (by omega) (by omega) (by omega)
        rw [a.mpr hc]
        exact ⟨15, rfl, rfl, by omega, by omega, (b hc).2, (b hc).1⟩
      · split at h'
        · next e =>
          subst e; cases h'
          obtain ⟨a, b⟩ := tsr_c (q := q) (x := 37) hT (by omega) (by omega) (by omega) (by omega) (by omega)
          rw [a.mpr hc]
          exact ⟨16, rfl, rfl, by omega, by omega, (b hc).2, (b hc).1⟩
        · cases h'
theorem cd_s {T : Nat → Nat} {L q s : Nat} (hT : ∀ p, p < L → T p < 256) (h : (chr T L q).bind sOp = some s) : ∃ v, cdf (tsr T L q) = nI v ∧ v = xc (s + 16 * 0) ∧ (v = 12 ∨ v = 13) ∧ tnd T L q = q + 1 ∧ q < L := by
  cases hc : chr T L q with
  | none => rw [hc] at h; cases h
  | some x =>
    rw [hc] at h
    have h' : sOp x = some s := h
    unfold sOp at h'
    split at h'
    · next e =>
      subst e; cases h'
      obtain ⟨a, b⟩ := tsr_c (q := q) (x := 43) hT (by omega) (by omega) (by omega) (by omega) (by omega)
      rw [a.mpr hc]
      exact ⟨12, rfl, rfl, by omega, (b hc).2, (b hc).1⟩
    · split at h'
      · next e =>
        subst e; cases h'
        obtain ⟨a, b⟩ := tsr_c (q := q) (x := 45) hT (by omega) (by omega) (by omega) (by omega) (by omega)
        rw [a.mpr hc]
        exact ⟨13, rfl, rfl, by omega, (b hc).2, (b hc).1⟩
      · cases h'
theorem cd_nt {T : Nat → Nat} {L q : Nat} (hT : ∀ p, p < L → T p < 256) (h : (chr T L q).bind tOp = none) : cdf (tsr T L q) < 14 ∨ (16 : Int32) < cdf (tsr T L q) := by
  have n1 : ∀ x, (x = 42 ∨ x = 47 ∨ x = 37) → ¬ tsr T L q = nI x := fun x hx w => by
    obtain ⟨a, b⟩ := tsr_c (q := q) (x := x) hT (by omega) (by omega) (by omega) (by omega) (by omega)
    rw [a.mp w] at h
    rcases hx with rfl | rfl | rfl <;> exact absurd h (by decide)
  have m1 : ¬ tsr T L q = 42 := n1 42 (by omega)
  have m2 : ¬ tsr T L q = 47 := n1 47 (by omega)
  have m3 : ¬ tsr T L q = 37 := n1 37 (by omega)
  generalize tsr T L q = x at *
  unfold cdf
  by_cases h1 : x = 43
  · rw [if_pos h1]; exact Or.inl (by decide)
  · rw [if_neg h1]
    by_cases h2 : x = 45
    · rw [if_pos h2]; exact Or.inl (by decide)
    · rw [if_neg h2, if_neg m1, if_neg m2, if_neg m3]
      split
      · exact Or.inr (by decide)
      · split
        · exact Or.inr (by decide)
        · split
          · exact Or.inr (by decide)
          · split
            · exact Or.inr (by decide)
            · split
              · exact Or.inr (by decide)
              · exact Or.inl (by decide)
theorem cd_ns {T : Nat → Nat} {L q : Nat} (hT : ∀ p, p < L → T p < 256) (h : (chr T L q).bind sOp = none) : ¬ cdf (tsr T L q) = 12 ∧ ¬ cdf (tsr T L q) = 13 := by
  have n1 : ∀ x, (x = 43 ∨ x = 45) → ¬ tsr T L q = nI x := fun x hx w => by
    obtain ⟨a, b⟩ := tsr_c (q := q) (x := x) hT (by omega) (by omega) (by omega) (by omega) (by omega)
    rw [a.mp w] at h
    rcases hx with rfl | rfl <;> exact absurd h (by decide)
  have m1 : ¬ tsr T L q = 43 := n1 43 (by omega)
  have m2 : ¬ tsr T L q = 45 := n1 45 (by omega)
  generalize tsr T L q = x at *
  unfold cdf
  rw [if_neg m1, if_neg m2]
  split
  · decide
  · split
    · decide
    · split
      · decide
      · split
        · decide
        · split
          · decide
          · split
            · decide
            · split
              · decide
              · split
                · decide
                · decide
