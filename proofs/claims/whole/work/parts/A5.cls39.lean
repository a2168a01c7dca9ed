/-! THE CLASS: the reader of rules: tests, as it reads them -/
def bL (b : Bool) (x : Nat) : List Nat := if b then [x + 16 * 0] else []
def rR (T : Nat → Nat) (L : Nat) : Nat → Option (Bool × Bool) → Nat → Nat → Nat → List Nat → Except Nat (Nat × Nat × List Nat)
  | 0, _, _, _, _, _ => .error 1
  | n + 1, none, dp, p, md, c => if isW T L (skp T L p) 7237492 then (if dp = 10 then .error (fW 0 2 (skp T L p)) else match rR T L n none (dp + 1) (lnd T L (skp T L p)) md c with
      | .error w => .error w
      | .ok r => .ok (r.1, r.2.1, r.2.2 ++ [11 + 16 * 0]))
    else if chr T L (skp T L p) = some 91 then (if dp = 10 then .error (fW 0 2 (skp T L p)) else match rR T L n (some (false, false)) (dp + 1) (skp T L p + 1) md c with
      | .error w => .error w
      | .ok r => if chr T L (skp T L r.1) = some 93 then .ok (skp T L r.1 + 1, r.2.1, r.2.2) else .error (fW 0 0 (skp T L r.1)))
    else aCmp T L (skp T L p) md c
  | n + 1, some (an, o), dp, p, md, c => match rR T L n none dp p md c with
    | .error w => .error w
    | .ok r => if isW T L (skp T L r.1) 6385252 then rR T L n (some (true, o)) dp (lnd T L (skp T L r.1)) r.2.1 (r.2.2 ++ bL an 12)
      else if isW T L (skp T L r.1) 28530 then rR T L n (some (false, true)) dp (lnd T L (skp T L r.1)) r.2.1 (r.2.2 ++ bL an 12 ++ bL o 13)
      else .ok (skp T L r.1, r.2.1, r.2.2 ++ bL an 12 ++ bL o 13)
def bN (b : Bool) : Nat := if b then 1 else 0
theorem bL_len {b : Bool} {x : Nat} : (bL b x).length = bN b := by cases b <;> rfl
def oB : Option (Bool × Bool) → Nat
  | none => 0
  | some (a, b) => bN a + bN b
theorem isW_lnd {T : Nat → Nat} {L q : Nat} {w : Int64} (h : isW T L q w = true) : q < lnd T L q ∧ q < L := by
  have h1 := isW_lt h
  refine ⟨h1, ?_⟩
  rcases Nat.lt_or_ge q L with w | w
  · exact w
  · exfalso
    have : lnd T L q = q := by unfold lnd; rw [show L - q = 0 by omega]; rfl
    omega
theorem rR_gd {T : Nat → Nat} {L : Nat} : ∀ (n : Nat) (o : Option (Bool × Bool)) (dp p md : Nat) (c : List Nat) (r : Nat × Nat × List Nat), p ≤ L → md ≤ 60 → rR T L n o dp p md c = .ok r → p < r.1 ∧ r.1 ≤ L ∧ r.2.1 ≤ 60 ∧ r.2.2.length + p ≤ c.length + oB o + r.1 := by
  intro n
  induction n with
  | zero => intro o dp p md c r _ _ h; unfold rR at h; cases h
  | succ n ih =>
    intro o dp p md c r hp hm h
    have g1 := skp_ge (T := T) (L := L) (p := p)
    have g2 := skp_le (T := T) hp
    cases o with
    | none =>
      unfold rR at h
      split at h
      · next hw =>
        obtain ⟨w1, w2⟩ := isW_lnd hw
        have w3 := lnd_le (T := T) g2
        split at h
        · cases h
        · split at h
          · cases h
          · next r1 h1 =>
            obtain ⟨a1, a2, a3, a4⟩ := ih none (dp + 1) _ md c r1 w3 hm h1
            cases h
            have a4' : r1.2.2.length + lnd T L (skp T L p) ≤ c.length + 0 + r1.1 := a4
            refine ⟨show p < r1.1 by omega, a2, a3, ?_⟩
            show (r1.2.2 ++ [11 + 16 * 0]).length + p ≤ c.length + 0 + r1.1
            rw [List.length_append, List.length_singleton]
            omega
      · split at h
        · next hw =>
          have w2 := chrL hw
          split at h
          · cases h
          · split at h
            · cases h
            · next r1 h1 =>
              obtain ⟨a1, a2, a3, a4⟩ := ih (some (false, false)) (dp + 1) _ md c r1 (show skp T L p + 1 ≤ L from w2) hm h1
              have a4' : r1.2.2.length + (skp T L p + 1) ≤ c.length + (0 + 0) + r1.1 := a4
              have g3 := skp_ge (T := T) (L := L) (p := r1.1)
              split at h
              · next hb =>
                have w4 := chrL hb
                cases h
                refine ⟨show p < skp T L r1.1 + 1 by omega, w4, a3, ?_⟩
                show r1.2.2.length + p ≤ c.length + 0 + (skp T L r1.1 + 1)
                omega
              · cases h
        · obtain ⟨a1, a2, a3, a4⟩ := aCmp_gd _ _ _ _ g2 hm h
          refine ⟨by omega, a2, a3, ?_⟩
          show r.2.2.length + p ≤ c.length + 0 + r.1
          omega
    | some ao =>
      obtain ⟨an, o⟩ := ao
      unfold rR at h
      split at h
      · cases h
      · next r1 h1 =>
        obtain ⟨a1, a2, a3, a4⟩ := ih none dp p md c r1 hp hm h1
        have a4' : r1.2.2.length + p ≤ c.length + 0 + r1.1 := a4
        have g3 := skp_ge (T := T) (L := L) (p := r1.1)
        have g4 := skp_le (T := T) a2
        have e0 : oB (some (an, o)) = bN an + bN o := rfl
        rw [e0]
        have b1 : bN an ≤ 1 := by cases an <;> decide
        have b2 : bN o ≤ 1 := by cases o <;> decide
        split at h
        · next hw =>
          obtain ⟨w1, w2⟩ := isW_lnd hw
          obtain ⟨c1, c2, c3, c4⟩ := ih _ dp _ r1.2.1 _ r (lnd_le g4) a3 h
          have c4' : r.2.2.length + lnd T L (skp T L r1.1) ≤ (r1.2.2 ++ bL an 12).length + (1 + bN o) + r.1 := c4
          rw [List.length_append, bL_len] at c4'
          exact ⟨by omega, c2, c3, by omega⟩
        · split at h
          · next hw =>
            obtain ⟨w1, w2⟩ := isW_lnd hw
            obtain ⟨c1, c2, c3, c4⟩ := ih _ dp _ r1.2.1 _ r (lnd_le g4) a3 h
            have c4' : r.2.2.length + lnd T L (skp T L r1.1) ≤ (r1.2.2 ++ bL an 12 ++ bL o 13).length + (0 + 1) + r.1 := c4
            rw [List.length_append, List.length_append, bL_len, bL_len] at c4'
            exact ⟨by omega, c2, c3, by omega⟩
          · cases h
            refine ⟨show p < skp T L r1.1 by omega, g4, a3, ?_⟩
            show (r1.2.2 ++ bL an 12 ++ bL o 13).length + p ≤ c.length + (bN an + bN o) + skp T L r1.1
            rw [List.length_append, List.length_append, bL_len, bL_len]
            omega
