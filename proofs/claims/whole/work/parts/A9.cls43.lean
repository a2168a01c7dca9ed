/-! TESTS: both readers alike -/
def QF (T : Nat → Nat) (L N : Nat) : Prop := ∀ (k p md : Nat) (c st : List Nat), p ≤ L → md ≤ 60 → okS st → dpt st ≤ 10 → c.length + st.length ≤ p → L < p + k → 2 * (L - p) + 1 ≤ N → aA T L k p md c st = (match rR T L N none (dpt st) p md c with
    | .error w => .error w
    | .ok r => aft T L (L + 1) r.1 r.2.1 r.2.2 st)
def QT (T : Nat → Nat) (L N : Nat) : Prop := ∀ (an o : Bool) (k p md : Nat) (c st : List Nat), bse st → p ≤ L → md ≤ 60 → okS (fr an o ++ st) → dpt st ≤ 10 → c.length + (fr an o ++ st).length ≤ p → L < p + k → 2 * (L - p) + 2 ≤ N → aA T L k p md c (fr an o ++ st) = (match rR T L N (some (an, o)) (dpt st) p md c with
    | .error w => .error w
    | .ok r => fin1 T L r st)
theorem okS_fr {an o : Bool} {st : List Nat} (h : okS st) : okS (fr an o ++ st) := by
  cases an <;> cases o
  · exact h
  · exact ⟨Or.inr (Or.inr (Or.inl rfl)), h⟩
  · exact ⟨Or.inr (Or.inl rfl), h⟩
  · exact ⟨Or.inr (Or.inl rfl), Or.inr (Or.inr (Or.inl rfl)), h⟩
theorem okS_fr' {an o : Bool} {st : List Nat} (h : okS (fr an o ++ st)) : okS st := by
  cases an <;> cases o
  · exact h
  · exact h.2
  · exact h.2
  · exact h.2.2
theorem fr_len {an o : Bool} {st : List Nat} : (fr an o ++ st).length = bN an + bN o + st.length := by
  cases an <;> cases o <;> simp [fr, bN] <;> omega
theorem QT_s {T : Nat → Nat} {L N : Nat} (PF : QF T L N) (PT : QT T L N) : QT T L (N + 1) := by
  intro an o k p md c st hb hp hd hs hdp hl hk hN
  obtain ⟨-, -, -, -, e8⟩ := fr_ly (an := an) (o := o) hb
  rw [PF k p md c (fr an o ++ st) hp hd hs (by rw [e8]; exact hdp) hl hk (by omega), e8]
  have er : rR T L (N + 1) (some (an, o)) (dpt st) p md c = (match rR T L N none (dpt st) p md c with
    | .error w => .error w
    | .ok r => if isW T L (skp T L r.1) 6385252 then rR T L N (some (true, o)) (dpt st) (lnd T L (skp T L r.1)) r.2.1 (r.2.2 ++ bL an 12)
      else if isW T L (skp T L r.1) 28530 then rR T L N (some (false, true)) (dpt st) (lnd T L (skp T L r.1)) r.2.1 (r.2.2 ++ bL an 12 ++ bL o 13)
      else .ok (skp T L r.1, r.2.1, r.2.2 ++ bL an 12 ++ bL o 13)) := rfl
  rw [er]
  cases hx : rR T L N none (dpt st) p md c with
  | error w => rfl
  | ok r =>
    obtain ⟨q1, q2, q3, q4⟩ := rR_gd N none _ p md c r hp hd hx
    have q4' : r.2.2.length + p ≤ c.length + 0 + r.1 := q4
    have sk := skp_ge (T := T) (L := L) (p := r.1)
    have sl := skp_le (T := T) q2
    rw [fr_len] at hl
    have hst := okS_fr' hs
    have b1 : bN an ≤ 1 := by cases an <;> decide
    have b2 : bN o ≤ 1 := by cases o <;> decide
    show aft T L (L + 1) r.1 r.2.1 r.2.2 (fr an o ++ st) = (match (if isW T L (skp T L r.1) 6385252 then rR T L N (some (true, o)) (dpt st) (lnd T L (skp T L r.1)) r.2.1 (r.2.2 ++ bL an 12)
      else if isW T L (skp T L r.1) 28530 then rR T L N (some (false, true)) (dpt st) (lnd T L (skp T L r.1)) r.2.1 (r.2.2 ++ bL an 12 ++ bL o 13)
      else .ok (skp T L r.1, r.2.1, r.2.2 ++ bL an 12 ++ bL o 13)) with
      | .error w => .error w
      | .ok r => fin1 T L r st)
    rw [aft_fr hb q2]
    by_cases g1 : isW T L (skp T L r.1) 6385252 = true
    · rw [if_pos g1, if_pos g1]
      obtain ⟨w1, w2⟩ := isW_lnd g1
      have w3 := lnd_le (T := T) sl
      have hl2 : (r.2.2 ++ bL an 12).length + (fr true o ++ st).length ≤ lnd T L (skp T L r.1) := by
        rw [fr_len, List.length_append, bL_len]
        show r.2.2.length + bN an + (1 + bN o + st.length) ≤ _
        omega
      rw [ats_aA w3 q3 (okS_fr hst) (by rw [(fr_ly hb).2.2.2.2]; exact hdp) hl2]
      exact PT true o (L + 1) _ r.2.1 _ st hb w3 q3 (okS_fr hst) hdp hl2 (by omega) (by omega)
    · rw [if_neg g1, if_neg g1]
      by_cases g2 : isW T L (skp T L r.1) 28530 = true
      · rw [if_pos g2, if_pos g2]
        obtain ⟨w1, w2⟩ := isW_lnd g2
        have w3 := lnd_le (T := T) sl
        have hl2 : (r.2.2 ++ bL an 12 ++ bL o 13).length + (fr false true ++ st).length ≤ lnd T L (skp T L r.1) := by
          rw [fr_len, List.length_append, List.length_append, bL_len, bL_len]
          show r.2.2.length + bN an + bN o + (0 + 1 + st.length) ≤ _
          omega
        rw [ats_aA w3 q3 (okS_fr hst) (by rw [(fr_ly hb).2.2.2.2]; exact hdp) hl2]
        exact PT false true (L + 1) _ r.2.1 _ st hb w3 q3 (okS_fr hst) hdp hl2 (by omega) (by omega)
      · rw [if_neg g2, if_neg g2]
theorem QF_s {T : Nat → Nat} {L N : Nat} (PF : QF T L N) (PT : QT T L N) : QF T L (N + 1) := by
  intro k p md c st hp hd hs hdp hl hk hN
  obtain ⟨k', rfl⟩ : ∃ k', k = k' + 1 := ⟨k - 1, by omega⟩
  have sk := skp_ge (T := T) (L := L) (p := p)
  have sl := skp_le (T := T) hp
  have er : rR T L (N + 1) none (dpt st) p md c = if isW T L (skp T L p) 7237492 then (if dpt st = 10 then .error (fW 0 2 (skp T L p)) else match rR T L N none (dpt st + 1) (lnd T L (skp T L p)) md c with
      | .error w => Except.error w
      | .ok r => .ok (r.1, r.2.1, r.2.2 ++ [11 + 16 * 0]))
    else if chr T L (skp T L p) = some 91 then (if dpt st = 10 then .error (fW 0 2 (skp T L p)) else match rR T L N (some (false, false)) (dpt st + 1) (skp T L p + 1) md c with
      | .error w => Except.error w
      | .ok r => if chr T L (skp T L r.1) = some 93 then .ok (skp T L r.1 + 1, r.2.1, r.2.2) else .error (fW 0 0 (skp T L r.1)))
    else aCmp T L (skp T L p) md c := rfl
  have ea : aA T L (k' + 1) p md c st = (match (if isW T L (skp T L p) 7237492 then (if dpt st = 10 then .error (fW 0 2 (skp T L p)) else afc T L k' (lnd T L (skp T L p)) md c (11 :: st)) else if chr T L (skp T L p) = some 91 then (if dpt st = 10 then .error (fW 0 2 (skp T L p)) else afc T L k' (skp T L p + 1) md c (91 :: st)) else match aCmp T L (skp T L p) md c with
    | .error w => Except.error w
    | .ok r => .ok (r, st)) with
    | .error w => Except.error w
    | .ok r => aft T L (L + 1) r.1.1 r.1.2.1 r.1.2.2 r.2) := rfl
  rw [er, ea]
  by_cases g1 : isW T L (skp T L p) 7237492 = true
  · rw [if_pos g1, if_pos g1]
    by_cases e10 : dpt st = 10
    · rw [if_pos e10, if_pos e10]
    · rw [if_neg e10, if_neg e10]
      obtain ⟨w1, w2⟩ := isW_lnd g1
      have w3 := lnd_le (T := T) sl
      have := PF k' (lnd T L (skp T L p)) md c (11 :: st) w3 hd ⟨Or.inl rfl, hs⟩ (show dpt st + 1 ≤ 10 by omega) (by rw [List.length_cons]; omega) (by omega) (by omega)
      refine Eq.trans this ?_
      show (match rR T L N none (dpt st + 1) (lnd T L (skp T L p)) md c with
        | .error w => Except.error w
        | .ok r => aft T L (L + 1) r.1 r.2.1 r.2.2 (11 :: st)) = _
      cases rR T L N none (dpt st + 1) (lnd T L (skp T L p)) md c with
      | error w => rfl
      | ok r => exact aft_not
  · rw [if_neg g1, if_neg g1]
    by_cases g2 : chr T L (skp T L p) = some 91
    · rw [if_pos g2, if_pos g2]
      have w2 := chrL g2
      by_cases e10 : dpt st = 10
      · rw [if_pos e10, if_pos e10]
      · rw [if_neg e10, if_neg e10]
        have := PT false false k' (skp T L p + 1) md c (91 :: st) (Or.inr ⟨st, rfl⟩) w2 hd (show okS (91 :: st) from ⟨Or.inr (Or.inr (Or.inr rfl)), hs⟩) (show dpt st + 1 ≤ 10 by omega) (by rw [fr_len, List.length_cons]; show c.length + (0 + 0 + (st.length + 1)) ≤ _; omega) (by omega) (by omega)
        have e : fr false false ++ 91 :: st = 91 :: st := rfl
        rw [e] at this
        refine Eq.trans this ?_
        show (match rR T L N (some (false, false)) (dpt st + 1) (skp T L p + 1) md c with
          | .error w => Except.error w
          | .ok r => fin1 T L r (91 :: st)) = _
        cases rR T L N (some (false, false)) (dpt st + 1) (skp T L p + 1) md c with
        | error w => rfl
        | ok r =>
          show (if chr T L (skp T L r.1) = some 93 then aft T L (L + 1) (skp T L r.1 + 1) r.2.1 r.2.2 st else .error (fW 0 0 (skp T L r.1))) = (match (if chr T L (skp T L r.1) = some 93 then Except.ok (skp T L r.1 + 1, r.2.1, r.2.2) else .error (fW 0 0 (skp T L r.1))) with
            | .error w => Except.error w
            | .ok r => aft T L (L + 1) r.1 r.2.1 r.2.2 st)
          by_cases g3 : chr T L (skp T L r.1) = some 93
          · rw [if_pos g3, if_pos g3]
          · rw [if_neg g3, if_neg g3]
    · rw [if_neg g2, if_neg g2]
      cases aCmp T L (skp T L p) md c <;> rfl
theorem QFT {T : Nat → Nat} {L : Nat} : ∀ N, QF T L N ∧ QT T L N := by
  intro N
  induction N with
  | zero => exact ⟨fun k p md c st _ _ _ _ _ _ hN => by omega, fun an o k p md c st _ _ _ _ _ _ _ hN => by omega⟩
  | succ N ih => exact ⟨QF_s ih.1 ih.2, QT_s ih.1 ih.2⟩
/-- a test, read by calls -/
theorem ats_rR {T : Nat → Nat} {L N p md : Nat} {c : List Nat} (hp : p ≤ L) (hd : md ≤ 60) (hl : c.length ≤ p) (hN : 2 * (L - p) + 2 ≤ N) : ats T L (L + 1) p md c [] = rR T L N (some (false, false)) 0 p md c := by
  rw [ats_aA hp hd (show okS [] from trivial) (show dpt [] ≤ 10 from Nat.zero_le _) (by rw [List.length_nil]; omega)]
  have := (QFT (T := T) (L := L) N).2 false false (L + 1) p md c [] (Or.inl rfl) hp hd (show okS [] from trivial) (show dpt [] ≤ 10 from Nat.zero_le _) (by show c.length + 0 ≤ p; omega) (by omega) hN
  have e : fr false false ++ [] = ([] : List Nat) := rfl
  rw [e] at this
  rw [this]
  show (match rR T L N (some (false, false)) 0 p md c with
    | .error w => Except.error w
    | .ok r => Except.ok r) = _
  cases rR T L N (some (false, false)) 0 p md c <;> rfl
