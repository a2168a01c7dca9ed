/-! TESTS: read by a stack, and read by calls, they come out alike -/
theorem acl_fuel {T : Nat → Nat} {L : Nat} : ∀ (n m p : Nat) (c st : List Nat), st.length ≤ n → st.length ≤ m → acl T L n p c st = acl T L m p c st := by
  have emp : ∀ (n p : Nat) (c : List Nat), acl T L n p c [] = (skp T L p, c, []) := by
    intro n p c
    cases n with
    | zero => rfl
    | succ n =>
      show (if chr T L (skp T L p) = some 93 ∧ ins [] = true then _ else _) = _
      rw [if_neg (fun w => by cases w.2)]
  intro n
  induction n with
  | zero =>
    intro m p c st h1 h2
    cases st with
    | nil => rw [emp, emp]
    | cons x s => rw [List.length_cons] at h1; omega
  | succ n ih =>
    intro m p c st h1 h2
    cases m with
    | zero =>
      cases st with
      | nil => rw [emp, emp]
      | cons x s => rw [List.length_cons] at h2; omega
    | succ m =>
      show (if chr T L (skp T L p) = some 93 ∧ ins st = true then acl T L n (skp T L p + 1) (c ++ lyE 1 st ++ lyE 3 (lyR 1 st).tail) (lyR 3 (lyR 1 st).tail) else (skp T L p, c, st)) = (if chr T L (skp T L p) = some 93 ∧ ins st = true then acl T L m (skp T L p + 1) (c ++ lyE 1 st ++ lyE 3 (lyR 1 st).tail) (lyR 3 (lyR 1 st).tail) else (skp T L p, c, st))
      by_cases e : chr T L (skp T L p) = some 93 ∧ ins st = true
      · rw [if_pos e, if_pos e]
        have l1 := ly_len (k := 1) st
        have l3 := ly_len (k := 3) (lyR 1 st).tail
        have l4 : (lyR 1 st).tail.length = (lyR 1 st).length - 1 := List.length_tail ..
        have l5 : 0 < st.length := by
          cases st with
          | nil => exact absurd e.2 (by decide)
          | cons x s => rw [List.length_cons]; omega
        exact ih m _ _ _ (by omega) (by omega)
      · rw [if_neg e, if_neg e]
/-- what the reference does behind a fact -/
def aft (T : Nat → Nat) (L n p md : Nat) (c st : List Nat) : Except Nat (Nat × Nat × List Nat) := if isW T L (acls T L p c st).1 6385252 then ats T L n (lnd T L (acls T L p c st).1) md ((acls T L p c st).2.1 ++ lyE 2 (acls T L p c st).2.2) (12 :: lyR 2 (acls T L p c st).2.2)
      else if isW T L (acls T L p c st).1 28530 then ats T L n (lnd T L (acls T L p c st).1) md ((acls T L p c st).2.1 ++ lyE 1 (acls T L p c st).2.2) (13 :: lyR 1 (acls T L p c st).2.2)
      else if ins (acls T L p c st).2.2 then .error (fW 0 0 (acls T L p c st).1) else .ok ((acls T L p c st).1, md, (acls T L p c st).2.1 ++ lyE 1 (acls T L p c st).2.2)
theorem ats_aft {T : Nat → Nat} {L n p md : Nat} {c st : List Nat} : ats T L (n + 1) p md c st = (match afc T L (L + 1) p md c st with
    | .error w => .error w
    | .ok r => aft T L n r.1.1 r.1.2.1 r.1.2.2 r.2) := rfl
theorem ats_fuel {T : Nat → Nat} {L : Nat} : ∀ (n m p md : Nat) (c st : List Nat), p ≤ L → md ≤ 60 → okS st → dpt st ≤ 10 → c.length + st.length ≤ p → L < p + n → L < p + m → ats T L n p md c st = ats T L m p md c st := by
  intro n
  induction n with
  | zero => intro m p md c st hp hd hs hdp hl h1; omega
  | succ n ih =>
    intro m p md c st hp hd hs hdp hl h1 h2
    obtain ⟨m', rfl⟩ : ∃ m', m = m' + 1 := ⟨m - 1, by omega⟩
    rw [ats_aft, ats_aft]
    cases hv : afc T L (L + 1) p md c st with
    | error w => rfl
    | ok r1 =>
      show aft T L n r1.1.1 r1.1.2.1 r1.1.2.2 r1.2 = aft T L m' r1.1.1 r1.1.2.1 r1.1.2.2 r1.2
      obtain ⟨⟨a1, a2, a3⟩, a4, a5, a6⟩ := afc_gd _ _ _ _ _ _ hp hd hs hdp hl hv
      obtain ⟨⟨u1, u2, u3⟩, u4, u5, u6⟩ := acls_gd (T := T) a2 a5 a4
      unfold aft
      generalize (acls T L r1.1.1 r1.1.2.2 r1.2).1 = q at *
      generalize (acls T L r1.1.1 r1.1.2.2 r1.2).2.1 = c1 at *
      generalize (acls T L r1.1.1 r1.1.2.2 r1.2).2.2 = st1 at *
      have b3 := lnd_le (T := T) u2
      by_cases g1 : isW T L q 6385252 = true
      · rw [if_pos g1, if_pos g1]
        have b4 := isW_lt g1
        have l2 := ly_len (k := 2) st1
        have d2 := dpt_ly (k := 2) (st := st1)
        exact ih _ _ _ _ _ b3 a3 (show okS (12 :: lyR 2 st1) from ⟨Or.inr (Or.inl rfl), okS_ly u5⟩) (show dpt (lyR 2 st1) + 0 ≤ 10 by omega) (by rw [List.length_cons, List.length_append]; omega) (by omega) (by omega)
      · rw [if_neg g1, if_neg g1]
        by_cases g2 : isW T L q 28530 = true
        · rw [if_pos g2, if_pos g2]
          have b4 := isW_lt g2
          have l2 := ly_len (k := 1) st1
          have d2 := dpt_ly (k := 1) (st := st1)
          exact ih _ _ _ _ _ b3 a3 (show okS (13 :: lyR 1 st1) from ⟨Or.inr (Or.inr (Or.inl rfl)), okS_ly u5⟩) (show dpt (lyR 1 st1) + 0 ≤ 10 by omega) (by rw [List.length_cons, List.length_append]; omega) (by omega) (by omega)
        · rw [if_neg g2, if_neg g2]
theorem aft_fuel {T : Nat → Nat} {L n m p md : Nat} {c st : List Nat} (hp : p ≤ L) (hd : md ≤ 60) (hs : okS st) (hdp : dpt st ≤ 10) (hl : c.length + st.length ≤ p) (h1 : L < p + 1 + n) (h2 : L < p + 1 + m) : aft T L n p md c st = aft T L m p md c st := by
  obtain ⟨⟨u1, u2, u3⟩, u4, u5, u6⟩ := acls_gd (T := T) hp hs hl
  unfold aft
  generalize (acls T L p c st).1 = q at *
  generalize (acls T L p c st).2.1 = c1 at *
  generalize (acls T L p c st).2.2 = st1 at *
  have b3 := lnd_le (T := T) u2
  by_cases g1 : isW T L q 6385252 = true
  · rw [if_pos g1, if_pos g1]
    have b4 := isW_lt g1
    have l2 := ly_len (k := 2) st1
    have d2 := dpt_ly (k := 2) (st := st1)
    exact ats_fuel _ _ _ _ _ _ b3 hd (show okS (12 :: lyR 2 st1) from ⟨Or.inr (Or.inl rfl), okS_ly u5⟩) (show dpt (lyR 2 st1) + 0 ≤ 10 by omega) (by rw [List.length_cons, List.length_append]; omega) (by omega) (by omega)
  · rw [if_neg g1, if_neg g1]
    by_cases g2 : isW T L q 28530 = true
    · rw [if_pos g2, if_pos g2]
      have b4 := isW_lt g2
      have l2 := ly_len (k := 1) st1
      have d2 := dpt_ly (k := 1) (st := st1)
      exact ats_fuel _ _ _ _ _ _ b3 hd (show okS (13 :: lyR 1 st1) from ⟨Or.inr (Or.inr (Or.inl rfl)), okS_ly u5⟩) (show dpt (lyR 1 st1) + 0 ≤ 10 by omega) (by rw [List.length_cons, List.length_append]; omega) (by omega) (by omega)
    · rw [if_neg g2, if_neg g2]
/-- a fact of a test, at full length -/
def aA (T : Nat → Nat) (L k p md : Nat) (c st : List Nat) : Except Nat (Nat × Nat × List Nat) := match afc T L k p md c st with
    | .error w => .error w
    | .ok r => aft T L (L + 1) r.1.1 r.1.2.1 r.1.2.2 r.2
theorem ats_aA {T : Nat → Nat} {L p md : Nat} {c st : List Nat} (hp : p ≤ L) (hd : md ≤ 60) (hs : okS st) (hdp : dpt st ≤ 10) (hl : c.length + st.length ≤ p) : ats T L (L + 1) p md c st = aA T L (L + 1) p md c st := by
  rw [ats_aft]
  unfold aA
  cases hv : afc T L (L + 1) p md c st with
  | error w => rfl
  | ok r1 =>
    obtain ⟨⟨a1, a2, a3⟩, a4, a5, a6⟩ := afc_gd _ _ _ _ _ _ hp hd hs hdp hl hv
    exact aft_fuel a2 a3 a5 a6 a4 (by omega) (by omega)
theorem acls_eq {T : Nat → Nat} {L p : Nat} {c c' st st' : List Nat} (h : c ++ lyE 3 st = c' ++ lyE 3 st') (h2 : lyR 3 st = lyR 3 st') : acls T L p c st = acls T L p c' st' := by
  have l1 := ly_len (k := 3) st
  have l2 := ly_len (k := 3) st'
  unfold acls
  rw [h, h2]
  exact acl_fuel _ _ _ _ _ (by rw [h2] at l1; omega) (by omega)
theorem aft_not {T : Nat → Nat} {L n p md : Nat} {c st : List Nat} : aft T L n p md c (11 :: st) = aft T L n p md (c ++ [11 + 16 * 0]) st := by
  have e : acls T L p c (11 :: st) = acls T L p (c ++ [11 + 16 * 0]) st := acls_eq (by
    show c ++ ((11 + 16 * 0) :: lyE 3 st) = c ++ [11 + 16 * 0] ++ lyE 3 st
    rw [List.append_assoc]
    rfl) rfl
  unfold aft
  rw [e]
/-- what waits in a test -/
def fr (an o : Bool) : List Nat := (if an then [12] else []) ++ (if o then [13] else [])
def bse (st : List Nat) : Prop := st = [] ∨ ∃ s, st = 91 :: s
theorem fr_ly {an o : Bool} {st : List Nat} (hb : bse st) : (lyE 3 (fr an o ++ st) = [] ∧ lyR 3 (fr an o ++ st) = fr an o ++ st) ∧ (lyE 2 (fr an o ++ st) = bL an 12 ∧ lyR 2 (fr an o ++ st) = fr false o ++ st) ∧ (lyE 1 (fr an o ++ st) = bL an 12 ++ bL o 13 ∧ lyR 1 (fr an o ++ st) = st) ∧ ins (fr an o ++ st) = ins st ∧ dpt (fr an o ++ st) = dpt st := by
  rcases hb with rfl | ⟨s, rfl⟩ <;> cases an <;> cases o <;> exact ⟨⟨rfl, rfl⟩, ⟨rfl, rfl⟩, ⟨rfl, rfl⟩, rfl, rfl⟩
theorem isW_c {T : Nat → Nat} {L q x : Nat} {w : Int64} (hx : ¬ (97 ≤ x ∧ x ≤ 122)) (h : chr T L q = some x) : isW T L q w = false := by
  cases e : isW T L q w with
  | false => rfl
  | true =>
    obtain ⟨w1, w2⟩ := isW_lnd e
    have := lnd_all (T := T) (L := L) (q := q) (j := q) (Nat.le_refl _) w1
    unfold chr at h
    rw [if_pos w2] at h
    injection h with h
    omega
def fin1 (T : Nat → Nat) (L : Nat) (r : Nat × Nat × List Nat) : List Nat → Except Nat (Nat × Nat × List Nat)
  | 91 :: s => if chr T L (skp T L r.1) = some 93 then aft T L (L + 1) (skp T L r.1 + 1) r.2.1 r.2.2 s else .error (fW 0 0 (skp T L r.1))
  | _ => .ok r
theorem aft_fr {T : Nat → Nat} {L p md : Nat} {c st : List Nat} {an o : Bool} (hb : bse st) (hp : p ≤ L) : aft T L (L + 1) p md c (fr an o ++ st) = if isW T L (skp T L p) 6385252 then ats T L (L + 1) (lnd T L (skp T L p)) md (c ++ bL an 12) (fr true o ++ st)
      else if isW T L (skp T L p) 28530 then ats T L (L + 1) (lnd T L (skp T L p)) md (c ++ bL an 12 ++ bL o 13) (fr false true ++ st)
      else fin1 T L (skp T L p, md, c ++ bL an 12 ++ bL o 13) st := by
  obtain ⟨⟨e1, e2⟩, ⟨e3, e4⟩, ⟨e5, e6⟩, e7, e8⟩ := fr_ly (an := an) (o := o) hb
  have ea : acls T L p c (fr an o ++ st) = acl T L (fr an o ++ st).length p c (fr an o ++ st) := by
    unfold acls
    rw [e1, e2, List.append_nil]
  have stop : ¬ (chr T L (skp T L p) = some 93 ∧ ins (fr an o ++ st) = true) → acls T L p c (fr an o ++ st) = (skp T L p, c, fr an o ++ st) := fun w => by
    rw [ea]
    cases (fr an o ++ st).length with
    | zero => rfl
    | succ k =>
      show (if chr T L (skp T L p) = some 93 ∧ ins (fr an o ++ st) = true then _ else _) = _
      rw [if_neg w]
  by_cases w : chr T L (skp T L p) = some 93 ∧ ins (fr an o ++ st) = true
  · obtain ⟨w1, w2⟩ := w
    rw [e7] at w2
    rw [isW_c (by omega) w1, isW_c (by omega) w1, if_neg (by decide), if_neg (by decide)]
    rcases hb with rfl | ⟨s, rfl⟩
    · exact absurd w2 (by decide)
    · show _ = if chr T L (skp T L (skp T L p)) = some 93 then aft T L (L + 1) (skp T L (skp T L p) + 1) md (c ++ bL an 12 ++ bL o 13) s else .error (fW 0 0 (skp T L (skp T L p)))
      rw [skp_id hp, if_pos w1]
      have eb : acls T L p c (fr an o ++ 91 :: s) = acls T L (skp T L p + 1) (c ++ bL an 12 ++ bL o 13) s := by
        rw [ea]
        obtain ⟨k, hk⟩ : ∃ k, (fr an o ++ 91 :: s).length = k + 1 := ⟨(fr an o ++ 91 :: s).length - 1, by rw [List.length_append, List.length_cons]; omega⟩
        rw [hk]
        show (if chr T L (skp T L p) = some 93 ∧ ins (fr an o ++ 91 :: s) = true then acl T L k (skp T L p + 1) (c ++ lyE 1 (fr an o ++ 91 :: s) ++ lyE 3 (lyR 1 (fr an o ++ 91 :: s)).tail) (lyR 3 (lyR 1 (fr an o ++ 91 :: s)).tail) else _) = _
        rw [if_pos ⟨w1, by rw [e7]; exact w2⟩, e5, e6]
        show acl T L k (skp T L p + 1) (c ++ (bL an 12 ++ bL o 13) ++ lyE 3 s) (lyR 3 s) = acl T L s.length (skp T L p + 1) (c ++ bL an 12 ++ bL o 13 ++ lyE 3 s) (lyR 3 s)
        have l3 := ly_len (k := 3) s
        rw [← List.append_assoc c]
        exact acl_fuel _ _ _ _ _ (by rw [List.length_append, List.length_cons] at hk; omega) (by omega)
      unfold aft
      rw [eb]
  · have es := stop w
    unfold aft
    rw [es]
    show (if isW T L (skp T L p) 6385252 then ats T L (L + 1) (lnd T L (skp T L p)) md (c ++ lyE 2 (fr an o ++ st)) (12 :: lyR 2 (fr an o ++ st)) else if isW T L (skp T L p) 28530 then ats T L (L + 1) (lnd T L (skp T L p)) md (c ++ lyE 1 (fr an o ++ st)) (13 :: lyR 1 (fr an o ++ st)) else if ins (fr an o ++ st) then .error (fW 0 0 (skp T L p)) else .ok (skp T L p, md, c ++ lyE 1 (fr an o ++ st))) = _
    rw [e3, e4, e5, e6, e7, ← List.append_assoc]
    have f1 : 12 :: (fr false o ++ st) = fr true o ++ st := by cases o <;> rfl
    have f2 : 13 :: st = fr false true ++ st := rfl
    rw [f1, f2]
    rw [e7] at w
    rcases hb with rfl | ⟨s, rfl⟩
    · rfl
    · have w1 : ¬ chr T L (skp T L p) = some 93 := fun u => w ⟨u, rfl⟩
      have f3 : fin1 T L (skp T L p, md, c ++ bL an 12 ++ bL o 13) (91 :: s) = .error (fW 0 0 (skp T L p)) := by
        show (if chr T L (skp T L (skp T L p)) = some 93 then _ else _) = _
        rw [skp_id hp, if_neg w1]
      rw [f3]
      rfl
