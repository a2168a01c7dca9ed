/-! THE VALUE OF A RULE READ: clauses; the rule -/
abbrev ruC := Nat × Nat × Option (Nat × Nat)
theorem ru_seg {c : List Nat} {wd : Nat → Int64} {v : Int64} : ∀ (n i : Nat) (l : List Int64), i + n ≤ c.length → ru_ev wd ((c.drop i).take n) l = some [v] → mrx (fun j => c.getD j 0) wd n i l = some v := by
  intro n
  induction n with
  | zero =>
    intro i l hi h
    rw [List.take_zero] at h
    have e : l = [v] := Option.some.inj h
    rw [e]
    rfl
  | succ n ih =>
    intro i l hi h
    have hlt : i < c.length := by omega
    rw [List.drop_eq_getElem_cons hlt, List.take_succ_cons] at h
    have h : (if l.length < 64 then (match mstp c[i] wd l with
      | some l' => ru_ev wd ((c.drop (i + 1)).take n) l'
      | none => none) else none) = some [v] := h
    have eg : c.getD i 0 = c[i] := by rw [List.getD_eq_getElem?_getD, List.getElem?_eq_getElem hlt]; rfl
    show (if l.length < 64 then (match mstp (c.getD i 0) wd l with
      | some l' => mrx (fun j => c.getD j 0) wd n (i + 1) l'
      | none => none) else none) = some v
    rw [eg]
    by_cases h1 : l.length < 64
    · rw [if_pos h1] at h ⊢
      cases hs : mstp c[i] wd l with
      | none => rw [hs] at h; cases h
      | some l2 =>
        rw [hs] at h
        exact ih (i + 1) l2 (by omega) h
    · rw [if_neg h1] at h
      cases h
/-- a clause: its sum, its test -/
def ru_T (c : List Nat) (e : ruC) : Option (Nat × Nat) → Prop
  | none => True
  | some q => q.1 = e.2.1 ∧ q.1 < q.2 ∧ q.2 ≤ c.length ∧ ru_P true 0 ((c.drop q.1).take (q.2 - q.1)) 60
def ru_C (c : List Nat) (e : ruC) : Prop := e.1 ≤ e.2.1 ∧ e.2.1 ≤ c.length ∧ ru_P false 0 ((c.drop e.1).take (e.2.1 - e.1)) 60 ∧ ru_T c e e.2.2
theorem ru_cut {c s : List Nat} {a b : Nat} (h1 : a ≤ b) (h2 : b ≤ c.length) : ((c ++ s).drop a).take (b - a) = (c.drop a).take (b - a) := by
  rw [List.drop_append_of_le_length (by omega), List.take_append_of_le_length (by rw [List.length_drop]; omega)]
theorem ru_end {c s : List Nat} : ((c ++ s).drop c.length).take ((c ++ s).length - c.length) = s := by
  rw [List.drop_left, List.length_append, Nat.add_sub_cancel_left, List.take_length]
theorem ru_Ca {c s : List Nat} {e : ruC} (h : ru_C c e) : ru_C (c ++ s) e := by
  obtain ⟨h1, h2, h3, h4⟩ := h
  refine ⟨h1, by rw [List.length_append]; omega, by rw [ru_cut h1 h2]; exact h3, ?_⟩
  cases hq : e.2.2 with
  | none => trivial
  | some q =>
    rw [hq] at h4
    obtain ⟨a1, a2, a3, a4⟩ := h4
    exact ⟨a1, a2, by rw [List.length_append]; omega, by rw [ru_cut (by omega) a3]; exact a4⟩
theorem ru_ne {b : Bool} {s : List Nat} {n : Nat} (h : ru_P b 0 s n) (hn : n ≤ 60) : 0 < s.length := by
  cases s with
  | cons x y => exact Nat.succ_pos _
  | nil =>
    obtain ⟨f, -, f2⟩ := h
    have := f2 (fun _ => 0) [] [] rfl (by show 0 + 0 + n ≤ 63; omega)
    have : (some [] : Option (List Int64)) = some [f [] (w12 (fun _ => 0))] := this
    cases this
theorem ru_try {T : Nat → Nat} {L p md : Nat} {c : List Nat} {r : (Nat × Nat × List Nat) × ruC} (hp : p ≤ L) (hd : md ≤ 60) (hl : c.length ≤ p) (h : aTry T L p md c = .ok r) : (∃ s, r.1.2.2 = c ++ s ∧ ∀ z, z ∈ s → z < 2 ^ 31) ∧ ru_C r.1.2.2 r.2 ∧ r.2.1 = c.length ∧ eE r.2 = r.1.2.2.length := by
  unfold aTry at h
  split at h
  · cases h
  · next q hq =>
    obtain ⟨d1, d2, d3, d4⟩ := aSum_gd (T := T) _ _ _ _ hp hd hq
    obtain ⟨s1, n1, b1, b2, b3, b4, b5⟩ := ru_sum hp hd hq
    have g3 := skp_le (T := T) d2
    have w3 := lnd_le (T := T) g3
    have g4 := skp_ge (T := T) (L := L) (p := q.1)
    have P1 : ru_P false 0 s1 60 := ru_mono b4 (by omega)
    split at h
    · next hw =>
      have w4 := isW_lnd hw
      rw [ats_rR (N := 2 * L + 2) w3 d3 (by omega) (by omega)] at h
      split at h
      · cases h
      · next r2 hr2 =>
        cases h
        obtain ⟨s2, n2, a1, a2, a3, a4, a5⟩ := ru_rR _ _ _ _ _ _ _ w3 d3 hr2
        obtain ⟨f1, f2, f3, f4⟩ := rR_gd _ _ _ _ _ _ _ w3 d3 hr2
        have P2 : ru_P true 0 s2 60 := ru_mono a4 (by omega)
        have l2 := ru_ne P2 (by omega)
        have e2 : r2.2.2 = c ++ s1 ++ s2 := by rw [a1, b1]
        refine ⟨⟨s1 ++ s2, by rw [← List.append_assoc]; exact e2, fun z hz => ?_⟩, ?_, rfl, rfl⟩
        · rcases List.mem_append.mp hz with w | w
          · exact b5 z w
          · exact a5 z w
        · show ru_C r2.2.2 (c.length, q.2.2.length, some (q.2.2.length, r2.2.2.length))
          rw [e2, b1]
          refine ⟨by rw [List.length_append]; exact Nat.le_add_right _ _, show (c ++ s1).length ≤ (c ++ s1 ++ s2).length by rw [List.length_append (as := c ++ s1)]; exact Nat.le_add_right _ _, ?_, rfl, ?_, Nat.le_refl _, ?_⟩
          · show ru_P false 0 (((c ++ s1 ++ s2).drop c.length).take ((c ++ s1).length - c.length)) 60
            rw [ru_cut (by rw [List.length_append]; exact Nat.le_add_right _ _) (Nat.le_refl _), ru_end]
            exact P1
          · show (c ++ s1).length < (c ++ s1 ++ s2).length
            rw [List.length_append (as := c ++ s1)]
            omega
          · show ru_P true 0 (((c ++ s1 ++ s2).drop (c ++ s1).length).take ((c ++ s1 ++ s2).length - (c ++ s1).length)) 60
            rw [ru_end]
            exact P2
    · cases h
      refine ⟨⟨s1, b1, b5⟩, ?_, rfl, rfl⟩
      show ru_C q.2.2 (c.length, q.2.2.length, none)
      rw [b1]
      refine ⟨by rw [List.length_append]; exact Nat.le_add_right _ _, Nat.le_refl _, ?_, trivial⟩
      show ru_P false 0 (((c ++ s1).drop c.length).take ((c ++ s1).length - c.length)) 60
      rw [ru_end]
      exact P1
theorem ru_rul {T : Nat → Nat} {L : Nat} : ∀ (n p md : Nat) (c : List Nat) (K : List ruC) (q : List Nat × List ruC), p ≤ L → md ≤ 60 → c.length ≤ p → K.length ≤ 12 → (∀ z, z ∈ c → z < 2 ^ 31) → (∀ e, e ∈ K → ru_C c e) → aRul T L n p md c K = .ok q → q.1.length ≤ L ∧ q.2.length ≤ 12 ∧ (∀ z, z ∈ q.1 → z < 2 ^ 31) ∧ ∀ e, e ∈ q.2 → ru_C q.1 e := by
  intro n
  induction n with
  | zero => intro p md c K q _ _ _ _ _ _ h; unfold aRul at h; cases h
  | succ n ih =>
    intro p md c K q hp hd hl hk hz hK h
    unfold aRul at h
    split at h
    · cases h
    · next r hr =>
      obtain ⟨a1, a2, a3, a4, a5⟩ := aCls_gd hp hd hl hr
      have h1 := skp_le (T := T) hp
      have h2 := skp_ge (T := T) (L := L) (p := p)
      have ht : (∃ s, r.1.2.2 = c ++ s ∧ ∀ z, z ∈ s → z < 2 ^ 31) ∧ ru_C r.1.2.2 r.2 := by
        unfold aCls at hr
        split at hr
        · next g =>
          have b4 := isW_lt g
          obtain ⟨t1, t2, -, -⟩ := ru_try (lnd_le h1) hd (by omega) hr
          exact ⟨t1, t2⟩
        · cases hr
      obtain ⟨⟨s, e1, e2⟩, e3⟩ := ht
      have hz' : ∀ z, z ∈ r.1.2.2 → z < 2 ^ 31 := fun z hz' => by
        rw [e1] at hz'
        rcases List.mem_append.mp hz' with w | w
        · exact hz z w
        · exact e2 z w
      have hK' : ∀ e, e ∈ K ++ [r.2] → ru_C r.1.2.2 e := fun e he => by
        rcases List.mem_append.mp he with w | w
        · rw [e1]; exact ru_Ca (hK e w)
        · rw [List.mem_singleton.mp w]; exact e3
      have hk' : (K ++ [r.2]).length ≤ 12 := by rw [List.length_append, List.length_singleton]; omega
      split at h
      · next g =>
        have g1 := chrL g
        have g2 := skp_ge (T := T) (L := L) (p := r.1.1)
        exact ih _ _ _ _ _ (by omega) a3 (by omega) hk' hz' hK' h
      · split at h
        · cases h
          exact ⟨by show r.1.2.2.length ≤ L; omega, hk', hz', hK'⟩
        · cases h
theorem ru_f {c : List Nat} {K : Nat → ruC} : ∀ (n i : Nat), (∀ j, i ≤ j → j < i + n → ru_C c (K j)) → ∃ f : (Nat → Int64) → Int64, ∀ wd, mcx (fun j => c.getD j 0) K wd n i = some (f (w12 wd)) := by
  intro n
  induction n with
  | zero => intro i _; exact ⟨fun _ => 0, fun wd => rfl⟩
  | succ n ih =>
    intro i hc
    obtain ⟨f', hf'⟩ := ih (i + 1) (fun j h1 h2 => hc j (by omega) (by omega))
    obtain ⟨c1, c2, ⟨s, -, s2⟩, c4⟩ := hc i (Nat.le_refl _) (by omega)
    have eS : ∀ wd, mrx (fun j => c.getD j 0) wd ((K i).2.1 - (K i).1) (K i).1 [] = some (s [] (w12 wd)) := fun wd => ru_seg _ _ _ (by omega) (s2 wd [] [] rfl (by decide))
    cases hq : (K i).2.2 with
    | none =>
      refine ⟨s [], fun wd => ?_⟩
      unfold mcx
      rw [hq]
      exact eS wd
    | some q =>
      rw [hq] at c4
      obtain ⟨t1, t2, t3, ⟨g, g1, g2⟩⟩ := c4
      have eT : ∀ wd, mrx (fun j => c.getD j 0) wd (q.2 - q.1) q.1 [] = some (g [] (w12 wd)) := fun wd => ru_seg _ _ _ (by omega) (g2 wd [] [] rfl (by decide))
      refine ⟨fun w => if g [] w = 1 then s [] w else f' w, fun wd => ?_⟩
      unfold mcx
      simp only [hq, eT wd]
      rcases g1 rfl [] (w12 wd) rfl (fun z hz => by cases hz) with e | e
      · rw [e, if_neg (by decide), if_pos rfl, if_neg (by decide)]
        exact hf' wd
      · rw [e, if_pos rfl, if_pos rfl]
        exact eS wd
/-- a rule read -/
theorem ru_ok {T : Nat → Nat} {L : Nat} {q : List Nat × List ruC} (h : aRul T L (L + 1) 0 0 [] [] = .ok q) : (q.1.length ≤ L ∧ q.2.length ≤ 12 ∧ (∀ z, z ∈ q.1 → z < 2 ^ 31) ∧ ∀ e, e ∈ q.2 → ru_C q.1 e) ∧ ∃ f : (Nat → Int64) → Int64, ∀ wd, mcx (fun j => q.1.getD j 0) (fun i => q.2.getD i (0, 0, none)) wd q.2.length 0 = some (f (w12 wd)) := by
  have h1 := ru_rul (L + 1) 0 0 [] [] q (Nat.zero_le _) (Nat.zero_le _) (Nat.zero_le _) (Nat.zero_le _) (fun z hz => by cases hz) (fun e he => by cases he) h
  refine ⟨h1, ru_f _ 0 (fun j _ hj => h1.2.2.2 _ ?_)⟩
  have hj : j < q.2.length := by omega
  show q.2.getD j (0, 0, none) ∈ q.2
  rw [List.getD_eq_getElem?_getD, List.getElem?_eq_getElem hj]
  exact List.getElem_mem hj
