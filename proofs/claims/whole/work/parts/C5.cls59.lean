/-! THE VALUE OF A RULE READ: what the readers lay -/
def ru_V (b : Bool) (k : Nat) (c : List Nat) (md : Nat) (r : Nat × Nat × List Nat) : Prop := ∃ s n, r.2.2 = c ++ s ∧ r.2.1 = md + n ∧ 1 ≤ n ∧ ru_P b k s n ∧ ∀ z, z ∈ s → z < 2 ^ 31
def ru_G (sub : Nat → Nat → List Nat → Except Nat (Nat × Nat × List Nat)) (L : Nat) : Prop := ∀ p md c r, p ≤ L → sub p md c = .ok r → ru_V false 0 c md r
theorem ru_val {T : Nat → Nat} {L : Nat} : ru_G (aVal T L) L := by
  intro p md c r hp h
  have h1 := skp_le (T := T) hp
  unfold aVal at h
  split at h
  · next g =>
    split at h
    · next g4 =>
      split at h
      · cases h
      · cases h
        have hn : numN T L p 99999 = .ok (dnd T L (skp T L p), nvl T (skp T L p) (dnd T L (skp T L p) - skp T L p)) := by
          unfold numN
          rw [if_pos g, if_pos g4]
        have b := (numN_gd hp hn).2.2.1
        have b : nvl T (skp T L p) (dnd T L (skp T L p) - skp T L p) ≤ 99999 := b
        refine ⟨_, 1, rfl, rfl, by omega, ru_num, fun z hz => ?_⟩
        rw [List.mem_singleton.mp hz]
        omega
    · cases h
  · split at h
    · cases h
    · next w hw =>
      split at h
      · cases h
      · cases h
        have b := (wix_lt hw).1
        refine ⟨_, 1, rfl, rfl, by omega, ru_wrd b, fun z hz => ?_⟩
        rw [List.mem_singleton.mp hz]
        omega
def ru_O (op : Nat → Option Nat) : Prop := ∀ x s, op x = some s → s % 16 ≠ 0 ∧ s % 16 ≠ 1 ∧ s % 16 ≠ 11 ∧ s % 16 ≠ 15 ∧ s < 16
theorem ru_tOp : ru_O tOp := by
  intro x s h
  unfold tOp at h
  split at h
  · cases h; decide
  · split at h
    · cases h; decide
    · split at h
      · cases h; decide
      · cases h
theorem ru_sOp : ru_O sOp := by
  intro x s h
  unfold sOp at h
  split at h
  · cases h; decide
  · split at h
    · cases h; decide
    · cases h
theorem ru_lp {T : Nat → Nat} {L : Nat} {op : Nat → Option Nat} {sub : Nat → Nat → List Nat → Except Nat (Nat × Nat × List Nat)} (O : ru_O op) (S : ru_G sub L) (D : aGd L sub) (c0 : List Nat) (md0 : Nat) : ∀ (n p md : Nat) (c : List Nat) (r : Nat × Nat × List Nat), p ≤ L → md ≤ 60 → ru_V false 0 c0 md0 (p, md, c) → aLp T L op sub n p md c = .ok r → ru_V false 0 c0 md0 r := by
  intro n
  induction n with
  | zero => intro p md c r _ _ V h; cases h; exact V
  | succ n ih =>
    intro p md c r hp hd V h
    unfold aLp at h
    split at h
    · cases h
      obtain ⟨s, k, e1, e2, e3⟩ := V
      exact ⟨s, k, e1, e2, e3⟩
    · next x hx =>
      split at h
      · cases h
      · next q hq =>
        have hc : ∃ y, chr T L (skp T L p) = some y ∧ op y = some x := by
          cases hy : chr T L (skp T L p) with
          | none => rw [hy] at hx; cases hx
          | some y => rw [hy] at hx; exact ⟨y, rfl, hx⟩
        obtain ⟨y, hy, hyx⟩ := hc
        have hl := chrL hy
        obtain ⟨d1, d2, d3, d4⟩ := D _ _ _ _ (show skp T L p + 1 ≤ L by omega) hd hq
        obtain ⟨s2, n2, a1, a2, a3, a4, a5⟩ := S _ _ _ _ (show skp T L p + 1 ≤ L by omega) hq
        obtain ⟨s1, n1, b1, b2, b3, b4, b5⟩ := V
        obtain ⟨o1, o2, o3, o4, o5⟩ := O _ _ hyx
        have ex : (x + 16 * 0) % 16 = x % 16 := by omega
        refine ih _ _ _ _ d2 d3 ⟨s1 ++ s2 ++ [x + 16 * 0], n1 + n2, ?_, ?_, by omega, ru_bin b4 a4 b3 a3 (by omega) (by omega) (by omega) (by omega) (fun w => by cases w), fun z hz => ?_⟩ h
        · show q.2.2 ++ [x + 16 * 0] = c0 ++ (s1 ++ s2 ++ [x + 16 * 0])
          have b1 : c = c0 ++ s1 := b1
          rw [a1, b1]
          simp only [List.append_assoc]
        · show q.2.1 = md0 + (n1 + n2)
          have b2 : md = md0 + n1 := b2
          omega
        · rcases List.mem_append.mp hz with w | w
          · rcases List.mem_append.mp w with w | w
            · exact b5 z w
            · exact a5 z w
          · rw [List.mem_singleton.mp w]
            omega
theorem ru_bn {T : Nat → Nat} {L : Nat} {op : Nat → Option Nat} {sub : Nat → Nat → List Nat → Except Nat (Nat × Nat × List Nat)} (O : ru_O op) (S : ru_G sub L) (D : aGd L sub) : ∀ p md c r, p ≤ L → md ≤ 60 → aBin T L op sub p md c = .ok r → ru_V false 0 c md r := by
  intro p md c r hp hd h
  unfold aBin at h
  split at h
  · cases h
  · next q hq =>
    obtain ⟨d1, d2, d3, d4⟩ := D _ _ _ _ hp hd hq
    exact ru_lp O S D c md (L + 1) _ _ _ _ d2 d3 (S _ _ _ _ hp hq) h
theorem ru_md {T : Nat → Nat} {L : Nat} {p md : Nat} {c : List Nat} {r : Nat × Nat × List Nat} (h : aTer T L p md c = .ok r) (hp : p ≤ L) (hd : md ≤ 60) : ru_V false 0 c md r := ru_bn ru_tOp ru_val aVal_gd p md c r hp hd h
/-- a sum's loop, its parts read with at most 60 made -/
theorem ru_lp2 {T : Nat → Nat} {L : Nat} (c0 : List Nat) (md0 : Nat) : ∀ (n p md : Nat) (c : List Nat) (r : Nat × Nat × List Nat), p ≤ L → md ≤ 60 → ru_V false 0 c0 md0 (p, md, c) → aLp T L sOp (aTer T L) n p md c = .ok r → ru_V false 0 c0 md0 r := by
  intro n
  induction n with
  | zero => intro p md c r _ _ V h; cases h; exact V
  | succ n ih =>
    intro p md c r hp hd V h
    unfold aLp at h
    split at h
    · cases h
      obtain ⟨s, k, e1, e2, e3⟩ := V
      exact ⟨s, k, e1, e2, e3⟩
    · next x hx =>
      split at h
      · cases h
      · next q hq =>
        have hc : ∃ y, chr T L (skp T L p) = some y ∧ sOp y = some x := by
          cases hy : chr T L (skp T L p) with
          | none => rw [hy] at hx; cases hx
          | some y => rw [hy] at hx; exact ⟨y, rfl, hx⟩
        obtain ⟨y, hy, hyx⟩ := hc
        have hl := chrL hy
        obtain ⟨d1, d2, d3, d4⟩ := aTer_gd (T := T) _ _ _ _ (show skp T L p + 1 ≤ L by omega) hd hq
        obtain ⟨s2, n2, a1, a2, a3, a4, a5⟩ := ru_md hq (show skp T L p + 1 ≤ L by omega) hd
        obtain ⟨s1, n1, b1, b2, b3, b4, b5⟩ := V
        obtain ⟨o1, o2, o3, o4, o5⟩ := ru_sOp _ _ hyx
        have ex : (x + 16 * 0) % 16 = x % 16 := by omega
        refine ih _ _ _ _ d2 d3 ⟨s1 ++ s2 ++ [x + 16 * 0], n1 + n2, ?_, ?_, by omega, ru_bin b4 a4 b3 a3 (by omega) (by omega) (by omega) (by omega) (fun w => by cases w), fun z hz => ?_⟩ h
        · show q.2.2 ++ [x + 16 * 0] = c0 ++ (s1 ++ s2 ++ [x + 16 * 0])
          have b1 : c = c0 ++ s1 := b1
          rw [a1, b1]
          simp only [List.append_assoc]
        · show q.2.1 = md0 + (n1 + n2)
          have b2 : md = md0 + n1 := b2
          omega
        · rcases List.mem_append.mp hz with w | w
          · rcases List.mem_append.mp w with w | w
            · exact b5 z w
            · exact a5 z w
          · rw [List.mem_singleton.mp w]
            omega
theorem ru_sum {T : Nat → Nat} {L p md : Nat} {c : List Nat} {r : Nat × Nat × List Nat} (hp : p ≤ L) (hd : md ≤ 60) (h : aSum T L p md c = .ok r) : ru_V false 0 c md r := by
  unfold aSum aBin at h
  split at h
  · cases h
  · next q hq =>
    obtain ⟨d1, d2, d3, d4⟩ := aTer_gd (T := T) _ _ _ _ hp hd hq
    exact ru_lp2 c md (L + 1) _ _ _ _ d2 d3 (ru_md hq hp hd) h
theorem ru_sg {x : Nat} {al : Bool} : aSg x al ≤ 4 := by
  unfold aSg
  split
  · split <;> omega
  · split
    · omega
    · split <;> omega
theorem ru_c01 : ∀ s, s ≤ 4 → ∀ x y : Int64, mone (nI ((6 + s + 16 * 0) % 16)) x y = 0 ∨ mone (nI ((6 + s + 16 * 0) % 16)) x y = 1 := by
  intro s hs x y
  have i01 : ∀ (c : Prop) {_ : Decidable c}, (if c then (0 : Int64) else 1) = 0 ∨ (if c then (0 : Int64) else 1) = 1 := fun c _ => by split; exact Or.inl rfl; exact Or.inr rfl
  have i10 : ∀ (c : Prop) {_ : Decidable c}, (if c then (1 : Int64) else 0) = 0 ∨ (if c then (1 : Int64) else 0) = 1 := fun c _ => by split; exact Or.inr rfl; exact Or.inl rfl
  rcases (by omega : s = 0 ∨ s = 1 ∨ s = 2 ∨ s = 3 ∨ s = 4) with e | e | e | e | e <;> subst e
  · exact i01 (y ≤ x)
  · exact i01 (y < x)
  · exact i10 (x = y)
  · exact i01 (x < y)
  · exact i01 (x ≤ y)
theorem ru_cmp {T : Nat → Nat} {L p md : Nat} {c : List Nat} {r : Nat × Nat × List Nat} (hp : p ≤ L) (hd : md ≤ 60) (h : aCmp T L p md c = .ok r) : ru_V true 0 c md r := by
  unfold aCmp at h
  split at h
  · cases h
  · next q hq =>
    obtain ⟨d1, d2, d3, d4⟩ := aSum_gd (T := T) _ _ _ _ hp hd hq
    obtain ⟨s1, n1, b1, b2, b3, b4, b5⟩ := ru_sum hp hd hq
    split at h
    · cases h
    · next x hx =>
      have hc : ∃ y, chr T L (skp T L q.1) = some y := by
        cases hy : chr T L (skp T L q.1) with
        | none => rw [hy] at hx; cases hx
        | some y => exact ⟨y, rfl⟩
      obtain ⟨y, hy⟩ := hc
      have hl := chrL hy
      split at h
      · cases h
      · next h60 =>
        split at h
        · cases h
        · next r2 hr2 =>
          cases h
          obtain ⟨s2, n2, a1, a2, a3, a4, a5⟩ := ru_sum (aAl_lt hl) (by omega) hr2
          have sg := ru_sg (x := x) (al := aAl T L (skp T L q.1) x)
          refine ⟨s1 ++ s2 ++ [6 + aSg x (aAl T L (skp T L q.1) x) + 16 * 0], n1 + n2 + 1, ?_, ?_, by omega, ru_mono (ru_bin b4 a4 b3 a3 (by omega) (by omega) (by omega) (by omega) (fun _ => ru_c01 _ sg)) (by omega), fun z hz => ?_⟩
          · show r2.2.2 ++ _ = _
            rw [a1, b1]
            simp only [List.append_assoc]
          · show r2.2.1 = _
            omega
          · rcases List.mem_append.mp hz with w | w
            · rcases List.mem_append.mp w with w | w
              · exact b5 z w
              · exact a5 z w
            · rw [List.mem_singleton.mp w]
              omega
theorem ru_bLm {b : Bool} {x z : Nat} (hx : x < 16) (h : z ∈ bL b x) : z < 2 ^ 31 := by
  cases b with
  | false => cases h
  | true => rw [List.mem_singleton.mp h]; omega
theorem ru_rR {T : Nat → Nat} {L : Nat} : ∀ (n : Nat) (o : Option (Bool × Bool)) (dp p md : Nat) (c : List Nat) (r : Nat × Nat × List Nat), p ≤ L → md ≤ 60 → rR T L n o dp p md c = .ok r → ru_V true (oB o) c md r := by
  intro n
  induction n with
  | zero => intro o dp p md c r _ _ h; unfold rR at h; cases h
  | succ n ih =>
    intro o dp p md c r hp hm h
    have g2 := skp_le (T := T) hp
    cases o with
    | none =>
      unfold rR at h
      split at h
      · next hw =>
        have w3 := lnd_le (T := T) g2
        split at h
        · cases h
        · split at h
          · cases h
          · next q hq =>
            cases h
            obtain ⟨s, k, a1, a2, a3, a4, a5⟩ := ih none _ _ _ _ _ w3 hm hq
            refine ⟨s ++ [11 + 16 * 0], k, ?_, a2, a3, ru_not a4 a3, fun z hz => ?_⟩
            · show q.2.2 ++ _ = _
              rw [a1, List.append_assoc]
            · rcases List.mem_append.mp hz with w | w
              · exact a5 z w
              · rw [List.mem_singleton.mp w]; omega
      · split at h
        · next hw =>
          have hl := chrL hw
          split at h
          · cases h
          · split at h
            · cases h
            · next q hq =>
              split at h
              · cases h
                obtain ⟨s, k, a1, a2, a3, a4, a5⟩ := ih (some (false, false)) _ _ _ _ _ (show skp T L p + 1 ≤ L by omega) hm hq
                exact ⟨s, k, a1, a2, a3, a4, a5⟩
              · cases h
        · exact ru_cmp g2 hm h
    | some ao =>
      obtain ⟨an, o⟩ := ao
      unfold rR at h
      split at h
      · cases h
      · next q hq =>
        obtain ⟨s, k, a1, a2, a3, a4, a5⟩ := ih none _ _ _ _ _ hp hm hq
        obtain ⟨d1, d2, d3, d4⟩ := rR_gd n none _ _ _ _ _ hp hm hq
        have g3 := skp_le (T := T) d2
        have w3 := lnd_le (T := T) g3
        have eoB : oB (some (an, o)) = bN an + bN o := rfl
        rw [eoB]
        split at h
        · obtain ⟨s2, k2, b1, b2, b3, b4, b5⟩ := ih (some (true, o)) _ _ _ _ _ w3 d3 h
          refine ⟨s ++ bL an 12 ++ bL (false && o) 13 ++ s2, k + k2, ?_, by omega, by omega, ru_more (jo := false) a4 a3 b4 rfl, fun z hz => ?_⟩
          · rw [b1, a1]
            show _ = c ++ (s ++ bL an 12 ++ [] ++ s2)
            simp only [List.append_assoc, List.nil_append]
          · rcases List.mem_append.mp hz with w | w
            · rcases List.mem_append.mp w with w | w
              · rcases List.mem_append.mp w with w | w
                · exact a5 z w
                · exact ru_bLm (by omega) w
              · exact ru_bLm (by omega) w
            · exact b5 z w
        · split at h
          · obtain ⟨s2, k2, b1, b2, b3, b4, b5⟩ := ih (some (false, true)) _ _ _ _ _ w3 d3 h
            refine ⟨s ++ bL an 12 ++ bL (true && o) 13 ++ s2, k + k2, ?_, by omega, by omega, ru_more (jo := true) a4 a3 b4 (by cases o <;> rfl), fun z hz => ?_⟩
            · rw [b1, a1, Bool.true_and]
              simp only [List.append_assoc]
            · rcases List.mem_append.mp hz with w | w
              · rcases List.mem_append.mp w with w | w
                · rcases List.mem_append.mp w with w | w
                  · exact a5 z w
                  · exact ru_bLm (by omega) w
                · exact ru_bLm (by omega) w
              · exact b5 z w
          · cases h
            refine ⟨s ++ bL an 12 ++ bL (true && o) 13 ++ [], k + 0, ?_, by show q.2.1 = _; omega, by omega, ru_more (jo := true) a4 a3 ru_nil (by cases o <;> rfl), fun z hz => ?_⟩
            · show q.2.2 ++ bL an 12 ++ bL o 13 = _
              rw [a1, Bool.true_and]
              simp only [List.append_assoc, List.append_nil]
            · rw [List.append_nil] at hz
              rcases List.mem_append.mp hz with w | w
              · rcases List.mem_append.mp w with w | w
                · exact a5 z w
                · exact ru_bLm (by omega) w
              · exact ru_bLm (by omega) w
