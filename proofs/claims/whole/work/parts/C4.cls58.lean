/-! THE VALUE OF A RULE READ: codes of sums and tests -/
def ru_ev (wd : Nat → Int64) : List Nat → List Int64 → Option (List Int64)
  | [], l => some l
  | c :: cs, l => if l.length < 64 then (match mstp c wd l with
    | some l' => ru_ev wd cs l'
    | none => none) else none
theorem ru_app {wd : Nat → Int64} : ∀ (a b : List Nat) (l l' : List Int64), ru_ev wd a l = some l' → ru_ev wd (a ++ b) l = ru_ev wd b l' := by
  intro a
  induction a with
  | nil =>
    intro b l l' h
    have e : l = l' := Option.some.inj h
    rw [← e]
    rfl
  | cons c cs ih =>
    intro b l l' h
    have h : (if l.length < 64 then (match mstp c wd l with
      | some l' => ru_ev wd cs l'
      | none => none) else none) = some l' := h
    show (if l.length < 64 then (match mstp c wd l with
      | some l' => ru_ev wd (cs ++ b) l'
      | none => none) else none) = _
    by_cases h1 : l.length < 64
    · rw [if_pos h1] at h ⊢
      cases hs : mstp c wd l with
      | none => rw [hs] at h; cases h
      | some l2 =>
        rw [hs] at h
        exact ih b l2 l' h
    · rw [if_neg h1] at h
      cases h
/-- codes that take k numbers and leave one, with n numbers made -/
def ru_P (b : Bool) (k : Nat) (s : List Nat) (n : Nat) : Prop := ∃ f : List Int64 → (Nat → Int64) → Int64, (b = true → ∀ q w, q.length = k → (∀ z, z ∈ q → z = 0 ∨ z = 1) → f q w = 0 ∨ f q w = 1) ∧ ∀ wd q l, q.length = k → l.length + k + n ≤ 63 → ru_ev wd s (q ++ l) = some (f q (w12 wd) :: l)
theorem ru_mono {b : Bool} {k n n' : Nat} {s : List Nat} (h : ru_P b k s n) (hn : n ≤ n') : ru_P b k s n' := by
  obtain ⟨f, h1, h2⟩ := h
  exact ⟨f, h1, fun wd q l hq hl => h2 wd q l hq (by omega)⟩
theorem ru_weak {b : Bool} {k n : Nat} {s : List Nat} (h : ru_P b k s n) : ru_P false k s n := by
  obtain ⟨f, h1, h2⟩ := h
  exact ⟨f, fun w => (by cases w), h2⟩
theorem ru_one {wd : Nat → Int64} {c : Nat} {l l' : List Int64} (hl : l.length < 64) (hs : mstp c wd l = some l') : ru_ev wd [c] l = some l' := by
  show (if l.length < 64 then (match mstp c wd l with
    | some l' => ru_ev wd [] l'
    | none => none) else none) = _
  rw [if_pos hl, hs]
  rfl
theorem ru_num {v : Nat} : ru_P false 0 [0 + 16 * v] 1 := by
  refine ⟨fun _ _ => lN v, fun w => (by cases w), fun wd q l hq hl => ?_⟩
  have e : q = [] := List.length_eq_zero_iff.mp hq
  subst e
  refine ru_one (show l.length < 64 by omega) ?_
  unfold mstp
  rw [if_pos (by omega), show (0 + 16 * v) / 16 = v by omega]
  rfl
theorem ru_wrd {v : Nat} (hv : v < 12) : ru_P false 0 [1 + 16 * v] 1 := by
  refine ⟨fun _ w => w v, fun w => (by cases w), fun wd q l hq hl => ?_⟩
  have e : q = [] := List.length_eq_zero_iff.mp hq
  subst e
  refine ru_one (show l.length < 64 by omega) ?_
  unfold mstp
  rw [if_neg (by omega), if_pos (by omega), show (1 + 16 * v) / 16 = v by omega, if_pos hv]
  show some (wd v :: l) = some (w12 wd v :: l)
  unfold w12
  rw [if_pos hv]
theorem ru_op {wd : Nat → Int64} {c : Nat} {x y : Int64} {l : List Int64} (h0 : c % 16 ≠ 0) (h1 : c % 16 ≠ 1) (h11 : c % 16 ≠ 11) (h15 : c % 16 ≠ 15) : mstp c wd (y :: x :: l) = some (mone (nI (c % 16)) x y :: l) := by
  unfold mstp
  rw [if_neg h0, if_neg h1, if_neg h11, if_neg h15]
theorem ru_bin {s1 s2 : List Nat} {n1 n2 c : Nat} (a : ru_P false 0 s1 n1) (b : ru_P false 0 s2 n2) (p1 : 1 ≤ n1) (p2 : 1 ≤ n2) (h0 : c % 16 ≠ 0) (h1 : c % 16 ≠ 1) (h11 : c % 16 ≠ 11) (h15 : c % 16 ≠ 15) {t : Bool} (ht : t = true → ∀ x y, mone (nI (c % 16)) x y = 0 ∨ mone (nI (c % 16)) x y = 1) : ru_P t 0 (s1 ++ s2 ++ [c]) (n1 + n2) := by
  obtain ⟨f, -, f2⟩ := a
  obtain ⟨g, -, g2⟩ := b
  refine ⟨fun _ w => mone (nI (c % 16)) (f [] w) (g [] w), fun e q w _ _ => ht e _ _, fun wd q l hq hl => ?_⟩
  have e : q = [] := List.length_eq_zero_iff.mp hq
  subst e
  have e1 : ru_ev wd s1 l = some (f [] (w12 wd) :: l) := f2 wd [] l rfl (by omega)
  have e2 : ru_ev wd s2 (f [] (w12 wd) :: l) = some (g [] (w12 wd) :: f [] (w12 wd) :: l) := g2 wd [] _ rfl (by rw [List.length_cons]; omega)
  show ru_ev wd (s1 ++ s2 ++ [c]) l = _
  rw [List.append_assoc, ru_app _ _ _ _ e1, ru_app _ _ _ _ e2]
  exact ru_one (by rw [List.length_cons, List.length_cons]; omega) (ru_op h0 h1 h11 h15)
theorem ru_not {s : List Nat} {n : Nat} (a : ru_P true 0 s n) (p1 : 1 ≤ n) : ru_P true 0 (s ++ [11 + 16 * 0]) n := by
  obtain ⟨f, f1, f2⟩ := a
  refine ⟨fun _ w => 1 - f [] w, fun _ q w _ _ => ?_, fun wd q l hq hl => ?_⟩
  · rcases f1 rfl [] w rfl (fun z hz => by cases hz) with e | e
    · show 1 - f [] w = 0 ∨ 1 - f [] w = 1
      rw [e]; exact Or.inr rfl
    · show 1 - f [] w = 0 ∨ 1 - f [] w = 1
      rw [e]; exact Or.inl rfl
  · have e : q = [] := List.length_eq_zero_iff.mp hq
    subst e
    have e1 : ru_ev wd s l = some (f [] (w12 wd) :: l) := f2 wd [] l rfl (by omega)
    show ru_ev wd (s ++ [11 + 16 * 0]) l = _
    rw [ru_app _ _ _ _ e1]
    refine ru_one (by rw [List.length_cons]; omega) ?_
    unfold mstp
    rw [if_neg (by decide), if_neg (by decide), if_pos (by decide)]
/-- a joint -/
def ru_J (b : Bool) (op : Nat) (q : List Int64) : List Int64 := if b then (match q with
  | y :: x :: r => mone (nI op) x y :: r
  | _ => q) else q
theorem ru_Je {wd : Nat → Int64} {b : Bool} {op : Nat} {q l : List Int64} (ho : op = 12 ∨ op = 13) (hq : b = true → 2 ≤ q.length) (hl : (q ++ l).length < 64) : ru_ev wd (bL b op) (q ++ l) = some (ru_J b op q ++ l) := by
  cases b with
  | false => rfl
  | true =>
    match q, hq rfl with
    | y :: x :: r, _ =>
      have e16 : (op + 16 * 0) % 16 = op := by omega
      have := ru_op (wd := wd) (c := op + 16 * 0) (x := x) (y := y) (l := r ++ l) (by omega) (by omega) (by omega) (by omega)
      rw [e16] at this
      exact ru_one hl this
theorem ru_Jl {b : Bool} {op : Nat} {q : List Int64} (hq : b = true → 2 ≤ q.length) : (ru_J b op q).length + bN b = q.length := by
  cases b with
  | false => rfl
  | true =>
    match q, hq rfl with
    | y :: x :: r, _ => rfl
theorem ru_J01 {b : Bool} {op : Nat} {q : List Int64} (ho : op = 12 ∨ op = 13) (h : ∀ z, z ∈ q → z = 0 ∨ z = 1) : ∀ z, z ∈ ru_J b op q → z = 0 ∨ z = 1 := by
  cases b with
  | false => exact h
  | true =>
    match q, h with
    | [], h => exact h
    | [y], h => exact h
    | y :: x :: r, h =>
      intro z hz
      have hz : z ∈ mone (nI op) x y :: r := hz
      rcases List.mem_cons.mp hz with e | e
      · rcases h y (by simp) with hy | hy <;> rcases h x (by simp) with hx | hx <;> rcases ho with ho | ho <;> rw [e, hy, hx, ho] <;> decide
      · exact h z (by simp [e])
/-- a fact, and what is read behind it -/
theorem ru_more {an o : Bool} {s1 : List Nat} {n1 : Nat} (a : ru_P true 0 s1 n1) (p1 : 1 ≤ n1) {s2 : List Nat} {n2 k2 : Nat} {jo : Bool} (b : ru_P true k2 s2 n2) (hk : k2 + bN (jo && o) = 1 + bN o) : ru_P true (bN an + bN o) (s1 ++ bL an 12 ++ bL (jo && o) 13 ++ s2) (n1 + n2) := by
  obtain ⟨f, f1, f2⟩ := a
  obtain ⟨g, g1, g2⟩ := b
  have hb : ∀ b : Bool, bN b ≤ 1 := fun b => by cases b <;> decide
  have ha := hb an
  have ho := hb o
  have hb1 : ∀ b : Bool, b = true → bN b = 1 := fun b e => by rw [e]; rfl
  have hlen : ∀ (q : List Int64) (v : Int64), q.length = bN an + bN o → (ru_J an 12 (v :: q)).length = 1 + bN o ∧ (ru_J (jo && o) 13 (ru_J an 12 (v :: q))).length = k2 := by
    intro q v hq
    have e1 := ru_Jl (b := an) (op := 12) (q := v :: q) (fun e => by rw [List.length_cons, hq, hb1 an e]; omega)
    rw [List.length_cons, hq] at e1
    have e2 := ru_Jl (b := jo && o) (op := 13) (q := ru_J an 12 (v :: q)) (fun e => by
      have : o = true := by cases jo <;> cases o <;> first | rfl | cases e
      have := hb1 o this
      omega)
    constructor <;> omega
  refine ⟨fun q w => g (ru_J (jo && o) 13 (ru_J an 12 (f [] w :: q))) w, fun _ q w hq hz => ?_, fun wd q l hq hl => ?_⟩
  · refine g1 rfl _ w (hlen q _ hq).2 (ru_J01 (Or.inr rfl) (ru_J01 (Or.inl rfl) (fun z hz' => ?_)))
    rcases List.mem_cons.mp hz' with e | e
    · rw [e]; exact f1 rfl [] w rfl (fun z hz => by cases hz)
    · exact hz z e
  · have e1 : ru_ev wd s1 (q ++ l) = some (f [] (w12 wd) :: (q ++ l)) := f2 wd [] (q ++ l) rfl (by rw [List.length_append]; omega)
    have e2 : ru_ev wd (bL an 12) (f [] (w12 wd) :: (q ++ l)) = some (ru_J an 12 (f [] (w12 wd) :: q) ++ l) := ru_Je (q := f [] (w12 wd) :: q) (Or.inl rfl) (fun e => by rw [List.length_cons, hq, hb1 an e]; omega) (by rw [List.length_append, List.length_cons]; omega)
    obtain ⟨l1, l2⟩ := hlen q (f [] (w12 wd)) hq
    have e3 : ru_ev wd (bL (jo && o) 13) (ru_J an 12 (f [] (w12 wd) :: q) ++ l) = some (ru_J (jo && o) 13 (ru_J an 12 (f [] (w12 wd) :: q)) ++ l) := ru_Je (Or.inr rfl) (fun e => by
      have : o = true := by cases jo <;> cases o <;> first | rfl | cases e
      have := hb1 o this
      omega) (by rw [List.length_append]; omega)
    have e4 := g2 wd (ru_J (jo && o) 13 (ru_J an 12 (f [] (w12 wd) :: q))) l l2 (by
      have := hb (jo && o)
      omega)
    rw [List.append_assoc, List.append_assoc, ru_app _ _ _ _ e1, ru_app _ _ _ _ e2, ru_app _ _ _ _ e3]
    exact e4
theorem ru_nil : ru_P true 1 [] 0 := ⟨fun q _ => q.headD 0, fun _ q w hq hz => by
  match q, hq with
  | [x], _ => exact hz x (by simp), fun wd q l hq hl => by
  match q, hq with
  | [x], _ => rfl⟩
