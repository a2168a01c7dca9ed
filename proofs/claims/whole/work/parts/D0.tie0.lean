/-! THE TIE: the class's half: its pieces, and what they bear -/
def ty_sk (h : jH) (x : Nat) : Prop := xI h x ∧ (jK h (x + 8) = (23, 5) ∧ jR h (x + 8) 3 = some (x + 13) ∧ jR h (x + 8) 4 = some (x + 18)) ∧ stI h (x + 13) ∧ noI h (x + 18) ∧ jK h (x + 7) = (6, 6) ∧ jK h (x + 25) = (5, 4) ∧ rdI h (x + 3) (x + 1)
def ty_sc (h : jH) (x : Nat) : Prop := prI h (x + 26) ∧ fsI h (x + 35)
def ty_cm (h : jH) (x c : Nat) (S : Nat → Int32) (ow : Nat → Nat) : Prop := (cmI h c ∧ cmV h c S ∧ cmT h c S) ∧ c + 4 ≤ jnx h ∧ ∀ a, c ≤ a → a < c + 4 → (x + 9 ≤ a ∧ a < x + 13) ∨ (x + 75 ≤ a ∧ ow a = 1)
def ty_ru (h : jH) (x C : Nat) (fs : Nat → (Nat → Int64) → Int64) (ow : Nat → Nat) : Prop := (jI h x 3 = nI C ∧ C ≤ 6) ∧ (∀ t, t < C → ∃ r, jR h (x + 7) t = some r ∧ xRl h r (fs t) ∧ x + 75 ≤ r ∧ r + 4 ≤ jnx h ∧ ∀ a, r ≤ a → a < r + 4 → ow a = 1) ∧ ∀ t, C ≤ t → t < 6 → jR h (x + 7) t = none
abbrev tyI := Nat → Option ((Nat → Int32) × Int32 × Int32)
/-- an image, at p -/
def ty_mo (h : jH) (x p c k : Nat) (q : (Nat → Int32) × Int32 × Int32) (ow : Nat → Nat) : Prop := (jK h p = (23, 5) ∧ jR h p 0 = some c ∧ jR h p 3 = some (p + 5) ∧ jR h p 4 = some (p + 10) ∧ jI h p 1 = q.2.1 ∧ jI h p 2 = q.2.2) ∧ (stI h (p + 5) ∧ stV h (p + 5) q.1) ∧ (noI h (p + 10) ∧ noV h (p + 10) q.1) ∧ ty_cm h x c q.1 ow ∧ x + 75 ≤ p ∧ p + 15 ≤ jnx h ∧ ∀ a, p ≤ a → a < p + 15 → ow a = 22 + k
def ty_i1 (h : jH) (x k : Nat) (ow : Nat → Nat) : Option ((Nat → Int32) × Int32 × Int32) → Prop
  | none => jR h (x + 25) k = none
  | some q => ∃ p c, jR h (x + 25) k = some p ∧ ty_mo h x p c k q ow
def ty_im (h : jH) (x : Nat) (IM : tyI) (ow : Nat → Nat) : Prop := ∀ k, k < 4 → ty_i1 h x k ow (IM k)
def ty_tp (h : jH) (x : Nat) (T : Nat → Nat) (L : Nat) : Prop := tpI h (x + 1) T L ∧ jI h (x + 1) 1 = nI L
def ty_tx (h : jH) (x : Nat) (tK tV : Nat → Nat) : Prop := txI h tK tV ∧ (∀ i, i < 6 → tV i < x) ∧ 0 < x
section
variable {h h' : jH} {x c C k p l U L : Nat} {W : Nat → Prop} {S : Nat → Int32} {ow ow' : Nat → Nat} {fs : Nat → (Nat → Int64) → Int64} {K : Nat → Nat → Int32} {T tK tV : Nat → Nat} {IM : tyI}
theorem ty_sk_of (hK : ∀ a, x ≤ a → a < x + 26 → jK h' a = jK h a) (hR : ∀ a, x ≤ a → a < x + 26 → a ≠ x + 7 → a ≠ x + 8 → a ≠ x + 23 → a ≠ x + 24 → a ≠ x + 25 → jR h' a = jR h a) (h8 : ∀ j, j ≠ 0 → jR h' (x + 8) j = jR h (x + 8) j) (H : ty_sk h x) : ty_sk h' x := by
  unfold ty_sk xI stI noI rdI at *
  rw [hK x (by omega) (by omega), hK (x + 8) (by omega) (by omega), hK (x + 13) (by omega) (by omega), hK (x + 13 + 1) (by omega) (by omega), hK (x + 13 + 2) (by omega) (by omega), hK (x + 13 + 3) (by omega) (by omega), hK (x + 13 + 4) (by omega) (by omega), hK (x + 18) (by omega) (by omega), hK (x + 18 + 1) (by omega) (by omega), hK (x + 18 + 2) (by omega) (by omega), hK (x + 18 + 3) (by omega) (by omega), hK (x + 18 + 4) (by omega) (by omega), hK (x + 7) (by omega) (by omega), hK (x + 25) (by omega) (by omega), hK (x + 3) (by omega) (by omega), hK (x + 3 + 1) (by omega) (by omega), hK (x + 3 + 2) (by omega) (by omega), hK (x + 3 + 3) (by omega) (by omega),
    hR x (by omega) (by omega) (by omega) (by omega) (by omega) (by omega) (by omega), hR (x + 13) (by omega) (by omega) (by omega) (by omega) (by omega) (by omega) (by omega), hR (x + 18) (by omega) (by omega) (by omega) (by omega) (by omega) (by omega) (by omega), hR (x + 3) (by omega) (by omega) (by omega) (by omega) (by omega) (by omega) (by omega), h8 3 (by omega), h8 4 (by omega)]
  exact H
theorem ty_sk_ag (A : agx W h h') (hn : x + 75 ≤ jnx h) (hR : ∀ a, x ≤ a → a < x + 26 → a ≠ x + 7 → a ≠ x + 23 → a ≠ x + 24 → a ≠ x + 25 → ¬ W a) (H : ty_sk h x) : ty_sk h' x := ty_sk_of (fun a h1 h2 => A.2.1 a (by omega)) (fun a h1 h2 h3 h4 h5 h6 h7 => (A.2.2 a (by omega) (hR a h1 h2 h3 h5 h6 h7)).2.2) (fun j _ => by rw [(A.2.2 (x + 8) (by omega) (hR _ (by omega) (by omega) (by omega) (by omega) (by omega) (by omega))).2.2]) H
theorem ty_cm_ag (A : agx W h h') (how : ∀ a, a < jnx h → ow' a = ow a) (hw : ∀ a, W a → ¬ ((x + 9 ≤ a ∧ a < x + 13) ∨ (x + 75 ≤ a ∧ ow a = 1))) (H : ty_cm h x c S ow) : ty_cm h' x c S ow' := by
  obtain ⟨a1, a2, a3⟩ := H
  refine ⟨agx_cm A a2 (fun a h1 h2 w => hw a w (a3 a h1 h2)) a1, Nat.le_trans a2 A.1, fun a h1 h2 => ?_⟩
  rw [how a (by omega)]
  exact a3 a h1 h2
theorem ty_ru_ag (A : agx W h h') (hn : x + 75 ≤ jnx h) (how : ∀ a, a < jnx h → ow' a = ow a) (hw : ∀ a, W a → ¬ (a = x ∨ a = x + 7 ∨ (x + 75 ≤ a ∧ ow a = 1))) (H : ty_ru h x C fs ow) : ty_ru h' x C fs ow' := by
  obtain ⟨a1, a2, a3⟩ := H
  have e7 := (A.2.2 (x + 7) (by omega) (fun w => hw _ w (Or.inr (Or.inl rfl)))).2.2
  have e0 := (A.2.2 x (by omega) (fun w => hw _ w (Or.inl rfl))).1
  refine ⟨by rw [e0]; exact a1, fun t ht => ?_, fun t h1 h2 => by rw [e7]; exact a3 t h1 h2⟩
  obtain ⟨r, b1, b2, b3, b4, b5⟩ := a2 t ht
  refine ⟨r, by rw [e7]; exact b1, agx_xRl A b4 (fun a h1 h2 w => hw a w (Or.inr (Or.inr ⟨by omega, b5 a h1 h2⟩))) b2, b3, Nat.le_trans b4 A.1, fun a h1 h2 => ?_⟩
  rw [how a (by omega)]
  exact b5 a h1 h2
theorem ty_mo_ag {q : (Nat → Int32) × Int32 × Int32} (A : agx W h h') (how : ∀ a, a < jnx h → ow' a = ow a) (hw : ∀ a, W a → ¬ ((x + 9 ≤ a ∧ a < x + 13) ∨ (x + 75 ≤ a ∧ (ow a = 1 ∨ ow a = 22 + k)))) (H : ty_mo h x p c k q ow) : ty_mo h' x p c k q ow' := by
  obtain ⟨⟨a1, a2, a3, a4, a5, a6⟩, ⟨b1, b2⟩, b3, b4, b5, b6, b7⟩ := H
  have nw : ∀ a, p ≤ a → a < p + 15 → ¬ W a := fun a h1 h2 w => hw a w (Or.inr ⟨by omega, Or.inr (b7 a h1 h2)⟩)
  have e := A.2.2 p (by omega) (nw p (by omega) (by omega))
  refine ⟨⟨by rw [A.2.1 p (by omega)]; exact a1, by rw [e.2.2]; exact a2, by rw [e.2.2]; exact a3, by rw [e.2.2]; exact a4, by rw [e.1]; exact a5, by rw [e.1]; exact a6⟩, ⟨agx_st A (by omega) (fun a h1 h2 => nw a (by omega) (by omega)) b1, agx_stV A (by omega) (fun a h1 h2 => nw a (by omega) (by omega)) b2⟩, agx_no A (by omega) (fun a h1 h2 => nw a (by omega) (by omega)) b3, ty_cm_ag A how (fun a w g => hw a w (g.imp id (fun z => ⟨z.1, Or.inl z.2⟩))) b4, b5, Nat.le_trans b6 A.1, fun a h1 h2 => ?_⟩
  rw [how a (by omega)]
  exact b7 a h1 h2
theorem ty_i1_ag {o : Option ((Nat → Int32) × Int32 × Int32)} (A : agx W h h') (hn : x + 75 ≤ jnx h) (how : ∀ a, a < jnx h → ow' a = ow a) (e : jR h' (x + 25) k = jR h (x + 25) k) (hw : ∀ a, W a → ¬ ((x + 9 ≤ a ∧ a < x + 13) ∨ (x + 75 ≤ a ∧ (ow a = 1 ∨ ow a = 22 + k)))) (H : ty_i1 h x k ow o) : ty_i1 h' x k ow' o := by
  cases o with
  | none => exact e.trans H
  | some q =>
    obtain ⟨p, c, h1, h2⟩ := H
    exact ⟨p, c, e.trans h1, ty_mo_ag A how hw h2⟩
theorem ty_im_ag (A : agx W h h') (hn : x + 75 ≤ jnx h) (how : ∀ a, a < jnx h → ow' a = ow a) (hw : ∀ a, W a → ¬ (a = x + 25 ∨ (x + 9 ≤ a ∧ a < x + 13) ∨ (x + 75 ≤ a ∧ (ow a = 1 ∨ (22 ≤ ow a ∧ ow a < 26))))) (H : ty_im h x IM ow) : ty_im h' x IM ow' := fun k hk => ty_i1_ag A hn how (by rw [(A.2.2 (x + 25) (by omega) (fun w => hw _ w (Or.inl rfl))).2.2]) (fun a w g => hw a w (by omega)) (H k hk)
theorem ty_ps_ag (A : agx W h h') (hn : x + 75 ≤ jnx h) (how : ∀ a, a < jnx h → ow' a = ow a) (hw : ∀ a, W a → ¬ (a = x + 23 ∨ a = x + 24 ∨ (x + 75 ≤ a ∧ (2 ≤ ow a ∧ ow a < 22)))) (H : psI h x ow l U K) : psI h' x ow' l U K := by
  obtain ⟨⟨a1, a2, a3⟩, a4, a5, a6, a7⟩ := H
  have e23 := A.2.2 (x + 23) (by omega) (fun w => hw _ w (Or.inl rfl))
  have e24 := A.2.2 (x + 24) (by omega) (fun w => hw _ w (Or.inr (Or.inl rfl)))
  have pw : ∀ i p, i < 20 → jR h (x + 24) i = some p → ∀ a, p ≤ a → a < p + 5 → ¬ W a := fun i p hi hp a h1 h2 w => by
    obtain ⟨b1, b2, b3, b4⟩ := a6 i p hi hp
    have := b4 a h1 h2
    exact hw a w (by omega)
  refine ⟨⟨by rw [A.2.1 _ (by omega)]; exact a1, by rw [e23.2.2]; exact a2, by rw [A.2.1 _ (by omega)]; exact a3⟩, by rw [e23.1]; exact a4, by rw [e23.1]; exact a5, fun i p hi hp => ?_, fun j hj => ?_⟩
  · rw [e24.2.2] at hp
    obtain ⟨b1, b2, b3, b4⟩ := a6 i p hi hp
    refine ⟨b1, Nat.le_trans b2 A.1, agx_st A b2 (pw i p hi hp) b3, fun a h1 h2 => ?_⟩
    rw [how a (by omega)]
    exact b4 a h1 h2
  · obtain ⟨p, b1, b2⟩ := a7 j hj
    have hi : (l + 20 - j) % 20 < 20 := Nat.mod_lt _ (by omega)
    obtain ⟨c1, c2, c3, c4⟩ := a6 _ p hi b1
    exact ⟨p, by rw [e24.2.2]; exact b1, agx_stV A c2 (pw _ p hi b1) b2⟩
theorem ty_tp_ag (A : agx W h h') (hn : x + 75 ≤ jnx h) (hw : ∀ a, W a → ¬ (a = x + 1 ∨ a = x + 2)) (H : ty_tp h x T L) : ty_tp h' x T L := by
  have e1 := A.2.2 (x + 1) (by omega) (fun w => hw _ w (Or.inl rfl))
  have e2 := A.2.2 (x + 1 + 1) (by omega) (fun w => hw _ w (Or.inr rfl))
  unfold ty_tp tpI at *
  rw [A.2.1 _ (by omega), A.2.1 (x + 1 + 1) (by omega), e1.2.2, e1.1, e2.1]
  exact H
theorem ty_tx_ag (A : agx W h h') (hn : x + 75 ≤ jnx h) (hw : ∀ a, W a → x ≤ a) (H : ty_tx h x tK tV) : ty_tx h' x tK tV := by
  obtain ⟨⟨y1, y2⟩, y3, y4⟩ := H
  refine ⟨⟨y1, fun i hi => ?_⟩, y3, y4⟩
  have := y3 i hi
  have e0 := A.2.2 0 (by omega) (fun w => by have := hw _ w; omega)
  have e1 := A.2.2 (tV i) (by omega) (fun w => by have := hw _ w; omega)
  rw [e0.2.2, A.2.1 (tV i) (by omega), e1.1]
  exact y2 i hi
theorem ty_sc_ag (A : agx W h h') (hn : x + 75 ≤ jnx h) (hw : ∀ a, W a → ¬ (x + 26 ≤ a ∧ a < x + 50)) (H : ty_sc h x) : ty_sc h' x := by
  have hK : ∀ a, x + 26 ≤ a → a < x + 50 → jK h' a = jK h a := fun a h1 h2 => A.2.1 a (by omega)
  have hR : ∀ a, x + 26 ≤ a → a < x + 50 → jR h' a = jR h a := fun a h1 h2 => (A.2.2 a (by omega) (fun w => hw a w ⟨h1, h2⟩)).2.2
  obtain ⟨P, G⟩ := H
  constructor
  · obtain ⟨p1, ⟨p2, p3⟩, ⟨p4, p5⟩, ⟨p6, p7⟩, p8, p9⟩ := P
    refine ⟨by rw [hK _ (by omega) (by omega)]; exact p1, ⟨by rw [hR _ (by omega) (by omega)]; exact p2, by rw [hK _ (by omega) (by omega)]; exact p3⟩, ⟨by rw [hR _ (by omega) (by omega)]; exact p4, by rw [hK _ (by omega) (by omega)]; exact p5⟩, ⟨by rw [hR _ (by omega) (by omega)]; exact p6, agx_st A (by omega) (fun a h1 h2 w => hw a w (by omega)) p7⟩, by rw [hR _ (by omega) (by omega)]; exact p8, by rw [hK _ (by omega) (by omega)]; exact p9⟩
  · obtain ⟨p1, p2, ⟨p3, p4⟩, ⟨p5, p6⟩, q1, q2, ⟨q3, q4⟩, ⟨q5, q6⟩, q7⟩ := G
    exact ⟨by rw [hK _ (by omega) (by omega)]; exact p1, by rw [hR _ (by omega) (by omega)]; exact p2, ⟨by rw [hR _ (by omega) (by omega)]; exact p3, by rw [hK _ (by omega) (by omega)]; exact p4⟩, ⟨by rw [hR _ (by omega) (by omega)]; exact p5, by rw [hK _ (by omega) (by omega)]; exact p6⟩, by rw [hK _ (by omega) (by omega)]; exact q1, by rw [hR _ (by omega) (by omega)]; exact q2, ⟨by rw [hR _ (by omega) (by omega)]; exact q3, by rw [hK _ (by omega) (by omega)]; exact q4⟩, ⟨by rw [hR _ (by omega) (by omega)]; exact q5, by rw [hK _ (by omega) (by omega)]; exact q6⟩, agx_st A (by omega) (fun a h1 h2 w => hw a w (by omega)) q7⟩
end
