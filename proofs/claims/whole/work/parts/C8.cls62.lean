/-! THE CLASS: rule -/
def ruW (x : Nat) : Nat → Prop := fun a => a = x ∨ a = x + 1 ∨ (x + 3 ≤ a ∧ a < x + 8)
/-- what stays, and what the reader and the tape are, behind a rule's text -/
def ruE (x : Nat) (h h' : jH) : Prop := agx (ruW x) h h' ∧ (∀ a, a < jnx h → a ≠ x + 7 → jR h' a = jR h a) ∧ (∀ a, a < jnx h → jJ h' a = jJ h a) ∧ jI h' (x + 1) 1 = 0
section
variable {h : jH} {x L : Nat} {T : Nat → Nat} {d : Nat} {Q : Option Value → jH → Prop} {tK tV : Nat → Nat}
theorem k107n (X : xI h x) (hC : jI h x 3 = 6) : jC (d + 1) 107 [.ref x] h Q ↔ Q (some (.int (-1))) h := by
  rw [e107]
  have k : (jK h x).1 = 31 := by rw [X.1]
  rw [s107_0, s107_1 k, s107_4, s107_6, hC, if_neg (by decide), s107_9, s107_10]
theorem k107 (X : xI h x) (W : wR h (x + 3) (x + 1) T L tK tV) (hv : ∀ i, i < 6 → tV i < x + 1) (h1 : jI h (x + 1) 1 = nI L) {C : Nat} (hC : jI h x 3 = nI C) (hC6 : C < 6) (h7 : jK h (x + 7) = (6, 6)) (hn : x + 75 ≤ jnx h)
    (hE : ∀ w, aRul T L (L + 1) 0 0 [] [] = .error w → ∀ h', ruE x h h' → jnx h' = jnx h → jsl h' = jsl h → jR h' (x + 7) = jR h (x + 7) → jI h' x = jI h x → jI h' (x + 7) = jI h (x + 7) → Q (some (.int (-2 - nI w))) h')
    (hO : ∀ q, aRul T L (L + 1) 0 0 [] [] = .ok q → ∀ g h', ruE x h h' → jnx h' = jnx h + 4 → jsl h' = jsl h + (29 + q.1.length) → jR h' (x + 7) = va_up (jR h (x + 7)) C (some (jnx h)) → jI h' x = upd (jI h x) 3 (nI (C + 1)) → jnx g = jnx h → (∃ md, cdI g (x + 3) md q.1) → sKl g (x + 3) q.2 → mkR g h' (x + 3) q.1.length (nI q.2.length) ∨ (∃ h2, mkR g h2 (x + 3) q.1.length (nI q.2.length) ∧ ∀ a, jnx h ≤ a → jK h' a = jK h2 a ∧ jI h' a = jI h2 a ∧ jR h' a = jR h2 a) → Q (some (.int (nI C))) h') : jC (d + 32) 107 [.ref x] h Q := by
  have X' := X
  obtain ⟨x0, x1, x2, x3, -⟩ := X
  have k : (jK h x).1 = 31 := by rw [x0]
  have c6 : nI C < 6 := nI_lt (b := 6) hC6 (by omega)
  have t1 : jK h (x + 1) = (30, 7) := W.2.1.1
  have rk : (jK h (x + 3)).1 = 28 := by rw [W.1.1]
  rw [e107, s107_0, s107_1 k, s107_4, s107_6, hC, if_pos c6, s107_11, s107_12 k, x2, va_rf_some, s107_15, s107_16 k, x1, va_rf_some, s107_19 rk]
  refine k72 W (by omega) hv h1 ?_
  cases hx : aRul T L (L + 1) 0 0 [] [] with
  | error w =>
    intro h' G e
    obtain ⟨⟨g1, g2, g3, g4, g5⟩, g6⟩ := G
    have q : (jK h' x).1 = 31 := by rw [g3]; exact k
    have qt : (jK h' (x + 1)).1 = 30 := by rw [g3, t1]
    have q1 : jR h' x 0 = some (x + 1) := by rw [g4]; exact x1
    simp only [Option.toList, List.cons_append, List.nil_append]
    rw [s107_22, jcl1_r, s107_23, s107_24 q, q1, va_rf_some, s107_27, s107_28 qt, jwI_row, s107_31, s107_32, if_neg (by decide), s107_35, s107_37, s107_38 (by rw [jK_wr]; exact q), jR_wr, q1, va_rf_some, s107_41 (by rw [jK_wr]; exact qt), jI_wr_s, upd_n (by omega), e.2, s107_44, s107_45]
    refine hE w hx _ ⟨⟨by rw [show jnx (jwr h' (x + 1) (upd (jI h' (x + 1)) 1 0)) = jnx h' from rfl, g1]; exact Nat.le_refl _, fun a _ => by rw [jK_wr, g3], fun a _ hw => ⟨?_, by rw [show jJ (jwr h' (x + 1) (upd (jI h' (x + 1)) 1 0)) = jJ h' from rfl, g5], by rw [jR_wr, g4]⟩⟩, fun a _ _ => by rw [jR_wr, g4], fun a _ => by rw [show jJ (jwr h' (x + 1) (upd (jI h' (x + 1)) 1 0)) = jJ h' from rfl, g5], by rw [jI_wr_s, upd_s]⟩ g1 g2 (by rw [jR_wr, g4]) ?_ ?_
    · have a1 : a ≠ x + 1 := fun w => hw (Or.inr (Or.inl w))
      have a2 : a < x + 3 ∨ x + 3 + 4 ≤ a := by
        rcases Nat.lt_or_ge a (x + 3) with w | w
        · exact Or.inl w
        · rcases Nat.lt_or_ge a (x + 8) with w2 | w2
          · exact absurd (Or.inr (Or.inr ⟨w, w2⟩)) hw
          · exact Or.inr (by omega)
      rw [jI_wr_n a1, g6 a a1 a2]
    · rw [jI_wr_n (by omega), g6 x (by omega) (by omega)]
    · rw [jI_wr_n (by omega), g6 (x + 7) (by omega) (by omega)]
  | ok q =>
    intro h' G e C0 e2 S
    obtain ⟨md, C0⟩ := C0
    obtain ⟨⟨g1, g2, g3, g4, g5⟩, g6⟩ := G
    have q0 : (jK h' x).1 = 31 := by rw [g3]; exact k
    have qt : (jK h' (x + 1)).1 = 30 := by rw [g3, t1]
    have q1 : jR h' x 0 = some (x + 1) := by rw [g4]; exact x1
    simp only [Option.toList, List.cons_append, List.nil_append]
    rw [s107_22, jcl1_r, s107_23, s107_24 q0, q1, va_rf_some, s107_27, s107_28 qt, jwI_row, s107_31, s107_32, if_pos (by decide)]
    have gn : jnx (jwr h' (x + 1) (upd (jI h' (x + 1)) 1 0)) = jnx h := g1
    have gs : jsl (jwr h' (x + 1) (upd (jI h' (x + 1)) 1 0)) = jsl h := g2
    have gK : jK (jwr h' (x + 1) (upd (jI h' (x + 1)) 1 0)) = jK h := g3
    have gR : jR (jwr h' (x + 1) (upd (jI h' (x + 1)) 1 0)) = jR h := g4
    have gJ : jJ (jwr h' (x + 1) (upd (jI h' (x + 1)) 1 0)) = jJ h := g5
    have gI : ∀ a, a ≠ x + 1 → jI (jwr h' (x + 1) (upd (jI h' (x + 1)) 1 0)) a = jI h' a := fun a ha => jI_wr_n ha
    have gT : jI (jwr h' (x + 1) (upd (jI h' (x + 1)) 1 0)) (x + 1) 1 = 0 := by rw [jI_wr_s, upd_s]
    have C1 : cdI (jwr h' (x + 1) (upd (jI h' (x + 1)) 1 0)) (x + 3) md q.1 := by
      unfold cdI at *
      rw [gI (x + 3) (by omega), gI (x + 3 + 1) (by omega)]
      exact C0
    have S1 : sKl (jwr h' (x + 1) (upd (jI h' (x + 1)) 1 0)) (x + 3) q.2 := by
      unfold sKl at *
      rw [gI (x + 3 + 2) (by omega), gI (x + 3 + 3) (by omega)]
      exact S
    have E2 : jI (jwr h' (x + 1) (upd (jI h' (x + 1)) 1 0)) (x + 3) 1 = nI q.2.length := by rw [gI (x + 3) (by omega)]; exact e2
    have R1 : rdI (jwr h' (x + 1) (upd (jI h' (x + 1)) 1 0)) (x + 3) (x + 1) := by
      have := W.1
      unfold rdI at *
      rw [gK, gR]
      exact this
    have I0 : jI (jwr h' (x + 1) (upd (jI h' (x + 1)) 1 0)) x = jI h x := by rw [gI x (by omega), g6 x (by omega) (by omega)]
    have Iw : ∀ a, ¬ ruW x a → jI (jwr h' (x + 1) (upd (jI h' (x + 1)) 1 0)) a = jI h a := fun a hw => by
      have a1 : a ≠ x + 1 := fun w => hw (Or.inr (Or.inl w))
      have a2 : a < x + 3 ∨ x + 3 + 4 ≤ a := by
        rcases Nat.lt_or_ge a (x + 3) with w | w
        · exact Or.inl w
        · rcases Nat.lt_or_ge a (x + 8) with w2 | w2
          · exact absurd (Or.inr (Or.inr ⟨w, w2⟩)) hw
          · exact Or.inr (by omega)
      rw [gI a a1, g6 a a1 a2]
    generalize jwr h' (x + 1) (upd (jI h' (x + 1)) 1 0) = g at *
    have kg : (jK g x).1 = 31 := by rw [gK]; exact k
    rw [s107_46, s107_47 kg, gR, x3, va_rf_some, s107_50, s107_51 kg, I0, hC, s107_54, s107_55 kg, gR, x2, va_rf_some, s107_58 (by rw [gK]; exact rk)]
    refine k80 (n := q.1.length) R1 (by omega) C1.1 C1.2.2.1 (fun h2 M => ?_)
    rw [gn]
    have M' := M
    obtain ⟨⟨⟨m1, m2⟩, m3⟩, ⟨n1, n2, n3, n4, n5⟩, -⟩ := M
    rw [gn] at n1
    have o7 := m3 (x + 7) (by omega)
    have ox := m3 x (by omega)
    have ot := m3 (x + 1) (by omega)
    have K7 : jK h2 (x + 7) = (6, 6) := by rw [o7.1, gK]; exact h7
    have kx : (jK h2 x).1 = 31 := by rw [ox.1]; exact kg
    simp only [Option.toList, List.cons_append, List.nil_append]
    have ij : jinb (nI C) (jK h2 (x + 7)).2 = true := by rw [K7]; exact jinb_nI hC6 (by omega)
    rw [s107_61 (by rw [K7]; decide) (by rw [K7, n1]; rfl) ij, nI_clamp (by omega), s107_62, s107_63, s107_64 (by exact kx), s107_67, s107_68, s107_69 (by exact kx), s107_72, s107_73 (by exact kx), s107_76, s107_77, s107_78]
    have eI : jI (jwR h2 (x + 7) C (some (jnx h))) x 3 = nI C := by
      show jI h2 x 3 = _
      rw [ox.2.1, I0]; exact hC
    have eI2 : jI (jwI (jwR h2 (x + 7) C (some (jnx h))) x 3 (jI (jwR h2 (x + 7) C (some (jnx h))) x 3 + 1)) x 3 - 1 = nI C := by
      rw [jwI_row, jI_wr_s, upd_s, eI]
      show nI C + nI 1 - nI 1 = nI C
      rw [nI_add, nI_sb (by omega)]
      rfl
    rw [eI2, eI, jwI_row]
    have e1 : nI C + 1 = nI (C + 1) := nI_add C 1
    rw [e1]
    have HI : ∀ a, a ≠ x → jI (jwr (jwR h2 (x + 7) C (some (jnx h))) x (upd (jI (jwR h2 (x + 7) C (some (jnx h))) x) 3 (nI (C + 1)))) a = jI h2 a := fun a ha => jI_wr_n ha
    have HR : ∀ a, a ≠ x + 7 → jR (jwr (jwR h2 (x + 7) C (some (jnx h))) x (upd (jI (jwR h2 (x + 7) C (some (jnx h))) x) 3 (nI (C + 1)))) a = jR h2 a := fun a ha => jR_wR_n ha
    refine hO q hx g _ ⟨⟨by show jnx h ≤ jnx h2; omega, fun a ha => by show jK h2 a = _; rw [(m3 a (by omega)).1, gK], fun a ha hw => ⟨?_, by show jJ h2 a = _; rw [(m3 a (by omega)).2.2.1, gJ], ?_⟩⟩, fun a ha h7' => by rw [HR a h7', (m3 a (by omega)).2.2.2, gR], fun a ha => by show jJ h2 a = _; rw [(m3 a (by omega)).2.2.1, gJ], ?_⟩ ?_ ?_ ?_ ?_ gn ⟨md, C1⟩ S1 (Or.inr ⟨h2, ?_, fun a ha => ⟨rfl, HI a (by omega), HR a (by omega)⟩⟩)
    · rw [HI a (fun w => hw (Or.inl w)), (m3 a (by omega)).2.1, Iw a hw]
    · rw [HR a (fun w => hw (Or.inr (Or.inr (by omega)))), (m3 a (by omega)).2.2.2, gR]
    · rw [HI (x + 1) (by omega), ot.2.1]; exact gT
    · show jnx h2 = _; omega
    · show jsl h2 = _; omega
    · show jR (jwR h2 (x + 7) C (some (jnx h))) (x + 7) = _
      rw [jR_wR_s, o7.2.2.2, gR]
    · rw [jI_wr_s]
      show upd (jI h2 x) 3 (nI (C + 1)) = _
      rw [ox.2.1, I0]
    · rw [← E2]
      exact M'
end
