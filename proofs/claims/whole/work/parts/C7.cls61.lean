/-! THE CLASS: a rule made -/
def mko (h h' : jH) (n s : Nat) : Prop := (jnx h' = jnx h + n ∧ jsl h' = jsl h + s) ∧ ∀ b, b < jnx h → jK h' b = jK h b ∧ jI h' b = jI h b ∧ jJ h' b = jJ h b ∧ jR h' b = jR h b
section
variable {h h1 h2 : jH} {n s n' s' a k : Nat}
theorem mko_refl : mko h h 0 0 := ⟨⟨rfl, rfl⟩, fun _ _ => ⟨rfl, rfl, rfl, rfl⟩⟩
theorem mko_new {k n : Nat} : mko h (jnew h k n) 1 n := ⟨⟨rfl, rfl⟩, fun b hb => ⟨jur_ne (by omega), jur_ne (by omega), jur_ne (by omega), jur_ne (by omega)⟩⟩
theorem mko_trans (A : mko h h1 n s) (B : mko h1 h2 n' s') : mko h h2 (n + n') (s + s') := by
  obtain ⟨⟨a1, a2⟩, a3⟩ := A
  obtain ⟨⟨b1, b2⟩, b3⟩ := B
  refine ⟨⟨by omega, by omega⟩, fun b hb => ?_⟩
  obtain ⟨e1, e2, e3, e4⟩ := a3 b hb
  obtain ⟨f1, f2, f3, f4⟩ := b3 b (by omega)
  exact ⟨f1.trans e1, f2.trans e2, f3.trans e3, f4.trans e4⟩
theorem mko_wr {f : Nat → Int32} (ha : jnx h ≤ a) (A : mko h h1 n s) : mko h (jwr h1 a f) n s := ⟨A.1, fun b hb => by
  obtain ⟨e1, e2, e3, e4⟩ := A.2 b hb
  exact ⟨e1, by rw [jI_wr_n (by omega)]; exact e2, e3, e4⟩⟩
theorem mko_wI {v : Int32} (ha : jnx h ≤ a) (A : mko h h1 n s) : mko h (jwI h1 a k v) n s := by
  rw [jwI_row]
  exact mko_wr ha A
theorem jR_wR_n {b : Nat} {v : Option Nat} (hb : b ≠ a) : jR (jwR h a k v) b = jR h b := jup_ne hb
theorem jR_wR_s {v : Option Nat} : jR (jwR h a k v) a = va_up (jR h a) k v := jup_eqR _ _ _ _
theorem mko_wR {v : Option Nat} (ha : jnx h ≤ a) (A : mko h h1 n s) : mko h (jwR h1 a k v) n s := ⟨A.1, fun b hb => by
  obtain ⟨e1, e2, e3, e4⟩ := A.2 b hb
  exact ⟨e1, e2, e3, by rw [jR_wR_n (by omega)]; exact e4⟩⟩
end
section
variable {h : jH} {a r t : Nat} {d : Nat} {Q : Option Value → jH → Prop}
/-- copyOf -/
theorem k259 (hk : jK h a = (1, 400)) (ha : a < jnx h) {n : Nat} (hn : n ≤ 400) (hQ : ∀ h', mko h h' 1 n → jK h' (jnx h) = (1, n) → (∀ i, i < n → jI h' (jnx h) i = jI h a i) → Q (some (.ref (jnx h))) h') : jC (d + 1) 259 [.ref a, .int (nI n)] h Q := by
  have k1 : (jK h a).1 = 1 := by rw [hk]
  have k2 : (jK h a).2 = 400 := by rw [hk]
  rw [e259]
  show jW d 259 0 [some (.ref a), some (.int (nI n)), none] [] h Q
  rw [s259_0, s259_1, s259_2 (Or.inl (by rw [k1]; decide)), s259_3, k2]
  by_cases h4 : n = 400
  · subst h4
    rw [if_neg (by intro w; exact w rfl), s259_6, s259_7 k1, s259_10 (by show (jur (jK h) (jnx h) (1, (jK h a).2) (jnx h)).1 = 1; rw [jur_eq]), s259_13, k2]
    refine hQ _ (mko_wr (Nat.le_refl _) mko_new) (jK_new h 1 400) (fun i hi => ?_)
    rw [jI_wr_s]
  · have ne : ¬ nI n = Int32.ofNat 400 := fun w => h4 ((nI_eq (a := n) (b := 400) (by omega) (by omega)).mp w)
    have c1 : (nI n).toNatClampNeg = n := nI_clamp (by omega)
    have p1 : ¬ nI n < 0 := nI_pos (by omega)
    have hmin : (if nI n < Int32.ofNat 400 then nI n else Int32.ofNat 400) = nI n := if_pos (nI_lt (a := n) (b := 400) (by omega) (by omega))
    have q1 : (jK (jnew h 1 n) a).1 = 1 := by rw [(mko_new (h := h) (k := 1) (n := n)).2 a ha |>.1]; exact k1
    have q2 : (jK (jnew h 1 n) a).2 = 400 := by rw [(mko_new (h := h) (k := 1) (n := n)).2 a ha |>.1]; exact k2
    have q3 : jK (jnew h 1 n) (jnx h) = (1, n) := jK_new h 1 n
    have q4 : jI (jnew h 1 n) a = jI h a := ((mko_new (h := h) (k := 1) (n := n)).2 a ha).2.1
    rw [if_pos ne, s259_14, s259_15 ⟨p1, by rw [c1]; omega⟩, c1, s259_17, jcl1_i, s259_18, s259_19, s259_20, s259_21, s259_22, s259_23 (Or.inl (by rw [q1]; decide)), s259_24, s259_25, q2, hmin]
    rw [s259_28 q1 (by rw [q3]) ⟨by decide, by decide, p1⟩ (by rw [c1, q2]; show 0 + n ≤ 400; omega) (by rw [c1, q3]; show 0 + n ≤ n; omega), s259_31, s259_32]
    refine hQ _ (mko_wr (Nat.le_refl _) mko_new) q3 (fun i hi => ?_)
    rw [jI_wr_s, c1, q4]
    show va_cpy (jI h a) _ 0 0 n i = _
    rw [cpy_off, if_pos ⟨Nat.zero_le _, by omega⟩]
    rfl
/-- what is made of what was read -/
def mkR (h h' : jH) (r n : Nat) (N : Int32) : Prop := mko h h' 4 (29 + n) ∧ (jK h' (jnx h) = (27, 4) ∧ jI h' (jnx h) 0 = N ∧ jR h' (jnx h) 1 = some (jnx h + 1) ∧ jR h' (jnx h) 2 = some (jnx h + 2) ∧ jR h' (jnx h) 3 = some (jnx h + 3)) ∧ (jK h' (jnx h + 1) = (1, n) ∧ ∀ i, i < n → jI h' (jnx h + 1) i = jI h (r + 1) i) ∧ (jK h' (jnx h + 2) = (1, 13) ∧ jI h' (jnx h + 2) = jI h (r + 2)) ∧ jK h' (jnx h + 3) = (1, 12) ∧ jI h' (jnx h + 3) = jI h (r + 3)
/-- made -/
theorem k80 (R : rdI h r t) (hr : r + 4 ≤ jnx h) {n : Nat} (h1 : jI h r 0 = nI n) (hn : n ≤ 400) (hQ : ∀ h', mkR h h' r n (jI h r 1) → Q (some (.ref (jnx h))) h') : jC (d + 2) 80 [.ref r] h Q := by
  obtain ⟨r1, r2, ⟨r3, r4⟩, ⟨r5, r6⟩, r7, r8⟩ := R
  have A0 : mko h (jnew h 27 4) 1 4 := mko_new
  have kn0 : jK (jnew h 27 4) (jnx h) = (27, 4) := jK_new h 27 4
  have kI0 : jI (jnew h 27 4) (jnx h) = fun _ => 0 := jI_new h 27 4
  rw [e80]
  show jW (d + 1) 80 0 [some (.ref r)] [] h Q
  rw [s80_0]
  generalize jnew h 27 4 = g0 at *
  have o0 := A0.2
  have x1 : (jK g0 r).1 = 28 := by rw [(o0 r (by omega)).1, r1]
  have x3 : jR g0 r 3 = some (r + 1) := by rw [(o0 r (by omega)).2.2.2]; exact r3
  have x2 : jI g0 r 0 = nI n := by rw [(o0 r (by omega)).2.1]; exact h1
  have x4 : jI g0 r 1 = jI h r 1 := by rw [(o0 r (by omega)).2.1]
  rw [s80_3, s80_4, s80_5 x1, s80_8, s80_9 x1, s80_12, s80_13 x1, x2, x3, x4, va_rf_some, s80_16]
  have n0 : jnx g0 = jnx h + 1 := A0.1.1
  refine k259 (by rw [(o0 (r + 1) (by omega)).1]; exact r4) (by omega) hn (fun g1 A1 kn1 kI1 => ?_)
  rw [n0] at kn1 kI1 ⊢
  have B1 := mko_trans A0 A1
  have o1 := B1.2
  have n1 : jnx g1 = jnx h + 2 := B1.1.1
  have y1 : (jK g1 r).1 = 28 := by rw [(o1 r (by omega)).1, r1]
  have y5 : jR g1 r 4 = some (r + 2) := by rw [(o1 r (by omega)).2.2.2]; exact r5
  have y6 : jK g1 (r + 2) = (1, 13) := by rw [(o1 (r + 2) (by omega)).1]; exact r6
  have y7 : jI g1 (r + 2) = jI h (r + 2) := (o1 (r + 2) (by omega)).2.1
  simp only [Option.toList, List.cons_append, List.nil_append]
  rw [s80_19, s80_20 y1, y5, va_rf_some, s80_23 (by rw [y6]), y6, n1, y7]
  have A2 : mko g1 (jwr (jnew g1 1 13) (jnx h + 2) (jI h (r + 2))) 1 13 := mko_wr (by omega) mko_new
  have kn2 : jK (jwr (jnew g1 1 13) (jnx h + 2) (jI h (r + 2))) (jnx h + 2) = (1, 13) := by rw [← n1]; exact jK_new g1 1 13
  have kI2 : jI (jwr (jnew g1 1 13) (jnx h + 2) (jI h (r + 2))) (jnx h + 2) = jI h (r + 2) := jI_wr_s
  generalize jwr (jnew g1 1 13) (jnx h + 2) (jI h (r + 2)) = g2 at *
  have B2 := mko_trans B1 A2
  have o2 := B2.2
  have n2 : jnx g2 = jnx h + 3 := B2.1.1
  have z1 : (jK g2 r).1 = 28 := by rw [(o2 r (by omega)).1, r1]
  have z5 : jR g2 r 5 = some (r + 3) := by rw [(o2 r (by omega)).2.2.2]; exact r7
  have z6 : jK g2 (r + 3) = (1, 12) := by rw [(o2 (r + 3) (by omega)).1]; exact r8
  have z7 : jI g2 (r + 3) = jI h (r + 3) := (o2 (r + 3) (by omega)).2.1
  rw [s80_26 (by rw [kn2]), s80_29, s80_30 z1, z5, va_rf_some, s80_33 (by rw [z6]), z6, n2, z7]
  have A3 : mko g2 (jwr (jnew g2 1 12) (jnx h + 3) (jI h (r + 3))) 1 12 := mko_wr (by omega) mko_new
  have kn3 : jK (jwr (jnew g2 1 12) (jnx h + 3) (jI h (r + 3))) (jnx h + 3) = (1, 12) := by rw [← n2]; exact jK_new g2 1 12
  have kI3 : jI (jwr (jnew g2 1 12) (jnx h + 3) (jI h (r + 3))) (jnx h + 3) = jI h (r + 3) := jI_wr_s
  generalize jwr (jnew g2 1 12) (jnx h + 3) (jI h (r + 3)) = g3 at *
  have B3 := mko_trans B2 A3
  have n3 : jnx g3 = jnx h + 4 := B3.1.1
  have C1 := mko_trans A1 (mko_trans A2 A3)
  have C2 := mko_trans A2 A3
  have w0 : jK g3 (jnx h) = (27, 4) := by rw [(C1.2 (jnx h) (by omega)).1]; exact kn0
  rw [s80_36 (by rw [kn3]), s80_39, e67]
  show jW d 67 0 [some (.ref (jnx h)), some (.int (jI h r 1)), some (.ref (jnx h + 1)), some (.ref (jnx h + 2)), some (.ref (jnx h + 3))] [] g3 _
  have w1 : (jK g3 (jnx h)).1 = 27 := by rw [w0]
  rw [s67_0, s67_1, s67_4, s67_5, s67_6 w1, s67_9, s67_10, s67_11 (by exact w1), s67_14, s67_15, s67_16 (by exact w1), s67_19, s67_20, s67_22 (by exact w1), s67_25]
  simp only [Option.toList, List.nil_append]
  rw [s80_42]
  refine hQ _ ⟨?_, ⟨w0, ?_, ?_, ?_, ?_⟩, ⟨?_, fun i hi => ?_⟩, ⟨?_, ?_⟩, kn3, ?_⟩
  · have := mko_wR (k := 3) (v := some (jnx h + 3)) (Nat.le_refl _) (mko_wR (k := 2) (v := some (jnx h + 2)) (Nat.le_refl _) (mko_wR (k := 1) (v := some (jnx h + 1)) (Nat.le_refl _) (mko_wI (k := 0) (v := jI h r 1) (Nat.le_refl _) B3)))
    have e : 4 + n + 13 + 12 = 29 + n := by omega
    rw [e] at this
    exact this
  · show jI (jwI g3 (jnx h) 0 (jI h r 1)) (jnx h) 0 = _
    rw [jwI_row, jI_wr_s, upd_s]
  · rw [jR_wR_s, jR_wR_s, jR_wR_s]
    rfl
  · rw [jR_wR_s, jR_wR_s, jR_wR_s]
    rfl
  · rw [jR_wR_s, jR_wR_s, jR_wR_s]
    rfl
  · show jK g3 (jnx h + 1) = _
    rw [(C2.2 (jnx h + 1) (by omega)).1]
    exact kn1
  · show jI (jwI g3 (jnx h) 0 (jI h r 1)) (jnx h + 1) i = _
    rw [jwI_row, jI_wr_n (by omega), (C2.2 (jnx h + 1) (by omega)).2.1, kI1 i hi, (o0 (r + 1) (by omega)).2.1]
  · show jK g3 (jnx h + 2) = _
    rw [(A3.2 (jnx h + 2) (by omega)).1]
    exact kn2
  · show jI (jwI g3 (jnx h) 0 (jI h r 1)) (jnx h + 2) = _
    rw [jwI_row, jI_wr_n (by omega), (A3.2 (jnx h + 2) (by omega)).2.1, kI2]
  · show jI (jwI g3 (jnx h) 0 (jI h r 1)) (jnx h + 3) = _
    rw [jwI_row, jI_wr_n (by omega), kI3]
end
