/-! THE CLASS: its making: a constructor -/
section
variable {h : jH} {a t : Nat} {d : Nat} {Q : Option Value → jH → Prop}
def mk50 (h h' : jH) (a : Nat) : Prop := (jnx h' = a + 9 ∧ jsl h' = jsl h + 517) ∧ (∀ b, b < a → sm h h' b) ∧ prI h' a
theorem k50 (hn : jnx h = a + 1) (hk : jK h a = (26, 4)) (hQ : ∀ h', mk50 h h' a → Q none h') : jC (d + 2) 50 [.ref a] h Q := by
  rw [e50, s50_0, s50_1]
  have n0 : jnx h = a + 1 := hn
  have l0 : jsl h = jsl h + 0 := rfl
  have kq0 : jK h a = (26, 4) := hk
  have o0 : ∀ b, b < a → sm h h b := fun b _ => sm_refl
  rw [s50_4, s50_5, s50_7 (by decide), tcx6, s50_9 (by rw [(sm_new (by omega)).1, kq0])]
  have M1 : mkp h (jwR (jnew h 1 6) a 0 (some (jnx h))) a 0 1 6 := mkp_a (by omega)
  have K1 : ∀ b, b = jnx h → jK (jwR (jnew h 1 6) a 0 (some (jnx h))) b = (1, 6) := fun b e => by rw [e]; exact mkp_K (by omega)
  have R1 : ∀ b, b = jnx h → jR (jwR (jnew h 1 6) a 0 (some (jnx h))) b = fun _ => none := fun b e => by rw [e]; exact mkp_R (by omega)
  generalize jwR (jnew h 1 6) a 0 (some (jnx h)) = g1 at *
  have n1 : jnx g1 = a + 2 := by have := M1.1.1; omega
  have l1 : jsl g1 = jsl h + 6 := by have := M1.1.2; omega
  have kq1 : jK g1 a = (26, 4) := by rw [M1.2.2.1]; exact kq0
  have o1 : ∀ b, b < a → sm h g1 b := fun b hb => sm_trans (o0 b hb) (M1.2.1 b (by omega) (by omega))
  have r1_1 : jR g1 a 0 = some (a + 1) := by rw [M1.2.2.2.2, va_up_s, n0]
  have m1_1 : ∀ b, a + 1 ≤ b → b < a + 2 → sm g1 g1 b := fun b _ _ => sm_refl
  rw [s50_12, s50_13, s50_16 (by decide), tcx448, s50_18 (by rw [(sm_new (by omega)).1, kq1])]
  have M2 : mkp g1 (jwR (jnew g1 1 448) a 1 (some (jnx g1))) a 1 1 448 := mkp_a (by omega)
  have K2 : ∀ b, b = jnx g1 → jK (jwR (jnew g1 1 448) a 1 (some (jnx g1))) b = (1, 448) := fun b e => by rw [e]; exact mkp_K (by omega)
  have R2 : ∀ b, b = jnx g1 → jR (jwR (jnew g1 1 448) a 1 (some (jnx g1))) b = fun _ => none := fun b e => by rw [e]; exact mkp_R (by omega)
  generalize jwR (jnew g1 1 448) a 1 (some (jnx g1)) = g2 at *
  have n2 : jnx g2 = a + 3 := by have := M2.1.1; omega
  have l2 : jsl g2 = jsl h + 454 := by have := M2.1.2; omega
  have kq2 : jK g2 a = (26, 4) := by rw [M2.2.2.1]; exact kq1
  have o2 : ∀ b, b < a → sm h g2 b := fun b hb => sm_trans (o1 b hb) (M2.2.1 b (by omega) (by omega))
  have r1_2 : jR g2 a 0 = some (a + 1) := by rw [M2.2.2.2.2, va_up_n (by omega)]; exact r1_1
  have r2_2 : jR g2 a 1 = some (a + 2) := by rw [M2.2.2.2.2, va_up_s, n1]
  have m1_2 : ∀ b, a + 1 ≤ b → b < a + 2 → sm g1 g2 b := fun b h1 h2 => sm_trans (m1_1 b h1 h2) (M2.2.1 b (by omega) (by omega))
  have m2_2 : ∀ b, a + 2 ≤ b → b < a + 3 → sm g2 g2 b := fun b _ _ => sm_refl
  rw [s50_21, s50_22, s50_25, s50_26]
  refine k81 (a := jnx g2) rfl (jK_new g2 29 5) (jI_new g2 29 5) (fun G3 MM3 => ?_)
  have oo3 : ∀ b, b < jnx g2 → sm g2 G3 b := fun b hb => sm_mk MM3 hb
  have nn3 : jnx G3 = jnx g2 + 5 := by have := MM3.1.1; omega
  have ll3 : jsl G3 = jsl g2 + 59 := by have := MM3.1.2; have e : jsl (jnew g2 29 5) = jsl g2 + 5 := rfl; omega
  have cc3 := oMk_st MM3
  have zz3 := zI_mk MM3
  rw [n2] at cc3 zz3
  clear MM3
  simp only [Option.toList, List.cons_append, List.nil_append]
  rw [s50_29 (by rw [(oo3 a (by omega)).1, kq2])]
  have M3 : mkp g2 (jwR G3 a 2 (some (jnx g2))) a 2 5 59 := mkp_o (by omega) nn3 ll3 oo3
  have m3_3 : ∀ b, a + 3 ≤ b → b < a + 8 → sm G3 (jwR G3 a 2 (some (jnx g2))) b := fun b h1 h2 => sm_wR (by omega)
  generalize jwR G3 a 2 (some (jnx g2)) = g3 at *
  have n3 : jnx g3 = a + 8 := by have := M3.1.1; omega
  have l3 : jsl g3 = jsl h + 513 := by have := M3.1.2; omega
  have kq3 : jK g3 a = (26, 4) := by rw [M3.2.2.1]; exact kq2
  have o3 : ∀ b, b < a → sm h g3 b := fun b hb => sm_trans (o2 b hb) (M3.2.1 b (by omega) (by omega))
  have r1_3 : jR g3 a 0 = some (a + 1) := by rw [M3.2.2.2.2, va_up_n (by omega)]; exact r1_2
  have r2_3 : jR g3 a 1 = some (a + 2) := by rw [M3.2.2.2.2, va_up_n (by omega)]; exact r2_2
  have r3_3 : jR g3 a 2 = some (a + 3) := by rw [M3.2.2.2.2, va_up_s, n2]
  have m1_3 : ∀ b, a + 1 ≤ b → b < a + 2 → sm g1 g3 b := fun b h1 h2 => sm_trans (m1_2 b h1 h2) (M3.2.1 b (by omega) (by omega))
  have m2_3 : ∀ b, a + 2 ≤ b → b < a + 3 → sm g2 g3 b := fun b h1 h2 => sm_trans (m2_2 b h1 h2) (M3.2.1 b (by omega) (by omega))
  rw [s50_32, s50_33, s50_34 (by decide), tcx4, s50_36 (by rw [(sm_new (by omega)).1, kq3])]
  have M4 : mkp g3 (jwR (jnew g3 1 4) a 3 (some (jnx g3))) a 3 1 4 := mkp_a (by omega)
  have K4 : ∀ b, b = jnx g3 → jK (jwR (jnew g3 1 4) a 3 (some (jnx g3))) b = (1, 4) := fun b e => by rw [e]; exact mkp_K (by omega)
  have R4 : ∀ b, b = jnx g3 → jR (jwR (jnew g3 1 4) a 3 (some (jnx g3))) b = fun _ => none := fun b e => by rw [e]; exact mkp_R (by omega)
  generalize jwR (jnew g3 1 4) a 3 (some (jnx g3)) = g4 at *
  have n4 : jnx g4 = a + 9 := by have := M4.1.1; omega
  have l4 : jsl g4 = jsl h + 517 := by have := M4.1.2; omega
  have kq4 : jK g4 a = (26, 4) := by rw [M4.2.2.1]; exact kq3
  have o4 : ∀ b, b < a → sm h g4 b := fun b hb => sm_trans (o3 b hb) (M4.2.1 b (by omega) (by omega))
  have r1_4 : jR g4 a 0 = some (a + 1) := by rw [M4.2.2.2.2, va_up_n (by omega)]; exact r1_3
  have r2_4 : jR g4 a 1 = some (a + 2) := by rw [M4.2.2.2.2, va_up_n (by omega)]; exact r2_3
  have r3_4 : jR g4 a 2 = some (a + 3) := by rw [M4.2.2.2.2, va_up_n (by omega)]; exact r3_3
  have r4_4 : jR g4 a 3 = some (a + 8) := by rw [M4.2.2.2.2, va_up_s, n3]
  have m1_4 : ∀ b, a + 1 ≤ b → b < a + 2 → sm g1 g4 b := fun b h1 h2 => sm_trans (m1_3 b h1 h2) (M4.2.1 b (by omega) (by omega))
  have m2_4 : ∀ b, a + 2 ≤ b → b < a + 3 → sm g2 g4 b := fun b h1 h2 => sm_trans (m2_3 b h1 h2) (M4.2.1 b (by omega) (by omega))
  have m3_4 : ∀ b, a + 3 ≤ b → b < a + 8 → sm G3 g4 b := fun b h1 h2 => sm_trans (m3_3 b h1 h2) (M4.2.1 b (by omega) (by omega))
  have m4_4 : ∀ b, a + 8 ≤ b → b < a + 9 → sm g4 g4 b := fun b _ _ => sm_refl
  rw [s50_39]
  exact hQ g4 ⟨⟨n4, l4⟩, o4, kq4, ⟨r1_4, by rw [(m1_4 _ (by omega) (by omega)).1]; exact K1 _ (by omega)⟩, ⟨r2_4, by rw [(m2_4 _ (by omega) (by omega)).1]; exact K2 _ (by omega)⟩, ⟨r3_4, stI_sm (fun b h1 h2 => m3_4 b (by omega) (by omega)) cc3⟩, r4_4, by rw [(m4_4 _ (by omega) (by omega)).1]; exact K4 _ (by omega)⟩
end
