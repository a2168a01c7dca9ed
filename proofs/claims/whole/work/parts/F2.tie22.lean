/-! THE CLASS: its making: a constructor -/
section
variable {h : jH} {a t : Nat} {d : Nat} {Q : Option Value → jH → Prop}
def mk71 (h h' : jH) (a t : Nat) : Prop := (jnx h' = a + 4 ∧ jsl h' = jsl h + 425) ∧ (∀ b, b < a → sm h h' b) ∧ rdI h' a t
theorem k71 (hn : jnx h = a + 1) (hk : jK h a = (28, 6)) (ht : t < a) (hQ : ∀ h', mk71 h h' a t → Q none h') : jC (d + 1) 71 [.ref a] h Q := by
  rw [e71, s71_0, s71_1]
  have n0 : jnx h = a + 1 := hn
  have l0 : jsl h = jsl h + 0 := rfl
  have kq0 : jK h a = (28, 6) := hk
  have o0 : ∀ b, b < a → sm h h b := fun b _ => sm_refl
  rw [s71_4, s71_5, s71_6 (by rw [kq0])]
  have M1 : ∀ b, b ≠ a → sm h (jwI h a 0 0) b := fun b hb => sm_wI hb
  have n1 : jnx (jwI h a 0 0) = a + 1 := (wI_n (h := h)).trans n0
  have l1 : jsl (jwI h a 0 0) = jsl h + 0 := (wI_s (h := h)).trans l0
  have kq1 : jK (jwI h a 0 0) a = (28, 6) := (congrFun (wI_K (h := h)) a).trans kq0
  have o1 : ∀ b, b < a → sm h (jwI h a 0 0) b := fun b hb => sm_trans (o0 b hb) (M1 b (by omega))
  generalize jwI h a 0 0 = g1 at *
  rw [s71_9, s71_10, s71_11 (by rw [kq1])]
  have M2 : ∀ b, b ≠ a → sm g1 (jwI g1 a 1 0) b := fun b hb => sm_wI hb
  have n2 : jnx (jwI g1 a 1 0) = a + 1 := (wI_n (h := g1)).trans n1
  have l2 : jsl (jwI g1 a 1 0) = jsl h + 0 := (wI_s (h := g1)).trans l1
  have kq2 : jK (jwI g1 a 1 0) a = (28, 6) := (congrFun (wI_K (h := g1)) a).trans kq1
  have o2 : ∀ b, b < a → sm h (jwI g1 a 1 0) b := fun b hb => sm_trans (o1 b hb) (M2 b (by omega))
  generalize jwI g1 a 1 0 = g2 at *
  rw [s71_14, s71_15, s71_16 (by rw [kq2])]
  have M3 : ∀ b, b ≠ a → sm g2 (jwI g2 a 2 0) b := fun b hb => sm_wI hb
  have n3 : jnx (jwI g2 a 2 0) = a + 1 := (wI_n (h := g2)).trans n2
  have l3 : jsl (jwI g2 a 2 0) = jsl h + 0 := (wI_s (h := g2)).trans l2
  have kq3 : jK (jwI g2 a 2 0) a = (28, 6) := (congrFun (wI_K (h := g2)) a).trans kq2
  have o3 : ∀ b, b < a → sm h (jwI g2 a 2 0) b := fun b hb => sm_trans (o2 b hb) (M3 b (by omega))
  generalize jwI g2 a 2 0 = g3 at *
  rw [s71_19, s71_20, s71_23 (by decide), tcx400, s71_25 (by rw [(sm_new (by omega)).1, kq3])]
  have M4 : mkp g3 (jwR (jnew g3 1 400) a 3 (some (jnx g3))) a 3 1 400 := mkp_a (by omega)
  have K4 : ∀ b, b = jnx g3 → jK (jwR (jnew g3 1 400) a 3 (some (jnx g3))) b = (1, 400) := fun b e => by rw [e]; exact mkp_K (by omega)
  have R4 : ∀ b, b = jnx g3 → jR (jwR (jnew g3 1 400) a 3 (some (jnx g3))) b = fun _ => none := fun b e => by rw [e]; exact mkp_R (by omega)
  generalize jwR (jnew g3 1 400) a 3 (some (jnx g3)) = g4 at *
  have n4 : jnx g4 = a + 2 := by have := M4.1.1; omega
  have l4 : jsl g4 = jsl h + 400 := by have := M4.1.2; omega
  have kq4 : jK g4 a = (28, 6) := by rw [M4.2.2.1]; exact kq3
  have o4 : ∀ b, b < a → sm h g4 b := fun b hb => sm_trans (o3 b hb) (M4.2.1 b (by omega) (by omega))
  have r4_4 : jR g4 a 3 = some (a + 1) := by rw [M4.2.2.2.2, va_up_s, n3]
  have m4_4 : ∀ b, a + 1 ≤ b → b < a + 2 → sm g4 g4 b := fun b _ _ => sm_refl
  rw [s71_28, s71_29, s71_31 (by decide), tcx13, s71_33 (by rw [(sm_new (by omega)).1, kq4])]
  have M5 : mkp g4 (jwR (jnew g4 1 13) a 4 (some (jnx g4))) a 4 1 13 := mkp_a (by omega)
  have K5 : ∀ b, b = jnx g4 → jK (jwR (jnew g4 1 13) a 4 (some (jnx g4))) b = (1, 13) := fun b e => by rw [e]; exact mkp_K (by omega)
  have R5 : ∀ b, b = jnx g4 → jR (jwR (jnew g4 1 13) a 4 (some (jnx g4))) b = fun _ => none := fun b e => by rw [e]; exact mkp_R (by omega)
  generalize jwR (jnew g4 1 13) a 4 (some (jnx g4)) = g5 at *
  have n5 : jnx g5 = a + 3 := by have := M5.1.1; omega
  have l5 : jsl g5 = jsl h + 413 := by have := M5.1.2; omega
  have kq5 : jK g5 a = (28, 6) := by rw [M5.2.2.1]; exact kq4
  have o5 : ∀ b, b < a → sm h g5 b := fun b hb => sm_trans (o4 b hb) (M5.2.1 b (by omega) (by omega))
  have r4_5 : jR g5 a 3 = some (a + 1) := by rw [M5.2.2.2.2, va_up_n (by omega)]; exact r4_4
  have r5_5 : jR g5 a 4 = some (a + 2) := by rw [M5.2.2.2.2, va_up_s, n4]
  have m4_5 : ∀ b, a + 1 ≤ b → b < a + 2 → sm g4 g5 b := fun b h1 h2 => sm_trans (m4_4 b h1 h2) (M5.2.1 b (by omega) (by omega))
  have m5_5 : ∀ b, a + 2 ≤ b → b < a + 3 → sm g5 g5 b := fun b _ _ => sm_refl
  rw [s71_36, s71_37, s71_39 (by decide), tcx12, s71_41 (by rw [(sm_new (by omega)).1, kq5])]
  have M6 : mkp g5 (jwR (jnew g5 1 12) a 5 (some (jnx g5))) a 5 1 12 := mkp_a (by omega)
  have K6 : ∀ b, b = jnx g5 → jK (jwR (jnew g5 1 12) a 5 (some (jnx g5))) b = (1, 12) := fun b e => by rw [e]; exact mkp_K (by omega)
  have R6 : ∀ b, b = jnx g5 → jR (jwR (jnew g5 1 12) a 5 (some (jnx g5))) b = fun _ => none := fun b e => by rw [e]; exact mkp_R (by omega)
  generalize jwR (jnew g5 1 12) a 5 (some (jnx g5)) = g6 at *
  have n6 : jnx g6 = a + 4 := by have := M6.1.1; omega
  have l6 : jsl g6 = jsl h + 425 := by have := M6.1.2; omega
  have kq6 : jK g6 a = (28, 6) := by rw [M6.2.2.1]; exact kq5
  have o6 : ∀ b, b < a → sm h g6 b := fun b hb => sm_trans (o5 b hb) (M6.2.1 b (by omega) (by omega))
  have r4_6 : jR g6 a 3 = some (a + 1) := by rw [M6.2.2.2.2, va_up_n (by omega)]; exact r4_5
  have r5_6 : jR g6 a 4 = some (a + 2) := by rw [M6.2.2.2.2, va_up_n (by omega)]; exact r5_5
  have r6_6 : jR g6 a 5 = some (a + 3) := by rw [M6.2.2.2.2, va_up_s, n5]
  have m4_6 : ∀ b, a + 1 ≤ b → b < a + 2 → sm g4 g6 b := fun b h1 h2 => sm_trans (m4_5 b h1 h2) (M6.2.1 b (by omega) (by omega))
  have m5_6 : ∀ b, a + 2 ≤ b → b < a + 3 → sm g5 g6 b := fun b h1 h2 => sm_trans (m5_5 b h1 h2) (M6.2.1 b (by omega) (by omega))
  have m6_6 : ∀ b, a + 3 ≤ b → b < a + 4 → sm g6 g6 b := fun b _ _ => sm_refl
  rw [s71_44]
  exact hQ g6 ⟨⟨n6, l6⟩, o6, kq6, ht, ⟨r4_6, by rw [(m4_6 _ (by omega) (by omega)).1]; exact K4 _ (by omega)⟩, ⟨r5_6, by rw [(m5_6 _ (by omega) (by omega)).1]; exact K5 _ (by omega)⟩, r6_6, by rw [(m6_6 _ (by omega) (by omega)).1]; exact K6 _ (by omega)⟩
end
