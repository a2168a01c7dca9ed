/-! THE CLASS: its making: a constructor -/
section
variable {h : jH} {a t : Nat} {d : Nat} {Q : Option Value → jH → Prop}
def mk95 (h h' : jH) (a : Nat) : Prop := (jnx h' = a + 2 ∧ jsl h' = jsl h + 400) ∧ (∀ b, b < a → sm h h' b) ∧ tpQ h' a
theorem k95 (hn : jnx h = a + 1) (hk : jK h a = (30, 7)) (hQ : ∀ h', mk95 h h' a → Q none h') : jC (d + 1) 95 [.ref a] h Q := by
  rw [e95, s95_0, s95_1]
  have n0 : jnx h = a + 1 := hn
  have l0 : jsl h = jsl h + 0 := rfl
  have kq0 : jK h a = (30, 7) := hk
  have o0 : ∀ b, b < a → sm h h b := fun b _ => sm_refl
  rw [s95_4, s95_5, s95_8 (by decide), tcx400, s95_10 (by rw [(sm_new (by omega)).1, kq0])]
  have M1 : mkp h (jwR (jnew h 1 400) a 0 (some (jnx h))) a 0 1 400 := mkp_a (by omega)
  have K1 : ∀ b, b = jnx h → jK (jwR (jnew h 1 400) a 0 (some (jnx h))) b = (1, 400) := fun b e => by rw [e]; exact mkp_K (by omega)
  have R1 : ∀ b, b = jnx h → jR (jwR (jnew h 1 400) a 0 (some (jnx h))) b = fun _ => none := fun b e => by rw [e]; exact mkp_R (by omega)
  generalize jwR (jnew h 1 400) a 0 (some (jnx h)) = g1 at *
  have n1 : jnx g1 = a + 2 := by have := M1.1.1; omega
  have l1 : jsl g1 = jsl h + 400 := by have := M1.1.2; omega
  have kq1 : jK g1 a = (30, 7) := by rw [M1.2.2.1]; exact kq0
  have o1 : ∀ b, b < a → sm h g1 b := fun b hb => sm_trans (o0 b hb) (M1.2.1 b (by omega) (by omega))
  have r1_1 : jR g1 a 0 = some (a + 1) := by rw [M1.2.2.2.2, va_up_s, n0]
  have m1_1 : ∀ b, a + 1 ≤ b → b < a + 2 → sm g1 g1 b := fun b _ _ => sm_refl
  rw [s95_13, s95_14, s95_15 (by rw [kq1])]
  have M2 : ∀ b, b ≠ a → sm g1 (jwI g1 a 1 0) b := fun b hb => sm_wI hb
  have n2 : jnx (jwI g1 a 1 0) = a + 2 := (wI_n (h := g1)).trans n1
  have l2 : jsl (jwI g1 a 1 0) = jsl h + 400 := (wI_s (h := g1)).trans l1
  have kq2 : jK (jwI g1 a 1 0) a = (30, 7) := (congrFun (wI_K (h := g1)) a).trans kq1
  have o2 : ∀ b, b < a → sm h (jwI g1 a 1 0) b := fun b hb => sm_trans (o1 b hb) (M2 b (by omega))
  have r1_2 : jR (jwI g1 a 1 0) a 0 = some (a + 1) := (congrFun (congrFun (wI_R (h := g1)) a) 0).trans r1_1
  have i1_2 : jI (jwI g1 a 1 0) a 1 = 0 := by rw [jwI_row, jI_wr_s, upd_s]
  have m1_2 : ∀ b, a + 1 ≤ b → b < a + 2 → sm g1 (jwI g1 a 1 0) b := fun b h1 h2 => sm_trans (m1_1 b h1 h2) (M2 b (by omega))
  generalize jwI g1 a 1 0 = g2 at *
  rw [s95_18, s95_19, s95_20 (by rw [kq2])]
  have M3 : ∀ b, b ≠ a → sm g2 (jwI g2 a 2 0) b := fun b hb => sm_wI hb
  have n3 : jnx (jwI g2 a 2 0) = a + 2 := (wI_n (h := g2)).trans n2
  have l3 : jsl (jwI g2 a 2 0) = jsl h + 400 := (wI_s (h := g2)).trans l2
  have kq3 : jK (jwI g2 a 2 0) a = (30, 7) := (congrFun (wI_K (h := g2)) a).trans kq2
  have o3 : ∀ b, b < a → sm h (jwI g2 a 2 0) b := fun b hb => sm_trans (o2 b hb) (M3 b (by omega))
  have r1_3 : jR (jwI g2 a 2 0) a 0 = some (a + 1) := (congrFun (congrFun (wI_R (h := g2)) a) 0).trans r1_2
  have i1_3 : jI (jwI g2 a 2 0) a 1 = 0 := by rw [jwI_row, jI_wr_s, upd_n (by omega)]; exact i1_2
  have m1_3 : ∀ b, a + 1 ≤ b → b < a + 2 → sm g1 (jwI g2 a 2 0) b := fun b h1 h2 => sm_trans (m1_2 b h1 h2) (M3 b (by omega))
  generalize jwI g2 a 2 0 = g3 at *
  rw [s95_23, s95_24, s95_25 (by rw [kq3])]
  have M4 : ∀ b, b ≠ a → sm g3 (jwI g3 a 3 0) b := fun b hb => sm_wI hb
  have n4 : jnx (jwI g3 a 3 0) = a + 2 := (wI_n (h := g3)).trans n3
  have l4 : jsl (jwI g3 a 3 0) = jsl h + 400 := (wI_s (h := g3)).trans l3
  have kq4 : jK (jwI g3 a 3 0) a = (30, 7) := (congrFun (wI_K (h := g3)) a).trans kq3
  have o4 : ∀ b, b < a → sm h (jwI g3 a 3 0) b := fun b hb => sm_trans (o3 b hb) (M4 b (by omega))
  have r1_4 : jR (jwI g3 a 3 0) a 0 = some (a + 1) := (congrFun (congrFun (wI_R (h := g3)) a) 0).trans r1_3
  have i1_4 : jI (jwI g3 a 3 0) a 1 = 0 := by rw [jwI_row, jI_wr_s, upd_n (by omega)]; exact i1_3
  have m1_4 : ∀ b, a + 1 ≤ b → b < a + 2 → sm g1 (jwI g3 a 3 0) b := fun b h1 h2 => sm_trans (m1_3 b h1 h2) (M4 b (by omega))
  generalize jwI g3 a 3 0 = g4 at *
  rw [s95_28, s95_29, s95_30 (by rw [kq4])]
  have M5 : ∀ b, b ≠ a → sm g4 (jwI g4 a 4 (-1)) b := fun b hb => sm_wI hb
  have n5 : jnx (jwI g4 a 4 (-1)) = a + 2 := (wI_n (h := g4)).trans n4
  have l5 : jsl (jwI g4 a 4 (-1)) = jsl h + 400 := (wI_s (h := g4)).trans l4
  have kq5 : jK (jwI g4 a 4 (-1)) a = (30, 7) := (congrFun (wI_K (h := g4)) a).trans kq4
  have o5 : ∀ b, b < a → sm h (jwI g4 a 4 (-1)) b := fun b hb => sm_trans (o4 b hb) (M5 b (by omega))
  have r1_5 : jR (jwI g4 a 4 (-1)) a 0 = some (a + 1) := (congrFun (congrFun (wI_R (h := g4)) a) 0).trans r1_4
  have i1_5 : jI (jwI g4 a 4 (-1)) a 1 = 0 := by rw [jwI_row, jI_wr_s, upd_n (by omega)]; exact i1_4
  have m1_5 : ∀ b, a + 1 ≤ b → b < a + 2 → sm g1 (jwI g4 a 4 (-1)) b := fun b h1 h2 => sm_trans (m1_4 b h1 h2) (M5 b (by omega))
  generalize jwI g4 a 4 (-1) = g5 at *
  rw [s95_33, s95_34, s95_35 (by rw [kq5])]
  have M6 : ∀ b, b ≠ a → sm g5 (jwI g5 a 5 (-1)) b := fun b hb => sm_wI hb
  have n6 : jnx (jwI g5 a 5 (-1)) = a + 2 := (wI_n (h := g5)).trans n5
  have l6 : jsl (jwI g5 a 5 (-1)) = jsl h + 400 := (wI_s (h := g5)).trans l5
  have kq6 : jK (jwI g5 a 5 (-1)) a = (30, 7) := (congrFun (wI_K (h := g5)) a).trans kq5
  have o6 : ∀ b, b < a → sm h (jwI g5 a 5 (-1)) b := fun b hb => sm_trans (o5 b hb) (M6 b (by omega))
  have r1_6 : jR (jwI g5 a 5 (-1)) a 0 = some (a + 1) := (congrFun (congrFun (wI_R (h := g5)) a) 0).trans r1_5
  have i1_6 : jI (jwI g5 a 5 (-1)) a 1 = 0 := by rw [jwI_row, jI_wr_s, upd_n (by omega)]; exact i1_5
  have m1_6 : ∀ b, a + 1 ≤ b → b < a + 2 → sm g1 (jwI g5 a 5 (-1)) b := fun b h1 h2 => sm_trans (m1_5 b h1 h2) (M6 b (by omega))
  generalize jwI g5 a 5 (-1) = g6 at *
  rw [s95_38, s95_39, s95_40 (by rw [kq6])]
  have M7 : ∀ b, b ≠ a → sm g6 (jwI g6 a 6 0) b := fun b hb => sm_wI hb
  have n7 : jnx (jwI g6 a 6 0) = a + 2 := (wI_n (h := g6)).trans n6
  have l7 : jsl (jwI g6 a 6 0) = jsl h + 400 := (wI_s (h := g6)).trans l6
  have kq7 : jK (jwI g6 a 6 0) a = (30, 7) := (congrFun (wI_K (h := g6)) a).trans kq6
  have o7 : ∀ b, b < a → sm h (jwI g6 a 6 0) b := fun b hb => sm_trans (o6 b hb) (M7 b (by omega))
  have r1_7 : jR (jwI g6 a 6 0) a 0 = some (a + 1) := (congrFun (congrFun (wI_R (h := g6)) a) 0).trans r1_6
  have i1_7 : jI (jwI g6 a 6 0) a 1 = 0 := by rw [jwI_row, jI_wr_s, upd_n (by omega)]; exact i1_6
  have m1_7 : ∀ b, a + 1 ≤ b → b < a + 2 → sm g1 (jwI g6 a 6 0) b := fun b h1 h2 => sm_trans (m1_6 b h1 h2) (M7 b (by omega))
  generalize jwI g6 a 6 0 = g7 at *
  rw [s95_43]
  exact hQ g7 ⟨⟨n7, l7⟩, o7, kq7, r1_7, by rw [(m1_7 _ (by omega) (by omega)).1]; exact K1 _ (by omega), i1_7⟩
end
