/-! THE CLASS: its making: a constructor -/
section
variable {h : jH} {a t : Nat} {d : Nat} {Q : Option Value → jH → Prop}
def mk47 (h h' : jH) (a : Nat) : Prop := (jnx h' = a + 2 ∧ jsl h' = jsl h + 20) ∧ (∀ b, b < a → sm h h' b) ∧ paQ h' a
theorem k47 (hn : jnx h = a + 1) (hk : jK h a = (25, 3)) (hQ : ∀ h', mk47 h h' a → Q none h') : jC (d + 1) 47 [.ref a] h Q := by
  rw [e47, s47_0, s47_1]
  have n0 : jnx h = a + 1 := hn
  have l0 : jsl h = jsl h + 0 := rfl
  have kq0 : jK h a = (25, 3) := hk
  have o0 : ∀ b, b < a → sm h h b := fun b _ => sm_refl
  rw [s47_4, s47_5, s47_7 (by decide), tcx20, s47_10 (by rw [(sm_new (by omega)).1, kq0])]
  have M1 : mkp h (jwR (jnew h 7 20) a 0 (some (jnx h))) a 0 1 20 := mkp_a (by omega)
  have K1 : ∀ b, b = jnx h → jK (jwR (jnew h 7 20) a 0 (some (jnx h))) b = (7, 20) := fun b e => by rw [e]; exact mkp_K (by omega)
  have R1 : ∀ b, b = jnx h → jR (jwR (jnew h 7 20) a 0 (some (jnx h))) b = fun _ => none := fun b e => by rw [e]; exact mkp_R (by omega)
  generalize jwR (jnew h 7 20) a 0 (some (jnx h)) = g1 at *
  have n1 : jnx g1 = a + 2 := by have := M1.1.1; omega
  have l1 : jsl g1 = jsl h + 20 := by have := M1.1.2; omega
  have kq1 : jK g1 a = (25, 3) := by rw [M1.2.2.1]; exact kq0
  have o1 : ∀ b, b < a → sm h g1 b := fun b hb => sm_trans (o0 b hb) (M1.2.1 b (by omega) (by omega))
  have r1_1 : jR g1 a 0 = some (a + 1) := by rw [M1.2.2.2.2, va_up_s, n0]
  have m1_1 : ∀ b, a + 1 ≤ b → b < a + 2 → sm g1 g1 b := fun b _ _ => sm_refl
  rw [s47_13, s47_14, s47_15 (by rw [kq1])]
  have M2 : ∀ b, b ≠ a → sm g1 (jwI g1 a 1 0) b := fun b hb => sm_wI hb
  have n2 : jnx (jwI g1 a 1 0) = a + 2 := (wI_n (h := g1)).trans n1
  have l2 : jsl (jwI g1 a 1 0) = jsl h + 20 := (wI_s (h := g1)).trans l1
  have kq2 : jK (jwI g1 a 1 0) a = (25, 3) := (congrFun (wI_K (h := g1)) a).trans kq1
  have o2 : ∀ b, b < a → sm h (jwI g1 a 1 0) b := fun b hb => sm_trans (o1 b hb) (M2 b (by omega))
  have r1_2 : jR (jwI g1 a 1 0) a 0 = some (a + 1) := (congrFun (congrFun (wI_R (h := g1)) a) 0).trans r1_1
  have i1_2 : jI (jwI g1 a 1 0) a 1 = 0 := by rw [jwI_row, jI_wr_s, upd_s]
  have m1_2 : ∀ b, a + 1 ≤ b → b < a + 2 → sm g1 (jwI g1 a 1 0) b := fun b h1 h2 => sm_trans (m1_1 b h1 h2) (M2 b (by omega))
  generalize jwI g1 a 1 0 = g2 at *
  rw [s47_18, s47_19, s47_20 (by rw [kq2])]
  have M3 : ∀ b, b ≠ a → sm g2 (jwI g2 a 2 0) b := fun b hb => sm_wI hb
  have n3 : jnx (jwI g2 a 2 0) = a + 2 := (wI_n (h := g2)).trans n2
  have l3 : jsl (jwI g2 a 2 0) = jsl h + 20 := (wI_s (h := g2)).trans l2
  have kq3 : jK (jwI g2 a 2 0) a = (25, 3) := (congrFun (wI_K (h := g2)) a).trans kq2
  have o3 : ∀ b, b < a → sm h (jwI g2 a 2 0) b := fun b hb => sm_trans (o2 b hb) (M3 b (by omega))
  have r1_3 : jR (jwI g2 a 2 0) a 0 = some (a + 1) := (congrFun (congrFun (wI_R (h := g2)) a) 0).trans r1_2
  have i1_3 : jI (jwI g2 a 2 0) a 1 = 0 := by rw [jwI_row, jI_wr_s, upd_n (by omega)]; exact i1_2
  have i2_3 : jI (jwI g2 a 2 0) a 2 = 0 := by rw [jwI_row, jI_wr_s, upd_s]
  have m1_3 : ∀ b, a + 1 ≤ b → b < a + 2 → sm g1 (jwI g2 a 2 0) b := fun b h1 h2 => sm_trans (m1_2 b h1 h2) (M3 b (by omega))
  generalize jwI g2 a 2 0 = g3 at *
  rw [s47_23]
  exact hQ g3 ⟨⟨n3, l3⟩, o3, kq3, r1_3, by rw [(m1_3 _ (by omega) (by omega)).1]; exact K1 _ (by omega), i1_3, i2_3, by rw [(m1_3 _ (by omega) (by omega)).2.2.2]; exact R1 _ (by omega)⟩
end
