/-! THE CLASS: its making: a constructor -/
section
variable {h : jH} {a t : Nat} {d : Nat} {Q : Option Value → jH → Prop}
def mk20 (h h' : jH) (a : Nat) : Prop := (jnx h' = a + 15 ∧ jsl h' = jsl h + 614) ∧ (∀ b, b < a → sm h h' b) ∧ fsI h' a
theorem k20 (hn : jnx h = a + 1) (hk : jK h a = (22, 5)) (hQ : ∀ h', mk20 h h' a → Q none h') : jC (d + 3) 20 [.ref a] h Q := by
  rw [e20, s20_0, s20_1]
  have n0 : jnx h = a + 1 := hn
  have l0 : jsl h = jsl h + 0 := rfl
  have kq0 : jK h a = (22, 5) := hk
  have o0 : ∀ b, b < a → sm h h b := fun b _ => sm_refl
  rw [s20_4, s20_5, s20_8, s20_9]
  refine k9 (a := jnx h) rfl (jK_new h 21 8) (fun G1 MM1 => ?_)
  have oo1 : ∀ b, b < jnx h → sm h G1 b := fun b hb => sm_trans (sm_new hb) (MM1.2.1 b hb)
  have nn1 : jnx G1 = jnx h + 12 := by have := MM1.1.1; omega
  have ll1 : jsl G1 = jsl h + 206 := by have := MM1.1.2; have e : jsl (jnew h 21 8) = jsl h + 8 := rfl; omega
  have cc1 := MM1.2.2
  rw [n0] at cc1
  clear MM1
  simp only [Option.toList, List.cons_append, List.nil_append]
  rw [s20_12 (by rw [(oo1 a (by omega)).1, kq0])]
  have M1 : mkp h (jwR G1 a 0 (some (jnx h))) a 0 12 206 := mkp_o (by omega) nn1 ll1 oo1
  have m1_1 : ∀ b, a + 1 ≤ b → b < a + 13 → sm G1 (jwR G1 a 0 (some (jnx h))) b := fun b h1 h2 => sm_wR (by omega)
  generalize jwR G1 a 0 (some (jnx h)) = g1 at *
  have n1 : jnx g1 = a + 13 := by have := M1.1.1; omega
  have l1 : jsl g1 = jsl h + 206 := by have := M1.1.2; omega
  have kq1 : jK g1 a = (22, 5) := by rw [M1.2.2.1]; exact kq0
  have o1 : ∀ b, b < a → sm h g1 b := fun b hb => sm_trans (o0 b hb) (M1.2.1 b (by omega) (by omega))
  have r1_1 : jR g1 a 0 = some (a + 1) := by rw [M1.2.2.2.2, va_up_s, n0]
  rw [s20_15, s20_16, s20_19 (by decide), tcx366, s20_21 (by rw [(sm_new (by omega)).1, kq1])]
  have M2 : mkp g1 (jwR (jnew g1 4 366) a 1 (some (jnx g1))) a 1 1 366 := mkp_a (by omega)
  have K2 : ∀ b, b = jnx g1 → jK (jwR (jnew g1 4 366) a 1 (some (jnx g1))) b = (4, 366) := fun b e => by rw [e]; exact mkp_K (by omega)
  have R2 : ∀ b, b = jnx g1 → jR (jwR (jnew g1 4 366) a 1 (some (jnx g1))) b = fun _ => none := fun b e => by rw [e]; exact mkp_R (by omega)
  generalize jwR (jnew g1 4 366) a 1 (some (jnx g1)) = g2 at *
  have n2 : jnx g2 = a + 14 := by have := M2.1.1; omega
  have l2 : jsl g2 = jsl h + 572 := by have := M2.1.2; omega
  have kq2 : jK g2 a = (22, 5) := by rw [M2.2.2.1]; exact kq1
  have o2 : ∀ b, b < a → sm h g2 b := fun b hb => sm_trans (o1 b hb) (M2.2.1 b (by omega) (by omega))
  have r1_2 : jR g2 a 0 = some (a + 1) := by rw [M2.2.2.2.2, va_up_n (by omega)]; exact r1_1
  have r2_2 : jR g2 a 1 = some (a + 13) := by rw [M2.2.2.2.2, va_up_s, n1]
  have m1_2 : ∀ b, a + 1 ≤ b → b < a + 13 → sm G1 g2 b := fun b h1 h2 => sm_trans (m1_1 b h1 h2) (M2.2.1 b (by omega) (by omega))
  have m2_2 : ∀ b, a + 13 ≤ b → b < a + 14 → sm g2 g2 b := fun b _ _ => sm_refl
  rw [s20_24, s20_25, s20_27 (by decide), tcx42, s20_29 (by rw [(sm_new (by omega)).1, kq2])]
  have M3 : mkp g2 (jwR (jnew g2 1 42) a 2 (some (jnx g2))) a 2 1 42 := mkp_a (by omega)
  have K3 : ∀ b, b = jnx g2 → jK (jwR (jnew g2 1 42) a 2 (some (jnx g2))) b = (1, 42) := fun b e => by rw [e]; exact mkp_K (by omega)
  have R3 : ∀ b, b = jnx g2 → jR (jwR (jnew g2 1 42) a 2 (some (jnx g2))) b = fun _ => none := fun b e => by rw [e]; exact mkp_R (by omega)
  generalize jwR (jnew g2 1 42) a 2 (some (jnx g2)) = g3 at *
  have n3 : jnx g3 = a + 15 := by have := M3.1.1; omega
  have l3 : jsl g3 = jsl h + 614 := by have := M3.1.2; omega
  have kq3 : jK g3 a = (22, 5) := by rw [M3.2.2.1]; exact kq2
  have o3 : ∀ b, b < a → sm h g3 b := fun b hb => sm_trans (o2 b hb) (M3.2.1 b (by omega) (by omega))
  have r1_3 : jR g3 a 0 = some (a + 1) := by rw [M3.2.2.2.2, va_up_n (by omega)]; exact r1_2
  have r2_3 : jR g3 a 1 = some (a + 13) := by rw [M3.2.2.2.2, va_up_n (by omega)]; exact r2_2
  have r3_3 : jR g3 a 2 = some (a + 14) := by rw [M3.2.2.2.2, va_up_s, n2]
  have m1_3 : ∀ b, a + 1 ≤ b → b < a + 13 → sm G1 g3 b := fun b h1 h2 => sm_trans (m1_2 b h1 h2) (M3.2.1 b (by omega) (by omega))
  have m2_3 : ∀ b, a + 13 ≤ b → b < a + 14 → sm g2 g3 b := fun b h1 h2 => sm_trans (m2_2 b h1 h2) (M3.2.1 b (by omega) (by omega))
  have m3_3 : ∀ b, a + 14 ≤ b → b < a + 15 → sm g3 g3 b := fun b _ _ => sm_refl
  rw [s20_32, s20_33, s20_34 (by rw [kq3])]
  have M4 : ∀ b, b ≠ a → sm g3 (jwI g3 a 3 0) b := fun b hb => sm_wI hb
  have n4 : jnx (jwI g3 a 3 0) = a + 15 := (wI_n (h := g3)).trans n3
  have l4 : jsl (jwI g3 a 3 0) = jsl h + 614 := (wI_s (h := g3)).trans l3
  have kq4 : jK (jwI g3 a 3 0) a = (22, 5) := (congrFun (wI_K (h := g3)) a).trans kq3
  have o4 : ∀ b, b < a → sm h (jwI g3 a 3 0) b := fun b hb => sm_trans (o3 b hb) (M4 b (by omega))
  have r1_4 : jR (jwI g3 a 3 0) a 0 = some (a + 1) := (congrFun (congrFun (wI_R (h := g3)) a) 0).trans r1_3
  have r2_4 : jR (jwI g3 a 3 0) a 1 = some (a + 13) := (congrFun (congrFun (wI_R (h := g3)) a) 1).trans r2_3
  have r3_4 : jR (jwI g3 a 3 0) a 2 = some (a + 14) := (congrFun (congrFun (wI_R (h := g3)) a) 2).trans r3_3
  have m1_4 : ∀ b, a + 1 ≤ b → b < a + 13 → sm G1 (jwI g3 a 3 0) b := fun b h1 h2 => sm_trans (m1_3 b h1 h2) (M4 b (by omega))
  have m2_4 : ∀ b, a + 13 ≤ b → b < a + 14 → sm g2 (jwI g3 a 3 0) b := fun b h1 h2 => sm_trans (m2_3 b h1 h2) (M4 b (by omega))
  have m3_4 : ∀ b, a + 14 ≤ b → b < a + 15 → sm g3 (jwI g3 a 3 0) b := fun b h1 h2 => sm_trans (m3_3 b h1 h2) (M4 b (by omega))
  generalize jwI g3 a 3 0 = g4 at *
  rw [s20_37, s20_38, s20_39 (by rw [kq4])]
  have M5 : ∀ b, b ≠ a → sm g4 (jwI g4 a 4 0) b := fun b hb => sm_wI hb
  have n5 : jnx (jwI g4 a 4 0) = a + 15 := (wI_n (h := g4)).trans n4
  have l5 : jsl (jwI g4 a 4 0) = jsl h + 614 := (wI_s (h := g4)).trans l4
  have kq5 : jK (jwI g4 a 4 0) a = (22, 5) := (congrFun (wI_K (h := g4)) a).trans kq4
  have o5 : ∀ b, b < a → sm h (jwI g4 a 4 0) b := fun b hb => sm_trans (o4 b hb) (M5 b (by omega))
  have r1_5 : jR (jwI g4 a 4 0) a 0 = some (a + 1) := (congrFun (congrFun (wI_R (h := g4)) a) 0).trans r1_4
  have r2_5 : jR (jwI g4 a 4 0) a 1 = some (a + 13) := (congrFun (congrFun (wI_R (h := g4)) a) 1).trans r2_4
  have r3_5 : jR (jwI g4 a 4 0) a 2 = some (a + 14) := (congrFun (congrFun (wI_R (h := g4)) a) 2).trans r3_4
  have m1_5 : ∀ b, a + 1 ≤ b → b < a + 13 → sm G1 (jwI g4 a 4 0) b := fun b h1 h2 => sm_trans (m1_4 b h1 h2) (M5 b (by omega))
  have m2_5 : ∀ b, a + 13 ≤ b → b < a + 14 → sm g2 (jwI g4 a 4 0) b := fun b h1 h2 => sm_trans (m2_4 b h1 h2) (M5 b (by omega))
  have m3_5 : ∀ b, a + 14 ≤ b → b < a + 15 → sm g3 (jwI g4 a 4 0) b := fun b h1 h2 => sm_trans (m3_4 b h1 h2) (M5 b (by omega))
  generalize jwI g4 a 4 0 = g5 at *
  rw [s20_42]
  exact hQ g5 ⟨⟨n5, l5⟩, o5, kq5, r1_5, ⟨r2_5, by rw [(m2_5 _ (by omega) (by omega)).1]; exact K2 _ (by omega)⟩, ⟨r3_5, by rw [(m3_5 _ (by omega) (by omega)).1]; exact K3 _ (by omega)⟩, crI_sm (fun b h1 h2 => m1_5 b (by omega) (by omega)) cc1⟩
end
theorem fsI_sm {h h' : jH} {a : Nat} (e : ∀ b, a ≤ b → b < a + 15 → sm h h' b) (H : fsI h a) : fsI h' a := by
  obtain ⟨h1, h2, ⟨h3, h4⟩, ⟨h5, h6⟩, h7⟩ := H
  have e0 := e a (by omega) (by omega)
  exact ⟨by rw [e0.1]; exact h1, by rw [e0.2.2.2]; exact h2, ⟨by rw [e0.2.2.2]; exact h3, by rw [(e _ (by omega) (by omega)).1]; exact h4⟩, ⟨by rw [e0.2.2.2]; exact h5, by rw [(e _ (by omega) (by omega)).1]; exact h6⟩, crI_sm (fun b x y => e b (by omega) (by omega)) h7⟩
