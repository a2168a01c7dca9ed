/-! THE CLASS: its making: a constructor -/
section
variable {h : jH} {a t : Nat} {d : Nat} {Q : Option Value → jH → Prop}
def mk9 (h h' : jH) (a : Nat) : Prop := (jnx h' = a + 12 ∧ jsl h' = jsl h + 198) ∧ (∀ b, b < a → sm h h' b) ∧ crI h' a
theorem k9 (hn : jnx h = a + 1) (hk : jK h a = (21, 8)) (hQ : ∀ h', mk9 h h' a → Q none h') : jC (d + 2) 9 [.ref a] h Q := by
  rw [e9, s9_0, s9_1]
  have n0 : jnx h = a + 1 := hn
  have l0 : jsl h = jsl h + 0 := rfl
  have kq0 : jK h a = (21, 8) := hk
  have o0 : ∀ b, b < a → sm h h b := fun b _ => sm_refl
  rw [s9_4, s9_5, s9_8, s9_9]
  refine k81 (a := jnx h) rfl (jK_new h 29 5) (jI_new h 29 5) (fun G1 MM1 => ?_)
  have oo1 : ∀ b, b < jnx h → sm h G1 b := fun b hb => sm_mk MM1 hb
  have nn1 : jnx G1 = jnx h + 5 := by have := MM1.1.1; omega
  have ll1 : jsl G1 = jsl h + 59 := by have := MM1.1.2; have e : jsl (jnew h 29 5) = jsl h + 5 := rfl; omega
  have cc1 := oMk_st MM1
  have zz1 := zI_mk MM1
  rw [n0] at cc1 zz1
  clear MM1
  simp only [Option.toList, List.cons_append, List.nil_append]
  rw [s9_12 (by rw [(oo1 a (by omega)).1, kq0])]
  have M1 : mkp h (jwR G1 a 0 (some (jnx h))) a 0 5 59 := mkp_o (by omega) nn1 ll1 oo1
  have m1_1 : ∀ b, a + 1 ≤ b → b < a + 6 → sm G1 (jwR G1 a 0 (some (jnx h))) b := fun b h1 h2 => sm_wR (by omega)
  generalize jwR G1 a 0 (some (jnx h)) = g1 at *
  have n1 : jnx g1 = a + 6 := by have := M1.1.1; omega
  have l1 : jsl g1 = jsl h + 59 := by have := M1.1.2; omega
  have kq1 : jK g1 a = (21, 8) := by rw [M1.2.2.1]; exact kq0
  have o1 : ∀ b, b < a → sm h g1 b := fun b hb => sm_trans (o0 b hb) (M1.2.1 b (by omega) (by omega))
  have r1_1 : jR g1 a 0 = some (a + 1) := by rw [M1.2.2.2.2, va_up_s, n0]
  rw [s9_15, s9_16, s9_18 (by decide), tcx12, s9_20 (by rw [(sm_new (by omega)).1, kq1])]
  have M2 : mkp g1 (jwR (jnew g1 4 12) a 1 (some (jnx g1))) a 1 1 12 := mkp_a (by omega)
  have K2 : ∀ b, b = jnx g1 → jK (jwR (jnew g1 4 12) a 1 (some (jnx g1))) b = (4, 12) := fun b e => by rw [e]; exact mkp_K (by omega)
  have R2 : ∀ b, b = jnx g1 → jR (jwR (jnew g1 4 12) a 1 (some (jnx g1))) b = fun _ => none := fun b e => by rw [e]; exact mkp_R (by omega)
  generalize jwR (jnew g1 4 12) a 1 (some (jnx g1)) = g2 at *
  have n2 : jnx g2 = a + 7 := by have := M2.1.1; omega
  have l2 : jsl g2 = jsl h + 71 := by have := M2.1.2; omega
  have kq2 : jK g2 a = (21, 8) := by rw [M2.2.2.1]; exact kq1
  have o2 : ∀ b, b < a → sm h g2 b := fun b hb => sm_trans (o1 b hb) (M2.2.1 b (by omega) (by omega))
  have r1_2 : jR g2 a 0 = some (a + 1) := by rw [M2.2.2.2.2, va_up_n (by omega)]; exact r1_1
  have r2_2 : jR g2 a 1 = some (a + 6) := by rw [M2.2.2.2.2, va_up_s, n1]
  have m1_2 : ∀ b, a + 1 ≤ b → b < a + 6 → sm G1 g2 b := fun b h1 h2 => sm_trans (m1_1 b h1 h2) (M2.2.1 b (by omega) (by omega))
  have m2_2 : ∀ b, a + 6 ≤ b → b < a + 7 → sm g2 g2 b := fun b _ _ => sm_refl
  rw [s9_23, s9_24, s9_26 (by decide), tcx64, s9_28 (by rw [(sm_new (by omega)).1, kq2])]
  have M3 : mkp g2 (jwR (jnew g2 4 64) a 2 (some (jnx g2))) a 2 1 64 := mkp_a (by omega)
  have K3 : ∀ b, b = jnx g2 → jK (jwR (jnew g2 4 64) a 2 (some (jnx g2))) b = (4, 64) := fun b e => by rw [e]; exact mkp_K (by omega)
  have R3 : ∀ b, b = jnx g2 → jR (jwR (jnew g2 4 64) a 2 (some (jnx g2))) b = fun _ => none := fun b e => by rw [e]; exact mkp_R (by omega)
  generalize jwR (jnew g2 4 64) a 2 (some (jnx g2)) = g3 at *
  have n3 : jnx g3 = a + 8 := by have := M3.1.1; omega
  have l3 : jsl g3 = jsl h + 135 := by have := M3.1.2; omega
  have kq3 : jK g3 a = (21, 8) := by rw [M3.2.2.1]; exact kq2
  have o3 : ∀ b, b < a → sm h g3 b := fun b hb => sm_trans (o2 b hb) (M3.2.1 b (by omega) (by omega))
  have r1_3 : jR g3 a 0 = some (a + 1) := by rw [M3.2.2.2.2, va_up_n (by omega)]; exact r1_2
  have r2_3 : jR g3 a 1 = some (a + 6) := by rw [M3.2.2.2.2, va_up_n (by omega)]; exact r2_2
  have r3_3 : jR g3 a 2 = some (a + 7) := by rw [M3.2.2.2.2, va_up_s, n2]
  have m1_3 : ∀ b, a + 1 ≤ b → b < a + 6 → sm G1 g3 b := fun b h1 h2 => sm_trans (m1_2 b h1 h2) (M3.2.1 b (by omega) (by omega))
  have m2_3 : ∀ b, a + 6 ≤ b → b < a + 7 → sm g2 g3 b := fun b h1 h2 => sm_trans (m2_2 b h1 h2) (M3.2.1 b (by omega) (by omega))
  have m3_3 : ∀ b, a + 7 ≤ b → b < a + 8 → sm g3 g3 b := fun b _ _ => sm_refl
  rw [s9_31, s9_32, s9_35, s9_36]
  refine k0 (a := jnx g3) rfl (jK_new g3 20 9) (jI_new g3 20 9) (fun G4 MM4 => ?_)
  have oo4 : ∀ b, b < jnx g3 → sm g3 G4 b := fun b hb => sm_mk MM4 hb
  have nn4 : jnx G4 = jnx g3 + 4 := by have := MM4.1.1; omega
  have ll4 : jsl G4 = jsl g3 + 63 := by have := MM4.1.2; have e : jsl (jnew g3 20 9) = jsl g3 + 9 := rfl; omega
  have cc4 := oMk_cm MM4
  have zz4 := zI_mk MM4
  rw [n3] at cc4 zz4
  clear MM4
  simp only [Option.toList, List.cons_append, List.nil_append]
  rw [s9_39 (by rw [(oo4 a (by omega)).1, kq3])]
  have M4 : mkp g3 (jwR G4 a 3 (some (jnx g3))) a 3 4 63 := mkp_o (by omega) nn4 ll4 oo4
  have m4_4 : ∀ b, a + 8 ≤ b → b < a + 12 → sm G4 (jwR G4 a 3 (some (jnx g3))) b := fun b h1 h2 => sm_wR (by omega)
  generalize jwR G4 a 3 (some (jnx g3)) = g4 at *
  have n4 : jnx g4 = a + 12 := by have := M4.1.1; omega
  have l4 : jsl g4 = jsl h + 198 := by have := M4.1.2; omega
  have kq4 : jK g4 a = (21, 8) := by rw [M4.2.2.1]; exact kq3
  have o4 : ∀ b, b < a → sm h g4 b := fun b hb => sm_trans (o3 b hb) (M4.2.1 b (by omega) (by omega))
  have r1_4 : jR g4 a 0 = some (a + 1) := by rw [M4.2.2.2.2, va_up_n (by omega)]; exact r1_3
  have r2_4 : jR g4 a 1 = some (a + 6) := by rw [M4.2.2.2.2, va_up_n (by omega)]; exact r2_3
  have r3_4 : jR g4 a 2 = some (a + 7) := by rw [M4.2.2.2.2, va_up_n (by omega)]; exact r3_3
  have r4_4 : jR g4 a 3 = some (a + 8) := by rw [M4.2.2.2.2, va_up_s, n3]
  have m1_4 : ∀ b, a + 1 ≤ b → b < a + 6 → sm G1 g4 b := fun b h1 h2 => sm_trans (m1_3 b h1 h2) (M4.2.1 b (by omega) (by omega))
  have m2_4 : ∀ b, a + 6 ≤ b → b < a + 7 → sm g2 g4 b := fun b h1 h2 => sm_trans (m2_3 b h1 h2) (M4.2.1 b (by omega) (by omega))
  have m3_4 : ∀ b, a + 7 ≤ b → b < a + 8 → sm g3 g4 b := fun b h1 h2 => sm_trans (m3_3 b h1 h2) (M4.2.1 b (by omega) (by omega))
  rw [s9_42, s9_43, s9_44N (by rw [kq4])]
  have M5 : ∀ b, b ≠ a → sm g4 (jwR g4 a 4 none) b := fun b hb => sm_wR hb
  have n5 : jnx (jwR g4 a 4 none) = a + 12 := (wR_n (h := g4)).trans n4
  have l5 : jsl (jwR g4 a 4 none) = jsl h + 198 := (wR_s (h := g4)).trans l4
  have kq5 : jK (jwR g4 a 4 none) a = (21, 8) := (congrFun (wR_K (h := g4)) a).trans kq4
  have o5 : ∀ b, b < a → sm h (jwR g4 a 4 none) b := fun b hb => sm_trans (o4 b hb) (M5 b (by omega))
  have r1_5 : jR (jwR g4 a 4 none) a 0 = some (a + 1) := by rw [jR_wR_s, va_up_n (by omega)]; exact r1_4
  have r2_5 : jR (jwR g4 a 4 none) a 1 = some (a + 6) := by rw [jR_wR_s, va_up_n (by omega)]; exact r2_4
  have r3_5 : jR (jwR g4 a 4 none) a 2 = some (a + 7) := by rw [jR_wR_s, va_up_n (by omega)]; exact r3_4
  have r4_5 : jR (jwR g4 a 4 none) a 3 = some (a + 8) := by rw [jR_wR_s, va_up_n (by omega)]; exact r4_4
  have t_5 : jR (jwR g4 a 4 none) a 4 = none := by rw [jR_wR_s, va_up_s]
  have m1_5 : ∀ b, a + 1 ≤ b → b < a + 6 → sm G1 (jwR g4 a 4 none) b := fun b h1 h2 => sm_trans (m1_4 b h1 h2) (M5 b (by omega))
  have m2_5 : ∀ b, a + 6 ≤ b → b < a + 7 → sm g2 (jwR g4 a 4 none) b := fun b h1 h2 => sm_trans (m2_4 b h1 h2) (M5 b (by omega))
  have m3_5 : ∀ b, a + 7 ≤ b → b < a + 8 → sm g3 (jwR g4 a 4 none) b := fun b h1 h2 => sm_trans (m3_4 b h1 h2) (M5 b (by omega))
  have m4_5 : ∀ b, a + 8 ≤ b → b < a + 12 → sm G4 (jwR g4 a 4 none) b := fun b h1 h2 => sm_trans (m4_4 b h1 h2) (M5 b (by omega))
  generalize jwR g4 a 4 none = g5 at *
  rw [s9_47, s9_48, s9_49 (by rw [kq5])]
  have M6 : ∀ b, b ≠ a → sm g5 (jwI g5 a 5 0) b := fun b hb => sm_wI hb
  have n6 : jnx (jwI g5 a 5 0) = a + 12 := (wI_n (h := g5)).trans n5
  have l6 : jsl (jwI g5 a 5 0) = jsl h + 198 := (wI_s (h := g5)).trans l5
  have kq6 : jK (jwI g5 a 5 0) a = (21, 8) := (congrFun (wI_K (h := g5)) a).trans kq5
  have o6 : ∀ b, b < a → sm h (jwI g5 a 5 0) b := fun b hb => sm_trans (o5 b hb) (M6 b (by omega))
  have r1_6 : jR (jwI g5 a 5 0) a 0 = some (a + 1) := (congrFun (congrFun (wI_R (h := g5)) a) 0).trans r1_5
  have r2_6 : jR (jwI g5 a 5 0) a 1 = some (a + 6) := (congrFun (congrFun (wI_R (h := g5)) a) 1).trans r2_5
  have r3_6 : jR (jwI g5 a 5 0) a 2 = some (a + 7) := (congrFun (congrFun (wI_R (h := g5)) a) 2).trans r3_5
  have r4_6 : jR (jwI g5 a 5 0) a 3 = some (a + 8) := (congrFun (congrFun (wI_R (h := g5)) a) 3).trans r4_5
  have m1_6 : ∀ b, a + 1 ≤ b → b < a + 6 → sm G1 (jwI g5 a 5 0) b := fun b h1 h2 => sm_trans (m1_5 b h1 h2) (M6 b (by omega))
  have m2_6 : ∀ b, a + 6 ≤ b → b < a + 7 → sm g2 (jwI g5 a 5 0) b := fun b h1 h2 => sm_trans (m2_5 b h1 h2) (M6 b (by omega))
  have m3_6 : ∀ b, a + 7 ≤ b → b < a + 8 → sm g3 (jwI g5 a 5 0) b := fun b h1 h2 => sm_trans (m3_5 b h1 h2) (M6 b (by omega))
  have m4_6 : ∀ b, a + 8 ≤ b → b < a + 12 → sm G4 (jwI g5 a 5 0) b := fun b h1 h2 => sm_trans (m4_5 b h1 h2) (M6 b (by omega))
  generalize jwI g5 a 5 0 = g6 at *
  rw [s9_52, s9_53, s9_54 (by rw [kq6])]
  have M7 : ∀ b, b ≠ a → sm g6 (jwI g6 a 6 0) b := fun b hb => sm_wI hb
  have n7 : jnx (jwI g6 a 6 0) = a + 12 := (wI_n (h := g6)).trans n6
  have l7 : jsl (jwI g6 a 6 0) = jsl h + 198 := (wI_s (h := g6)).trans l6
  have kq7 : jK (jwI g6 a 6 0) a = (21, 8) := (congrFun (wI_K (h := g6)) a).trans kq6
  have o7 : ∀ b, b < a → sm h (jwI g6 a 6 0) b := fun b hb => sm_trans (o6 b hb) (M7 b (by omega))
  have r1_7 : jR (jwI g6 a 6 0) a 0 = some (a + 1) := (congrFun (congrFun (wI_R (h := g6)) a) 0).trans r1_6
  have r2_7 : jR (jwI g6 a 6 0) a 1 = some (a + 6) := (congrFun (congrFun (wI_R (h := g6)) a) 1).trans r2_6
  have r3_7 : jR (jwI g6 a 6 0) a 2 = some (a + 7) := (congrFun (congrFun (wI_R (h := g6)) a) 2).trans r3_6
  have r4_7 : jR (jwI g6 a 6 0) a 3 = some (a + 8) := (congrFun (congrFun (wI_R (h := g6)) a) 3).trans r4_6
  have m1_7 : ∀ b, a + 1 ≤ b → b < a + 6 → sm G1 (jwI g6 a 6 0) b := fun b h1 h2 => sm_trans (m1_6 b h1 h2) (M7 b (by omega))
  have m2_7 : ∀ b, a + 6 ≤ b → b < a + 7 → sm g2 (jwI g6 a 6 0) b := fun b h1 h2 => sm_trans (m2_6 b h1 h2) (M7 b (by omega))
  have m3_7 : ∀ b, a + 7 ≤ b → b < a + 8 → sm g3 (jwI g6 a 6 0) b := fun b h1 h2 => sm_trans (m3_6 b h1 h2) (M7 b (by omega))
  have m4_7 : ∀ b, a + 8 ≤ b → b < a + 12 → sm G4 (jwI g6 a 6 0) b := fun b h1 h2 => sm_trans (m4_6 b h1 h2) (M7 b (by omega))
  generalize jwI g6 a 6 0 = g7 at *
  rw [s9_57, s9_58, s9_59 (by rw [kq7])]
  have M8 : ∀ b, b ≠ a → sm g7 (jwI g7 a 7 (-1)) b := fun b hb => sm_wI hb
  have n8 : jnx (jwI g7 a 7 (-1)) = a + 12 := (wI_n (h := g7)).trans n7
  have l8 : jsl (jwI g7 a 7 (-1)) = jsl h + 198 := (wI_s (h := g7)).trans l7
  have kq8 : jK (jwI g7 a 7 (-1)) a = (21, 8) := (congrFun (wI_K (h := g7)) a).trans kq7
  have o8 : ∀ b, b < a → sm h (jwI g7 a 7 (-1)) b := fun b hb => sm_trans (o7 b hb) (M8 b (by omega))
  have r1_8 : jR (jwI g7 a 7 (-1)) a 0 = some (a + 1) := (congrFun (congrFun (wI_R (h := g7)) a) 0).trans r1_7
  have r2_8 : jR (jwI g7 a 7 (-1)) a 1 = some (a + 6) := (congrFun (congrFun (wI_R (h := g7)) a) 1).trans r2_7
  have r3_8 : jR (jwI g7 a 7 (-1)) a 2 = some (a + 7) := (congrFun (congrFun (wI_R (h := g7)) a) 2).trans r3_7
  have r4_8 : jR (jwI g7 a 7 (-1)) a 3 = some (a + 8) := (congrFun (congrFun (wI_R (h := g7)) a) 3).trans r4_7
  have m1_8 : ∀ b, a + 1 ≤ b → b < a + 6 → sm G1 (jwI g7 a 7 (-1)) b := fun b h1 h2 => sm_trans (m1_7 b h1 h2) (M8 b (by omega))
  have m2_8 : ∀ b, a + 6 ≤ b → b < a + 7 → sm g2 (jwI g7 a 7 (-1)) b := fun b h1 h2 => sm_trans (m2_7 b h1 h2) (M8 b (by omega))
  have m3_8 : ∀ b, a + 7 ≤ b → b < a + 8 → sm g3 (jwI g7 a 7 (-1)) b := fun b h1 h2 => sm_trans (m3_7 b h1 h2) (M8 b (by omega))
  have m4_8 : ∀ b, a + 8 ≤ b → b < a + 12 → sm G4 (jwI g7 a 7 (-1)) b := fun b h1 h2 => sm_trans (m4_7 b h1 h2) (M8 b (by omega))
  generalize jwI g7 a 7 (-1) = g8 at *
  rw [s9_62]
  exact hQ g8 ⟨⟨n8, l8⟩, o8, kq8, r1_8, ⟨r2_8, by rw [(m2_8 _ (by omega) (by omega)).1]; exact K2 _ (by omega)⟩, ⟨r3_8, by rw [(m3_8 _ (by omega) (by omega)).1]; exact K3 _ (by omega)⟩, stI_sm (fun b h1 h2 => m1_8 b (by omega) (by omega)) cc1⟩
end
theorem crI_sm {h h' : jH} {q : Nat} (e : ∀ b, q ≤ b → b < q + 8 → sm h h' b) (H : crI h q) : crI h' q := by
  obtain ⟨a1, a2, ⟨a3, a4⟩, ⟨a5, a6⟩, a7⟩ := H
  have e0 := e q (by omega) (by omega)
  exact ⟨by rw [e0.1]; exact a1, by rw [e0.2.2.2]; exact a2, ⟨by rw [e0.2.2.2]; exact a3, by rw [(e (q + 6) (by omega) (by omega)).1]; exact a4⟩, ⟨by rw [e0.2.2.2]; exact a5, by rw [(e (q + 7) (by omega) (by omega)).1]; exact a6⟩, stI_sm (fun b h1 h2 => e b (by omega) (by omega)) a7⟩
