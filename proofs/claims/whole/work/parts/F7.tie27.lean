/-! THE CLASS: its making: a constructor -/
section
variable {h : jH} {a t : Nat} {d : Nat} {Q : Option Value → jH → Prop}
def mk103 (h h' : jH) (a : Nat) : Prop := (jnx h' = a + 50 ∧ jsl h' = jsl h + 2183) ∧ (∀ b, b < a → sm h h' b) ∧ (xI h' a ∧ jI h' a 3 = 0) ∧ tpQ h' (a + 1) ∧ rdI h' (a + 3) (a + 1) ∧ (jK h' (a + 7) = (6, 6) ∧ jR h' (a + 7) = fun _ => none) ∧ moQ h' (a + 8) ∧ paQ h' (a + 23) ∧ (jK h' (a + 25) = (5, 4) ∧ jR h' (a + 25) = fun _ => none) ∧ prI h' (a + 26) ∧ fsI h' (a + 35)
set_option maxHeartbeats 16000000 in
theorem k103 (hn : jnx h = a + 1) (hk : jK h a = (31, 9)) (hQ : ∀ h', mk103 h h' a → Q none h') : jC (d + 5) 103 [.ref a] h Q := by
  rw [e103, s103_0, s103_1]
  have n0 : jnx h = a + 1 := hn
  have l0 : jsl h = jsl h + 0 := rfl
  have kq0 : jK h a = (31, 9) := hk
  have o0 : ∀ b, b < a → sm h h b := fun b _ => sm_refl
  rw [s103_4, s103_5, s103_8, s103_9]
  refine k95 (a := jnx h) rfl (jK_new h 30 7) (fun G1 MM1 => ?_)
  have oo1 : ∀ b, b < jnx h → sm h G1 b := fun b hb => sm_trans (sm_new hb) (MM1.2.1 b hb)
  have nn1 : jnx G1 = jnx h + 2 := by have := MM1.1.1; omega
  have ll1 : jsl G1 = jsl h + 407 := by have := MM1.1.2; have e : jsl (jnew h 30 7) = jsl h + 7 := rfl; omega
  have cc1 : tpQ G1 (jnx h) := MM1.2.2
  rw [n0] at cc1
  clear MM1
  simp only [Option.toList, List.cons_append, List.nil_append]
  rw [s103_12 (by rw [(oo1 a (by omega)).1, kq0])]
  have M1 : mkp h (jwR G1 a 0 (some (jnx h))) a 0 2 407 := mkp_o (by omega) nn1 ll1 oo1
  have m1_1 : ∀ b, a + 1 ≤ b → b < a + 3 → sm G1 (jwR G1 a 0 (some (jnx h))) b := fun b h1 h2 => sm_wR (by omega)
  generalize jwR G1 a 0 (some (jnx h)) = g1 at *
  have n1 : jnx g1 = a + 3 := by have := M1.1.1; omega
  have l1 : jsl g1 = jsl h + 407 := by have := M1.1.2; omega
  have kq1 : jK g1 a = (31, 9) := by rw [M1.2.2.1]; exact kq0
  have o1 : ∀ b, b < a → sm h g1 b := fun b hb => sm_trans (o0 b hb) (M1.2.1 b (by omega) (by omega))
  have r1_1 : jR g1 a 0 = some (a + 1) := by rw [M1.2.2.2.2, va_up_s, n0]
  rw [s103_15, s103_16, s103_19, s103_20]
  refine k71 (a := jnx g1) (t := a + 1) rfl (jK_new g1 28 6) (by omega) (fun G2 MM2 => ?_)
  have oo2 : ∀ b, b < jnx g1 → sm g1 G2 b := fun b hb => sm_trans (sm_new hb) (MM2.2.1 b hb)
  have nn2 : jnx G2 = jnx g1 + 4 := by have := MM2.1.1; omega
  have ll2 : jsl G2 = jsl g1 + 431 := by have := MM2.1.2; have e : jsl (jnew g1 28 6) = jsl g1 + 6 := rfl; omega
  have cc2 : rdI G2 (jnx g1) (a + 1) := MM2.2.2
  rw [n1] at cc2
  clear MM2
  simp only [Option.toList, List.cons_append, List.nil_append]
  rw [s103_23 (by rw [(oo2 a (by omega)).1, kq1])]
  have M2 : mkp g1 (jwR G2 a 1 (some (jnx g1))) a 1 4 431 := mkp_o (by omega) nn2 ll2 oo2
  have m2_2 : ∀ b, a + 3 ≤ b → b < a + 7 → sm G2 (jwR G2 a 1 (some (jnx g1))) b := fun b h1 h2 => sm_wR (by omega)
  generalize jwR G2 a 1 (some (jnx g1)) = g2 at *
  have n2 : jnx g2 = a + 7 := by have := M2.1.1; omega
  have l2 : jsl g2 = jsl h + 838 := by have := M2.1.2; omega
  have kq2 : jK g2 a = (31, 9) := by rw [M2.2.2.1]; exact kq1
  have o2 : ∀ b, b < a → sm h g2 b := fun b hb => sm_trans (o1 b hb) (M2.2.1 b (by omega) (by omega))
  have r1_2 : jR g2 a 0 = some (a + 1) := by rw [M2.2.2.2.2, va_up_n (by omega)]; exact r1_1
  have r2_2 : jR g2 a 1 = some (a + 3) := by rw [M2.2.2.2.2, va_up_s, n1]
  have m1_2 : ∀ b, a + 1 ≤ b → b < a + 3 → sm G1 g2 b := fun b h1 h2 => sm_trans (m1_1 b h1 h2) (M2.2.1 b (by omega) (by omega))
  rw [s103_26, s103_27, s103_29 (by decide), tcx6, s103_32 (by rw [(sm_new (by omega)).1, kq2])]
  have M3 : mkp g2 (jwR (jnew g2 6 6) a 2 (some (jnx g2))) a 2 1 6 := mkp_a (by omega)
  have K3 : ∀ b, b = jnx g2 → jK (jwR (jnew g2 6 6) a 2 (some (jnx g2))) b = (6, 6) := fun b e => by rw [e]; exact mkp_K (by omega)
  have R3 : ∀ b, b = jnx g2 → jR (jwR (jnew g2 6 6) a 2 (some (jnx g2))) b = fun _ => none := fun b e => by rw [e]; exact mkp_R (by omega)
  generalize jwR (jnew g2 6 6) a 2 (some (jnx g2)) = g3 at *
  have n3 : jnx g3 = a + 8 := by have := M3.1.1; omega
  have l3 : jsl g3 = jsl h + 844 := by have := M3.1.2; omega
  have kq3 : jK g3 a = (31, 9) := by rw [M3.2.2.1]; exact kq2
  have o3 : ∀ b, b < a → sm h g3 b := fun b hb => sm_trans (o2 b hb) (M3.2.1 b (by omega) (by omega))
  have r1_3 : jR g3 a 0 = some (a + 1) := by rw [M3.2.2.2.2, va_up_n (by omega)]; exact r1_2
  have r2_3 : jR g3 a 1 = some (a + 3) := by rw [M3.2.2.2.2, va_up_n (by omega)]; exact r2_2
  have r3_3 : jR g3 a 2 = some (a + 7) := by rw [M3.2.2.2.2, va_up_s, n2]
  have m1_3 : ∀ b, a + 1 ≤ b → b < a + 3 → sm G1 g3 b := fun b h1 h2 => sm_trans (m1_2 b h1 h2) (M3.2.1 b (by omega) (by omega))
  have m2_3 : ∀ b, a + 3 ≤ b → b < a + 7 → sm G2 g3 b := fun b h1 h2 => sm_trans (m2_2 b h1 h2) (M3.2.1 b (by omega) (by omega))
  have m3_3 : ∀ b, a + 7 ≤ b → b < a + 8 → sm g3 g3 b := fun b _ _ => sm_refl
  rw [s103_35, s103_36, s103_37 (by rw [kq3])]
  have M4 : ∀ b, b ≠ a → sm g3 (jwI g3 a 3 0) b := fun b hb => sm_wI hb
  have n4 : jnx (jwI g3 a 3 0) = a + 8 := (wI_n (h := g3)).trans n3
  have l4 : jsl (jwI g3 a 3 0) = jsl h + 844 := (wI_s (h := g3)).trans l3
  have kq4 : jK (jwI g3 a 3 0) a = (31, 9) := (congrFun (wI_K (h := g3)) a).trans kq3
  have o4 : ∀ b, b < a → sm h (jwI g3 a 3 0) b := fun b hb => sm_trans (o3 b hb) (M4 b (by omega))
  have r1_4 : jR (jwI g3 a 3 0) a 0 = some (a + 1) := (congrFun (congrFun (wI_R (h := g3)) a) 0).trans r1_3
  have r2_4 : jR (jwI g3 a 3 0) a 1 = some (a + 3) := (congrFun (congrFun (wI_R (h := g3)) a) 1).trans r2_3
  have r3_4 : jR (jwI g3 a 3 0) a 2 = some (a + 7) := (congrFun (congrFun (wI_R (h := g3)) a) 2).trans r3_3
  have i3_4 : jI (jwI g3 a 3 0) a 3 = 0 := by rw [jwI_row, jI_wr_s, upd_s]
  have m1_4 : ∀ b, a + 1 ≤ b → b < a + 3 → sm G1 (jwI g3 a 3 0) b := fun b h1 h2 => sm_trans (m1_3 b h1 h2) (M4 b (by omega))
  have m2_4 : ∀ b, a + 3 ≤ b → b < a + 7 → sm G2 (jwI g3 a 3 0) b := fun b h1 h2 => sm_trans (m2_3 b h1 h2) (M4 b (by omega))
  have m3_4 : ∀ b, a + 7 ≤ b → b < a + 8 → sm g3 (jwI g3 a 3 0) b := fun b h1 h2 => sm_trans (m3_3 b h1 h2) (M4 b (by omega))
  generalize jwI g3 a 3 0 = g4 at *
  rw [s103_40, s103_41, s103_44, s103_45]
  refine k39 (a := jnx g4) rfl (jK_new g4 23 5) (fun G5 MM5 => ?_)
  have oo5 : ∀ b, b < jnx g4 → sm g4 G5 b := fun b hb => sm_trans (sm_new hb) (MM5.2.1 b hb)
  have nn5 : jnx G5 = jnx g4 + 15 := by have := MM5.1.1; omega
  have ll5 : jsl G5 = jsl g4 + 172 := by have := MM5.1.2; have e : jsl (jnew g4 23 5) = jsl g4 + 5 := rfl; omega
  have cc5 : moQ G5 (jnx g4) := MM5.2.2
  rw [n4] at cc5
  clear MM5
  simp only [Option.toList, List.cons_append, List.nil_append]
  rw [s103_48 (by rw [(oo5 a (by omega)).1, kq4])]
  have M5 : mkp g4 (jwR G5 a 4 (some (jnx g4))) a 4 15 172 := mkp_o (by omega) nn5 ll5 oo5
  have m5_5 : ∀ b, a + 8 ≤ b → b < a + 23 → sm G5 (jwR G5 a 4 (some (jnx g4))) b := fun b h1 h2 => sm_wR (by omega)
  generalize jwR G5 a 4 (some (jnx g4)) = g5 at *
  have n5 : jnx g5 = a + 23 := by have := M5.1.1; omega
  have l5 : jsl g5 = jsl h + 1016 := by have := M5.1.2; omega
  have kq5 : jK g5 a = (31, 9) := by rw [M5.2.2.1]; exact kq4
  have o5 : ∀ b, b < a → sm h g5 b := fun b hb => sm_trans (o4 b hb) (M5.2.1 b (by omega) (by omega))
  have r1_5 : jR g5 a 0 = some (a + 1) := by rw [M5.2.2.2.2, va_up_n (by omega)]; exact r1_4
  have r2_5 : jR g5 a 1 = some (a + 3) := by rw [M5.2.2.2.2, va_up_n (by omega)]; exact r2_4
  have r3_5 : jR g5 a 2 = some (a + 7) := by rw [M5.2.2.2.2, va_up_n (by omega)]; exact r3_4
  have r5_5 : jR g5 a 4 = some (a + 8) := by rw [M5.2.2.2.2, va_up_s, n4]
  have i3_5 : jI g5 a 3 = 0 := by rw [M5.2.2.2.1]; exact i3_4
  have m1_5 : ∀ b, a + 1 ≤ b → b < a + 3 → sm G1 g5 b := fun b h1 h2 => sm_trans (m1_4 b h1 h2) (M5.2.1 b (by omega) (by omega))
  have m2_5 : ∀ b, a + 3 ≤ b → b < a + 7 → sm G2 g5 b := fun b h1 h2 => sm_trans (m2_4 b h1 h2) (M5.2.1 b (by omega) (by omega))
  have m3_5 : ∀ b, a + 7 ≤ b → b < a + 8 → sm g3 g5 b := fun b h1 h2 => sm_trans (m3_4 b h1 h2) (M5.2.1 b (by omega) (by omega))
  rw [s103_51, s103_52, s103_55, s103_56]
  refine k47 (a := jnx g5) rfl (jK_new g5 25 3) (fun G6 MM6 => ?_)
  have oo6 : ∀ b, b < jnx g5 → sm g5 G6 b := fun b hb => sm_trans (sm_new hb) (MM6.2.1 b hb)
  have nn6 : jnx G6 = jnx g5 + 2 := by have := MM6.1.1; omega
  have ll6 : jsl G6 = jsl g5 + 23 := by have := MM6.1.2; have e : jsl (jnew g5 25 3) = jsl g5 + 3 := rfl; omega
  have cc6 : paQ G6 (jnx g5) := MM6.2.2
  rw [n5] at cc6
  clear MM6
  simp only [Option.toList, List.cons_append, List.nil_append]
  rw [s103_59 (by rw [(oo6 a (by omega)).1, kq5])]
  have M6 : mkp g5 (jwR G6 a 5 (some (jnx g5))) a 5 2 23 := mkp_o (by omega) nn6 ll6 oo6
  have m6_6 : ∀ b, a + 23 ≤ b → b < a + 25 → sm G6 (jwR G6 a 5 (some (jnx g5))) b := fun b h1 h2 => sm_wR (by omega)
  generalize jwR G6 a 5 (some (jnx g5)) = g6 at *
  have n6 : jnx g6 = a + 25 := by have := M6.1.1; omega
  have l6 : jsl g6 = jsl h + 1039 := by have := M6.1.2; omega
  have kq6 : jK g6 a = (31, 9) := by rw [M6.2.2.1]; exact kq5
  have o6 : ∀ b, b < a → sm h g6 b := fun b hb => sm_trans (o5 b hb) (M6.2.1 b (by omega) (by omega))
  have r1_6 : jR g6 a 0 = some (a + 1) := by rw [M6.2.2.2.2, va_up_n (by omega)]; exact r1_5
  have r2_6 : jR g6 a 1 = some (a + 3) := by rw [M6.2.2.2.2, va_up_n (by omega)]; exact r2_5
  have r3_6 : jR g6 a 2 = some (a + 7) := by rw [M6.2.2.2.2, va_up_n (by omega)]; exact r3_5
  have r5_6 : jR g6 a 4 = some (a + 8) := by rw [M6.2.2.2.2, va_up_n (by omega)]; exact r5_5
  have r6_6 : jR g6 a 5 = some (a + 23) := by rw [M6.2.2.2.2, va_up_s, n5]
  have i3_6 : jI g6 a 3 = 0 := by rw [M6.2.2.2.1]; exact i3_5
  have m1_6 : ∀ b, a + 1 ≤ b → b < a + 3 → sm G1 g6 b := fun b h1 h2 => sm_trans (m1_5 b h1 h2) (M6.2.1 b (by omega) (by omega))
  have m2_6 : ∀ b, a + 3 ≤ b → b < a + 7 → sm G2 g6 b := fun b h1 h2 => sm_trans (m2_5 b h1 h2) (M6.2.1 b (by omega) (by omega))
  have m3_6 : ∀ b, a + 7 ≤ b → b < a + 8 → sm g3 g6 b := fun b h1 h2 => sm_trans (m3_5 b h1 h2) (M6.2.1 b (by omega) (by omega))
  have m5_6 : ∀ b, a + 8 ≤ b → b < a + 23 → sm G5 g6 b := fun b h1 h2 => sm_trans (m5_5 b h1 h2) (M6.2.1 b (by omega) (by omega))
  rw [s103_62, s103_63, s103_64 (by decide), tcx4, s103_67 (by rw [(sm_new (by omega)).1, kq6])]
  have M7 : mkp g6 (jwR (jnew g6 5 4) a 6 (some (jnx g6))) a 6 1 4 := mkp_a (by omega)
  have K7 : ∀ b, b = jnx g6 → jK (jwR (jnew g6 5 4) a 6 (some (jnx g6))) b = (5, 4) := fun b e => by rw [e]; exact mkp_K (by omega)
  have R7 : ∀ b, b = jnx g6 → jR (jwR (jnew g6 5 4) a 6 (some (jnx g6))) b = fun _ => none := fun b e => by rw [e]; exact mkp_R (by omega)
  generalize jwR (jnew g6 5 4) a 6 (some (jnx g6)) = g7 at *
  have n7 : jnx g7 = a + 26 := by have := M7.1.1; omega
  have l7 : jsl g7 = jsl h + 1043 := by have := M7.1.2; omega
  have kq7 : jK g7 a = (31, 9) := by rw [M7.2.2.1]; exact kq6
  have o7 : ∀ b, b < a → sm h g7 b := fun b hb => sm_trans (o6 b hb) (M7.2.1 b (by omega) (by omega))
  have r1_7 : jR g7 a 0 = some (a + 1) := by rw [M7.2.2.2.2, va_up_n (by omega)]; exact r1_6
  have r2_7 : jR g7 a 1 = some (a + 3) := by rw [M7.2.2.2.2, va_up_n (by omega)]; exact r2_6
  have r3_7 : jR g7 a 2 = some (a + 7) := by rw [M7.2.2.2.2, va_up_n (by omega)]; exact r3_6
  have r5_7 : jR g7 a 4 = some (a + 8) := by rw [M7.2.2.2.2, va_up_n (by omega)]; exact r5_6
  have r6_7 : jR g7 a 5 = some (a + 23) := by rw [M7.2.2.2.2, va_up_n (by omega)]; exact r6_6
  have r7_7 : jR g7 a 6 = some (a + 25) := by rw [M7.2.2.2.2, va_up_s, n6]
  have i3_7 : jI g7 a 3 = 0 := by rw [M7.2.2.2.1]; exact i3_6
  have m1_7 : ∀ b, a + 1 ≤ b → b < a + 3 → sm G1 g7 b := fun b h1 h2 => sm_trans (m1_6 b h1 h2) (M7.2.1 b (by omega) (by omega))
  have m2_7 : ∀ b, a + 3 ≤ b → b < a + 7 → sm G2 g7 b := fun b h1 h2 => sm_trans (m2_6 b h1 h2) (M7.2.1 b (by omega) (by omega))
  have m3_7 : ∀ b, a + 7 ≤ b → b < a + 8 → sm g3 g7 b := fun b h1 h2 => sm_trans (m3_6 b h1 h2) (M7.2.1 b (by omega) (by omega))
  have m5_7 : ∀ b, a + 8 ≤ b → b < a + 23 → sm G5 g7 b := fun b h1 h2 => sm_trans (m5_6 b h1 h2) (M7.2.1 b (by omega) (by omega))
  have m6_7 : ∀ b, a + 23 ≤ b → b < a + 25 → sm G6 g7 b := fun b h1 h2 => sm_trans (m6_6 b h1 h2) (M7.2.1 b (by omega) (by omega))
  have m7_7 : ∀ b, a + 25 ≤ b → b < a + 26 → sm g7 g7 b := fun b _ _ => sm_refl
  rw [s103_70, s103_71, s103_74, s103_75]
  refine k50 (a := jnx g7) rfl (jK_new g7 26 4) (fun G8 MM8 => ?_)
  have oo8 : ∀ b, b < jnx g7 → sm g7 G8 b := fun b hb => sm_trans (sm_new hb) (MM8.2.1 b hb)
  have nn8 : jnx G8 = jnx g7 + 9 := by have := MM8.1.1; omega
  have ll8 : jsl G8 = jsl g7 + 521 := by have := MM8.1.2; have e : jsl (jnew g7 26 4) = jsl g7 + 4 := rfl; omega
  have cc8 : prI G8 (jnx g7) := MM8.2.2
  rw [n7] at cc8
  clear MM8
  simp only [Option.toList, List.cons_append, List.nil_append]
  rw [s103_78 (by rw [(oo8 a (by omega)).1, kq7])]
  have M8 : mkp g7 (jwR G8 a 7 (some (jnx g7))) a 7 9 521 := mkp_o (by omega) nn8 ll8 oo8
  have m8_8 : ∀ b, a + 26 ≤ b → b < a + 35 → sm G8 (jwR G8 a 7 (some (jnx g7))) b := fun b h1 h2 => sm_wR (by omega)
  generalize jwR G8 a 7 (some (jnx g7)) = g8 at *
  have n8 : jnx g8 = a + 35 := by have := M8.1.1; omega
  have l8 : jsl g8 = jsl h + 1564 := by have := M8.1.2; omega
  have kq8 : jK g8 a = (31, 9) := by rw [M8.2.2.1]; exact kq7
  have o8 : ∀ b, b < a → sm h g8 b := fun b hb => sm_trans (o7 b hb) (M8.2.1 b (by omega) (by omega))
  have r1_8 : jR g8 a 0 = some (a + 1) := by rw [M8.2.2.2.2, va_up_n (by omega)]; exact r1_7
  have r2_8 : jR g8 a 1 = some (a + 3) := by rw [M8.2.2.2.2, va_up_n (by omega)]; exact r2_7
  have r3_8 : jR g8 a 2 = some (a + 7) := by rw [M8.2.2.2.2, va_up_n (by omega)]; exact r3_7
  have r5_8 : jR g8 a 4 = some (a + 8) := by rw [M8.2.2.2.2, va_up_n (by omega)]; exact r5_7
  have r6_8 : jR g8 a 5 = some (a + 23) := by rw [M8.2.2.2.2, va_up_n (by omega)]; exact r6_7
  have r7_8 : jR g8 a 6 = some (a + 25) := by rw [M8.2.2.2.2, va_up_n (by omega)]; exact r7_7
  have r8_8 : jR g8 a 7 = some (a + 26) := by rw [M8.2.2.2.2, va_up_s, n7]
  have i3_8 : jI g8 a 3 = 0 := by rw [M8.2.2.2.1]; exact i3_7
  have m1_8 : ∀ b, a + 1 ≤ b → b < a + 3 → sm G1 g8 b := fun b h1 h2 => sm_trans (m1_7 b h1 h2) (M8.2.1 b (by omega) (by omega))
  have m2_8 : ∀ b, a + 3 ≤ b → b < a + 7 → sm G2 g8 b := fun b h1 h2 => sm_trans (m2_7 b h1 h2) (M8.2.1 b (by omega) (by omega))
  have m3_8 : ∀ b, a + 7 ≤ b → b < a + 8 → sm g3 g8 b := fun b h1 h2 => sm_trans (m3_7 b h1 h2) (M8.2.1 b (by omega) (by omega))
  have m5_8 : ∀ b, a + 8 ≤ b → b < a + 23 → sm G5 g8 b := fun b h1 h2 => sm_trans (m5_7 b h1 h2) (M8.2.1 b (by omega) (by omega))
  have m6_8 : ∀ b, a + 23 ≤ b → b < a + 25 → sm G6 g8 b := fun b h1 h2 => sm_trans (m6_7 b h1 h2) (M8.2.1 b (by omega) (by omega))
  have m7_8 : ∀ b, a + 25 ≤ b → b < a + 26 → sm g7 g8 b := fun b h1 h2 => sm_trans (m7_7 b h1 h2) (M8.2.1 b (by omega) (by omega))
  rw [s103_81, s103_82, s103_85, s103_86]
  refine k20 (a := jnx g8) rfl (jK_new g8 22 5) (fun G9 MM9 => ?_)
  have oo9 : ∀ b, b < jnx g8 → sm g8 G9 b := fun b hb => sm_trans (sm_new hb) (MM9.2.1 b hb)
  have nn9 : jnx G9 = jnx g8 + 15 := by have := MM9.1.1; omega
  have ll9 : jsl G9 = jsl g8 + 619 := by have := MM9.1.2; have e : jsl (jnew g8 22 5) = jsl g8 + 5 := rfl; omega
  have cc9 : fsI G9 (jnx g8) := MM9.2.2
  rw [n8] at cc9
  clear MM9
  simp only [Option.toList, List.cons_append, List.nil_append]
  rw [s103_89 (by rw [(oo9 a (by omega)).1, kq8])]
  have M9 : mkp g8 (jwR G9 a 8 (some (jnx g8))) a 8 15 619 := mkp_o (by omega) nn9 ll9 oo9
  have m9_9 : ∀ b, a + 35 ≤ b → b < a + 50 → sm G9 (jwR G9 a 8 (some (jnx g8))) b := fun b h1 h2 => sm_wR (by omega)
  generalize jwR G9 a 8 (some (jnx g8)) = g9 at *
  have n9 : jnx g9 = a + 50 := by have := M9.1.1; omega
  have l9 : jsl g9 = jsl h + 2183 := by have := M9.1.2; omega
  have kq9 : jK g9 a = (31, 9) := by rw [M9.2.2.1]; exact kq8
  have o9 : ∀ b, b < a → sm h g9 b := fun b hb => sm_trans (o8 b hb) (M9.2.1 b (by omega) (by omega))
  have r1_9 : jR g9 a 0 = some (a + 1) := by rw [M9.2.2.2.2, va_up_n (by omega)]; exact r1_8
  have r2_9 : jR g9 a 1 = some (a + 3) := by rw [M9.2.2.2.2, va_up_n (by omega)]; exact r2_8
  have r3_9 : jR g9 a 2 = some (a + 7) := by rw [M9.2.2.2.2, va_up_n (by omega)]; exact r3_8
  have r5_9 : jR g9 a 4 = some (a + 8) := by rw [M9.2.2.2.2, va_up_n (by omega)]; exact r5_8
  have r6_9 : jR g9 a 5 = some (a + 23) := by rw [M9.2.2.2.2, va_up_n (by omega)]; exact r6_8
  have r7_9 : jR g9 a 6 = some (a + 25) := by rw [M9.2.2.2.2, va_up_n (by omega)]; exact r7_8
  have r8_9 : jR g9 a 7 = some (a + 26) := by rw [M9.2.2.2.2, va_up_n (by omega)]; exact r8_8
  have r9_9 : jR g9 a 8 = some (a + 35) := by rw [M9.2.2.2.2, va_up_s, n8]
  have i3_9 : jI g9 a 3 = 0 := by rw [M9.2.2.2.1]; exact i3_8
  have m1_9 : ∀ b, a + 1 ≤ b → b < a + 3 → sm G1 g9 b := fun b h1 h2 => sm_trans (m1_8 b h1 h2) (M9.2.1 b (by omega) (by omega))
  have m2_9 : ∀ b, a + 3 ≤ b → b < a + 7 → sm G2 g9 b := fun b h1 h2 => sm_trans (m2_8 b h1 h2) (M9.2.1 b (by omega) (by omega))
  have m3_9 : ∀ b, a + 7 ≤ b → b < a + 8 → sm g3 g9 b := fun b h1 h2 => sm_trans (m3_8 b h1 h2) (M9.2.1 b (by omega) (by omega))
  have m5_9 : ∀ b, a + 8 ≤ b → b < a + 23 → sm G5 g9 b := fun b h1 h2 => sm_trans (m5_8 b h1 h2) (M9.2.1 b (by omega) (by omega))
  have m6_9 : ∀ b, a + 23 ≤ b → b < a + 25 → sm G6 g9 b := fun b h1 h2 => sm_trans (m6_8 b h1 h2) (M9.2.1 b (by omega) (by omega))
  have m7_9 : ∀ b, a + 25 ≤ b → b < a + 26 → sm g7 g9 b := fun b h1 h2 => sm_trans (m7_8 b h1 h2) (M9.2.1 b (by omega) (by omega))
  have m8_9 : ∀ b, a + 26 ≤ b → b < a + 35 → sm G8 g9 b := fun b h1 h2 => sm_trans (m8_8 b h1 h2) (M9.2.1 b (by omega) (by omega))
  rw [s103_92]
  exact hQ g9 ⟨⟨n9, l9⟩, o9, ⟨⟨kq9, r1_9, r2_9, r3_9, r5_9, r6_9, r7_9, r8_9, r9_9⟩, i3_9⟩, tpQ_sm (fun b h1 h2 => m1_9 b (by omega) (by omega)) cc1, rdI_sm (fun b h1 h2 => m2_9 b (by omega) (by omega)) cc2, ⟨by rw [(m3_9 _ (by omega) (by omega)).1]; exact K3 _ (by omega), by rw [(m3_9 _ (by omega) (by omega)).2.2.2]; exact R3 _ (by omega)⟩, moQ_sm (fun b h1 h2 => m5_9 b (by omega) (by omega)) cc5, paQ_sm (fun b h1 h2 => m6_9 b (by omega) (by omega)) cc6, ⟨by rw [(m7_9 _ (by omega) (by omega)).1]; exact K7 _ (by omega), by rw [(m7_9 _ (by omega) (by omega)).2.2.2]; exact R7 _ (by omega)⟩, prI_sm (fun b h1 h2 => m8_9 b (by omega) (by omega)) cc8, fsI_sm (fun b h1 h2 => m9_9 b (by omega) (by omega)) cc9⟩
end
