/-! THE CLASS: image, back -/
def moI (h : jH) (p : Nat) : Prop := jK h p = (23, 5) ∧ jR h p 3 = some (p + 5) ∧ jR h p 4 = some (p + 10) ∧ stI h (p + 5) ∧ noI h (p + 10)
/-- what copying into a moment leaves -/
def cpM (h h' : jH) (p o c : Nat) (S : Nat → Int32) : Prop := (jnx h' = jnx h ∧ jsl h' = jsl h ∧ jK h' = jK h ∧ jJ h' = jJ h) ∧ (∀ a, a ≠ p → jR h' a = jR h a) ∧ jR h' p = va_up (jR h p) 0 (some c) ∧ (∀ a, a ≠ p → (a < p + 5 ∨ p + 15 ≤ a) → jI h' a = jI h a) ∧ (jI h' p 1 = jI h o 1 ∧ jI h' p 2 = jI h o 2) ∧ stV h' (p + 5) S ∧ noV h' (p + 10) S
section
variable {h : jH} {x a p o c k : Nat} {d : Nat} {Q : Option Value → jH → Prop} {S : Nat → Int32}
theorem k40 (H : moI h p) (Ho : moI h o) (hd : o + 15 ≤ p ∨ p + 15 ≤ o) (hc : jR h o 0 = some c) (V : stV h (o + 5) S) (N : noV h (o + 10) S) (hS : sQ S ≤ 10) (hQ : ∀ h', cpM h h' p o c S → Q none h') : jC (d + 2) 40 [.ref p, .ref o] h Q := by
  obtain ⟨p1, p3, p4, ps, pn⟩ := H
  obtain ⟨o1, o3, o4, os, on⟩ := Ho
  have kp : (jK h p).1 = 23 := by rw [p1]
  have ko : (jK h o).1 = 23 := by rw [o1]
  have hne : o ≠ p := by omega
  rw [e40, s40_0, s40_1, s40_2 ko, hc, va_rf_some, s40_5 kp, s40_8, s40_9, s40_10 (by exact ko), s40_13 (by exact kp), s40_16, s40_17, s40_18 (by exact ko), s40_21 (by exact kp)]
  have e1 : jI (jwR h p 0 (some c)) o 1 = jI h o 1 := rfl
  have e2 : jI (jwI (jwR h p 0 (some c)) p 1 (jI (jwR h p 0 (some c)) o 1)) o 2 = jI h o 2 := by rw [jwI_row, jI_wr_n hne]; rfl
  rw [e2, e1]
  have gK : jK (jwI (jwI (jwR h p 0 (some c)) p 1 (jI h o 1)) p 2 (jI h o 2)) = jK h := rfl
  have gJ : jJ (jwI (jwI (jwR h p 0 (some c)) p 1 (jI h o 1)) p 2 (jI h o 2)) = jJ h := rfl
  have gn : jnx (jwI (jwI (jwR h p 0 (some c)) p 1 (jI h o 1)) p 2 (jI h o 2)) = jnx h := rfl
  have gs : jsl (jwI (jwI (jwR h p 0 (some c)) p 1 (jI h o 1)) p 2 (jI h o 2)) = jsl h := rfl
  have gR : ∀ a, a ≠ p → jR (jwI (jwI (jwR h p 0 (some c)) p 1 (jI h o 1)) p 2 (jI h o 2)) a = jR h a := fun a ha => jR_wR_n ha
  have gR0 : jR (jwI (jwI (jwR h p 0 (some c)) p 1 (jI h o 1)) p 2 (jI h o 2)) p = va_up (jR h p) 0 (some c) := jR_wR_s
  have gI : ∀ a, a ≠ p → jI (jwI (jwI (jwR h p 0 (some c)) p 1 (jI h o 1)) p 2 (jI h o 2)) a = jI h a := fun a ha => by rw [jwI_row, jwI_row, jI_wr_n ha, jI_wr_n ha]; rfl
  have gI0 : jI (jwI (jwI (jwR h p 0 (some c)) p 1 (jI h o 1)) p 2 (jI h o 2)) p 1 = jI h o 1 ∧ jI (jwI (jwI (jwR h p 0 (some c)) p 1 (jI h o 1)) p 2 (jI h o 2)) p 2 = jI h o 2 := by
    rw [jwI_row, jwI_row, jI_wr_s, jI_wr_s]
    exact ⟨by rw [upd_n (by omega), upd_s], upd_s⟩
  generalize jwI (jwI (jwR h p 0 (some c)) p 1 (jI h o 1)) p 2 (jI h o 2) = g at *
  have kp' : (jK g p).1 = 23 := by rw [gK]; exact kp
  have ko' : (jK g o).1 = 23 := by rw [gK]; exact ko
  have q3 : jR g p 3 = some (p + 5) := by rw [gR0]; exact p3
  have q4 : jR g p 4 = some (p + 10) := by rw [gR0]; exact p4
  have r3 : jR g o 3 = some (o + 5) := by rw [gR o hne]; exact o3
  have r4 : jR g o 4 = some (o + 10) := by rw [gR o hne]; exact o4
  have ps' : stI g (p + 5) := by
    unfold stI at *
    rw [gK, gR (p + 5) (by omega)]; exact ps
  have os' : stI g (o + 5) := by
    unfold stI at *
    rw [gK, gR (o + 5) (by omega)]; exact os
  have pn' : noI g (p + 10) := by
    unfold noI at *
    rw [gK, gR (p + 10) (by omega)]; exact pn
  have on' : noI g (o + 10) := by
    unfold noI at *
    rw [gK, gR (o + 10) (by omega)]; exact on
  have V' : stV g (o + 5) S := by
    unfold stV stV1 at *
    rw [gI (o + 5) (by omega), gI (o + 5 + 1) (by omega), gI (o + 5 + 2) (by omega), gI (o + 5 + 3) (by omega), gI (o + 5 + 4) (by omega)]
    exact V
  rw [s40_24, s40_25 kp', q3, va_rf_some, s40_28, s40_29 ko', r3, va_rf_some, s40_32 (by rw [ps'.1])]
  refine k88 ps' os' (by omega) V' (fun g2 G2 V2 => ?_)
  have e2K : jK g2 = jK g := G2.1.2.2.1
  have e2R : jR g2 = jR g := G2.1.2.2.2.1
  have N2 : noV g2 (o + 10) S := by
    unfold noV at *
    rw [G2.2 (o + 10) (by omega), G2.2 (o + 10 + 1) (by omega), G2.2 (o + 10 + 2) (by omega), G2.2 (o + 10 + 3) (by omega), G2.2 (o + 10 + 4) (by omega), gI (o + 10) (by omega), gI (o + 10 + 1) (by omega), gI (o + 10 + 2) (by omega), gI (o + 10 + 3) (by omega), gI (o + 10 + 4) (by omega)]
    exact N
  have pn2 : noI g2 (p + 10) := by
    unfold noI at *
    rw [e2K, e2R]; exact pn'
  have on2 : noI g2 (o + 10) := by
    unfold noI at *
    rw [e2K, e2R]; exact on'
  simp only [Option.toList, List.nil_append]
  rw [s40_35, s40_36 (by rw [e2K]; exact kp'), e2R, q4, va_rf_some, s40_39, s40_40 (by rw [e2K]; exact ko'), e2R, r4, va_rf_some, s40_43 (by rw [pn2.1])]
  refine k46 pn2 on2 (by omega) N2 hS (fun g3 G3 N3 => ?_)
  simp only [Option.toList, List.nil_append]
  rw [s40_46]
  refine hQ g3 ⟨⟨by rw [G3.1.1, G2.1.1, gn], by rw [G3.1.2.1, G2.1.2.1, gs], by rw [G3.1.2.2.1, e2K, gK], by rw [G3.1.2.2.2.2, G2.1.2.2.2.2, gJ]⟩, fun a ha => by rw [G3.1.2.2.2.1, e2R, gR a ha], by rw [G3.1.2.2.2.1, e2R, gR0], fun a h1 h2 => by rw [G3.2 a (by omega), G2.2 a (by omega), gI a h1], ⟨?_, ?_⟩, ?_, N3⟩
  · rw [G3.2 p (by omega), G2.2 p (by omega)]; exact gI0.1
  · rw [G3.2 p (by omega), G2.2 p (by omega)]; exact gI0.2
  · exact frm_stV G3 (by omega) V2
/-- image -/
theorem k139n {k : Int32} (hn : inR k 0 3 = false) : jC (d + 2) 139 [.ref x, .int k] h Q ↔ Q (some (.int (-1))) h := by
  rw [e139, s139_0, s139_1, s139_2, s139_3, k115, hn, if_neg (by decide)]
  simp only [Option.toList, List.cons_append, List.nil_append]
  rw [s139_6, if_neg (by decide), s139_9, s139_10]
theorem l139 (X : xI h x) (h25 : jK h (x + 25) = (5, 4)) (hk : k < 4) (hp : jR h (x + 25) k = some p) (H : moI h p) (Ho : moI h (x + 8)) (hd : x + 75 ≤ p) (hc : jR h (x + 8) 0 = some c) (V : stV h (x + 13) S) (N : noV h (x + 18) S) (hS : sQ S ≤ 10) (hQ : ∀ h', cpM h h' p (x + 8) c S → Q (some (.int (S 10))) h') : jW (d + 2) 139 33 [some (.ref x), some (.int (nI k))] [] h Q := by
  obtain ⟨x0, -, -, -, x4, -, x6, -⟩ := X
  have kx : (jK h x).1 = 31 := by rw [x0]
  have ij : jinb (nI k) (jK h (x + 25)).2 = true := by rw [h25]; exact jinb_nI hk (by omega)
  rw [s139_33, s139_34 kx, x6, va_rf_some, s139_37, s139_38 (by rw [h25]; decide) ij, nI_clamp (by omega), hp, va_rf_some, s139_39, s139_40 kx, x4, va_rf_some, s139_43 (by rw [H.1])]
  refine k40 H Ho (by omega) hc V N hS (fun h' M => ?_)
  have M' := M
  obtain ⟨⟨m1, m2, m3, m4⟩, m5, -, m6, -, -, -⟩ := M
  have v0 : jI h' (x + 13) 0 = S 10 := by rw [m6 (x + 13) (by omega) (by omega)]; exact (V 0 (by omega)).1
  have q1 : jR h' x 4 = some (x + 8) := by rw [m5 x (by omega)]; exact x4
  have q2 : jR h' (x + 8) 3 = some (x + 13) := by rw [m5 (x + 8) (by omega)]; exact Ho.2.1
  have q3 : (jK h' (x + 13)).1 = 29 := by rw [m3]; exact congrArg Prod.fst Ho.2.2.2.1.1
  have q4 : (jK h' (x + 8)).1 = 23 := by rw [m3, Ho.1]
  simp only [Option.toList, List.nil_append]
  rw [s139_46, s139_47 (by rw [m3]; exact kx), q1, va_rf_some, s139_50 q4, q2, va_rf_some, s139_53 q3, v0, s139_56]
  exact hQ h' M'
theorem k139o (X : xI h x) (h25 : jK h (x + 25) = (5, 4)) (hk : k < 4) (hp : jR h (x + 25) k = some p) (hQ : jW (d + 1) 139 33 [some (.ref x), some (.int (nI k))] [] h Q) : jC (d + 2) 139 [.ref x, .int (nI k)] h Q := by
  obtain ⟨x0, -, -, -, x4, -, x6, -⟩ := X
  have kx : (jK h x).1 = 31 := by rw [x0]
  have ij : jinb (nI k) (jK h (x + 25)).2 = true := by rw [h25]; exact jinb_nI hk (by omega)
  have hn : inR (nI k) 0 3 = true := inR_y (lo := 0) (hi := 3) (by omega) (by omega) (by omega)
  rw [e139, s139_0, s139_1, s139_2, s139_3, k115, hn, if_pos rfl]
  simp only [Option.toList, List.cons_append, List.nil_append]
  rw [s139_6, if_pos (by decide), s139_11, s139_12 kx, x6, va_rf_some, s139_15, s139_16 (by rw [h25]; decide) ij, nI_clamp (by omega), hp, va_rf_some, s139_17]
  exact hQ
theorem k139e (X : xI h x) (h25 : jK h (x + 25) = (5, 4)) (hx : x + 75 ≤ jnx h) (hk : k < 4) (hp : jR h (x + 25) k = none) (hQ : ∀ g, mkM (jnew h 23 5) g (jnx h) → jW (d + 3) 139 33 [some (.ref x), some (.int (nI k))] [] (jwR g (x + 25) k (some (jnx h))) Q) : jC (d + 4) 139 [.ref x, .int (nI k)] h Q := by
  obtain ⟨x0, -, -, -, x4, -, x6, -⟩ := X
  have kx : (jK h x).1 = 31 := by rw [x0]
  have ij : jinb (nI k) (jK h (x + 25)).2 = true := by rw [h25]; exact jinb_nI hk (by omega)
  have hn : inR (nI k) 0 3 = true := inR_y (lo := 0) (hi := 3) (by omega) (by omega) (by omega)
  rw [e139, s139_0, s139_1, s139_2, s139_3, k115, hn, if_pos rfl]
  simp only [Option.toList, List.cons_append, List.nil_append]
  rw [s139_6, if_pos (by decide), s139_11, s139_12 kx, x6, va_rf_some, s139_15, s139_16 (by rw [h25]; decide) ij, nI_clamp (by omega), hp, va_rf_none, s139_17N, s139_20, s139_21 kx, x6, va_rf_some, s139_24, s139_25, s139_28, s139_29]
  refine k39 (a := jnx h) rfl (jK_new h 23 5) (fun g M => ?_)
  have s25 := sm_trans (sm_new (h := h) (k := 23) (n := 5) (b := x + 25) (by omega)) (M.2.1 (x + 25) (by omega))
  simp only [Option.toList, List.cons_append, List.nil_append]
  rw [s139_32 (by rw [s25.1, h25]; decide) (by rw [s25.1, h25, M.2.2.1.1]; rfl) (by rw [s25.1]; exact ij), nI_clamp (by omega)]
  exact hQ g M
/-- back -/
theorem k140n {k : Int32} (hn : inR k 0 3 = false) : jC (d + 2) 140 [.ref x, .int k] h Q ↔ Q (some (.int (-1))) h := by
  rw [e140, s140_0, s140_1, s140_2, s140_3, k115, hn, if_neg (by decide)]
  simp only [Option.toList, List.cons_append, List.nil_append]
  rw [s140_6, if_pos rfl, s140_18, s140_19]
theorem k140z (X : xI h x) (h25 : jK h (x + 25) = (5, 4)) (hk : k < 4) (hp : jR h (x + 25) k = none) : jC (d + 2) 140 [.ref x, .int (nI k)] h Q ↔ Q (some (.int (-1))) h := by
  obtain ⟨x0, -, -, -, x4, -, x6, -⟩ := X
  have kx : (jK h x).1 = 31 := by rw [x0]
  have ij : jinb (nI k) (jK h (x + 25)).2 = true := by rw [h25]; exact jinb_nI hk (by omega)
  have hn : inR (nI k) 0 3 = true := inR_y (lo := 0) (hi := 3) (by omega) (by omega) (by omega)
  rw [e140, s140_0, s140_1, s140_2, s140_3, k115, hn, if_pos rfl]
  simp only [Option.toList, List.cons_append, List.nil_append]
  rw [s140_6, if_neg (by decide), s140_9, s140_10 kx, x6, va_rf_some, s140_13, s140_14 (by rw [h25]; decide) ij, nI_clamp (by omega), hp, va_rf_none, s140_15N, s140_18, s140_19]
theorem k140y (X : xI h x) (h25 : jK h (x + 25) = (5, 4)) (h23 : jK h (x + 23) = (25, 3)) (hk : k < 4) (hp : jR h (x + 25) k = some p) (H : moI h p) (Ho : moI h (x + 8)) (hd : x + 75 ≤ p) (hc : jR h p 0 = some c) (V : stV h (p + 5) S) (N : noV h (p + 10) S) (hS : sQ S ≤ 10) (hQ : ∀ h', cpM h h' (x + 8) p c S → Q (some (.int (S 10))) (jwr h' (x + 23) (upd (jI h' (x + 23)) 2 0))) : jC (d + 3) 140 [.ref x, .int (nI k)] h Q := by
  obtain ⟨x0, -, -, -, x4, x5, x6, -⟩ := X
  have kx : (jK h x).1 = 31 := by rw [x0]
  have ij : jinb (nI k) (jK h (x + 25)).2 = true := by rw [h25]; exact jinb_nI hk (by omega)
  have hn : inR (nI k) 0 3 = true := inR_y (lo := 0) (hi := 3) (by omega) (by omega) (by omega)
  rw [e140, s140_0, s140_1, s140_2, s140_3, k115, hn, if_pos rfl]
  simp only [Option.toList, List.cons_append, List.nil_append]
  rw [s140_6, if_neg (by decide), s140_9, s140_10 kx, x6, va_rf_some, s140_13, s140_14 (by rw [h25]; decide) ij, nI_clamp (by omega), hp, va_rf_some, s140_15, s140_20, s140_21 kx, x4, va_rf_some, s140_24, s140_25 kx, x6, va_rf_some, s140_28, s140_29 (by rw [h25]; decide) ij, nI_clamp (by omega), hp, va_rf_some, s140_30 (by rw [Ho.1])]
  refine k40 Ho H (by omega) hc V N hS (fun h' M => ?_)
  have M' := M
  obtain ⟨⟨m1, m2, m3, m4⟩, m5, m8, m6, -, mV, -⟩ := M
  have v0 : jI h' (x + 13) 0 = S 10 := (mV 0 (by omega)).1
  have q1 : jR h' x 4 = some (x + 8) := by rw [m5 x (by omega)]; exact x4
  have q5 : jR h' x 5 = some (x + 23) := by rw [m5 x (by omega)]; exact x5
  have q2 : jR h' (x + 8) 3 = some (x + 13) := by rw [m8]; exact Ho.2.1
  have q3 : (jK h' (x + 13)).1 = 29 := by rw [m3]; exact congrArg Prod.fst Ho.2.2.2.1.1
  have q4 : (jK h' (x + 8)).1 = 23 := by rw [m3, Ho.1]
  have kx' : (jK h' x).1 = 31 := by rw [m3]; exact kx
  simp only [Option.toList, List.nil_append]
  rw [s140_33, s140_34 kx', q5, va_rf_some, s140_37, s140_38 (by rw [m3, h23]), jwI_row, s140_41, s140_42 (by rw [jK_wr]; exact kx'), jR_wr, q1, va_rf_some, s140_45 (by rw [jK_wr]; exact q4), jR_wr, q2, va_rf_some, s140_48 (by rw [jK_wr]; exact q3), jI_wr_n (by omega), v0, s140_51]
  exact hQ h' M'
end
