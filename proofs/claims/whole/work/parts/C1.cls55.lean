/-! THE CLASS: camp: a camp taken -/
section
variable {h : jH} {x c : Nat} {y : Nat → Nat} {S : Nat → Int32} {d : Nat} {Q : Option Value → jH → Prop}
theorem l106o (k1 : jK h x = (31, 9)) (k2 : jR h x 0 = some (x + 1)) (k4 : jR h x 4 = some (x + 8)) (k5 : jR h x 5 = some (x + 23)) (t1 : jK h (x + 1) = (30, 7)) (m1 : (jK h (x + 8)).1 = 23) (m3 : jR h (x + 8) 3 = some (x + 13)) (m4 : jR h (x + 8) 4 = some (x + 18)) (n1 : (jK h (x + 18)).1 = 24) (p1 : (jK h (x + 23)).1 = 25) (Hs : stI h (x + 13)) (Hc : cmI h c) (hc : x + 75 ≤ c) (Z : zV h c y) (hS : ∀ j, j < 36 → S (83 + j) = nI (y (83 + j)))
    (hQ : ∀ g h', jK g = jK h → jI g = jI (jwr h (x + 1) (upd (jI h (x + 1)) 1 0)) → jJ g = jJ h → (∀ a, a ≠ x + 8 → jR g a = jR h a) → jR g (x + 8) = va_up (jR h (x + 8)) 0 (some c) → jnx g = jnx h → jsl g = jsl h → frm (x + 13) (x + 18) g h' → stV h' (x + 13) (mBeg S) → Q (some (.int (nI (y 5)))) (jwr (jwr h' (x + 18) (upd (jI h' (x + 18)) 0 0)) (x + 23) (upd (jI h' (x + 23)) 2 0))) : jW (d + 6) 106 16 [some (.ref x), some (.ref c), none] [.int 1] h Q := by
  simp (config := { decide := true }) (disch := (first | assumption | omega | (simp (config := { decide := true }) only [k1, k2, k4, t1, m1, jK_wI, jK_wJ, jK_wR, jK_wr, jR_wr, jR_wI, jR_wJ, jK_wj, jR_wj, stI_wr, cmI_wr, stI_wj, cmI_wj]; done) | (simp only [k1, k2, k4, t1, m1, jK_wI, jK_wJ, jK_wR, jK_wr, jR_wr, jR_wI, jR_wJ, jK_wj, jR_wj, stI_wr, cmI_wr, stI_wj, cmI_wj]; refine jinb_nI ?_ ?_ <;> omega) | (refine jinb_nI ?_ ?_ <;> omega) | (simp only [stI_wr, cmI_wr, stI_wj, cmI_wj]; assumption))) only [s106_16, s106_17, s106_18, s106_21, s106_22, s106_25, s106_26, s106_40, s106_41, s106_44, s106_44N, s106_45, s106_45N, va_rf_some, va_rf_none, jK_wI, jR_wI, jJ_wI, jK_wJ, jR_wJ, jI_wJ, jK_wR, jI_wR, jJ_wR, jK_wr, jR_wr, jJ_wr, jcl1_i, jcl1_r, jcl1_z, jcl1_n, jcl1_l, jwI_row, jwr_jwr, jwr_cm, jwr_cc, upd_upd, jI_wr_s, jI_wr_a, jI_wr_b, jI_wr_c, mInv_wr, upd_s, upd_n, Option.toList, List.cons_append, List.nil_append, true_or, or_true, eq_self, and_self, ite_true, ite_false, if_true, if_false, jK_wj, jR_wj, jI_wj, jwJ_row, jwj_jwj, jJ_wj_s, jJ_wj_n, jI_wr_n, jinb_nI, nI_clamp, tc0, tc1, tc2, tc3, tc4, tc5, tc6, tc7, tc8, tc9, tc10, tc11, tc12, tc13, tc14, tc15, tc16, tc17, tc18, tc19, tc20, tc21, tc22, tc23, tc24, tc25, tc26, tc27, tc28, tc29, tc30, tc31, tc32, tc33, tc34, tc35, tc36, tc37, tc38, tc39, tc40, tc41, tc42, tc43, tc44, tc45, tc46, tc47, tc48, tc49, tc50, tc51, tc52, tc53, tc54, tc55, tc56, tc57, tc58, tc59, tc60, tc61, tc62, tc63, tc64, tc65, tc66, tc67, tc68, tc69, tc77, tc83, tc119, tc159, tc160, nI_add, al0, ar0, ml0, mr0, al1, ar1, ml1, mr1, al2, ar2, ml2, mr2, al3, ar3, ml3, mr3, al4, ar4, ml4, mr4, al5, ar5, ml5, mr5, al6, ar6, ml6, mr6, al8, ar8, ml8, mr8, al10, ar10, ml10, mr10, al11, ar11, ml11, mr11, al12, ar12, ml12, mr12, al13, ar13, ml13, mr13, al16, ar16, ml16, mr16, al20, ar20, ml20, mr20, al24, ar24, ml24, mr24, al29, ar29, ml29, mr29, al36, ar36, ml36, mr36, al42, ar42, ml42, mr42, al48, ar48, ml48, mr48, al55, ar55, ml55, mr55, al60, ar60, ml60, mr60, al65, ar65, ml65, mr65, al77, ar77, ml77, mr77, al83, ar83, ml83, mr83, al119, ar119, ml119, mr119, al159, ar159, ml159, mr159, al160, ar160, ml160, mr160, al400, ar400, ml400, mr400, k1, k2, k4, t1, m1]
  generalize hg : jwR (jwr h (x + 1) (upd (jI h (x + 1)) 1 0)) (x + 8) 0 (some c) = g
  have gK : jK g = jK h := by rw [← hg]; rfl
  have gI : jI g = jI (jwr h (x + 1) (upd (jI h (x + 1)) 1 0)) := by rw [← hg]; rfl
  have gJ : jJ g = jJ h := by rw [← hg]; rfl
  have gR : ∀ a, a ≠ x + 8 → jR g a = jR h a := fun a ha => by
    rw [← hg]
    show jup (jR h) (x + 8) 0 (some c) a = _
    rw [jup_ne ha]
  have g8 : jR g (x + 8) = va_up (jR h (x + 8)) 0 (some c) := by
    rw [← hg]
    show jup (jR h) (x + 8) 0 (some c) (x + 8) = _
    rw [jup_eqR]
  have gn : jnx g = jnx h := by rw [← hg]; rfl
  have gs : jsl g = jsl h := by rw [← hg]; rfl
  clear hg
  have q1 : jK g x = (31, 9) := by rw [gK]; exact k1
  have q4 : jR g x 4 = some (x + 8) := by rw [gR x (by omega)]; exact k4
  have q5 : jR g x 5 = some (x + 23) := by rw [gR x (by omega)]; exact k5
  have q8 : (jK g (x + 8)).1 = 23 := by rw [gK]; exact m1
  have q3 : jR g (x + 8) 3 = some (x + 13) := by rw [g8]; exact m3
  have q7 : jR g (x + 8) 4 = some (x + 18) := by rw [g8]; exact m4
  have qn : (jK g (x + 18)).1 = 24 := by rw [gK]; exact n1
  have qp : (jK g (x + 23)).1 = 25 := by rw [gK]; exact p1
  have Gs : stI g (x + 13) := by
    unfold stI at *
    rw [gK, gR (x + 13) (by omega)]
    exact Hs
  have Gc : cmI g c := by
    unfold cmI at *
    rw [gK, gR c (by omega)]
    exact Hc
  have s1 : (jK g (x + 13)).1 = 29 := by rw [Gs.1]
  have c5 : jI g c 5 = nI (y 5) := by rw [gI, jI_wr_n (by omega)]; exact Z.1.2.2.2.2
  simp (config := { decide := true }) (disch := (first | assumption | omega | (simp (config := { decide := true }) only [q1, q4, q8, q3, s1, jK_wI, jK_wJ, jK_wR, jK_wr, jR_wr, jR_wI, jR_wJ, jK_wj, jR_wj, stI_wr, cmI_wr, stI_wj, cmI_wj]; done) | (simp only [q1, q4, q8, q3, s1, jK_wI, jK_wJ, jK_wR, jK_wr, jR_wr, jR_wI, jR_wJ, jK_wj, jR_wj, stI_wr, cmI_wr, stI_wj, cmI_wj]; refine jinb_nI ?_ ?_ <;> omega) | (refine jinb_nI ?_ ?_ <;> omega) | (simp only [stI_wr, cmI_wr, stI_wj, cmI_wj]; assumption))) only [s106_48, s106_49, s106_52, s106_55, s106_55N, s106_56, va_rf_some, va_rf_none, jK_wI, jR_wI, jJ_wI, jK_wJ, jR_wJ, jI_wJ, jK_wR, jI_wR, jJ_wR, jK_wr, jR_wr, jJ_wr, jcl1_i, jcl1_r, jcl1_z, jcl1_n, jcl1_l, jwI_row, jwr_jwr, jwr_cm, jwr_cc, upd_upd, jI_wr_s, jI_wr_a, jI_wr_b, jI_wr_c, mInv_wr, upd_s, upd_n, Option.toList, List.cons_append, List.nil_append, true_or, or_true, eq_self, and_self, ite_true, ite_false, if_true, if_false, jK_wj, jR_wj, jI_wj, jwJ_row, jwj_jwj, jJ_wj_s, jJ_wj_n, jI_wr_n, jinb_nI, nI_clamp, tc0, tc1, tc2, tc3, tc4, tc5, tc6, tc7, tc8, tc9, tc10, tc11, tc12, tc13, tc14, tc15, tc16, tc17, tc18, tc19, tc20, tc21, tc22, tc23, tc24, tc25, tc26, tc27, tc28, tc29, tc30, tc31, tc32, tc33, tc34, tc35, tc36, tc37, tc38, tc39, tc40, tc41, tc42, tc43, tc44, tc45, tc46, tc47, tc48, tc49, tc50, tc51, tc52, tc53, tc54, tc55, tc56, tc57, tc58, tc59, tc60, tc61, tc62, tc63, tc64, tc65, tc66, tc67, tc68, tc69, tc77, tc83, tc119, tc159, tc160, nI_add, al0, ar0, ml0, mr0, al1, ar1, ml1, mr1, al2, ar2, ml2, mr2, al3, ar3, ml3, mr3, al4, ar4, ml4, mr4, al5, ar5, ml5, mr5, al6, ar6, ml6, mr6, al8, ar8, ml8, mr8, al10, ar10, ml10, mr10, al11, ar11, ml11, mr11, al12, ar12, ml12, mr12, al13, ar13, ml13, mr13, al16, ar16, ml16, mr16, al20, ar20, ml20, mr20, al24, ar24, ml24, mr24, al29, ar29, ml29, mr29, al36, ar36, ml36, mr36, al42, ar42, ml42, mr42, al48, ar48, ml48, mr48, al55, ar55, ml55, mr55, al60, ar60, ml60, mr60, al65, ar65, ml65, mr65, al77, ar77, ml77, mr77, al83, ar83, ml83, mr83, al119, ar119, ml119, mr119, al159, ar159, ml159, mr159, al160, ar160, ml160, mr160, al400, ar400, ml400, mr400, q1, q4, q8, q3, s1]
  refine k82 (S := S) Gs Gc (by omega) (fun j hj => ?_) (fun h' F V => ?_)
  · rw [gI, jI_wr_n (by omega), hS j hj]
    exact Z.2.2.2 j hj
  · have e1 : jK h' = jK g := F.1.2.2.1
    have e2 : jR h' = jR g := F.1.2.2.2.1
    have c6 : jI h' c 5 = nI (y 5) := by rw [F.2 c (by omega)]; exact c5
    have cK : (jK g c).1 = 20 := by rw [Gc.1]
    simp only [Option.toList, List.nil_append]
    simp (config := { decide := true }) (disch := (first | assumption | omega | (simp (config := { decide := true }) only [q1, q4, q5, q8, q7, qn, qp, cK, e1, e2, jK_wI, jK_wJ, jK_wR, jK_wr, jR_wr, jR_wI, jR_wJ, jK_wj, jR_wj, stI_wr, cmI_wr, stI_wj, cmI_wj]; done) | (simp only [q1, q4, q5, q8, q7, qn, qp, cK, e1, e2, jK_wI, jK_wJ, jK_wR, jK_wr, jR_wr, jR_wI, jR_wJ, jK_wj, jR_wj, stI_wr, cmI_wr, stI_wj, cmI_wj]; refine jinb_nI ?_ ?_ <;> omega) | (refine jinb_nI ?_ ?_ <;> omega) | (simp only [stI_wr, cmI_wr, stI_wj, cmI_wj]; assumption))) only [s106_59, s106_60, s106_63, s106_66, s106_67, s106_70, s106_71, s106_74, s106_75, s106_78, s106_78N, s106_79, s106_82, e1, e2, c6, va_rf_some, va_rf_none, jK_wI, jR_wI, jJ_wI, jK_wJ, jR_wJ, jI_wJ, jK_wR, jI_wR, jJ_wR, jK_wr, jR_wr, jJ_wr, jcl1_i, jcl1_r, jcl1_z, jcl1_n, jcl1_l, jwI_row, jwr_jwr, jwr_cm, jwr_cc, upd_upd, jI_wr_s, jI_wr_a, jI_wr_b, jI_wr_c, mInv_wr, upd_s, upd_n, Option.toList, List.cons_append, List.nil_append, true_or, or_true, eq_self, and_self, ite_true, ite_false, if_true, if_false, jK_wj, jR_wj, jI_wj, jwJ_row, jwj_jwj, jJ_wj_s, jJ_wj_n, jI_wr_n, jinb_nI, nI_clamp, tc0, tc1, tc2, tc3, tc4, tc5, tc6, tc7, tc8, tc9, tc10, tc11, tc12, tc13, tc14, tc15, tc16, tc17, tc18, tc19, tc20, tc21, tc22, tc23, tc24, tc25, tc26, tc27, tc28, tc29, tc30, tc31, tc32, tc33, tc34, tc35, tc36, tc37, tc38, tc39, tc40, tc41, tc42, tc43, tc44, tc45, tc46, tc47, tc48, tc49, tc50, tc51, tc52, tc53, tc54, tc55, tc56, tc57, tc58, tc59, tc60, tc61, tc62, tc63, tc64, tc65, tc66, tc67, tc68, tc69, tc77, tc83, tc119, tc159, tc160, nI_add, al0, ar0, ml0, mr0, al1, ar1, ml1, mr1, al2, ar2, ml2, mr2, al3, ar3, ml3, mr3, al4, ar4, ml4, mr4, al5, ar5, ml5, mr5, al6, ar6, ml6, mr6, al8, ar8, ml8, mr8, al10, ar10, ml10, mr10, al11, ar11, ml11, mr11, al12, ar12, ml12, mr12, al13, ar13, ml13, mr13, al16, ar16, ml16, mr16, al20, ar20, ml20, mr20, al24, ar24, ml24, mr24, al29, ar29, ml29, mr29, al36, ar36, ml36, mr36, al42, ar42, ml42, mr42, al48, ar48, ml48, mr48, al55, ar55, ml55, mr55, al60, ar60, ml60, mr60, al65, ar65, ml65, mr65, al77, ar77, ml77, mr77, al83, ar83, ml83, mr83, al119, ar119, ml119, mr119, al159, ar159, ml159, mr159, al160, ar160, ml160, mr160, al400, ar400, ml400, mr400, q1, q4, q5, q8, q7, qn, qp, cK, e1, e2]
    exact hQ g h' gK gI gJ gR g8 gn gs F V
end
