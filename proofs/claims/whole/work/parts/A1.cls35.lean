/-! THE CLASS: the reader of rules: a value -/
theorem xc_n {v : Nat} : xc (0 + 16 * v) = 32 + v := by
  unfold xc
  rw [if_pos (by omega)]
  omega
theorem xc_w {v : Nat} : xc (1 + 16 * v) = v := by
  unfold xc
  rw [if_neg (by omega), if_pos (by omega)]
  omega
section
variable {h h1 h2 : jH} {r t L md : Nat} {c : List Nat} {T : Nat → Nat} {d : Nat} {Q : Option Value → jH → Prop} {tK tV : Nat → Nat}
/-- a value's code laid -/
theorem l74 (R : rdI h r t) (X : tpI h t T L) (ht : t + 1 < r) {q e v : Nat} (F : tkF T L q (jI h t)) (he : e ≤ L) (f3 : jI h t 3 = nI e) (C : cdI h r md c) (hm : md ≤ 60) (hc : c.length < 400) (hQ : rO Q r t T L h (if md = 60 then .error (fW 0 3 q) else .ok (e, md + 1, c ++ [v]))) : jW (d + 1) 74 49 [some (.ref r), some (.ref t), some (.int (nI (xc v)))] [] h Q := by
  have R' := R
  have C' := C
  obtain ⟨r1, r2, -⟩ := R
  obtain ⟨c1, c2, c3, c4⟩ := C
  have a1 : jK h t = (30, 7) := X.1
  obtain ⟨f1, f2, -⟩ := F
  by_cases e60 : md = 60
  · have z : ¬ nI md < 60 := nI_nlt (b := 60) (by omega) (by omega)
    rw [if_pos e60] at hQ
    simp (config := { decide := true }) (disch := (first | assumption | omega | (simp (config := { decide := true }) only [r1, r2, a1, jK_wI, jK_wJ, jK_wR, jK_wr, jR_wr, jR_wI, jR_wJ, jK_wj, jR_wj, stI_wr, cmI_wr, stI_wj, cmI_wj]; done) | (simp only [r1, r2, a1, jK_wI, jK_wJ, jK_wR, jK_wr, jR_wr, jR_wI, jR_wJ, jK_wj, jR_wj, stI_wr, cmI_wr, stI_wj, cmI_wj]; refine jinb_nI ?_ ?_ <;> omega) | (refine jinb_nI ?_ ?_ <;> omega) | (simp only [stI_wr, cmI_wr, stI_wj, cmI_wj]; assumption))) only [s74_49, s74_50, s74_53, s74_55, s74_58, s74_58N, s74_59, s74_60, c2, if_neg z, va_rf_some, va_rf_none, jK_wI, jR_wI, jJ_wI, jK_wJ, jR_wJ, jI_wJ, jK_wR, jI_wR, jJ_wR, jK_wr, jR_wr, jJ_wr, jcl1_i, jcl1_r, jcl1_z, jcl1_n, jcl1_l, jwI_row, jwr_jwr, jwr_cm, jwr_cc, upd_upd, jI_wr_s, jI_wr_a, jI_wr_b, jI_wr_c, mInv_wr, upd_s, upd_n, Option.toList, List.cons_append, List.nil_append, true_or, or_true, eq_self, and_self, ite_true, ite_false, if_true, if_false, jK_wj, jR_wj, jI_wj, jwJ_row, jwj_jwj, jJ_wj_s, jJ_wj_n, jI_wr_n, jinb_nI, nI_clamp, tc0, tc1, tc2, tc3, tc4, tc5, tc6, tc7, tc8, tc9, tc10, tc11, tc12, tc13, tc14, tc15, tc16, tc17, tc18, tc19, tc20, tc21, tc22, tc23, tc24, tc25, tc26, tc27, tc28, tc29, tc30, tc31, tc32, tc33, tc34, tc35, tc36, tc37, tc38, tc39, tc40, tc41, tc42, tc43, tc44, tc45, tc46, tc47, tc48, tc49, tc50, tc51, tc52, tc53, tc54, tc55, tc56, tc57, tc58, tc59, tc60, tc61, tc62, tc63, tc64, tc65, tc66, tc67, tc68, tc69, tc77, tc83, tc119, tc159, tc160, nI_add, al0, ar0, ml0, mr0, al1, ar1, ml1, mr1, al2, ar2, ml2, mr2, al3, ar3, ml3, mr3, al4, ar4, ml4, mr4, al5, ar5, ml5, mr5, al6, ar6, ml6, mr6, al8, ar8, ml8, mr8, al10, ar10, ml10, mr10, al11, ar11, ml11, mr11, al12, ar12, ml12, mr12, al13, ar13, ml13, mr13, al16, ar16, ml16, mr16, al20, ar20, ml20, mr20, al24, ar24, ml24, mr24, al29, ar29, ml29, mr29, al36, ar36, ml36, mr36, al42, ar42, ml42, mr42, al48, ar48, ml48, mr48, al55, ar55, ml55, mr55, al60, ar60, ml60, mr60, al65, ar65, ml65, mr65, al77, ar77, ml77, mr77, al83, ar83, ml83, mr83, al119, ar119, ml119, mr119, al159, ar159, ml159, mr159, al160, ar160, ml160, mr160, al400, ar400, ml400, mr400, r1, r2, a1]
    have k2 := fun Q' => k101 (d := d) (h := h) (t := t) (q := q) (k := 3) (Q := Q') a1 f2
    rw [show nI 3 = (3 : Int32) from rfl] at k2
    rw [k2]
    simp only [Option.toList, List.cons_append, List.nil_append]
    rw [s74_63 (Or.inl rfl)]
    refine hQ _ (rfr_t (by omega) rfr_refl) ?_ ⟨c.length, c3, by rw [jI_wr_n (by omega)]; exact c1⟩
    rw [jI_wr_s]
    exact ⟨by rw [upd_n (by omega)]; exact f1, by rw [upd_s]; rfl⟩
  · have z : nI md < 60 := nI_lt (b := 60) (by omega) (by omega)
    rw [if_neg e60] at hQ
    simp (config := { decide := true }) (disch := (first | assumption | omega | (simp (config := { decide := true }) only [r1, r2, a1, jK_wI, jK_wJ, jK_wR, jK_wr, jR_wr, jR_wI, jR_wJ, jK_wj, jR_wj, stI_wr, cmI_wr, stI_wj, cmI_wj]; done) | (simp only [r1, r2, a1, jK_wI, jK_wJ, jK_wR, jK_wr, jR_wr, jR_wI, jR_wJ, jK_wj, jR_wj, stI_wr, cmI_wr, stI_wj, cmI_wj]; refine jinb_nI ?_ ?_ <;> omega) | (refine jinb_nI ?_ ?_ <;> omega) | (simp only [stI_wr, cmI_wr, stI_wj, cmI_wj]; assumption))) only [s74_49, s74_50, s74_53, s74_55, s74_58, s74_58N, s74_59, s74_60, s74_63, s74_64, s74_65, s74_66, s74_69, s74_70, s74_71, s74_74, s74_75, s74_76, c2, if_pos z, va_rf_some, va_rf_none, jK_wI, jR_wI, jJ_wI, jK_wJ, jR_wJ, jI_wJ, jK_wR, jI_wR, jJ_wR, jK_wr, jR_wr, jJ_wr, jcl1_i, jcl1_r, jcl1_z, jcl1_n, jcl1_l, jwI_row, jwr_jwr, jwr_cm, jwr_cc, upd_upd, jI_wr_s, jI_wr_a, jI_wr_b, jI_wr_c, mInv_wr, upd_s, upd_n, Option.toList, List.cons_append, List.nil_append, true_or, or_true, eq_self, and_self, ite_true, ite_false, if_true, if_false, jK_wj, jR_wj, jI_wj, jwJ_row, jwj_jwj, jJ_wj_s, jJ_wj_n, jI_wr_n, jinb_nI, nI_clamp, tc0, tc1, tc2, tc3, tc4, tc5, tc6, tc7, tc8, tc9, tc10, tc11, tc12, tc13, tc14, tc15, tc16, tc17, tc18, tc19, tc20, tc21, tc22, tc23, tc24, tc25, tc26, tc27, tc28, tc29, tc30, tc31, tc32, tc33, tc34, tc35, tc36, tc37, tc38, tc39, tc40, tc41, tc42, tc43, tc44, tc45, tc46, tc47, tc48, tc49, tc50, tc51, tc52, tc53, tc54, tc55, tc56, tc57, tc58, tc59, tc60, tc61, tc62, tc63, tc64, tc65, tc66, tc67, tc68, tc69, tc77, tc83, tc119, tc159, tc160, nI_add, al0, ar0, ml0, mr0, al1, ar1, ml1, mr1, al2, ar2, ml2, mr2, al3, ar3, ml3, mr3, al4, ar4, ml4, mr4, al5, ar5, ml5, mr5, al6, ar6, ml6, mr6, al8, ar8, ml8, mr8, al10, ar10, ml10, mr10, al11, ar11, ml11, mr11, al12, ar12, ml12, mr12, al13, ar13, ml13, mr13, al16, ar16, ml16, mr16, al20, ar20, ml20, mr20, al24, ar24, ml24, mr24, al29, ar29, ml29, mr29, al36, ar36, ml36, mr36, al42, ar42, ml42, mr42, al48, ar48, ml48, mr48, al55, ar55, ml55, mr55, al60, ar60, ml60, mr60, al65, ar65, ml65, mr65, al77, ar77, ml77, mr77, al83, ar83, ml83, mr83, al119, ar119, ml119, mr119, al159, ar159, ml159, mr159, al160, ar160, ml160, mr160, al400, ar400, ml400, mr400, r1, r2, a1]
    have G1 : rfr r t h (jwr h r (upd (jI h r) 2 (nI (md + 1)))) := rfr_r (by rw [upd_n (by omega)]) rfr_refl
    have C1 : cdI (jwr h r (upd (jI h r) 2 (nI (md + 1)))) r (md + 1) c := by
      refine ⟨?_, ?_, c3, fun j hj => ?_⟩
      · rw [jI_wr_s, upd_n (by omega)]; exact c1
      · rw [jI_wr_s, upd_s]
      · rw [jI_wr_n (by omega)]; exact c4 j hj
    refine k75 (rfr_rd G1 R') C1 hc (fun h' g1 g2 g3 => ?_) ⟨by omega, by omega⟩
    have G2 := rfr_trans G1 g1
    obtain ⟨s1, s2, -⟩ := rfr_rd G2 R'
    have X2 := rfr_tp G2 ht X
    have b1 : jK h' t = (30, 7) := X2.1
    have ei : jI h' t = jI h t := by rw [g2, jI_wr_n (by omega)]
    simp only [Option.toList, List.nil_append]
    simp (config := { decide := true }) (disch := (first | assumption | omega | (simp (config := { decide := true }) only [s1, s2, b1, jK_wI, jK_wJ, jK_wR, jK_wr, jR_wr, jR_wI, jR_wJ, jK_wj, jR_wj, stI_wr, cmI_wr, stI_wj, cmI_wj]; done) | (simp only [s1, s2, b1, jK_wI, jK_wJ, jK_wR, jK_wr, jR_wr, jR_wI, jR_wJ, jK_wj, jR_wj, stI_wr, cmI_wr, stI_wj, cmI_wj]; refine jinb_nI ?_ ?_ <;> omega) | (refine jinb_nI ?_ ?_ <;> omega) | (simp only [stI_wr, cmI_wr, stI_wj, cmI_wj]; assumption))) only [s74_79, s74_79N, s74_80, va_rf_some, va_rf_none, jK_wI, jR_wI, jJ_wI, jK_wJ, jR_wJ, jI_wJ, jK_wR, jI_wR, jJ_wR, jK_wr, jR_wr, jJ_wr, jcl1_i, jcl1_r, jcl1_z, jcl1_n, jcl1_l, jwI_row, jwr_jwr, jwr_cm, jwr_cc, upd_upd, jI_wr_s, jI_wr_a, jI_wr_b, jI_wr_c, mInv_wr, upd_s, upd_n, Option.toList, List.cons_append, List.nil_append, true_or, or_true, eq_self, and_self, ite_true, ite_false, if_true, if_false, jK_wj, jR_wj, jI_wj, jwJ_row, jwj_jwj, jJ_wj_s, jJ_wj_n, jI_wr_n, jinb_nI, nI_clamp, tc0, tc1, tc2, tc3, tc4, tc5, tc6, tc7, tc8, tc9, tc10, tc11, tc12, tc13, tc14, tc15, tc16, tc17, tc18, tc19, tc20, tc21, tc22, tc23, tc24, tc25, tc26, tc27, tc28, tc29, tc30, tc31, tc32, tc33, tc34, tc35, tc36, tc37, tc38, tc39, tc40, tc41, tc42, tc43, tc44, tc45, tc46, tc47, tc48, tc49, tc50, tc51, tc52, tc53, tc54, tc55, tc56, tc57, tc58, tc59, tc60, tc61, tc62, tc63, tc64, tc65, tc66, tc67, tc68, tc69, tc77, tc83, tc119, tc159, tc160, nI_add, al0, ar0, ml0, mr0, al1, ar1, ml1, mr1, al2, ar2, ml2, mr2, al3, ar3, ml3, mr3, al4, ar4, ml4, mr4, al5, ar5, ml5, mr5, al6, ar6, ml6, mr6, al8, ar8, ml8, mr8, al10, ar10, ml10, mr10, al11, ar11, ml11, mr11, al12, ar12, ml12, mr12, al13, ar13, ml13, mr13, al16, ar16, ml16, mr16, al20, ar20, ml20, mr20, al24, ar24, ml24, mr24, al29, ar29, ml29, mr29, al36, ar36, ml36, mr36, al42, ar42, ml42, mr42, al48, ar48, ml48, mr48, al55, ar55, ml55, mr55, al60, ar60, ml60, mr60, al65, ar65, ml65, mr65, al77, ar77, ml77, mr77, al83, ar83, ml83, mr83, al119, ar119, ml119, mr119, al159, ar159, ml159, mr159, al160, ar160, ml160, mr160, al400, ar400, ml400, mr400, s1, s2, b1]
    refine k99 X2 (by rw [ei]; exact f1) (by rw [ei]; exact f3) he (fun F2 u2 u6 => ?_)
    simp (config := { decide := true }) (disch := (first | assumption | omega | (simp (config := { decide := true }) only [s1, jK_wI, jK_wJ, jK_wR, jK_wr, jR_wr, jR_wI, jR_wJ, jK_wj, jR_wj, stI_wr, cmI_wr, stI_wj, cmI_wj]; done) | (simp only [s1, jK_wI, jK_wJ, jK_wR, jK_wr, jR_wr, jR_wI, jR_wJ, jK_wj, jR_wj, stI_wr, cmI_wr, stI_wj, cmI_wj]; refine jinb_nI ?_ ?_ <;> omega) | (refine jinb_nI ?_ ?_ <;> omega) | (simp only [stI_wr, cmI_wr, stI_wj, cmI_wj]; assumption))) only [s74_83, s74_84, va_rf_some, va_rf_none, jK_wI, jR_wI, jJ_wI, jK_wJ, jR_wJ, jI_wJ, jK_wR, jI_wR, jJ_wR, jK_wr, jR_wr, jJ_wr, jcl1_i, jcl1_r, jcl1_z, jcl1_n, jcl1_l, jwI_row, jwr_jwr, jwr_cm, jwr_cc, upd_upd, jI_wr_s, jI_wr_a, jI_wr_b, jI_wr_c, mInv_wr, upd_s, upd_n, Option.toList, List.cons_append, List.nil_append, true_or, or_true, eq_self, and_self, ite_true, ite_false, if_true, if_false, jK_wj, jR_wj, jI_wj, jwJ_row, jwj_jwj, jJ_wj_s, jJ_wj_n, jI_wr_n, jinb_nI, nI_clamp, tc0, tc1, tc2, tc3, tc4, tc5, tc6, tc7, tc8, tc9, tc10, tc11, tc12, tc13, tc14, tc15, tc16, tc17, tc18, tc19, tc20, tc21, tc22, tc23, tc24, tc25, tc26, tc27, tc28, tc29, tc30, tc31, tc32, tc33, tc34, tc35, tc36, tc37, tc38, tc39, tc40, tc41, tc42, tc43, tc44, tc45, tc46, tc47, tc48, tc49, tc50, tc51, tc52, tc53, tc54, tc55, tc56, tc57, tc58, tc59, tc60, tc61, tc62, tc63, tc64, tc65, tc66, tc67, tc68, tc69, tc77, tc83, tc119, tc159, tc160, nI_add, al0, ar0, ml0, mr0, al1, ar1, ml1, mr1, al2, ar2, ml2, mr2, al3, ar3, ml3, mr3, al4, ar4, ml4, mr4, al5, ar5, ml5, mr5, al6, ar6, ml6, mr6, al8, ar8, ml8, mr8, al10, ar10, ml10, mr10, al11, ar11, ml11, mr11, al12, ar12, ml12, mr12, al13, ar13, ml13, mr13, al16, ar16, ml16, mr16, al20, ar20, ml20, mr20, al24, ar24, ml24, mr24, al29, ar29, ml29, mr29, al36, ar36, ml36, mr36, al42, ar42, ml42, mr42, al48, ar48, ml48, mr48, al55, ar55, ml55, mr55, al60, ar60, ml60, mr60, al65, ar65, ml65, mr65, al77, ar77, ml77, mr77, al83, ar83, ml83, mr83, al119, ar119, ml119, mr119, al159, ar159, ml159, mr159, al160, ar160, ml160, mr160, al400, ar400, ml400, mr400, s1]
    refine hQ _ (rfr_t (by omega) G2) ?_ (cdI_t ht g3)
    rw [jI_wr_s]
    exact u2
/-- readValue -/
theorem k74 (R : rdI h r t) (X : tpI h t T L) (Y : txI h tK tV) (ht : t + 1 < r) {p : Nat} (hp : p ≤ L) (F : tkF T L (skp T L p) (jI h t)) (C : cdI h r md c) (hm : md ≤ 60) (hc : c.length ≤ p) (hQ : rO Q r t T L h (aVal T L p md c)) : jC (d + 6) 74 [.ref r, .ref t] h Q := by
  have R' := R
  have F' := F
  have C' := C
  obtain ⟨r1, r2, -⟩ := R
  obtain ⟨c1, c2, c3, c4⟩ := C
  obtain ⟨a1, a2, a3, a4, a5⟩ := X
  have X : tpI h t T L := ⟨a1, a2, a3, a4, a5⟩
  obtain ⟨f1, f2, f3, f4, f5, f6, f7⟩ := F
  have ha : jR h 0 5 = some (tK 5) := (Y.2 5 (by omega)).1
  have hT := fun p hp => (a5 p hp).2
  have gp := skp_ge (T := T) (L := L) (p := p)
  have hs := tsr_d (q := skp T L p) hT
  rw [e74]
  simp (config := { decide := true }) (disch := (first | assumption | omega | (simp (config := { decide := true }) only [r1, r2, a1, ha, jK_wI, jK_wJ, jK_wR, jK_wr, jR_wr, jR_wI, jR_wJ, jK_wj, jR_wj, stI_wr, cmI_wr, stI_wj, cmI_wj]; done) | (simp only [r1, r2, a1, ha, jK_wI, jK_wJ, jK_wR, jK_wr, jR_wr, jR_wI, jR_wJ, jK_wj, jR_wj, stI_wr, cmI_wr, stI_wj, cmI_wj]; refine jinb_nI ?_ ?_ <;> omega) | (refine jinb_nI ?_ ?_ <;> omega) | (simp only [stI_wr, cmI_wr, stI_wj, cmI_wj]; assumption))) only [s74_0, s74_0N, s74_1, s74_3, va_rf_some, va_rf_none, jK_wI, jR_wI, jJ_wI, jK_wJ, jR_wJ, jI_wJ, jK_wR, jI_wR, jJ_wR, jK_wr, jR_wr, jJ_wr, jcl1_i, jcl1_r, jcl1_z, jcl1_n, jcl1_l, jwI_row, jwr_jwr, jwr_cm, jwr_cc, upd_upd, jI_wr_s, jI_wr_a, jI_wr_b, jI_wr_c, mInv_wr, upd_s, upd_n, Option.toList, List.cons_append, List.nil_append, true_or, or_true, eq_self, and_self, ite_true, ite_false, if_true, if_false, jK_wj, jR_wj, jI_wj, jwJ_row, jwj_jwj, jJ_wj_s, jJ_wj_n, jI_wr_n, jinb_nI, nI_clamp, tc0, tc1, tc2, tc3, tc4, tc5, tc6, tc7, tc8, tc9, tc10, tc11, tc12, tc13, tc14, tc15, tc16, tc17, tc18, tc19, tc20, tc21, tc22, tc23, tc24, tc25, tc26, tc27, tc28, tc29, tc30, tc31, tc32, tc33, tc34, tc35, tc36, tc37, tc38, tc39, tc40, tc41, tc42, tc43, tc44, tc45, tc46, tc47, tc48, tc49, tc50, tc51, tc52, tc53, tc54, tc55, tc56, tc57, tc58, tc59, tc60, tc61, tc62, tc63, tc64, tc65, tc66, tc67, tc68, tc69, tc77, tc83, tc119, tc159, tc160, nI_add, al0, ar0, ml0, mr0, al1, ar1, ml1, mr1, al2, ar2, ml2, mr2, al3, ar3, ml3, mr3, al4, ar4, ml4, mr4, al5, ar5, ml5, mr5, al6, ar6, ml6, mr6, al8, ar8, ml8, mr8, al10, ar10, ml10, mr10, al11, ar11, ml11, mr11, al12, ar12, ml12, mr12, al13, ar13, ml13, mr13, al16, ar16, ml16, mr16, al20, ar20, ml20, mr20, al24, ar24, ml24, mr24, al29, ar29, ml29, mr29, al36, ar36, ml36, mr36, al42, ar42, ml42, mr42, al48, ar48, ml48, mr48, al55, ar55, ml55, mr55, al60, ar60, ml60, mr60, al65, ar65, ml65, mr65, al77, ar77, ml77, mr77, al83, ar83, ml83, mr83, al119, ar119, ml119, mr119, al159, ar159, ml159, mr159, al160, ar160, ml160, mr160, al400, ar400, ml400, mr400, r1, r2, a1, ha]
  rw [am X Y (by omega) F']
  have ew : amW T L (skp T L p) 5 = wix T L (skp T L p) := rfl
  rw [ew]
  unfold aVal at hQ
  generalize skp T L p = q at *
  have ref : ∀ (k : Nat), jI h t 2 = nI q → ∀ Q', (jC (d + 5) 101 [.ref t, .int (nI k)] h Q' ↔ Q' (some (.int 0)) (jwr h t (upd (jI h t) 6 (nI (1 + 8 * q + k))))) := fun k f2 Q' => k101 (d := d + 4) a1 f2
  have bad : ∀ k, rO Q r t T L h (.error (fW 0 k q)) → Q (some (.int 0)) (jwr h t (upd (jI h t) 6 (nI (1 + 8 * q + k)))) := fun k hq => by
    refine hq _ (rfr_t (by omega) rfr_refl) ?_ ⟨c.length, c3, by rw [jI_wr_n (by omega)]; exact c1⟩
    rw [jI_wr_s]
    exact ⟨by rw [upd_n (by omega)]; exact f1, by rw [upd_s]; rfl⟩
  cases hd : dig T L q with
  | true =>
    rw [hd, if_pos rfl] at hQ
    have z : tsr T L q = -3 := hs.mpr hd
    have zn : ¬ ¬ tsr T L q = -3 := fun w => w z
    have f5' := f5 hd
    obtain ⟨d1, d2⟩ := dig_lt hd
    have d3 := dnd_le (T := T) (L := L) f6
    have et : tnd T L q = dnd T L q := by
      unfold tnd
      rw [if_pos d1]
      cases hl : ltr T L q with
      | true => have := tsr_l (q := q) hT; rw [this.mpr hl] at z; exact absurd z (by decide)
      | false => rw [if_neg (by decide), hd, if_pos rfl]
    rw [et] at f3
    by_cases e5 : dnd T L q - q ≤ 5
    · have ev : tnm T q (dnd T L q) = nI (nvl T q (dnd T L q - q)) := by unfold tnm; rw [if_pos e5]
      rw [ev] at f5'
      have hb := nvl_bd (T := T) (p := q) (dnd T L q - q) e5 (fun i hi => by
        have := whl_all (q := dig T L) (n := L - q) (p := q) (i := q + i) (by omega) (by show _ < dnd T L q; omega)
        unfold dig at this
        simp at this
        omega)
      have hb2 : 10 ^ (dnd T L q - q) ≤ 10 ^ 5 := Nat.pow_le_pow_right (by omega) (by omega)
      have ok : nok T L q 99999 = true := by
        unfold nok inR
        rw [decide_eq_true e5, decide_eq_false (nI_pos (by omega)), decide_eq_false (show ¬ (99999 : Int32) < nI (nvl T q (dnd T L q - q)) from nI_nlt (a := 99999) (b := nvl T q (dnd T L q - q)) (by omega) (by omega))]
        rfl
      rw [ok, if_pos rfl] at hQ
      generalize nvl T q (dnd T L q - q) = v at *
      have z1 : ¬ nI v = -1 := fun w => by
        have := nI_pos (n := v) (by omega)
        rw [w] at this
        exact this (by decide)
      have z2 : ¬ nI (32 + v) = -1 := fun w => by
        have := nI_pos (n := 32 + v) (by omega)
        rw [w] at this
        exact this (by decide)
      have e32 : (32 : Int32) + nI v = nI (32 + v) := nI_add 32 v
      simp (config := { decide := true }) (disch := (first | assumption | omega | (simp (config := { decide := true }) only [r1, r2, a1, jK_wI, jK_wJ, jK_wR, jK_wr, jR_wr, jR_wI, jR_wJ, jK_wj, jR_wj, stI_wr, cmI_wr, stI_wj, cmI_wj]; done) | (simp only [r1, r2, a1, jK_wI, jK_wJ, jK_wR, jK_wr, jR_wr, jR_wI, jR_wJ, jK_wj, jR_wj, stI_wr, cmI_wr, stI_wj, cmI_wj]; refine jinb_nI ?_ ?_ <;> omega) | (refine jinb_nI ?_ ?_ <;> omega) | (simp only [stI_wr, cmI_wr, stI_wj, cmI_wj]; assumption))) only [s74_6, s74_7, s74_7N, s74_8, s74_11, s74_13, s74_16, s74_16N, s74_17, s74_20, s74_21, s74_30, s74_32, s74_32N, s74_33, s74_36, s74_37, s74_38, s74_39, s74_40, f4, f5', if_neg zn, if_pos z1, e32, if_pos z2, va_rf_some, va_rf_none, jK_wI, jR_wI, jJ_wI, jK_wJ, jR_wJ, jI_wJ, jK_wR, jI_wR, jJ_wR, jK_wr, jR_wr, jJ_wr, jcl1_i, jcl1_r, jcl1_z, jcl1_n, jcl1_l, jwI_row, jwr_jwr, jwr_cm, jwr_cc, upd_upd, jI_wr_s, jI_wr_a, jI_wr_b, jI_wr_c, mInv_wr, upd_s, upd_n, Option.toList, List.cons_append, List.nil_append, true_or, or_true, eq_self, and_self, ite_true, ite_false, if_true, if_false, jK_wj, jR_wj, jI_wj, jwJ_row, jwj_jwj, jJ_wj_s, jJ_wj_n, jI_wr_n, jinb_nI, nI_clamp, tc0, tc1, tc2, tc3, tc4, tc5, tc6, tc7, tc8, tc9, tc10, tc11, tc12, tc13, tc14, tc15, tc16, tc17, tc18, tc19, tc20, tc21, tc22, tc23, tc24, tc25, tc26, tc27, tc28, tc29, tc30, tc31, tc32, tc33, tc34, tc35, tc36, tc37, tc38, tc39, tc40, tc41, tc42, tc43, tc44, tc45, tc46, tc47, tc48, tc49, tc50, tc51, tc52, tc53, tc54, tc55, tc56, tc57, tc58, tc59, tc60, tc61, tc62, tc63, tc64, tc65, tc66, tc67, tc68, tc69, tc77, tc83, tc119, tc159, tc160, nI_add, al0, ar0, ml0, mr0, al1, ar1, ml1, mr1, al2, ar2, ml2, mr2, al3, ar3, ml3, mr3, al4, ar4, ml4, mr4, al5, ar5, ml5, mr5, al6, ar6, ml6, mr6, al8, ar8, ml8, mr8, al10, ar10, ml10, mr10, al11, ar11, ml11, mr11, al12, ar12, ml12, mr12, al13, ar13, ml13, mr13, al16, ar16, ml16, mr16, al20, ar20, ml20, mr20, al24, ar24, ml24, mr24, al29, ar29, ml29, mr29, al36, ar36, ml36, mr36, al42, ar42, ml42, mr42, al48, ar48, ml48, mr48, al55, ar55, ml55, mr55, al60, ar60, ml60, mr60, al65, ar65, ml65, mr65, al77, ar77, ml77, mr77, al83, ar83, ml83, mr83, al119, ar119, ml119, mr119, al159, ar159, ml159, mr159, al160, ar160, ml160, mr160, al400, ar400, ml400, mr400, r1, r2, a1]
      have := l74 (d := d + 4) (v := 0 + 16 * v) R' X ht F' d3.1 f3 C' hm (by omega) hQ
      rw [xc_n] at this
      exact this
    · have ev : tnm T q (dnd T L q) = -1 := by unfold tnm; rw [if_neg e5]
      rw [ev] at f5'
      have no : nok T L q 99999 = false := by unfold nok; rw [decide_eq_false e5, Bool.false_and]
      rw [no, if_neg (show ¬ false = true by decide)] at hQ
      have zz : ¬ ¬ (-1 : Int32) = -1 := fun w => w rfl
      simp (config := { decide := true }) (disch := (first | assumption | omega | (simp (config := { decide := true }) only [r1, r2, a1, jK_wI, jK_wJ, jK_wR, jK_wr, jR_wr, jR_wI, jR_wJ, jK_wj, jR_wj, stI_wr, cmI_wr, stI_wj, cmI_wj]; done) | (simp only [r1, r2, a1, jK_wI, jK_wJ, jK_wR, jK_wr, jR_wr, jR_wI, jR_wJ, jK_wj, jR_wj, stI_wr, cmI_wr, stI_wj, cmI_wj]; refine jinb_nI ?_ ?_ <;> omega) | (refine jinb_nI ?_ ?_ <;> omega) | (simp only [stI_wr, cmI_wr, stI_wj, cmI_wj]; assumption))) only [s74_6, s74_7, s74_7N, s74_8, s74_11, s74_13, s74_16, s74_16N, s74_17, s74_20, s74_21, s74_24, s74_24N, s74_25, s74_26, f4, f5', if_neg zn, if_neg zz, va_rf_some, va_rf_none, jK_wI, jR_wI, jJ_wI, jK_wJ, jR_wJ, jI_wJ, jK_wR, jI_wR, jJ_wR, jK_wr, jR_wr, jJ_wr, jcl1_i, jcl1_r, jcl1_z, jcl1_n, jcl1_l, jwI_row, jwr_jwr, jwr_cm, jwr_cc, upd_upd, jI_wr_s, jI_wr_a, jI_wr_b, jI_wr_c, mInv_wr, upd_s, upd_n, Option.toList, List.cons_append, List.nil_append, true_or, or_true, eq_self, and_self, ite_true, ite_false, if_true, if_false, jK_wj, jR_wj, jI_wj, jwJ_row, jwj_jwj, jJ_wj_s, jJ_wj_n, jI_wr_n, jinb_nI, nI_clamp, tc0, tc1, tc2, tc3, tc4, tc5, tc6, tc7, tc8, tc9, tc10, tc11, tc12, tc13, tc14, tc15, tc16, tc17, tc18, tc19, tc20, tc21, tc22, tc23, tc24, tc25, tc26, tc27, tc28, tc29, tc30, tc31, tc32, tc33, tc34, tc35, tc36, tc37, tc38, tc39, tc40, tc41, tc42, tc43, tc44, tc45, tc46, tc47, tc48, tc49, tc50, tc51, tc52, tc53, tc54, tc55, tc56, tc57, tc58, tc59, tc60, tc61, tc62, tc63, tc64, tc65, tc66, tc67, tc68, tc69, tc77, tc83, tc119, tc159, tc160, nI_add, al0, ar0, ml0, mr0, al1, ar1, ml1, mr1, al2, ar2, ml2, mr2, al3, ar3, ml3, mr3, al4, ar4, ml4, mr4, al5, ar5, ml5, mr5, al6, ar6, ml6, mr6, al8, ar8, ml8, mr8, al10, ar10, ml10, mr10, al11, ar11, ml11, mr11, al12, ar12, ml12, mr12, al13, ar13, ml13, mr13, al16, ar16, ml16, mr16, al20, ar20, ml20, mr20, al24, ar24, ml24, mr24, al29, ar29, ml29, mr29, al36, ar36, ml36, mr36, al42, ar42, ml42, mr42, al48, ar48, ml48, mr48, al55, ar55, ml55, mr55, al60, ar60, ml60, mr60, al65, ar65, ml65, mr65, al77, ar77, ml77, mr77, al83, ar83, ml83, mr83, al119, ar119, ml119, mr119, al159, ar159, ml159, mr159, al160, ar160, ml160, mr160, al400, ar400, ml400, mr400, r1, r2, a1]
      have k2 := ref 1 f2
      rw [show nI 1 = (1 : Int32) from rfl] at k2
      rw [k2]
      simp only [Option.toList, List.cons_append, List.nil_append]
      rw [s74_29 (Or.inl rfl)]
      exact bad 1 hQ
  | false =>
    rw [hd, if_neg (show ¬ false = true by decide)] at hQ
    have z : ¬ tsr T L q = -3 := fun w => by rw [hs.mp w] at hd; cases hd
    cases hw : wix T L q with
    | none =>
      rw [hw] at hQ
      have zz : ¬ ¬ oI none = -1 := fun w => w rfl
      simp (config := { decide := true }) (disch := (first | assumption | omega | (simp (config := { decide := true }) only [r1, r2, a1, jK_wI, jK_wJ, jK_wR, jK_wr, jR_wr, jR_wI, jR_wJ, jK_wj, jR_wj, stI_wr, cmI_wr, stI_wj, cmI_wj]; done) | (simp only [r1, r2, a1, jK_wI, jK_wJ, jK_wR, jK_wr, jR_wr, jR_wI, jR_wJ, jK_wj, jR_wj, stI_wr, cmI_wr, stI_wj, cmI_wj]; refine jinb_nI ?_ ?_ <;> omega) | (refine jinb_nI ?_ ?_ <;> omega) | (simp only [stI_wr, cmI_wr, stI_wj, cmI_wj]; assumption))) only [s74_6, s74_7, s74_7N, s74_8, s74_11, s74_13, s74_38, s74_39, s74_40, s74_43, s74_43N, s74_44, s74_45, f4, if_pos z, if_neg zz, va_rf_some, va_rf_none, jK_wI, jR_wI, jJ_wI, jK_wJ, jR_wJ, jI_wJ, jK_wR, jI_wR, jJ_wR, jK_wr, jR_wr, jJ_wr, jcl1_i, jcl1_r, jcl1_z, jcl1_n, jcl1_l, jwI_row, jwr_jwr, jwr_cm, jwr_cc, upd_upd, jI_wr_s, jI_wr_a, jI_wr_b, jI_wr_c, mInv_wr, upd_s, upd_n, Option.toList, List.cons_append, List.nil_append, true_or, or_true, eq_self, and_self, ite_true, ite_false, if_true, if_false, jK_wj, jR_wj, jI_wj, jwJ_row, jwj_jwj, jJ_wj_s, jJ_wj_n, jI_wr_n, jinb_nI, nI_clamp, tc0, tc1, tc2, tc3, tc4, tc5, tc6, tc7, tc8, tc9, tc10, tc11, tc12, tc13, tc14, tc15, tc16, tc17, tc18, tc19, tc20, tc21, tc22, tc23, tc24, tc25, tc26, tc27, tc28, tc29, tc30, tc31, tc32, tc33, tc34, tc35, tc36, tc37, tc38, tc39, tc40, tc41, tc42, tc43, tc44, tc45, tc46, tc47, tc48, tc49, tc50, tc51, tc52, tc53, tc54, tc55, tc56, tc57, tc58, tc59, tc60, tc61, tc62, tc63, tc64, tc65, tc66, tc67, tc68, tc69, tc77, tc83, tc119, tc159, tc160, nI_add, al0, ar0, ml0, mr0, al1, ar1, ml1, mr1, al2, ar2, ml2, mr2, al3, ar3, ml3, mr3, al4, ar4, ml4, mr4, al5, ar5, ml5, mr5, al6, ar6, ml6, mr6, al8, ar8, ml8, mr8, al10, ar10, ml10, mr10, al11, ar11, ml11, mr11, al12, ar12, ml12, mr12, al13, ar13, ml13, mr13, al16, ar16, ml16, mr16, al20, ar20, ml20, mr20, al24, ar24, ml24, mr24, al29, ar29, ml29, mr29, al36, ar36, ml36, mr36, al42, ar42, ml42, mr42, al48, ar48, ml48, mr48, al55, ar55, ml55, mr55, al60, ar60, ml60, mr60, al65, ar65, ml65, mr65, al77, ar77, ml77, mr77, al83, ar83, ml83, mr83, al119, ar119, ml119, mr119, al159, ar159, ml159, mr159, al160, ar160, ml160, mr160, al400, ar400, ml400, mr400, r1, r2, a1]
      have k2 := ref 0 f2
      rw [nI_0] at k2
      rw [k2]
      simp only [Option.toList, List.cons_append, List.nil_append]
      rw [s74_48 (Or.inl rfl)]
      exact bad 0 hQ
    | some w =>
      rw [hw] at hQ
      obtain ⟨w1, w2⟩ := wix_lt hw
      have el : oI (some w) = nI w := rfl
      rw [el]
      have z2 : ¬ nI w = -1 := fun u => by
        have := nI_pos (n := w) (by omega)
        rw [u] at this
        exact this (by decide)
      have hl : ltr T L q = true := by
        cases hl : ltr T L q with
        | true => rfl
        | false => have : lnd T L q = q := whl_n hl; omega
      have hqL : q < L := by unfold ltr at hl; simp at hl; exact hl.1
      have et : tnd T L q = lnd T L q := by unfold tnd; rw [if_pos hqL, hl, if_pos rfl]
      rw [et] at f3
      simp (config := { decide := true }) (disch := (first | assumption | omega | (simp (config := { decide := true }) only [r1, r2, a1, jK_wI, jK_wJ, jK_wR, jK_wr, jR_wr, jR_wI, jR_wJ, jK_wj, jR_wj, stI_wr, cmI_wr, stI_wj, cmI_wj]; done) | (simp only [r1, r2, a1, jK_wI, jK_wJ, jK_wR, jK_wr, jR_wr, jR_wI, jR_wJ, jK_wj, jR_wj, stI_wr, cmI_wr, stI_wj, cmI_wj]; refine jinb_nI ?_ ?_ <;> omega) | (refine jinb_nI ?_ ?_ <;> omega) | (simp only [stI_wr, cmI_wr, stI_wj, cmI_wj]; assumption))) only [s74_6, s74_7, s74_7N, s74_8, s74_11, s74_13, s74_38, s74_39, s74_40, f4, if_pos z, if_pos z2, va_rf_some, va_rf_none, jK_wI, jR_wI, jJ_wI, jK_wJ, jR_wJ, jI_wJ, jK_wR, jI_wR, jJ_wR, jK_wr, jR_wr, jJ_wr, jcl1_i, jcl1_r, jcl1_z, jcl1_n, jcl1_l, jwI_row, jwr_jwr, jwr_cm, jwr_cc, upd_upd, jI_wr_s, jI_wr_a, jI_wr_b, jI_wr_c, mInv_wr, upd_s, upd_n, Option.toList, List.cons_append, List.nil_append, true_or, or_true, eq_self, and_self, ite_true, ite_false, if_true, if_false, jK_wj, jR_wj, jI_wj, jwJ_row, jwj_jwj, jJ_wj_s, jJ_wj_n, jI_wr_n, jinb_nI, nI_clamp, tc0, tc1, tc2, tc3, tc4, tc5, tc6, tc7, tc8, tc9, tc10, tc11, tc12, tc13, tc14, tc15, tc16, tc17, tc18, tc19, tc20, tc21, tc22, tc23, tc24, tc25, tc26, tc27, tc28, tc29, tc30, tc31, tc32, tc33, tc34, tc35, tc36, tc37, tc38, tc39, tc40, tc41, tc42, tc43, tc44, tc45, tc46, tc47, tc48, tc49, tc50, tc51, tc52, tc53, tc54, tc55, tc56, tc57, tc58, tc59, tc60, tc61, tc62, tc63, tc64, tc65, tc66, tc67, tc68, tc69, tc77, tc83, tc119, tc159, tc160, nI_add, al0, ar0, ml0, mr0, al1, ar1, ml1, mr1, al2, ar2, ml2, mr2, al3, ar3, ml3, mr3, al4, ar4, ml4, mr4, al5, ar5, ml5, mr5, al6, ar6, ml6, mr6, al8, ar8, ml8, mr8, al10, ar10, ml10, mr10, al11, ar11, ml11, mr11, al12, ar12, ml12, mr12, al13, ar13, ml13, mr13, al16, ar16, ml16, mr16, al20, ar20, ml20, mr20, al24, ar24, ml24, mr24, al29, ar29, ml29, mr29, al36, ar36, ml36, mr36, al42, ar42, ml42, mr42, al48, ar48, ml48, mr48, al55, ar55, ml55, mr55, al60, ar60, ml60, mr60, al65, ar65, ml65, mr65, al77, ar77, ml77, mr77, al83, ar83, ml83, mr83, al119, ar119, ml119, mr119, al159, ar159, ml159, mr159, al160, ar160, ml160, mr160, al400, ar400, ml400, mr400, r1, r2, a1]
      have := l74 (d := d + 4) (v := 1 + 16 * w) R' X ht F' (lnd_le f6) f3 C' hm (by omega) hQ
      rw [xc_w] at this
      exact this
end
