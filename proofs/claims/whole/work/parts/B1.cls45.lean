/-! THE CLASS: the reader of rules: a rule's text -/
theorem am_t {T : Nat → Nat} {L q : Nat} : amW T L q 1 = if isW T L q 7631481 then some 0 else none := rfl
theorem am_i {T : Nat → Nat} {L q : Nat} : amW T L q 2 = if isW T L q 26982 then some 0 else none := rfl
section
variable {h h0 h1 h2 : jH} {r t L md : Nat} {c : List Nat} {T : Nat → Nat} {d : Nat} {Q : Option Value → jH → Prop} {tK tV : Nat → Nat} {K : List (Nat × Nat × Option (Nat × Nat))}
/-- a clause: its test -/
theorem l72b (W0 : wR h0 r t T L tK tV) (ht : t + 1 < r) (hv : ∀ i, i < 6 → tV i < t) {p cl : Nat} (hk : K.length < 12) (G : cfr r t h0 h) (hp : p ≤ L) (hm : md ≤ 60) (hc : c.length ≤ p) (F : tkF T L (skp T L p) (jI h t)) (C : cdI h r md c) (S : sKl h r K) (s1 : jI h (r + 2) K.length = nI cl)
    (hE : ∀ w, isW T L (skp T L p) 26982 = true → ats T L (L + 1) (lnd T L (skp T L p)) md c [] = .error w → ∀ h', cfr r t h0 h' → tE L w (jI h' t) → Q (some (.int 0)) h')
    (hO : ∀ x, isW T L (skp T L p) 26982 = true → ats T L (L + 1) (lnd T L (skp T L p)) md c [] = .ok x → ∀ h', cfr r t h0 h' → tkF T L (skp T L x.1) (jI h' t) → cdI h' r x.2.1 x.2.2 → sKl h' r K → jI h' (r + 2) K.length = nI cl → jI h' (r + 3) K.length = nI c.length → jW (d + 30) 72 114 [some (.ref r), some (.ref t), some (.int (nI K.length))] [] h' Q)
    (hN : isW T L (skp T L p) 26982 = false → ∀ h', cfr r t h0 h' → tkF T L (skp T L p) (jI h' t) → cdI h' r md c → sKl h' r K → jI h' (r + 2) K.length = nI cl → jI h' (r + 3) K.length = nI c.length → jW (d + 30) 72 114 [some (.ref r), some (.ref t), some (.int (nI K.length))] [] h' Q) : jW (d + 30) 72 79 [some (.ref r), some (.ref t), some (.int (nI K.length))] [] h Q := by
  obtain ⟨R, X, Y⟩ := wR_cf ht hv G W0
  obtain ⟨r1, r2, ⟨r3, r4⟩, ⟨r5, r6⟩, r7, r8⟩ := R
  have a1 : jK h t = (30, 7) := X.1
  have ha : jR h 0 2 = some (tK 2) := (Y.2 2 (by omega)).1
  obtain ⟨c1, c2, c3, c4⟩ := C
  simp (config := { decide := true }) (disch := (first | assumption | omega | (simp (config := { decide := true }) only [r1, r2, r7, r8, a1, jK_wI, jK_wJ, jK_wR, jK_wr, jR_wr, jR_wI, jR_wJ, jK_wj, jR_wj, stI_wr, cmI_wr, stI_wj, cmI_wj]; done) | (simp only [r1, r2, r7, r8, a1, jK_wI, jK_wJ, jK_wR, jK_wr, jR_wr, jR_wI, jR_wJ, jK_wj, jR_wj, stI_wr, cmI_wr, stI_wj, cmI_wj]; refine jinb_nI ?_ ?_ <;> omega) | (refine jinb_nI ?_ ?_ <;> omega) | (simp only [stI_wr, cmI_wr, stI_wj, cmI_wj]; assumption))) only [s72_79, s72_80, s72_83, s72_84, s72_85, s72_88, s72_89, s72_89N, c1, va_rf_some, va_rf_none, jK_wI, jR_wI, jJ_wI, jK_wJ, jR_wJ, jI_wJ, jK_wR, jI_wR, jJ_wR, jK_wr, jR_wr, jJ_wr, jcl1_i, jcl1_r, jcl1_z, jcl1_n, jcl1_l, jwI_row, jwr_jwr, jwr_cm, jwr_cc, upd_upd, jI_wr_s, jI_wr_a, jI_wr_b, jI_wr_c, mInv_wr, upd_s, upd_n, Option.toList, List.cons_append, List.nil_append, true_or, or_true, eq_self, and_self, ite_true, ite_false, if_true, if_false, jK_wj, jR_wj, jI_wj, jwJ_row, jwj_jwj, jJ_wj_s, jJ_wj_n, jI_wr_n, jinb_nI, nI_clamp, tc0, tc1, tc2, tc3, tc4, tc5, tc6, tc7, tc8, tc9, tc10, tc11, tc12, tc13, tc14, tc15, tc16, tc17, tc18, tc19, tc20, tc21, tc22, tc23, tc24, tc25, tc26, tc27, tc28, tc29, tc30, tc31, tc32, tc33, tc34, tc35, tc36, tc37, tc38, tc39, tc40, tc41, tc42, tc43, tc44, tc45, tc46, tc47, tc48, tc49, tc50, tc51, tc52, tc53, tc54, tc55, tc56, tc57, tc58, tc59, tc60, tc61, tc62, tc63, tc64, tc65, tc66, tc67, tc68, tc69, tc77, tc83, tc119, tc159, tc160, nI_add, al0, ar0, ml0, mr0, al1, ar1, ml1, mr1, al2, ar2, ml2, mr2, al3, ar3, ml3, mr3, al4, ar4, ml4, mr4, al5, ar5, ml5, mr5, al6, ar6, ml6, mr6, al8, ar8, ml8, mr8, al10, ar10, ml10, mr10, al11, ar11, ml11, mr11, al12, ar12, ml12, mr12, al13, ar13, ml13, mr13, al16, ar16, ml16, mr16, al20, ar20, ml20, mr20, al24, ar24, ml24, mr24, al29, ar29, ml29, mr29, al36, ar36, ml36, mr36, al42, ar42, ml42, mr42, al48, ar48, ml48, mr48, al55, ar55, ml55, mr55, al60, ar60, ml60, mr60, al65, ar65, ml65, mr65, al77, ar77, ml77, mr77, al83, ar83, ml83, mr83, al119, ar119, ml119, mr119, al159, ar159, ml159, mr159, al160, ar160, ml160, mr160, al400, ar400, ml400, mr400, r1, r2, r7, r8, a1]
  generalize hh : jwr h (r + 3) (upd (jI h (r + 3)) K.length (nI c.length)) = g
  have G' : cfr r t h0 g := by rw [← hh]; exact cfr_wr (by omega) G
  have it : jI g t = jI h t := by rw [← hh, jI_wr_n (by omega)]
  have C' : cdI g r md c := by
    rw [← hh]
    refine ⟨?_, ?_, c3, fun j hj => ?_⟩
    · rw [jI_wr_n (by omega)]; exact c1
    · rw [jI_wr_n (by omega)]; exact c2
    · rw [jI_wr_n (by omega)]; exact c4 j hj
  have S' : sKl g r K := by
    intro i e hi
    have il : i < K.length := by
      rcases Nat.lt_or_ge i K.length with w | w
      · exact w
      · rw [List.getElem?_eq_none w] at hi; cases hi
    obtain ⟨b1, b2, b3⟩ := S i e hi
    rw [← hh, jI_wr_n (by omega), jI_wr_s]
    exact ⟨b1, by rw [upd_n (by omega)]; exact b2, b3⟩
  have t1 : jI g (r + 2) K.length = nI cl := by rw [← hh, jI_wr_n (by omega)]; exact s1
  have t2 : jI g (r + 3) K.length = nI c.length := by rw [← hh, jI_wr_s, upd_s]
  have W' := wR_cf ht hv G' W0
  have W1 := W'
  obtain ⟨R', X', Y'⟩ := W1
  obtain ⟨q1, q2, -⟩ := R'
  have b1 : jK g t = (30, 7) := X'.1
  have hb : jR g 0 2 = some (tK 2) := (Y'.2 2 (by omega)).1
  have F' : tkF T L (skp T L p) (jI g t) := by rw [it]; exact F
  clear hh
  simp (config := { decide := true }) (disch := (first | assumption | omega | (simp (config := { decide := true }) only [q1, q2, b1, hb, jK_wI, jK_wJ, jK_wR, jK_wr, jR_wr, jR_wI, jR_wJ, jK_wj, jR_wj, stI_wr, cmI_wr, stI_wj, cmI_wj]; done) | (simp only [q1, q2, b1, hb, jK_wI, jK_wJ, jK_wR, jK_wr, jR_wr, jR_wI, jR_wJ, jK_wj, jR_wj, stI_wr, cmI_wr, stI_wj, cmI_wj]; refine jinb_nI ?_ ?_ <;> omega) | (refine jinb_nI ?_ ?_ <;> omega) | (simp only [stI_wr, cmI_wr, stI_wj, cmI_wj]; assumption))) only [s72_90, s72_92, va_rf_some, va_rf_none, jK_wI, jR_wI, jJ_wI, jK_wJ, jR_wJ, jI_wJ, jK_wR, jI_wR, jJ_wR, jK_wr, jR_wr, jJ_wr, jcl1_i, jcl1_r, jcl1_z, jcl1_n, jcl1_l, jwI_row, jwr_jwr, jwr_cm, jwr_cc, upd_upd, jI_wr_s, jI_wr_a, jI_wr_b, jI_wr_c, mInv_wr, upd_s, upd_n, Option.toList, List.cons_append, List.nil_append, true_or, or_true, eq_self, and_self, ite_true, ite_false, if_true, if_false, jK_wj, jR_wj, jI_wj, jwJ_row, jwj_jwj, jJ_wj_s, jJ_wj_n, jI_wr_n, jinb_nI, nI_clamp, tc0, tc1, tc2, tc3, tc4, tc5, tc6, tc7, tc8, tc9, tc10, tc11, tc12, tc13, tc14, tc15, tc16, tc17, tc18, tc19, tc20, tc21, tc22, tc23, tc24, tc25, tc26, tc27, tc28, tc29, tc30, tc31, tc32, tc33, tc34, tc35, tc36, tc37, tc38, tc39, tc40, tc41, tc42, tc43, tc44, tc45, tc46, tc47, tc48, tc49, tc50, tc51, tc52, tc53, tc54, tc55, tc56, tc57, tc58, tc59, tc60, tc61, tc62, tc63, tc64, tc65, tc66, tc67, tc68, tc69, tc77, tc83, tc119, tc159, tc160, nI_add, al0, ar0, ml0, mr0, al1, ar1, ml1, mr1, al2, ar2, ml2, mr2, al3, ar3, ml3, mr3, al4, ar4, ml4, mr4, al5, ar5, ml5, mr5, al6, ar6, ml6, mr6, al8, ar8, ml8, mr8, al10, ar10, ml10, mr10, al11, ar11, ml11, mr11, al12, ar12, ml12, mr12, al13, ar13, ml13, mr13, al16, ar16, ml16, mr16, al20, ar20, ml20, mr20, al24, ar24, ml24, mr24, al29, ar29, ml29, mr29, al36, ar36, ml36, mr36, al42, ar42, ml42, mr42, al48, ar48, ml48, mr48, al55, ar55, ml55, mr55, al60, ar60, ml60, mr60, al65, ar65, ml65, mr65, al77, ar77, ml77, mr77, al83, ar83, ml83, mr83, al119, ar119, ml119, mr119, al159, ar159, ml159, mr159, al160, ar160, ml160, mr160, al400, ar400, ml400, mr400, q1, q2, b1, hb]
  rw [am X' Y' (by omega) F', am_i]
  obtain ⟨f1, f2, f3, f4, f5, f6, f7⟩ := F'
  cases wi : isW T L (skp T L p) 26982 with
  | false =>
    rw [if_neg (show ¬ false = true by decide)]
    have e0 : oI none = -1 := rfl
    rw [e0]
    have z1 : (-1 : Int32) = -1 := rfl
    simp (config := { decide := true }) (disch := (first | assumption | omega | (simp (config := { decide := true }) only [q1, jK_wI, jK_wJ, jK_wR, jK_wr, jR_wr, jR_wI, jR_wJ, jK_wj, jR_wj, stI_wr, cmI_wr, stI_wj, cmI_wj]; done) | (simp only [q1, jK_wI, jK_wJ, jK_wR, jK_wr, jR_wr, jR_wI, jR_wJ, jK_wj, jR_wj, stI_wr, cmI_wr, stI_wj, cmI_wj]; refine jinb_nI ?_ ?_ <;> omega) | (refine jinb_nI ?_ ?_ <;> omega) | (simp only [stI_wr, cmI_wr, stI_wj, cmI_wj]; assumption))) only [s72_95, s72_96, if_pos z1, va_rf_some, va_rf_none, jK_wI, jR_wI, jJ_wI, jK_wJ, jR_wJ, jI_wJ, jK_wR, jI_wR, jJ_wR, jK_wr, jR_wr, jJ_wr, jcl1_i, jcl1_r, jcl1_z, jcl1_n, jcl1_l, jwI_row, jwr_jwr, jwr_cm, jwr_cc, upd_upd, jI_wr_s, jI_wr_a, jI_wr_b, jI_wr_c, mInv_wr, upd_s, upd_n, Option.toList, List.cons_append, List.nil_append, true_or, or_true, eq_self, and_self, ite_true, ite_false, if_true, if_false, jK_wj, jR_wj, jI_wj, jwJ_row, jwj_jwj, jJ_wj_s, jJ_wj_n, jI_wr_n, jinb_nI, nI_clamp, tc0, tc1, tc2, tc3, tc4, tc5, tc6, tc7, tc8, tc9, tc10, tc11, tc12, tc13, tc14, tc15, tc16, tc17, tc18, tc19, tc20, tc21, tc22, tc23, tc24, tc25, tc26, tc27, tc28, tc29, tc30, tc31, tc32, tc33, tc34, tc35, tc36, tc37, tc38, tc39, tc40, tc41, tc42, tc43, tc44, tc45, tc46, tc47, tc48, tc49, tc50, tc51, tc52, tc53, tc54, tc55, tc56, tc57, tc58, tc59, tc60, tc61, tc62, tc63, tc64, tc65, tc66, tc67, tc68, tc69, tc77, tc83, tc119, tc159, tc160, nI_add, al0, ar0, ml0, mr0, al1, ar1, ml1, mr1, al2, ar2, ml2, mr2, al3, ar3, ml3, mr3, al4, ar4, ml4, mr4, al5, ar5, ml5, mr5, al6, ar6, ml6, mr6, al8, ar8, ml8, mr8, al10, ar10, ml10, mr10, al11, ar11, ml11, mr11, al12, ar12, ml12, mr12, al13, ar13, ml13, mr13, al16, ar16, ml16, mr16, al20, ar20, ml20, mr20, al24, ar24, ml24, mr24, al29, ar29, ml29, mr29, al36, ar36, ml36, mr36, al42, ar42, ml42, mr42, al48, ar48, ml48, mr48, al55, ar55, ml55, mr55, al60, ar60, ml60, mr60, al65, ar65, ml65, mr65, al77, ar77, ml77, mr77, al83, ar83, ml83, mr83, al119, ar119, ml119, mr119, al159, ar159, ml159, mr159, al160, ar160, ml160, mr160, al400, ar400, ml400, mr400, q1]
    exact hN wi g G' ⟨f1, f2, f3, f4, f5, f6, f7⟩ C' S' t1 t2
  | true =>
    rw [if_pos rfl]
    have e0 : oI (some 0) = 0 := rfl
    rw [e0]
    have z1 : ¬ (0 : Int32) = -1 := by decide
    obtain ⟨w1, w2⟩ := isW_lnd wi
    have w3 := lnd_le (T := T) f6
    have sk := skp_ge (T := T) (L := L) (p := p)
    have et := tnd_w (i := 2) (j := 0) (by omega) (by decide) wi
    rw [et] at f3
    simp (config := { decide := true }) (disch := (first | assumption | omega | (simp (config := { decide := true }) only [q1, q2, b1, jK_wI, jK_wJ, jK_wR, jK_wr, jR_wr, jR_wI, jR_wJ, jK_wj, jR_wj, stI_wr, cmI_wr, stI_wj, cmI_wj]; done) | (simp only [q1, q2, b1, jK_wI, jK_wJ, jK_wR, jK_wr, jR_wr, jR_wI, jR_wJ, jK_wj, jR_wj, stI_wr, cmI_wr, stI_wj, cmI_wj]; refine jinb_nI ?_ ?_ <;> omega) | (refine jinb_nI ?_ ?_ <;> omega) | (simp only [stI_wr, cmI_wr, stI_wj, cmI_wj]; assumption))) only [s72_95, s72_96, s72_99, s72_99N, s72_100, if_neg z1, va_rf_some, va_rf_none, jK_wI, jR_wI, jJ_wI, jK_wJ, jR_wJ, jI_wJ, jK_wR, jI_wR, jJ_wR, jK_wr, jR_wr, jJ_wr, jcl1_i, jcl1_r, jcl1_z, jcl1_n, jcl1_l, jwI_row, jwr_jwr, jwr_cm, jwr_cc, upd_upd, jI_wr_s, jI_wr_a, jI_wr_b, jI_wr_c, mInv_wr, upd_s, upd_n, Option.toList, List.cons_append, List.nil_append, true_or, or_true, eq_self, and_self, ite_true, ite_false, if_true, if_false, jK_wj, jR_wj, jI_wj, jwJ_row, jwj_jwj, jJ_wj_s, jJ_wj_n, jI_wr_n, jinb_nI, nI_clamp, tc0, tc1, tc2, tc3, tc4, tc5, tc6, tc7, tc8, tc9, tc10, tc11, tc12, tc13, tc14, tc15, tc16, tc17, tc18, tc19, tc20, tc21, tc22, tc23, tc24, tc25, tc26, tc27, tc28, tc29, tc30, tc31, tc32, tc33, tc34, tc35, tc36, tc37, tc38, tc39, tc40, tc41, tc42, tc43, tc44, tc45, tc46, tc47, tc48, tc49, tc50, tc51, tc52, tc53, tc54, tc55, tc56, tc57, tc58, tc59, tc60, tc61, tc62, tc63, tc64, tc65, tc66, tc67, tc68, tc69, tc77, tc83, tc119, tc159, tc160, nI_add, al0, ar0, ml0, mr0, al1, ar1, ml1, mr1, al2, ar2, ml2, mr2, al3, ar3, ml3, mr3, al4, ar4, ml4, mr4, al5, ar5, ml5, mr5, al6, ar6, ml6, mr6, al8, ar8, ml8, mr8, al10, ar10, ml10, mr10, al11, ar11, ml11, mr11, al12, ar12, ml12, mr12, al13, ar13, ml13, mr13, al16, ar16, ml16, mr16, al20, ar20, ml20, mr20, al24, ar24, ml24, mr24, al29, ar29, ml29, mr29, al36, ar36, ml36, mr36, al42, ar42, ml42, mr42, al48, ar48, ml48, mr48, al55, ar55, ml55, mr55, al60, ar60, ml60, mr60, al65, ar65, ml65, mr65, al77, ar77, ml77, mr77, al83, ar83, ml83, mr83, al119, ar119, ml119, mr119, al159, ar159, ml159, mr159, al160, ar160, ml160, mr160, al400, ar400, ml400, mr400, q1, q2, b1]
    refine k99 X' f1 f3 w3 (fun F4 u2 u6 => ?_)
    have G2 : rfr r t g (jwr g t F4) := rfr_t (by omega) rfr_refl
    simp (config := { decide := true }) (disch := (first | assumption | omega | (simp (config := { decide := true }) only [q1, jK_wI, jK_wJ, jK_wR, jK_wr, jR_wr, jR_wI, jR_wJ, jK_wj, jR_wj, stI_wr, cmI_wr, stI_wj, cmI_wj]; done) | (simp only [q1, jK_wI, jK_wJ, jK_wR, jK_wr, jR_wr, jR_wI, jR_wJ, jK_wj, jR_wj, stI_wr, cmI_wr, stI_wj, cmI_wj]; refine jinb_nI ?_ ?_ <;> omega) | (refine jinb_nI ?_ ?_ <;> omega) | (simp only [stI_wr, cmI_wr, stI_wj, cmI_wj]; assumption))) only [s72_103, s72_104, s72_104N, s72_105, s72_106, va_rf_some, va_rf_none, jK_wI, jR_wI, jJ_wI, jK_wJ, jR_wJ, jI_wJ, jK_wR, jI_wR, jJ_wR, jK_wr, jR_wr, jJ_wr, jcl1_i, jcl1_r, jcl1_z, jcl1_n, jcl1_l, jwI_row, jwr_jwr, jwr_cm, jwr_cc, upd_upd, jI_wr_s, jI_wr_a, jI_wr_b, jI_wr_c, mInv_wr, upd_s, upd_n, Option.toList, List.cons_append, List.nil_append, true_or, or_true, eq_self, and_self, ite_true, ite_false, if_true, if_false, jK_wj, jR_wj, jI_wj, jwJ_row, jwj_jwj, jJ_wj_s, jJ_wj_n, jI_wr_n, jinb_nI, nI_clamp, tc0, tc1, tc2, tc3, tc4, tc5, tc6, tc7, tc8, tc9, tc10, tc11, tc12, tc13, tc14, tc15, tc16, tc17, tc18, tc19, tc20, tc21, tc22, tc23, tc24, tc25, tc26, tc27, tc28, tc29, tc30, tc31, tc32, tc33, tc34, tc35, tc36, tc37, tc38, tc39, tc40, tc41, tc42, tc43, tc44, tc45, tc46, tc47, tc48, tc49, tc50, tc51, tc52, tc53, tc54, tc55, tc56, tc57, tc58, tc59, tc60, tc61, tc62, tc63, tc64, tc65, tc66, tc67, tc68, tc69, tc77, tc83, tc119, tc159, tc160, nI_add, al0, ar0, ml0, mr0, al1, ar1, ml1, mr1, al2, ar2, ml2, mr2, al3, ar3, ml3, mr3, al4, ar4, ml4, mr4, al5, ar5, ml5, mr5, al6, ar6, ml6, mr6, al8, ar8, ml8, mr8, al10, ar10, ml10, mr10, al11, ar11, ml11, mr11, al12, ar12, ml12, mr12, al13, ar13, ml13, mr13, al16, ar16, ml16, mr16, al20, ar20, ml20, mr20, al24, ar24, ml24, mr24, al29, ar29, ml29, mr29, al36, ar36, ml36, mr36, al42, ar42, ml42, mr42, al48, ar48, ml48, mr48, al55, ar55, ml55, mr55, al60, ar60, ml60, mr60, al65, ar65, ml65, mr65, al77, ar77, ml77, mr77, al83, ar83, ml83, mr83, al119, ar119, ml119, mr119, al159, ar159, ml159, mr159, al160, ar160, ml160, mr160, al400, ar400, ml400, mr400, q1]
    have W2 := wR_fr ht hv G2 W'
    have rr := ats_rR (N := 2 * L + 2) (T := T) (L := L) (p := lnd T L (skp T L p)) (md := md) (c := c) w3 hm (by omega) (by omega)
    rw [rr] at hE hO
    refine k77 (dp := 0) (PFT ht hv (2 * L + 2)).2 (by omega) W2 (by omega) w3 hm (by omega) (by omega) (by rw [jI_wr_s]; exact u2) (cdI_t ht C') ?_
    cases hx : rR T L (2 * L + 2) (some (false, false)) 0 (lnd T L (skp T L p)) md c with
    | error w =>
      intro h' g1 g2 g3
      have s1 : jK h' r = (28, 6) := (rfr_rd g1 W2.1).1
      simp (config := { decide := true }) (disch := (first | assumption | omega | (simp (config := { decide := true }) only [s1, jK_wI, jK_wJ, jK_wR, jK_wr, jR_wr, jR_wI, jR_wJ, jK_wj, jR_wj, stI_wr, cmI_wr, stI_wj, cmI_wj]; done) | (simp only [s1, jK_wI, jK_wJ, jK_wR, jK_wr, jR_wr, jR_wI, jR_wJ, jK_wj, jR_wj, stI_wr, cmI_wr, stI_wj, cmI_wj]; refine jinb_nI ?_ ?_ <;> omega) | (refine jinb_nI ?_ ?_ <;> omega) | (simp only [stI_wr, cmI_wr, stI_wj, cmI_wj]; assumption))) only [s72_109, s72_112, s72_113, va_rf_some, va_rf_none, jK_wI, jR_wI, jJ_wI, jK_wJ, jR_wJ, jI_wJ, jK_wR, jI_wR, jJ_wR, jK_wr, jR_wr, jJ_wr, jcl1_i, jcl1_r, jcl1_z, jcl1_n, jcl1_l, jwI_row, jwr_jwr, jwr_cm, jwr_cc, upd_upd, jI_wr_s, jI_wr_a, jI_wr_b, jI_wr_c, mInv_wr, upd_s, upd_n, Option.toList, List.cons_append, List.nil_append, true_or, or_true, eq_self, and_self, ite_true, ite_false, if_true, if_false, jK_wj, jR_wj, jI_wj, jwJ_row, jwj_jwj, jJ_wj_s, jJ_wj_n, jI_wr_n, jinb_nI, nI_clamp, tc0, tc1, tc2, tc3, tc4, tc5, tc6, tc7, tc8, tc9, tc10, tc11, tc12, tc13, tc14, tc15, tc16, tc17, tc18, tc19, tc20, tc21, tc22, tc23, tc24, tc25, tc26, tc27, tc28, tc29, tc30, tc31, tc32, tc33, tc34, tc35, tc36, tc37, tc38, tc39, tc40, tc41, tc42, tc43, tc44, tc45, tc46, tc47, tc48, tc49, tc50, tc51, tc52, tc53, tc54, tc55, tc56, tc57, tc58, tc59, tc60, tc61, tc62, tc63, tc64, tc65, tc66, tc67, tc68, tc69, tc77, tc83, tc119, tc159, tc160, nI_add, al0, ar0, ml0, mr0, al1, ar1, ml1, mr1, al2, ar2, ml2, mr2, al3, ar3, ml3, mr3, al4, ar4, ml4, mr4, al5, ar5, ml5, mr5, al6, ar6, ml6, mr6, al8, ar8, ml8, mr8, al10, ar10, ml10, mr10, al11, ar11, ml11, mr11, al12, ar12, ml12, mr12, al13, ar13, ml13, mr13, al16, ar16, ml16, mr16, al20, ar20, ml20, mr20, al24, ar24, ml24, mr24, al29, ar29, ml29, mr29, al36, ar36, ml36, mr36, al42, ar42, ml42, mr42, al48, ar48, ml48, mr48, al55, ar55, ml55, mr55, al60, ar60, ml60, mr60, al65, ar65, ml65, mr65, al77, ar77, ml77, mr77, al83, ar83, ml83, mr83, al119, ar119, ml119, mr119, al159, ar159, ml159, mr159, al160, ar160, ml160, mr160, al400, ar400, ml400, mr400, s1]
      exact hE w wi hx h' (cfr_trans G' (rfr_cfr (rfr_trans G2 g1))) g2
    | ok x =>
      intro h' g1 g2 g3
      have s1 : jK h' r = (28, 6) := (rfr_rd g1 W2.1).1
      have G3 := rfr_trans G2 g1
      simp (config := { decide := true }) (disch := (first | assumption | omega | (simp (config := { decide := true }) only [s1, jK_wI, jK_wJ, jK_wR, jK_wr, jR_wr, jR_wI, jR_wJ, jK_wj, jR_wj, stI_wr, cmI_wr, stI_wj, cmI_wj]; done) | (simp only [s1, jK_wI, jK_wJ, jK_wR, jK_wr, jR_wr, jR_wI, jR_wJ, jK_wj, jR_wj, stI_wr, cmI_wr, stI_wj, cmI_wj]; refine jinb_nI ?_ ?_ <;> omega) | (refine jinb_nI ?_ ?_ <;> omega) | (simp only [stI_wr, cmI_wr, stI_wj, cmI_wj]; assumption))) only [s72_109, va_rf_some, va_rf_none, jK_wI, jR_wI, jJ_wI, jK_wJ, jR_wJ, jI_wJ, jK_wR, jI_wR, jJ_wR, jK_wr, jR_wr, jJ_wr, jcl1_i, jcl1_r, jcl1_z, jcl1_n, jcl1_l, jwI_row, jwr_jwr, jwr_cm, jwr_cc, upd_upd, jI_wr_s, jI_wr_a, jI_wr_b, jI_wr_c, mInv_wr, upd_s, upd_n, Option.toList, List.cons_append, List.nil_append, true_or, or_true, eq_self, and_self, ite_true, ite_false, if_true, if_false, jK_wj, jR_wj, jI_wj, jwJ_row, jwj_jwj, jJ_wj_s, jJ_wj_n, jI_wr_n, jinb_nI, nI_clamp, tc0, tc1, tc2, tc3, tc4, tc5, tc6, tc7, tc8, tc9, tc10, tc11, tc12, tc13, tc14, tc15, tc16, tc17, tc18, tc19, tc20, tc21, tc22, tc23, tc24, tc25, tc26, tc27, tc28, tc29, tc30, tc31, tc32, tc33, tc34, tc35, tc36, tc37, tc38, tc39, tc40, tc41, tc42, tc43, tc44, tc45, tc46, tc47, tc48, tc49, tc50, tc51, tc52, tc53, tc54, tc55, tc56, tc57, tc58, tc59, tc60, tc61, tc62, tc63, tc64, tc65, tc66, tc67, tc68, tc69, tc77, tc83, tc119, tc159, tc160, nI_add, al0, ar0, ml0, mr0, al1, ar1, ml1, mr1, al2, ar2, ml2, mr2, al3, ar3, ml3, mr3, al4, ar4, ml4, mr4, al5, ar5, ml5, mr5, al6, ar6, ml6, mr6, al8, ar8, ml8, mr8, al10, ar10, ml10, mr10, al11, ar11, ml11, mr11, al12, ar12, ml12, mr12, al13, ar13, ml13, mr13, al16, ar16, ml16, mr16, al20, ar20, ml20, mr20, al24, ar24, ml24, mr24, al29, ar29, ml29, mr29, al36, ar36, ml36, mr36, al42, ar42, ml42, mr42, al48, ar48, ml48, mr48, al55, ar55, ml55, mr55, al60, ar60, ml60, mr60, al65, ar65, ml65, mr65, al77, ar77, ml77, mr77, al83, ar83, ml83, mr83, al119, ar119, ml119, mr119, al159, ar159, ml159, mr159, al160, ar160, ml160, mr160, al400, ar400, ml400, mr400, s1]
      exact hO x wi hx h' (cfr_trans G' (rfr_cfr G3)) g2 g3 (sKl_fr G3 ht S') (by rw [G3.2.2 (r + 2) (by omega) (by omega) (by omega)]; exact t1) (by rw [G3.2.2 (r + 3) (by omega) (by omega) (by omega)]; exact t2)
/-- a clause: its sum -/
theorem l72a (W0 : wR h0 r t T L tK tV) (ht : t + 1 < r) (hv : ∀ i, i < 6 → tV i < t) {p : Nat} (hk : K.length < 12) (G : cfr r t h0 h) (hp : p ≤ L) (hm : md ≤ 60) (hc : c.length ≤ p) (F : tkF T L (skp T L p) (jI h t)) (C : cdI h r md c) (S : sKl h r K) (hl : ∀ i e, K[i]? = some e → i + 1 = K.length → eE e = c.length)
    (hE : ∀ w, aTry T L p md c = .error w → ∀ h', cfr r t h0 h' → tE L w (jI h' t) → Q (some (.int 0)) h')
    (hO : ∀ x e, aTry T L p md c = .ok (x, e) → ∀ h', cfr r t h0 h' → tkF T L (skp T L x.1) (jI h' t) → cdI h' r x.2.1 x.2.2 → sKl h' r K → jI h' (r + 2) K.length = nI e.1 → jI h' (r + 3) K.length = nI e.2.1 → eE e = x.2.2.length → jW (d + 30) 72 114 [some (.ref r), some (.ref t), some (.int (nI K.length))] [] h' Q) : jW (d + 30) 72 59 [some (.ref r), some (.ref t), some (.int (nI K.length))] [] h Q := by
  obtain ⟨R, X, Y⟩ := wR_cf ht hv G W0
  obtain ⟨r1, r2, ⟨r3, r4⟩, ⟨r5, r6⟩, r7, r8⟩ := R
  have a1 : jK h t = (30, 7) := X.1
  obtain ⟨c1, c2, c3, c4⟩ := C
  have hk13 : K.length < 13 := by omega
  simp (config := { decide := true }) (disch := (first | assumption | omega | (simp (config := { decide := true }) only [r1, r2, r5, r6, jK_wI, jK_wJ, jK_wR, jK_wr, jR_wr, jR_wI, jR_wJ, jK_wj, jR_wj, stI_wr, cmI_wr, stI_wj, cmI_wj]; done) | (simp only [r1, r2, r5, r6, jK_wI, jK_wJ, jK_wR, jK_wr, jR_wr, jR_wI, jR_wJ, jK_wj, jR_wj, stI_wr, cmI_wr, stI_wj, cmI_wj]; refine jinb_nI ?_ ?_ <;> omega) | (refine jinb_nI ?_ ?_ <;> omega) | (simp only [stI_wr, cmI_wr, stI_wj, cmI_wj]; assumption))) only [s72_59, s72_60, s72_63, s72_64, s72_65, s72_68, s72_69, s72_70, s72_70N, s72_71, c1, va_rf_some, va_rf_none, jK_wI, jR_wI, jJ_wI, jK_wJ, jR_wJ, jI_wJ, jK_wR, jI_wR, jJ_wR, jK_wr, jR_wr, jJ_wr, jcl1_i, jcl1_r, jcl1_z, jcl1_n, jcl1_l, jwI_row, jwr_jwr, jwr_cm, jwr_cc, upd_upd, jI_wr_s, jI_wr_a, jI_wr_b, jI_wr_c, mInv_wr, upd_s, upd_n, Option.toList, List.cons_append, List.nil_append, true_or, or_true, eq_self, and_self, ite_true, ite_false, if_true, if_false, jK_wj, jR_wj, jI_wj, jwJ_row, jwj_jwj, jJ_wj_s, jJ_wj_n, jI_wr_n, jinb_nI, nI_clamp, tc0, tc1, tc2, tc3, tc4, tc5, tc6, tc7, tc8, tc9, tc10, tc11, tc12, tc13, tc14, tc15, tc16, tc17, tc18, tc19, tc20, tc21, tc22, tc23, tc24, tc25, tc26, tc27, tc28, tc29, tc30, tc31, tc32, tc33, tc34, tc35, tc36, tc37, tc38, tc39, tc40, tc41, tc42, tc43, tc44, tc45, tc46, tc47, tc48, tc49, tc50, tc51, tc52, tc53, tc54, tc55, tc56, tc57, tc58, tc59, tc60, tc61, tc62, tc63, tc64, tc65, tc66, tc67, tc68, tc69, tc77, tc83, tc119, tc159, tc160, nI_add, al0, ar0, ml0, mr0, al1, ar1, ml1, mr1, al2, ar2, ml2, mr2, al3, ar3, ml3, mr3, al4, ar4, ml4, mr4, al5, ar5, ml5, mr5, al6, ar6, ml6, mr6, al8, ar8, ml8, mr8, al10, ar10, ml10, mr10, al11, ar11, ml11, mr11, al12, ar12, ml12, mr12, al13, ar13, ml13, mr13, al16, ar16, ml16, mr16, al20, ar20, ml20, mr20, al24, ar24, ml24, mr24, al29, ar29, ml29, mr29, al36, ar36, ml36, mr36, al42, ar42, ml42, mr42, al48, ar48, ml48, mr48, al55, ar55, ml55, mr55, al60, ar60, ml60, mr60, al65, ar65, ml65, mr65, al77, ar77, ml77, mr77, al83, ar83, ml83, mr83, al119, ar119, ml119, mr119, al159, ar159, ml159, mr159, al160, ar160, ml160, mr160, al400, ar400, ml400, mr400, r1, r2, r5, r6]
  generalize hh : jwr h (r + 2) (upd (jI h (r + 2)) K.length (nI c.length)) = g
  have G' : cfr r t h0 g := by rw [← hh]; exact cfr_wr (by omega) G
  have it : jI g t = jI h t := by rw [← hh, jI_wr_n (by omega)]
  have C' : cdI g r md c := by
    rw [← hh]
    refine ⟨?_, ?_, c3, fun j hj => ?_⟩
    · rw [jI_wr_n (by omega)]; exact c1
    · rw [jI_wr_n (by omega)]; exact c2
    · rw [jI_wr_n (by omega)]; exact c4 j hj
  have S' : sKl g r K := by
    intro i e hi
    have il : i < K.length := by
      rcases Nat.lt_or_ge i K.length with w | w
      · exact w
      · rw [List.getElem?_eq_none w] at hi; cases hi
    obtain ⟨b1, b2, b3⟩ := S i e hi
    rw [← hh, jI_wr_s, jI_wr_n (by omega)]
    refine ⟨by rw [upd_n (by omega)]; exact b1, b2, ?_⟩
    by_cases w : i + 1 = K.length
    · rw [w, upd_s, hl i e hi w]
    · rw [upd_n w]; exact b3
  have t1 : jI g (r + 2) K.length = nI c.length := by rw [← hh, jI_wr_s, upd_s]
  have W' := wR_cf ht hv G' W0
  clear hh
  refine k73 W'.1 W'.2.1 W'.2.2 ht hv hp (by rw [it]; exact F) C' hm hc ?_
  unfold aTry at hE hO
  cases hx : aSum T L p md c with
  | error w =>
    rw [hx] at hE
    intro h' g1 g2 g3
    have s1 : jK h' r = (28, 6) := (rfr_rd g1 W'.1).1
    simp (config := { decide := true }) (disch := (first | assumption | omega | (simp (config := { decide := true }) only [s1, jK_wI, jK_wJ, jK_wR, jK_wr, jR_wr, jR_wI, jR_wJ, jK_wj, jR_wj, stI_wr, cmI_wr, stI_wj, cmI_wj]; done) | (simp only [s1, jK_wI, jK_wJ, jK_wR, jK_wr, jR_wr, jR_wI, jR_wJ, jK_wj, jR_wj, stI_wr, cmI_wr, stI_wj, cmI_wj]; refine jinb_nI ?_ ?_ <;> omega) | (refine jinb_nI ?_ ?_ <;> omega) | (simp only [stI_wr, cmI_wr, stI_wj, cmI_wj]; assumption))) only [s72_74, s72_77, s72_78, va_rf_some, va_rf_none, jK_wI, jR_wI, jJ_wI, jK_wJ, jR_wJ, jI_wJ, jK_wR, jI_wR, jJ_wR, jK_wr, jR_wr, jJ_wr, jcl1_i, jcl1_r, jcl1_z, jcl1_n, jcl1_l, jwI_row, jwr_jwr, jwr_cm, jwr_cc, upd_upd, jI_wr_s, jI_wr_a, jI_wr_b, jI_wr_c, mInv_wr, upd_s, upd_n, Option.toList, List.cons_append, List.nil_append, true_or, or_true, eq_self, and_self, ite_true, ite_false, if_true, if_false, jK_wj, jR_wj, jI_wj, jwJ_row, jwj_jwj, jJ_wj_s, jJ_wj_n, jI_wr_n, jinb_nI, nI_clamp, tc0, tc1, tc2, tc3, tc4, tc5, tc6, tc7, tc8, tc9, tc10, tc11, tc12, tc13, tc14, tc15, tc16, tc17, tc18, tc19, tc20, tc21, tc22, tc23, tc24, tc25, tc26, tc27, tc28, tc29, tc30, tc31, tc32, tc33, tc34, tc35, tc36, tc37, tc38, tc39, tc40, tc41, tc42, tc43, tc44, tc45, tc46, tc47, tc48, tc49, tc50, tc51, tc52, tc53, tc54, tc55, tc56, tc57, tc58, tc59, tc60, tc61, tc62, tc63, tc64, tc65, tc66, tc67, tc68, tc69, tc77, tc83, tc119, tc159, tc160, nI_add, al0, ar0, ml0, mr0, al1, ar1, ml1, mr1, al2, ar2, ml2, mr2, al3, ar3, ml3, mr3, al4, ar4, ml4, mr4, al5, ar5, ml5, mr5, al6, ar6, ml6, mr6, al8, ar8, ml8, mr8, al10, ar10, ml10, mr10, al11, ar11, ml11, mr11, al12, ar12, ml12, mr12, al13, ar13, ml13, mr13, al16, ar16, ml16, mr16, al20, ar20, ml20, mr20, al24, ar24, ml24, mr24, al29, ar29, ml29, mr29, al36, ar36, ml36, mr36, al42, ar42, ml42, mr42, al48, ar48, ml48, mr48, al55, ar55, ml55, mr55, al60, ar60, ml60, mr60, al65, ar65, ml65, mr65, al77, ar77, ml77, mr77, al83, ar83, ml83, mr83, al119, ar119, ml119, mr119, al159, ar159, ml159, mr159, al160, ar160, ml160, mr160, al400, ar400, ml400, mr400, s1]
    exact hE w rfl h' (cfr_trans G' (rfr_cfr g1)) g2
  | ok q =>
    obtain ⟨q1, q2, q3, q4⟩ := aSum_gd p md c q hp hm hx
    rw [hx] at hE hO
    replace hE : ∀ w, (if isW T L (skp T L q.1) 26982 then (match ats T L (L + 1) (lnd T L (skp T L q.1)) q.2.1 q.2.2 [] with
      | .error w => .error w
      | .ok r2 => .ok (r2, (c.length, q.2.2.length, some (q.2.2.length, r2.2.2.length))))
      else Except.ok ((skp T L q.1, q.2.1, q.2.2), (c.length, q.2.2.length, none))) = .error w → ∀ h', cfr r t h0 h' → tE L w (jI h' t) → Q (some (.int 0)) h' := hE
    replace hO : ∀ x e, (if isW T L (skp T L q.1) 26982 then (match ats T L (L + 1) (lnd T L (skp T L q.1)) q.2.1 q.2.2 [] with
      | .error w => .error w
      | .ok r2 => .ok (r2, (c.length, q.2.2.length, some (q.2.2.length, r2.2.2.length))))
      else Except.ok ((skp T L q.1, q.2.1, q.2.2), (c.length, q.2.2.length, none))) = .ok (x, e) → ∀ h', cfr r t h0 h' → tkF T L (skp T L x.1) (jI h' t) → cdI h' r x.2.1 x.2.2 → sKl h' r K → jI h' (r + 2) K.length = nI e.1 → jI h' (r + 3) K.length = nI e.2.1 → eE e = x.2.2.length → jW (d + 30) 72 114 [some (.ref r), some (.ref t), some (.int (nI K.length))] [] h' Q := hO
    intro h' g1 g2 g3
    have s1 : jK h' r = (28, 6) := (rfr_rd g1 W'.1).1
    simp (config := { decide := true }) (disch := (first | assumption | omega | (simp (config := { decide := true }) only [s1, jK_wI, jK_wJ, jK_wR, jK_wr, jR_wr, jR_wI, jR_wJ, jK_wj, jR_wj, stI_wr, cmI_wr, stI_wj, cmI_wj]; done) | (simp only [s1, jK_wI, jK_wJ, jK_wR, jK_wr, jR_wr, jR_wI, jR_wJ, jK_wj, jR_wj, stI_wr, cmI_wr, stI_wj, cmI_wj]; refine jinb_nI ?_ ?_ <;> omega) | (refine jinb_nI ?_ ?_ <;> omega) | (simp only [stI_wr, cmI_wr, stI_wj, cmI_wj]; assumption))) only [s72_74, va_rf_some, va_rf_none, jK_wI, jR_wI, jJ_wI, jK_wJ, jR_wJ, jI_wJ, jK_wR, jI_wR, jJ_wR, jK_wr, jR_wr, jJ_wr, jcl1_i, jcl1_r, jcl1_z, jcl1_n, jcl1_l, jwI_row, jwr_jwr, jwr_cm, jwr_cc, upd_upd, jI_wr_s, jI_wr_a, jI_wr_b, jI_wr_c, mInv_wr, upd_s, upd_n, Option.toList, List.cons_append, List.nil_append, true_or, or_true, eq_self, and_self, ite_true, ite_false, if_true, if_false, jK_wj, jR_wj, jI_wj, jwJ_row, jwj_jwj, jJ_wj_s, jJ_wj_n, jI_wr_n, jinb_nI, nI_clamp, tc0, tc1, tc2, tc3, tc4, tc5, tc6, tc7, tc8, tc9, tc10, tc11, tc12, tc13, tc14, tc15, tc16, tc17, tc18, tc19, tc20, tc21, tc22, tc23, tc24, tc25, tc26, tc27, tc28, tc29, tc30, tc31, tc32, tc33, tc34, tc35, tc36, tc37, tc38, tc39, tc40, tc41, tc42, tc43, tc44, tc45, tc46, tc47, tc48, tc49, tc50, tc51, tc52, tc53, tc54, tc55, tc56, tc57, tc58, tc59, tc60, tc61, tc62, tc63, tc64, tc65, tc66, tc67, tc68, tc69, tc77, tc83, tc119, tc159, tc160, nI_add, al0, ar0, ml0, mr0, al1, ar1, ml1, mr1, al2, ar2, ml2, mr2, al3, ar3, ml3, mr3, al4, ar4, ml4, mr4, al5, ar5, ml5, mr5, al6, ar6, ml6, mr6, al8, ar8, ml8, mr8, al10, ar10, ml10, mr10, al11, ar11, ml11, mr11, al12, ar12, ml12, mr12, al13, ar13, ml13, mr13, al16, ar16, ml16, mr16, al20, ar20, ml20, mr20, al24, ar24, ml24, mr24, al29, ar29, ml29, mr29, al36, ar36, ml36, mr36, al42, ar42, ml42, mr42, al48, ar48, ml48, mr48, al55, ar55, ml55, mr55, al60, ar60, ml60, mr60, al65, ar65, ml65, mr65, al77, ar77, ml77, mr77, al83, ar83, ml83, mr83, al119, ar119, ml119, mr119, al159, ar159, ml159, mr159, al160, ar160, ml160, mr160, al400, ar400, ml400, mr400, s1]
    refine l72b W0 ht hv hk (cfr_trans G' (rfr_cfr g1)) q2 q3 (by omega) g2 g3 (sKl_fr g1 ht S') (show jI h' (r + 2) K.length = nI c.length by rw [g1.2.2 (r + 2) (by omega) (by omega) (by omega)]; exact t1) (fun w wi hy => ?_) (fun x wi hy h2 k1 k2 k3 k4 k5 k6 => ?_) (fun wi h2 k1 k2 k3 k4 k5 k6 => ?_)
    · exact hE w (by rw [if_pos wi, hy])
    · exact hO x _ (by rw [if_pos wi, hy]) h2 k1 k2 k3 k4 k5 k6 rfl
    · refine hO (skp T L q.1, q.2.1, q.2.2) (c.length, q.2.2.length, none) (by rw [wi]; rfl) h2 k1 ?_ k3 k4 k5 k6 rfl
      show tkF T L (skp T L (skp T L q.1)) _
      rw [skp_id q2]
      exact k2
end
