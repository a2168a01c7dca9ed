/-! THE CLASS: the reader of rules: a comparison -/
theorem cd_c {T : Nat → Nat} {L q x : Nat} (h : (chr T L q).bind cOp = some x) : ∃ v, cdf (tsr T L q) = nI v ∧ v = xc (6 + aSg x (aAl T L q x) + 16 * 0) ∧ 17 ≤ v ∧ v ≤ 21 ∧ tnd T L q = q + 1 + (if aAl T L q x then 1 else 0) ∧ q + 1 + (if aAl T L q x then 1 else 0) ≤ L := by
  cases hc : chr T L q with
  | none => rw [hc] at h; cases h
  | some y =>
    rw [hc] at h
    have h' : cOp y = some x := h
    have hL : q < L := chrL hc
    have hy : T q = y := by
      unfold chr at hc
      rw [if_pos hL] at hc
      injection hc
    have hle := aAl_lt (T := T) (L := L) (q := q) (x := x) hL
    have el : ltr T L q = (decide (97 ≤ T q) && decide (T q ≤ 122)) := by unfold ltr; rw [decide_eq_true hL, Bool.true_and]
    have eg : dig T L q = (decide (48 ≤ T q) && decide (T q ≤ 57)) := by unfold dig; rw [decide_eq_true hL, Bool.true_and]
    have key : 60 ≤ y ∧ y ≤ 62 → ltr T L q = false ∧ dig T L q = false := fun w => by
      rw [el, eg, hy]
      constructor
      · simp; omega
      · simp; omega
    unfold cOp at h'
    split at h'
    · next e =>
      subst e; cases h'
      obtain ⟨k1, k2⟩ := key (by omega)
      have ea : tle T L q = aAl T L q 60 := by
        unfold tle aAl
        rw [hy]
        rfl
      unfold tsr tnd
      rw [if_pos hL, if_pos hL, k1, k2, ea, hy]
      rw [if_neg (show ¬ false = true by decide), if_neg (show ¬ false = true by decide), if_neg (show ¬ false = true by decide), if_neg (show ¬ false = true by decide)]
      cases ha : aAl T L q 60 with
      | true => exact ⟨18, rfl, rfl, by omega, by omega, rfl, by rw [ha] at hle; exact hle⟩
      | false => exact ⟨17, rfl, rfl, by omega, by omega, rfl, by rw [ha] at hle; exact hle⟩
    · split at h'
      · next e =>
        subst e; cases h'
        obtain ⟨k1, k2⟩ := key (by omega)
        have ea : tle T L q = false := by unfold tle; rw [hy]; rfl
        have eb : aAl T L q 61 = false := by unfold aAl; rfl
        unfold tsr tnd
        rw [if_pos hL, if_pos hL, k1, k2, ea, hy, eb]
        exact ⟨19, rfl, rfl, by omega, by omega, rfl, hL⟩
      · split at h'
        · next e =>
          subst e; cases h'
          obtain ⟨k1, k2⟩ := key (by omega)
          have ea : tle T L q = aAl T L q 62 := by
            unfold tle aAl
            rw [hy]
            rfl
          unfold tsr tnd
          rw [if_pos hL, if_pos hL, k1, k2, ea, hy]
          rw [if_neg (show ¬ false = true by decide), if_neg (show ¬ false = true by decide), if_neg (show ¬ false = true by decide), if_neg (show ¬ false = true by decide)]
          cases ha : aAl T L q 62 with
          | true => exact ⟨20, rfl, rfl, by omega, by omega, rfl, by rw [ha] at hle; exact hle⟩
          | false => exact ⟨21, rfl, rfl, by omega, by omega, rfl, by rw [ha] at hle; exact hle⟩
        · cases h'
theorem cd_nc {T : Nat → Nat} {L q : Nat} (hT : ∀ p, p < L → T p < 256) (h : (chr T L q).bind cOp = none) : cdf (tsr T L q) < 17 := by
  have dd : ∀ n, n < 256 → n ≠ 60 → n ≠ 61 → n ≠ 62 → cdf (nI n) < 17 := by decide +kernel
  unfold tsr
  by_cases e : q < L
  · rw [if_pos e]
    have hc : chr T L q = some (T q) := if_pos e
    rw [hc] at h
    have h' : cOp (T q) = none := h
    unfold cOp at h'
    have n0 : T q ≠ 60 ∧ T q ≠ 61 ∧ T q ≠ 62 := by
      split at h'
      · cases h'
      · split at h'
        · cases h'
        · split at h'
          · cases h'
          · next a b c => exact ⟨a, b, c⟩
    have ea : tle T L q = false := by unfold tle; rw [decide_eq_false n0.1, decide_eq_false n0.2.2]; rfl
    rw [ea]
    split
    · decide
    · split
      · decide
      · exact dd _ (hT q e) n0.1 n0.2.1 n0.2.2
  · rw [if_neg e]
    decide
section
variable {h h0 h1 h2 : jH} {r t L md : Nat} {c : List Nat} {T : Nat → Nat} {d : Nat} {Q : Option Value → jH → Prop} {tK tV : Nat → Nat}
/-- a fault on the tape, from a reading -/
theorem rflt (X : tpI h t T L) (ht : t + 1 < r) {q k : Nat} (f1 : jI h t 1 = nI L) (S : szI h r) (G : rfr r t h0 h) : rfr r t h0 (jwr h t (upd (jI h t) 6 (nI (1 + 8 * q + k)))) ∧ tE L (fW 0 k q) (jI (jwr h t (upd (jI h t) 6 (nI (1 + 8 * q + k)))) t) ∧ szI (jwr h t (upd (jI h t) 6 (nI (1 + 8 * q + k)))) r := by
  refine ⟨rfr_t (by omega) G, ?_, ?_⟩
  · rw [jI_wr_s]
    exact ⟨by rw [upd_n (by omega)]; exact f1, by rw [upd_s]; rfl⟩
  · obtain ⟨n, n1, n2⟩ := S
    exact ⟨n, n1, by rw [jI_wr_n (by omega)]; exact n2⟩
theorem cdI_s (C : cdI h r md c) : szI h r := ⟨c.length, C.2.2.1, C.1⟩
/-- readComparison: the second sum -/
theorem l79 (R0 : rdI h0 r t) (X0 : tpI h0 t T L) (Y0 : txI h0 tK tV) (ht : t + 1 < r) (hv : ∀ i, i < 6 → tV i < t) {p sg : Nat} (G : rfr r t h0 h) (hp : p ≤ L) (F : tkF T L (skp T L p) (jI h t)) (C : cdI h r md c) (hm : md ≤ 60) (hc : c.length < p) (hQ : rO Q r t T L h0 (match aSum T L p md c with
      | .error w => .error w
      | .ok r2 => .ok (r2.1, r2.2.1, r2.2.2 ++ [sg]))) : jW (d + 7) 79 65 [some (.ref r), some (.ref t), some (.int (nI (xc sg))), none] [] h Q := by
  have R := rfr_rd G R0
  have r1 : jK h r = (28, 6) := R.1
  have a4 : L ≤ 400 := X0.2.2.2.1
  simp (config := { decide := true }) (disch := (first | assumption | omega | (simp (config := { decide := true }) only [r1, jK_wI, jK_wJ, jK_wR, jK_wr, jR_wr, jR_wI, jR_wJ, jK_wj, jR_wj, stI_wr, cmI_wr, stI_wj, cmI_wj]; done) | (simp only [r1, jK_wI, jK_wJ, jK_wR, jK_wr, jR_wr, jR_wI, jR_wJ, jK_wj, jR_wj, stI_wr, cmI_wr, stI_wj, cmI_wj]; refine jinb_nI ?_ ?_ <;> omega) | (refine jinb_nI ?_ ?_ <;> omega) | (simp only [stI_wr, cmI_wr, stI_wj, cmI_wj]; assumption))) only [s79_65, s79_66, s79_66N, s79_67, va_rf_some, va_rf_none, jK_wI, jR_wI, jJ_wI, jK_wJ, jR_wJ, jI_wJ, jK_wR, jI_wR, jJ_wR, jK_wr, jR_wr, jJ_wr, jcl1_i, jcl1_r, jcl1_z, jcl1_n, jcl1_l, jwI_row, jwr_jwr, jwr_cm, jwr_cc, upd_upd, jI_wr_s, jI_wr_a, jI_wr_b, jI_wr_c, mInv_wr, upd_s, upd_n, Option.toList, List.cons_append, List.nil_append, true_or, or_true, eq_self, and_self, ite_true, ite_false, if_true, if_false, jK_wj, jR_wj, jI_wj, jwJ_row, jwj_jwj, jJ_wj_s, jJ_wj_n, jI_wr_n, jinb_nI, nI_clamp, tc0, tc1, tc2, tc3, tc4, tc5, tc6, tc7, tc8, tc9, tc10, tc11, tc12, tc13, tc14, tc15, tc16, tc17, tc18, tc19, tc20, tc21, tc22, tc23, tc24, tc25, tc26, tc27, tc28, tc29, tc30, tc31, tc32, tc33, tc34, tc35, tc36, tc37, tc38, tc39, tc40, tc41, tc42, tc43, tc44, tc45, tc46, tc47, tc48, tc49, tc50, tc51, tc52, tc53, tc54, tc55, tc56, tc57, tc58, tc59, tc60, tc61, tc62, tc63, tc64, tc65, tc66, tc67, tc68, tc69, tc77, tc83, tc119, tc159, tc160, nI_add, al0, ar0, ml0, mr0, al1, ar1, ml1, mr1, al2, ar2, ml2, mr2, al3, ar3, ml3, mr3, al4, ar4, ml4, mr4, al5, ar5, ml5, mr5, al6, ar6, ml6, mr6, al8, ar8, ml8, mr8, al10, ar10, ml10, mr10, al11, ar11, ml11, mr11, al12, ar12, ml12, mr12, al13, ar13, ml13, mr13, al16, ar16, ml16, mr16, al20, ar20, ml20, mr20, al24, ar24, ml24, mr24, al29, ar29, ml29, mr29, al36, ar36, ml36, mr36, al42, ar42, ml42, mr42, al48, ar48, ml48, mr48, al55, ar55, ml55, mr55, al60, ar60, ml60, mr60, al65, ar65, ml65, mr65, al77, ar77, ml77, mr77, al83, ar83, ml83, mr83, al119, ar119, ml119, mr119, al159, ar159, ml159, mr159, al160, ar160, ml160, mr160, al400, ar400, ml400, mr400, r1]
  refine k73 R (rfr_tp G ht X0) (rfr_tx G ht hv Y0) ht hv hp F C hm (by omega) ?_
  cases hx : aSum T L p md c with
  | error w =>
    rw [hx] at hQ
    intro h' g1 g2 g3
    have R2 := rfr_rd (rfr_trans G g1) R0
    have r2 : jK h' r = (28, 6) := R2.1
    simp (config := { decide := true }) (disch := (first | assumption | omega | (simp (config := { decide := true }) only [r2, jK_wI, jK_wJ, jK_wR, jK_wr, jR_wr, jR_wI, jR_wJ, jK_wj, jR_wj, stI_wr, cmI_wr, stI_wj, cmI_wj]; done) | (simp only [r2, jK_wI, jK_wJ, jK_wR, jK_wr, jR_wr, jR_wI, jR_wJ, jK_wj, jR_wj, stI_wr, cmI_wr, stI_wj, cmI_wj]; refine jinb_nI ?_ ?_ <;> omega) | (refine jinb_nI ?_ ?_ <;> omega) | (simp only [stI_wr, cmI_wr, stI_wj, cmI_wj]; assumption))) only [s79_70, s79_71, s79_72, s79_73, va_rf_some, va_rf_none, jK_wI, jR_wI, jJ_wI, jK_wJ, jR_wJ, jI_wJ, jK_wR, jI_wR, jJ_wR, jK_wr, jR_wr, jJ_wr, jcl1_i, jcl1_r, jcl1_z, jcl1_n, jcl1_l, jwI_row, jwr_jwr, jwr_cm, jwr_cc, upd_upd, jI_wr_s, jI_wr_a, jI_wr_b, jI_wr_c, mInv_wr, upd_s, upd_n, Option.toList, List.cons_append, List.nil_append, true_or, or_true, eq_self, and_self, ite_true, ite_false, if_true, if_false, jK_wj, jR_wj, jI_wj, jwJ_row, jwj_jwj, jJ_wj_s, jJ_wj_n, jI_wr_n, jinb_nI, nI_clamp, tc0, tc1, tc2, tc3, tc4, tc5, tc6, tc7, tc8, tc9, tc10, tc11, tc12, tc13, tc14, tc15, tc16, tc17, tc18, tc19, tc20, tc21, tc22, tc23, tc24, tc25, tc26, tc27, tc28, tc29, tc30, tc31, tc32, tc33, tc34, tc35, tc36, tc37, tc38, tc39, tc40, tc41, tc42, tc43, tc44, tc45, tc46, tc47, tc48, tc49, tc50, tc51, tc52, tc53, tc54, tc55, tc56, tc57, tc58, tc59, tc60, tc61, tc62, tc63, tc64, tc65, tc66, tc67, tc68, tc69, tc77, tc83, tc119, tc159, tc160, nI_add, al0, ar0, ml0, mr0, al1, ar1, ml1, mr1, al2, ar2, ml2, mr2, al3, ar3, ml3, mr3, al4, ar4, ml4, mr4, al5, ar5, ml5, mr5, al6, ar6, ml6, mr6, al8, ar8, ml8, mr8, al10, ar10, ml10, mr10, al11, ar11, ml11, mr11, al12, ar12, ml12, mr12, al13, ar13, ml13, mr13, al16, ar16, ml16, mr16, al20, ar20, ml20, mr20, al24, ar24, ml24, mr24, al29, ar29, ml29, mr29, al36, ar36, ml36, mr36, al42, ar42, ml42, mr42, al48, ar48, ml48, mr48, al55, ar55, ml55, mr55, al60, ar60, ml60, mr60, al65, ar65, ml65, mr65, al77, ar77, ml77, mr77, al83, ar83, ml83, mr83, al119, ar119, ml119, mr119, al159, ar159, ml159, mr159, al160, ar160, ml160, mr160, al400, ar400, ml400, mr400, r2]
    refine k75e R2 g3 (fun h2 k1 k2 k3 => ?_) ⟨by omega, by omega⟩
    have r3 : jK h2 r = (28, 6) := (rfr_rd k1 R2).1
    simp only [Option.toList, List.nil_append]
    simp (config := { decide := true }) (disch := (first | assumption | omega | (simp (config := { decide := true }) only [r3, jK_wI, jK_wJ, jK_wR, jK_wr, jR_wr, jR_wI, jR_wJ, jK_wj, jR_wj, stI_wr, cmI_wr, stI_wj, cmI_wj]; done) | (simp only [r3, jK_wI, jK_wJ, jK_wR, jK_wr, jR_wr, jR_wI, jR_wJ, jK_wj, jR_wj, stI_wr, cmI_wr, stI_wj, cmI_wj]; refine jinb_nI ?_ ?_ <;> omega) | (refine jinb_nI ?_ ?_ <;> omega) | (simp only [stI_wr, cmI_wr, stI_wj, cmI_wj]; assumption))) only [s79_76, s79_77, va_rf_some, va_rf_none, jK_wI, jR_wI, jJ_wI, jK_wJ, jR_wJ, jI_wJ, jK_wR, jI_wR, jJ_wR, jK_wr, jR_wr, jJ_wr, jcl1_i, jcl1_r, jcl1_z, jcl1_n, jcl1_l, jwI_row, jwr_jwr, jwr_cm, jwr_cc, upd_upd, jI_wr_s, jI_wr_a, jI_wr_b, jI_wr_c, mInv_wr, upd_s, upd_n, Option.toList, List.cons_append, List.nil_append, true_or, or_true, eq_self, and_self, ite_true, ite_false, if_true, if_false, jK_wj, jR_wj, jI_wj, jwJ_row, jwj_jwj, jJ_wj_s, jJ_wj_n, jI_wr_n, jinb_nI, nI_clamp, tc0, tc1, tc2, tc3, tc4, tc5, tc6, tc7, tc8, tc9, tc10, tc11, tc12, tc13, tc14, tc15, tc16, tc17, tc18, tc19, tc20, tc21, tc22, tc23, tc24, tc25, tc26, tc27, tc28, tc29, tc30, tc31, tc32, tc33, tc34, tc35, tc36, tc37, tc38, tc39, tc40, tc41, tc42, tc43, tc44, tc45, tc46, tc47, tc48, tc49, tc50, tc51, tc52, tc53, tc54, tc55, tc56, tc57, tc58, tc59, tc60, tc61, tc62, tc63, tc64, tc65, tc66, tc67, tc68, tc69, tc77, tc83, tc119, tc159, tc160, nI_add, al0, ar0, ml0, mr0, al1, ar1, ml1, mr1, al2, ar2, ml2, mr2, al3, ar3, ml3, mr3, al4, ar4, ml4, mr4, al5, ar5, ml5, mr5, al6, ar6, ml6, mr6, al8, ar8, ml8, mr8, al10, ar10, ml10, mr10, al11, ar11, ml11, mr11, al12, ar12, ml12, mr12, al13, ar13, ml13, mr13, al16, ar16, ml16, mr16, al20, ar20, ml20, mr20, al24, ar24, ml24, mr24, al29, ar29, ml29, mr29, al36, ar36, ml36, mr36, al42, ar42, ml42, mr42, al48, ar48, ml48, mr48, al55, ar55, ml55, mr55, al60, ar60, ml60, mr60, al65, ar65, ml65, mr65, al77, ar77, ml77, mr77, al83, ar83, ml83, mr83, al119, ar119, ml119, mr119, al159, ar159, ml159, mr159, al160, ar160, ml160, mr160, al400, ar400, ml400, mr400, r3]
    exact hQ h2 (rfr_trans (rfr_trans G g1) k1) (by rw [k2]; exact g2) k3
  | ok q =>
    obtain ⟨q1, q2, q3, q4⟩ := aSum_gd p md c q hp hm hx
    rw [hx] at hQ
    intro h' g1 g2 g3
    have R2 := rfr_rd (rfr_trans G g1) R0
    have r2 : jK h' r = (28, 6) := R2.1
    simp (config := { decide := true }) (disch := (first | assumption | omega | (simp (config := { decide := true }) only [r2, jK_wI, jK_wJ, jK_wR, jK_wr, jR_wr, jR_wI, jR_wJ, jK_wj, jR_wj, stI_wr, cmI_wr, stI_wj, cmI_wj]; done) | (simp only [r2, jK_wI, jK_wJ, jK_wR, jK_wr, jR_wr, jR_wI, jR_wJ, jK_wj, jR_wj, stI_wr, cmI_wr, stI_wj, cmI_wj]; refine jinb_nI ?_ ?_ <;> omega) | (refine jinb_nI ?_ ?_ <;> omega) | (simp only [stI_wr, cmI_wr, stI_wj, cmI_wj]; assumption))) only [s79_70, s79_71, s79_72, s79_73, va_rf_some, va_rf_none, jK_wI, jR_wI, jJ_wI, jK_wJ, jR_wJ, jI_wJ, jK_wR, jI_wR, jJ_wR, jK_wr, jR_wr, jJ_wr, jcl1_i, jcl1_r, jcl1_z, jcl1_n, jcl1_l, jwI_row, jwr_jwr, jwr_cm, jwr_cc, upd_upd, jI_wr_s, jI_wr_a, jI_wr_b, jI_wr_c, mInv_wr, upd_s, upd_n, Option.toList, List.cons_append, List.nil_append, true_or, or_true, eq_self, and_self, ite_true, ite_false, if_true, if_false, jK_wj, jR_wj, jI_wj, jwJ_row, jwj_jwj, jJ_wj_s, jJ_wj_n, jI_wr_n, jinb_nI, nI_clamp, tc0, tc1, tc2, tc3, tc4, tc5, tc6, tc7, tc8, tc9, tc10, tc11, tc12, tc13, tc14, tc15, tc16, tc17, tc18, tc19, tc20, tc21, tc22, tc23, tc24, tc25, tc26, tc27, tc28, tc29, tc30, tc31, tc32, tc33, tc34, tc35, tc36, tc37, tc38, tc39, tc40, tc41, tc42, tc43, tc44, tc45, tc46, tc47, tc48, tc49, tc50, tc51, tc52, tc53, tc54, tc55, tc56, tc57, tc58, tc59, tc60, tc61, tc62, tc63, tc64, tc65, tc66, tc67, tc68, tc69, tc77, tc83, tc119, tc159, tc160, nI_add, al0, ar0, ml0, mr0, al1, ar1, ml1, mr1, al2, ar2, ml2, mr2, al3, ar3, ml3, mr3, al4, ar4, ml4, mr4, al5, ar5, ml5, mr5, al6, ar6, ml6, mr6, al8, ar8, ml8, mr8, al10, ar10, ml10, mr10, al11, ar11, ml11, mr11, al12, ar12, ml12, mr12, al13, ar13, ml13, mr13, al16, ar16, ml16, mr16, al20, ar20, ml20, mr20, al24, ar24, ml24, mr24, al29, ar29, ml29, mr29, al36, ar36, ml36, mr36, al42, ar42, ml42, mr42, al48, ar48, ml48, mr48, al55, ar55, ml55, mr55, al60, ar60, ml60, mr60, al65, ar65, ml65, mr65, al77, ar77, ml77, mr77, al83, ar83, ml83, mr83, al119, ar119, ml119, mr119, al159, ar159, ml159, mr159, al160, ar160, ml160, mr160, al400, ar400, ml400, mr400, r2]
    refine k75 R2 g3 (by omega) (fun h2 k1 k2 k3 => ?_) ⟨by omega, by omega⟩
    have r3 : jK h2 r = (28, 6) := (rfr_rd k1 R2).1
    simp only [Option.toList, List.nil_append]
    simp (config := { decide := true }) (disch := (first | assumption | omega | (simp (config := { decide := true }) only [r3, jK_wI, jK_wJ, jK_wR, jK_wr, jR_wr, jR_wI, jR_wJ, jK_wj, jR_wj, stI_wr, cmI_wr, stI_wj, cmI_wj]; done) | (simp only [r3, jK_wI, jK_wJ, jK_wR, jK_wr, jR_wr, jR_wI, jR_wJ, jK_wj, jR_wj, stI_wr, cmI_wr, stI_wj, cmI_wj]; refine jinb_nI ?_ ?_ <;> omega) | (refine jinb_nI ?_ ?_ <;> omega) | (simp only [stI_wr, cmI_wr, stI_wj, cmI_wj]; assumption))) only [s79_76, s79_77, va_rf_some, va_rf_none, jK_wI, jR_wI, jJ_wI, jK_wJ, jR_wJ, jI_wJ, jK_wR, jI_wR, jJ_wR, jK_wr, jR_wr, jJ_wr, jcl1_i, jcl1_r, jcl1_z, jcl1_n, jcl1_l, jwI_row, jwr_jwr, jwr_cm, jwr_cc, upd_upd, jI_wr_s, jI_wr_a, jI_wr_b, jI_wr_c, mInv_wr, upd_s, upd_n, Option.toList, List.cons_append, List.nil_append, true_or, or_true, eq_self, and_self, ite_true, ite_false, if_true, if_false, jK_wj, jR_wj, jI_wj, jwJ_row, jwj_jwj, jJ_wj_s, jJ_wj_n, jI_wr_n, jinb_nI, nI_clamp, tc0, tc1, tc2, tc3, tc4, tc5, tc6, tc7, tc8, tc9, tc10, tc11, tc12, tc13, tc14, tc15, tc16, tc17, tc18, tc19, tc20, tc21, tc22, tc23, tc24, tc25, tc26, tc27, tc28, tc29, tc30, tc31, tc32, tc33, tc34, tc35, tc36, tc37, tc38, tc39, tc40, tc41, tc42, tc43, tc44, tc45, tc46, tc47, tc48, tc49, tc50, tc51, tc52, tc53, tc54, tc55, tc56, tc57, tc58, tc59, tc60, tc61, tc62, tc63, tc64, tc65, tc66, tc67, tc68, tc69, tc77, tc83, tc119, tc159, tc160, nI_add, al0, ar0, ml0, mr0, al1, ar1, ml1, mr1, al2, ar2, ml2, mr2, al3, ar3, ml3, mr3, al4, ar4, ml4, mr4, al5, ar5, ml5, mr5, al6, ar6, ml6, mr6, al8, ar8, ml8, mr8, al10, ar10, ml10, mr10, al11, ar11, ml11, mr11, al12, ar12, ml12, mr12, al13, ar13, ml13, mr13, al16, ar16, ml16, mr16, al20, ar20, ml20, mr20, al24, ar24, ml24, mr24, al29, ar29, ml29, mr29, al36, ar36, ml36, mr36, al42, ar42, ml42, mr42, al48, ar48, ml48, mr48, al55, ar55, ml55, mr55, al60, ar60, ml60, mr60, al65, ar65, ml65, mr65, al77, ar77, ml77, mr77, al83, ar83, ml83, mr83, al119, ar119, ml119, mr119, al159, ar159, ml159, mr159, al160, ar160, ml160, mr160, al400, ar400, ml400, mr400, r3]
    exact hQ h2 (rfr_trans (rfr_trans G g1) k1) (by rw [k2]; exact g2) k3
/-- readComparison -/
theorem k79 (R : rdI h r t) (X : tpI h t T L) (Y : txI h tK tV) (ht : t + 1 < r) (hv : ∀ i, i < 6 → tV i < t) {p : Nat} (hp : p ≤ L) (F : tkF T L (skp T L p) (jI h t)) (C : cdI h r md c) (hm : md ≤ 60) (hc : c.length ≤ p) (hQ : rO Q r t T L h (aCmp T L p md c)) : jC (d + 8) 79 [.ref r, .ref t] h Q := by
  have r1 : jK h r = (28, 6) := R.1
  unfold aCmp at hQ
  rw [e79]
  simp (config := { decide := true }) (disch := (first | assumption | omega | (simp (config := { decide := true }) only [r1, jK_wI, jK_wJ, jK_wR, jK_wr, jR_wr, jR_wI, jR_wJ, jK_wj, jR_wj, stI_wr, cmI_wr, stI_wj, cmI_wj]; done) | (simp only [r1, jK_wI, jK_wJ, jK_wR, jK_wr, jR_wr, jR_wI, jR_wJ, jK_wj, jR_wj, stI_wr, cmI_wr, stI_wj, cmI_wj]; refine jinb_nI ?_ ?_ <;> omega) | (refine jinb_nI ?_ ?_ <;> omega) | (simp only [stI_wr, cmI_wr, stI_wj, cmI_wj]; assumption))) only [s79_0, s79_1, s79_1N, s79_2, va_rf_some, va_rf_none, jK_wI, jR_wI, jJ_wI, jK_wJ, jR_wJ, jI_wJ, jK_wR, jI_wR, jJ_wR, jK_wr, jR_wr, jJ_wr, jcl1_i, jcl1_r, jcl1_z, jcl1_n, jcl1_l, jwI_row, jwr_jwr, jwr_cm, jwr_cc, upd_upd, jI_wr_s, jI_wr_a, jI_wr_b, jI_wr_c, mInv_wr, upd_s, upd_n, Option.toList, List.cons_append, List.nil_append, true_or, or_true, eq_self, and_self, ite_true, ite_false, if_true, if_false, jK_wj, jR_wj, jI_wj, jwJ_row, jwj_jwj, jJ_wj_s, jJ_wj_n, jI_wr_n, jinb_nI, nI_clamp, tc0, tc1, tc2, tc3, tc4, tc5, tc6, tc7, tc8, tc9, tc10, tc11, tc12, tc13, tc14, tc15, tc16, tc17, tc18, tc19, tc20, tc21, tc22, tc23, tc24, tc25, tc26, tc27, tc28, tc29, tc30, tc31, tc32, tc33, tc34, tc35, tc36, tc37, tc38, tc39, tc40, tc41, tc42, tc43, tc44, tc45, tc46, tc47, tc48, tc49, tc50, tc51, tc52, tc53, tc54, tc55, tc56, tc57, tc58, tc59, tc60, tc61, tc62, tc63, tc64, tc65, tc66, tc67, tc68, tc69, tc77, tc83, tc119, tc159, tc160, nI_add, al0, ar0, ml0, mr0, al1, ar1, ml1, mr1, al2, ar2, ml2, mr2, al3, ar3, ml3, mr3, al4, ar4, ml4, mr4, al5, ar5, ml5, mr5, al6, ar6, ml6, mr6, al8, ar8, ml8, mr8, al10, ar10, ml10, mr10, al11, ar11, ml11, mr11, al12, ar12, ml12, mr12, al13, ar13, ml13, mr13, al16, ar16, ml16, mr16, al20, ar20, ml20, mr20, al24, ar24, ml24, mr24, al29, ar29, ml29, mr29, al36, ar36, ml36, mr36, al42, ar42, ml42, mr42, al48, ar48, ml48, mr48, al55, ar55, ml55, mr55, al60, ar60, ml60, mr60, al65, ar65, ml65, mr65, al77, ar77, ml77, mr77, al83, ar83, ml83, mr83, al119, ar119, ml119, mr119, al159, ar159, ml159, mr159, al160, ar160, ml160, mr160, al400, ar400, ml400, mr400, r1]
  refine k73 R X Y ht hv hp F C hm hc ?_
  cases hx : aSum T L p md c with
  | error w =>
    rw [hx] at hQ
    intro h' g1 g2 g3
    have r2 : jK h' r = (28, 6) := (rfr_rd g1 R).1
    simp (config := { decide := true }) (disch := (first | assumption | omega | (simp (config := { decide := true }) only [r2, jK_wI, jK_wJ, jK_wR, jK_wr, jR_wr, jR_wI, jR_wJ, jK_wj, jR_wj, stI_wr, cmI_wr, stI_wj, cmI_wj]; done) | (simp only [r2, jK_wI, jK_wJ, jK_wR, jK_wr, jR_wr, jR_wI, jR_wJ, jK_wj, jR_wj, stI_wr, cmI_wr, stI_wj, cmI_wj]; refine jinb_nI ?_ ?_ <;> omega) | (refine jinb_nI ?_ ?_ <;> omega) | (simp only [stI_wr, cmI_wr, stI_wj, cmI_wj]; assumption))) only [s79_5, s79_8, s79_9, va_rf_some, va_rf_none, jK_wI, jR_wI, jJ_wI, jK_wJ, jR_wJ, jI_wJ, jK_wR, jI_wR, jJ_wR, jK_wr, jR_wr, jJ_wr, jcl1_i, jcl1_r, jcl1_z, jcl1_n, jcl1_l, jwI_row, jwr_jwr, jwr_cm, jwr_cc, upd_upd, jI_wr_s, jI_wr_a, jI_wr_b, jI_wr_c, mInv_wr, upd_s, upd_n, Option.toList, List.cons_append, List.nil_append, true_or, or_true, eq_self, and_self, ite_true, ite_false, if_true, if_false, jK_wj, jR_wj, jI_wj, jwJ_row, jwj_jwj, jJ_wj_s, jJ_wj_n, jI_wr_n, jinb_nI, nI_clamp, tc0, tc1, tc2, tc3, tc4, tc5, tc6, tc7, tc8, tc9, tc10, tc11, tc12, tc13, tc14, tc15, tc16, tc17, tc18, tc19, tc20, tc21, tc22, tc23, tc24, tc25, tc26, tc27, tc28, tc29, tc30, tc31, tc32, tc33, tc34, tc35, tc36, tc37, tc38, tc39, tc40, tc41, tc42, tc43, tc44, tc45, tc46, tc47, tc48, tc49, tc50, tc51, tc52, tc53, tc54, tc55, tc56, tc57, tc58, tc59, tc60, tc61, tc62, tc63, tc64, tc65, tc66, tc67, tc68, tc69, tc77, tc83, tc119, tc159, tc160, nI_add, al0, ar0, ml0, mr0, al1, ar1, ml1, mr1, al2, ar2, ml2, mr2, al3, ar3, ml3, mr3, al4, ar4, ml4, mr4, al5, ar5, ml5, mr5, al6, ar6, ml6, mr6, al8, ar8, ml8, mr8, al10, ar10, ml10, mr10, al11, ar11, ml11, mr11, al12, ar12, ml12, mr12, al13, ar13, ml13, mr13, al16, ar16, ml16, mr16, al20, ar20, ml20, mr20, al24, ar24, ml24, mr24, al29, ar29, ml29, mr29, al36, ar36, ml36, mr36, al42, ar42, ml42, mr42, al48, ar48, ml48, mr48, al55, ar55, ml55, mr55, al60, ar60, ml60, mr60, al65, ar65, ml65, mr65, al77, ar77, ml77, mr77, al83, ar83, ml83, mr83, al119, ar119, ml119, mr119, al159, ar159, ml159, mr159, al160, ar160, ml160, mr160, al400, ar400, ml400, mr400, r2]
    exact hQ h' g1 g2 g3
  | ok q =>
    obtain ⟨q1, q2, q3, q4⟩ := aSum_gd p md c q hp hm hx
    rw [hx] at hQ
    obtain ⟨qp, qm, qc⟩ := q
    have q1' : p < qp := q1
    have q2' : qp ≤ L := q2
    have q3' : qm ≤ 60 := q3
    have q4' : qc.length + p ≤ c.length + qp := q4
    have sk := skp_ge (T := T) (L := L) (p := qp)
    replace hQ : rO Q r t T L h (match (chr T L (skp T L qp)).bind cOp with
      | none => .error (fW 0 0 (skp T L qp))
      | some x => if qm = 60 then .error (fW 0 3 (skp T L qp)) else match aSum T L (skp T L qp + 1 + (if aAl T L (skp T L qp) x then 1 else 0)) (qm + 1) qc with
        | .error w => .error w
        | .ok r2 => .ok (r2.1, r2.2.1, r2.2.2 ++ [6 + aSg x (aAl T L (skp T L qp) x) + 16 * 0])) := hQ
    intro h' g1 g2 g3
    have R2 := rfr_rd g1 R
    have X2 := rfr_tp g1 ht X
    obtain ⟨r2, r3, -⟩ := R2
    have b1 : jK h' t = (30, 7) := X2.1
    have hTb := fun p hp => (X2.2.2.2.2 p hp).2
    have g3' : cdI h' r qm qc := g3
    obtain ⟨c1, c2, c3, c4⟩ := g3'
    obtain ⟨f1, f2, f3, f4, f5, f6, f7⟩ := g2
    simp (config := { decide := true }) (disch := (first | assumption | omega | (simp (config := { decide := true }) only [r2, r3, b1, jK_wI, jK_wJ, jK_wR, jK_wr, jR_wr, jR_wI, jR_wJ, jK_wj, jR_wj, stI_wr, cmI_wr, stI_wj, cmI_wj]; done) | (simp only [r2, r3, b1, jK_wI, jK_wJ, jK_wR, jK_wr, jR_wr, jR_wI, jR_wJ, jK_wj, jR_wj, stI_wr, cmI_wr, stI_wj, cmI_wj]; refine jinb_nI ?_ ?_ <;> omega) | (refine jinb_nI ?_ ?_ <;> omega) | (simp only [stI_wr, cmI_wr, stI_wj, cmI_wj]; assumption))) only [s79_5, s79_10, s79_10N, s79_11, s79_14, f4, va_rf_some, va_rf_none, jK_wI, jR_wI, jJ_wI, jK_wJ, jR_wJ, jI_wJ, jK_wR, jI_wR, jJ_wR, jK_wr, jR_wr, jJ_wr, jcl1_i, jcl1_r, jcl1_z, jcl1_n, jcl1_l, jwI_row, jwr_jwr, jwr_cm, jwr_cc, upd_upd, jI_wr_s, jI_wr_a, jI_wr_b, jI_wr_c, mInv_wr, upd_s, upd_n, Option.toList, List.cons_append, List.nil_append, true_or, or_true, eq_self, and_self, ite_true, ite_false, if_true, if_false, jK_wj, jR_wj, jI_wj, jwJ_row, jwj_jwj, jJ_wj_s, jJ_wj_n, jI_wr_n, jinb_nI, nI_clamp, tc0, tc1, tc2, tc3, tc4, tc5, tc6, tc7, tc8, tc9, tc10, tc11, tc12, tc13, tc14, tc15, tc16, tc17, tc18, tc19, tc20, tc21, tc22, tc23, tc24, tc25, tc26, tc27, tc28, tc29, tc30, tc31, tc32, tc33, tc34, tc35, tc36, tc37, tc38, tc39, tc40, tc41, tc42, tc43, tc44, tc45, tc46, tc47, tc48, tc49, tc50, tc51, tc52, tc53, tc54, tc55, tc56, tc57, tc58, tc59, tc60, tc61, tc62, tc63, tc64, tc65, tc66, tc67, tc68, tc69, tc77, tc83, tc119, tc159, tc160, nI_add, al0, ar0, ml0, mr0, al1, ar1, ml1, mr1, al2, ar2, ml2, mr2, al3, ar3, ml3, mr3, al4, ar4, ml4, mr4, al5, ar5, ml5, mr5, al6, ar6, ml6, mr6, al8, ar8, ml8, mr8, al10, ar10, ml10, mr10, al11, ar11, ml11, mr11, al12, ar12, ml12, mr12, al13, ar13, ml13, mr13, al16, ar16, ml16, mr16, al20, ar20, ml20, mr20, al24, ar24, ml24, mr24, al29, ar29, ml29, mr29, al36, ar36, ml36, mr36, al42, ar42, ml42, mr42, al48, ar48, ml48, mr48, al55, ar55, ml55, mr55, al60, ar60, ml60, mr60, al65, ar65, ml65, mr65, al77, ar77, ml77, mr77, al83, ar83, ml83, mr83, al119, ar119, ml119, mr119, al159, ar159, ml159, mr159, al160, ar160, ml160, mr160, al400, ar400, ml400, mr400, r2, r3, b1]
    rw [k76 (tsr_in hTb)]
    have k2 := fun (k : Nat) Q' => k101 (d := d + 6) (h := h') (t := t) (q := skp T L qp) (k := k) (Q := Q') b1 f2
    cases cc : (chr T L (skp T L qp)).bind cOp with
    | none =>
      rw [cc] at hQ
      have y := cd_nc hTb cc
      simp (config := { decide := true }) (disch := (first | assumption | omega | (simp (config := { decide := true }) only [r2, r3, b1, jK_wI, jK_wJ, jK_wR, jK_wr, jR_wr, jR_wI, jR_wJ, jK_wj, jR_wj, stI_wr, cmI_wr, stI_wj, cmI_wj]; done) | (simp only [r2, r3, b1, jK_wI, jK_wJ, jK_wR, jK_wr, jR_wr, jR_wI, jR_wJ, jK_wj, jR_wj, stI_wr, cmI_wr, stI_wj, cmI_wj]; refine jinb_nI ?_ ?_ <;> omega) | (refine jinb_nI ?_ ?_ <;> omega) | (simp only [stI_wr, cmI_wr, stI_wj, cmI_wj]; assumption))) only [s79_17, s79_18, s79_19, s79_21, s79_30, s79_30N, s79_31, s79_32, if_pos y, va_rf_some, va_rf_none, jK_wI, jR_wI, jJ_wI, jK_wJ, jR_wJ, jI_wJ, jK_wR, jI_wR, jJ_wR, jK_wr, jR_wr, jJ_wr, jcl1_i, jcl1_r, jcl1_z, jcl1_n, jcl1_l, jwI_row, jwr_jwr, jwr_cm, jwr_cc, upd_upd, jI_wr_s, jI_wr_a, jI_wr_b, jI_wr_c, mInv_wr, upd_s, upd_n, Option.toList, List.cons_append, List.nil_append, true_or, or_true, eq_self, and_self, ite_true, ite_false, if_true, if_false, jK_wj, jR_wj, jI_wj, jwJ_row, jwj_jwj, jJ_wj_s, jJ_wj_n, jI_wr_n, jinb_nI, nI_clamp, tc0, tc1, tc2, tc3, tc4, tc5, tc6, tc7, tc8, tc9, tc10, tc11, tc12, tc13, tc14, tc15, tc16, tc17, tc18, tc19, tc20, tc21, tc22, tc23, tc24, tc25, tc26, tc27, tc28, tc29, tc30, tc31, tc32, tc33, tc34, tc35, tc36, tc37, tc38, tc39, tc40, tc41, tc42, tc43, tc44, tc45, tc46, tc47, tc48, tc49, tc50, tc51, tc52, tc53, tc54, tc55, tc56, tc57, tc58, tc59, tc60, tc61, tc62, tc63, tc64, tc65, tc66, tc67, tc68, tc69, tc77, tc83, tc119, tc159, tc160, nI_add, al0, ar0, ml0, mr0, al1, ar1, ml1, mr1, al2, ar2, ml2, mr2, al3, ar3, ml3, mr3, al4, ar4, ml4, mr4, al5, ar5, ml5, mr5, al6, ar6, ml6, mr6, al8, ar8, ml8, mr8, al10, ar10, ml10, mr10, al11, ar11, ml11, mr11, al12, ar12, ml12, mr12, al13, ar13, ml13, mr13, al16, ar16, ml16, mr16, al20, ar20, ml20, mr20, al24, ar24, ml24, mr24, al29, ar29, ml29, mr29, al36, ar36, ml36, mr36, al42, ar42, ml42, mr42, al48, ar48, ml48, mr48, al55, ar55, ml55, mr55, al60, ar60, ml60, mr60, al65, ar65, ml65, mr65, al77, ar77, ml77, mr77, al83, ar83, ml83, mr83, al119, ar119, ml119, mr119, al159, ar159, ml159, mr159, al160, ar160, ml160, mr160, al400, ar400, ml400, mr400, r2, r3, b1]
      have k3 := k2 0
      rw [nI_0] at k3
      rw [k3]
      simp only [Option.toList, List.cons_append, List.nil_append]
      rw [s79_35 (Or.inl rfl)]
      obtain ⟨u1, u2, u3⟩ := rflt (k := 0) (q := skp T L qp) X2 ht f1 (cdI_s g3) g1
      exact hQ _ u1 u2 u3
    | some x =>
      rw [cc] at hQ
      obtain ⟨v, e1, e2, e3, e4, e5, e6⟩ := cd_c cc
      replace hQ : rO Q r t T L h (if qm = 60 then .error (fW 0 3 (skp T L qp)) else match aSum T L (skp T L qp + 1 + (if aAl T L (skp T L qp) x then 1 else 0)) (qm + 1) qc with
        | .error w => .error w
        | .ok r2 => .ok (r2.1, r2.2.1, r2.2.2 ++ [6 + aSg x (aAl T L (skp T L qp) x) + 16 * 0])) := hQ
      have y1 : ¬ nI v < 17 := nI_nlt (b := 17) e3 (by omega)
      have y2 : nI v ≤ 21 := nI_le (b := 21) e4 (by omega)
      rw [e5] at f3
      rw [e1]
      generalize hj : skp T L qp + 1 + (if aAl T L (skp T L qp) x then 1 else 0) = j at *
      have hjp : qp < j := by rw [← hj]; split <;> omega
      by_cases e60 : qm = 60
      · rw [if_pos e60] at hQ
        have z : ¬ nI qm < 60 := nI_nlt (b := 60) (by omega) (by omega)
        simp (config := { decide := true }) (disch := (first | assumption | omega | (simp (config := { decide := true }) only [r2, r3, b1, jK_wI, jK_wJ, jK_wR, jK_wr, jR_wr, jR_wI, jR_wJ, jK_wj, jR_wj, stI_wr, cmI_wr, stI_wj, cmI_wj]; done) | (simp only [r2, r3, b1, jK_wI, jK_wJ, jK_wR, jK_wr, jR_wr, jR_wI, jR_wJ, jK_wj, jR_wj, stI_wr, cmI_wr, stI_wj, cmI_wj]; refine jinb_nI ?_ ?_ <;> omega) | (refine jinb_nI ?_ ?_ <;> omega) | (simp only [stI_wr, cmI_wr, stI_wj, cmI_wj]; assumption))) only [s79_17, s79_18, s79_19, s79_21, s79_24, s79_25, s79_27, s79_36, s79_37, s79_40, s79_42, s79_45, s79_45N, s79_46, s79_47, c2, if_neg y1, if_pos y2, if_neg z, va_rf_some, va_rf_none, jK_wI, jR_wI, jJ_wI, jK_wJ, jR_wJ, jI_wJ, jK_wR, jI_wR, jJ_wR, jK_wr, jR_wr, jJ_wr, jcl1_i, jcl1_r, jcl1_z, jcl1_n, jcl1_l, jwI_row, jwr_jwr, jwr_cm, jwr_cc, upd_upd, jI_wr_s, jI_wr_a, jI_wr_b, jI_wr_c, mInv_wr, upd_s, upd_n, Option.toList, List.cons_append, List.nil_append, true_or, or_true, eq_self, and_self, ite_true, ite_false, if_true, if_false, jK_wj, jR_wj, jI_wj, jwJ_row, jwj_jwj, jJ_wj_s, jJ_wj_n, jI_wr_n, jinb_nI, nI_clamp, tc0, tc1, tc2, tc3, tc4, tc5, tc6, tc7, tc8, tc9, tc10, tc11, tc12, tc13, tc14, tc15, tc16, tc17, tc18, tc19, tc20, tc21, tc22, tc23, tc24, tc25, tc26, tc27, tc28, tc29, tc30, tc31, tc32, tc33, tc34, tc35, tc36, tc37, tc38, tc39, tc40, tc41, tc42, tc43, tc44, tc45, tc46, tc47, tc48, tc49, tc50, tc51, tc52, tc53, tc54, tc55, tc56, tc57, tc58, tc59, tc60, tc61, tc62, tc63, tc64, tc65, tc66, tc67, tc68, tc69, tc77, tc83, tc119, tc159, tc160, nI_add, al0, ar0, ml0, mr0, al1, ar1, ml1, mr1, al2, ar2, ml2, mr2, al3, ar3, ml3, mr3, al4, ar4, ml4, mr4, al5, ar5, ml5, mr5, al6, ar6, ml6, mr6, al8, ar8, ml8, mr8, al10, ar10, ml10, mr10, al11, ar11, ml11, mr11, al12, ar12, ml12, mr12, al13, ar13, ml13, mr13, al16, ar16, ml16, mr16, al20, ar20, ml20, mr20, al24, ar24, ml24, mr24, al29, ar29, ml29, mr29, al36, ar36, ml36, mr36, al42, ar42, ml42, mr42, al48, ar48, ml48, mr48, al55, ar55, ml55, mr55, al60, ar60, ml60, mr60, al65, ar65, ml65, mr65, al77, ar77, ml77, mr77, al83, ar83, ml83, mr83, al119, ar119, ml119, mr119, al159, ar159, ml159, mr159, al160, ar160, ml160, mr160, al400, ar400, ml400, mr400, r2, r3, b1]
        have k3 := k2 3
        rw [show nI 3 = (3 : Int32) from rfl] at k3
        rw [k3]
        simp only [Option.toList, List.cons_append, List.nil_append]
        rw [s79_50 (Or.inl rfl)]
        obtain ⟨u1, u2, u3⟩ := rflt (k := 3) (q := skp T L qp) X2 ht f1 (cdI_s g3) g1
        exact hQ _ u1 u2 u3
      · rw [if_neg e60] at hQ
        have z : nI qm < 60 := nI_lt (b := 60) (by omega) (by omega)
        simp (config := { decide := true }) (disch := (first | assumption | omega | (simp (config := { decide := true }) only [r2, r3, b1, jK_wI, jK_wJ, jK_wR, jK_wr, jR_wr, jR_wI, jR_wJ, jK_wj, jR_wj, stI_wr, cmI_wr, stI_wj, cmI_wj]; done) | (simp only [r2, r3, b1, jK_wI, jK_wJ, jK_wR, jK_wr, jR_wr, jR_wI, jR_wJ, jK_wj, jR_wj, stI_wr, cmI_wr, stI_wj, cmI_wj]; refine jinb_nI ?_ ?_ <;> omega) | (refine jinb_nI ?_ ?_ <;> omega) | (simp only [stI_wr, cmI_wr, stI_wj, cmI_wj]; assumption))) only [s79_17, s79_18, s79_19, s79_21, s79_24, s79_25, s79_27, s79_36, s79_37, s79_40, s79_42, s79_51, s79_52, s79_53, s79_56, s79_57, s79_58, s79_61, s79_61N, s79_62, c2, if_neg y1, if_pos y2, if_pos z, va_rf_some, va_rf_none, jK_wI, jR_wI, jJ_wI, jK_wJ, jR_wJ, jI_wJ, jK_wR, jI_wR, jJ_wR, jK_wr, jR_wr, jJ_wr, jcl1_i, jcl1_r, jcl1_z, jcl1_n, jcl1_l, jwI_row, jwr_jwr, jwr_cm, jwr_cc, upd_upd, jI_wr_s, jI_wr_a, jI_wr_b, jI_wr_c, mInv_wr, upd_s, upd_n, Option.toList, List.cons_append, List.nil_append, true_or, or_true, eq_self, and_self, ite_true, ite_false, if_true, if_false, jK_wj, jR_wj, jI_wj, jwJ_row, jwj_jwj, jJ_wj_s, jJ_wj_n, jI_wr_n, jinb_nI, nI_clamp, tc0, tc1, tc2, tc3, tc4, tc5, tc6, tc7, tc8, tc9, tc10, tc11, tc12, tc13, tc14, tc15, tc16, tc17, tc18, tc19, tc20, tc21, tc22, tc23, tc24, tc25, tc26, tc27, tc28, tc29, tc30, tc31, tc32, tc33, tc34, tc35, tc36, tc37, tc38, tc39, tc40, tc41, tc42, tc43, tc44, tc45, tc46, tc47, tc48, tc49, tc50, tc51, tc52, tc53, tc54, tc55, tc56, tc57, tc58, tc59, tc60, tc61, tc62, tc63, tc64, tc65, tc66, tc67, tc68, tc69, tc77, tc83, tc119, tc159, tc160, nI_add, al0, ar0, ml0, mr0, al1, ar1, ml1, mr1, al2, ar2, ml2, mr2, al3, ar3, ml3, mr3, al4, ar4, ml4, mr4, al5, ar5, ml5, mr5, al6, ar6, ml6, mr6, al8, ar8, ml8, mr8, al10, ar10, ml10, mr10, al11, ar11, ml11, mr11, al12, ar12, ml12, mr12, al13, ar13, ml13, mr13, al16, ar16, ml16, mr16, al20, ar20, ml20, mr20, al24, ar24, ml24, mr24, al29, ar29, ml29, mr29, al36, ar36, ml36, mr36, al42, ar42, ml42, mr42, al48, ar48, ml48, mr48, al55, ar55, ml55, mr55, al60, ar60, ml60, mr60, al65, ar65, ml65, mr65, al77, ar77, ml77, mr77, al83, ar83, ml83, mr83, al119, ar119, ml119, mr119, al159, ar159, ml159, mr159, al160, ar160, ml160, mr160, al400, ar400, ml400, mr400, r2, r3, b1]
        have G1 : rfr r t h (jwr h' r (upd (jI h' r) 2 (nI (qm + 1)))) := rfr_r (by rw [upd_n (by omega)]) g1
        have C1 : cdI (jwr h' r (upd (jI h' r) 2 (nI (qm + 1)))) r (qm + 1) qc := by
          refine ⟨?_, ?_, c3, fun j hj => ?_⟩
          · rw [jI_wr_s, upd_n (by omega)]; exact c1
          · rw [jI_wr_s, upd_s]
          · rw [jI_wr_n (by omega)]; exact c4 j hj
        refine k99 (rfr_tp G1 ht X) (by rw [jI_wr_n (by omega)]; exact f1) (by rw [jI_wr_n (by omega)]; exact f3) e6 (fun F2 u2 u6 => ?_)
        simp only [Option.toList, List.nil_append]
        have := l79 (d := d) (sg := 6 + aSg x (aAl T L (skp T L qp) x) + 16 * 0) R X Y ht hv (rfr_t (f := F2) (by omega) G1) e6 (by rw [jI_wr_s]; exact u2) (cdI_t ht C1) (by omega) (by omega) hQ
        rw [← e2] at this
        exact this
end
