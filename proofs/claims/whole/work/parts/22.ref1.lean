/-! THE REFERENCE: counting bits, calm, what comes off -/
/-- how many bits, by the reference's own loop -/
def mbF : Nat → Int32 → Int32 → Int32
  | 0, _, n => n
  | f + 1, s, n => if s = 0 then n else mbF f (s &&& (s - 1)) (n + 1)
def mbE : Nat → Int32 → Bool
  | 0, s => decide (s = 0)
  | f + 1, s => decide (s = 0) || mbE f (s &&& (s - 1))
def mbN (n : Nat) : Nat := (if n.testBit 0 then 1 else 0) + (if n.testBit 1 then 1 else 0) + (if n.testBit 2 then 1 else 0) + (if n.testBit 3 then 1 else 0) + (if n.testBit 4 then 1 else 0) + (if n.testBit 5 then 1 else 0)
theorem mb_all : ∀ n, n < 64 → mbE 6 (nI n) = true ∧ mbF 6 (nI n) 0 = nI (mbN n) := by decide +kernel
theorem mbN_le : ∀ n, n < 64 → mbN n ≤ 6 := by decide +kernel
section
variable {h : jH} {m : Nat} {d : Nat} {Q : Option Value → jH → Prop}
theorem l203 : ∀ (f : Nat) (s n : Int32) (x : Option Value), mbE f s = true → (jW d 203 4 [jcl1 x, some (.int n), some (.int s)] [] h Q ↔ Q (some (.int (mbF f s n))) h) := by
  intro f
  induction f with
  | zero =>
    intro s n x hs
    have hs : s = 0 := of_decide_eq_true hs
    rw [s203_4, s203_5, if_pos hs, s203_20, s203_21, mbF]
  | succ f ih =>
    intro s n x hs
    by_cases h0 : s = 0
    · rw [s203_4, s203_5, if_pos h0, s203_20, s203_21, mbF, if_pos h0]
    · have hs : mbE f (s &&& (s - 1)) = true := by
        simp only [mbE, Bool.or_eq_true, decide_eq_true_eq] at hs
        exact hs.resolve_left h0
      rw [s203_4, s203_5, if_neg h0]
      have hx : jcl1 (jcl1 x) = jcl1 x := by cases x with
        | none => rfl
        | some v => cases v <;> rfl
      simp only [s203_8, s203_11, s203_12, s203_13, s203_14, s203_15, s203_16, s203_17, hx, va_rf_some, va_rf_none, jK_wI, jR_wI, jJ_wI, jK_wJ, jR_wJ, jI_wJ, jK_wR, jI_wR, jJ_wR, jK_wr, jR_wr, jJ_wr, jcl1_i, jcl1_r, jcl1_z, jcl1_n, jcl1_l, jwI_row, jwr_jwr, jwr_cm, jwr_cc, upd_upd, jI_wr_s, jI_wr_a, jI_wr_b, jI_wr_c, mInv_wr, upd_s, upd_n, Option.toList, List.cons_append, List.nil_append, true_or, or_true, eq_self, and_self, ite_true, ite_false, if_true, if_false]
      rw [ih _ _ x hs]
      rw [mbF, if_neg h0]
/-- bits -/
theorem c203 {n : Nat} (hn : n < 64) : jC (d + 1) 203 [.int (nI n)] h Q ↔ Q (some (.int (nI (mbN n)))) h := by
  rw [e203]
  obtain ⟨h1, h2⟩ := mb_all n hn
  simp only [s203_0, s203_1, s203_2, s203_3, s203_5, s203_8, s203_11, s203_12, s203_13, s203_14, s203_15, s203_16, s203_17, s203_20, s203_21, va_rf_some, va_rf_none, jK_wI, jR_wI, jJ_wI, jK_wJ, jR_wJ, jI_wJ, jK_wR, jI_wR, jJ_wR, jK_wr, jR_wr, jJ_wr, jcl1_i, jcl1_r, jcl1_z, jcl1_n, jcl1_l, jwI_row, jwr_jwr, jwr_cm, jwr_cc, upd_upd, jI_wr_s, jI_wr_a, jI_wr_b, jI_wr_c, mInv_wr, upd_s, upd_n, Option.toList, List.cons_append, List.nil_append, true_or, or_true, eq_self, and_self, ite_true, ite_false, if_true, if_false]
  have := l203 (d := d) (h := h) (Q := Q) 6 (nI n) 0 (some (.int (nI n))) h1
  rw [h2] at this
  exact this
/-- isScout -/
theorem c185 (H : mInv h m) {s : Int32} : jC (d + 1) 185 [.ref m, .int s] h Q ↔ Q (some (.int (if s < 0 then 0 else if jI h (m + 10) 5 ≤ s then 0 else 1))) h := by
  rw [e185]
  have hm : jK h m = (32, 43) := H.1
  obtain ⟨r0, k0⟩ := H.at 9 rfl
  simp (config := { decide := true }) (disch := (first | assumption | omega | (simp (config := { decide := true }) only [hm, r0, k0, jK_wI, jK_wJ, jK_wR, jK_wr, jR_wr, jR_wI, jR_wJ]; done) | (simp only [hm, r0, k0, jK_wI, jK_wJ, jK_wR, jK_wr, jR_wr, jR_wI, jR_wJ]; refine jinb_nI ?_ ?_ <;> omega) | (refine jinb_nI ?_ ?_ <;> omega))) only [s185_0, s185_1, s185_4, s185_5, s185_6, s185_9, s185_10, s185_11, s185_14, s185_15, s185_18, s185_19, va_rf_some, va_rf_none, jK_wI, jR_wI, jJ_wI, jK_wJ, jR_wJ, jI_wJ, jK_wR, jI_wR, jJ_wR, jK_wr, jR_wr, jJ_wr, jcl1_i, jcl1_r, jcl1_z, jcl1_n, jcl1_l, jwI_row, jwr_jwr, jwr_cm, jwr_cc, upd_upd, jI_wr_s, jI_wr_a, jI_wr_b, jI_wr_c, mInv_wr, upd_s, upd_n, Option.toList, List.cons_append, List.nil_append, true_or, or_true, eq_self, and_self, ite_true, ite_false, if_true, if_false, jinb_nI, nI_clamp, tc0, tc1, tc2, tc3, tc4, tc5, tc6, tc7, tc8, tc9, tc10, tc11, tc12, tc13, tc14, tc15, tc16, tc17, tc18, tc19, tc20, tc21, tc22, tc23, tc24, tc25, tc26, tc27, tc28, tc29, tc30, tc31, tc32, tc33, tc34, tc35, tc36, tc37, tc38, tc39, tc40, tc41, tc42, tc43, tc44, tc45, tc46, tc47, tc48, tc49, tc50, tc51, tc52, tc53, tc54, tc55, tc56, tc57, tc58, tc59, tc60, tc61, tc62, tc63, tc64, tc65, tc66, tc67, tc68, tc69, tc77, tc83, tc119, tc159, tc160, nI_add, al0, ar0, ml0, mr0, al1, ar1, ml1, mr1, al2, ar2, ml2, mr2, al3, ar3, ml3, mr3, al4, ar4, ml4, mr4, al5, ar5, ml5, mr5, al6, ar6, ml6, mr6, al8, ar8, ml8, mr8, al10, ar10, ml10, mr10, al11, ar11, ml11, mr11, al12, ar12, ml12, mr12, al13, ar13, ml13, mr13, al16, ar16, ml16, mr16, al20, ar20, ml20, mr20, al24, ar24, ml24, mr24, al29, ar29, ml29, mr29, al36, ar36, ml36, mr36, al42, ar42, ml42, mr42, al48, ar48, ml48, mr48, al55, ar55, ml55, mr55, al60, ar60, ml60, mr60, al65, ar65, ml65, mr65, al77, ar77, ml77, mr77, al83, ar83, ml83, mr83, al119, ar119, ml119, mr119, al159, ar159, ml159, mr159, al160, ar160, ml160, mr160, al400, ar400, ml400, mr400, hm, r0, k0]
  by_cases h1 : s < 0
  · simp only [if_pos h1]
  · simp only [if_neg h1]
    by_cases hc : jI h (m + 10) 5 ≤ s <;> simp (config := { decide := true }) only [hc, ite_true, ite_false, if_true, if_false]
/-- isKind -/
theorem c193 (H : mInv h m) {s : Int32} : jC (d + 1) 193 [.ref m, .int s] h Q ↔ Q (some (.int (if s < 0 then 0 else if jI h (m + 10) 4 ≤ s then 0 else 1))) h := by
  rw [e193]
  have hm : jK h m = (32, 43) := H.1
  obtain ⟨r0, k0⟩ := H.at 9 rfl
  simp (config := { decide := true }) (disch := (first | assumption | omega | (simp (config := { decide := true }) only [hm, r0, k0, jK_wI, jK_wJ, jK_wR, jK_wr, jR_wr, jR_wI, jR_wJ]; done) | (simp only [hm, r0, k0, jK_wI, jK_wJ, jK_wR, jK_wr, jR_wr, jR_wI, jR_wJ]; refine jinb_nI ?_ ?_ <;> omega) | (refine jinb_nI ?_ ?_ <;> omega))) only [s193_0, s193_1, s193_4, s193_5, s193_6, s193_9, s193_10, s193_11, s193_14, s193_15, s193_18, s193_19, va_rf_some, va_rf_none, jK_wI, jR_wI, jJ_wI, jK_wJ, jR_wJ, jI_wJ, jK_wR, jI_wR, jJ_wR, jK_wr, jR_wr, jJ_wr, jcl1_i, jcl1_r, jcl1_z, jcl1_n, jcl1_l, jwI_row, jwr_jwr, jwr_cm, jwr_cc, upd_upd, jI_wr_s, jI_wr_a, jI_wr_b, jI_wr_c, mInv_wr, upd_s, upd_n, Option.toList, List.cons_append, List.nil_append, true_or, or_true, eq_self, and_self, ite_true, ite_false, if_true, if_false, jinb_nI, nI_clamp, tc0, tc1, tc2, tc3, tc4, tc5, tc6, tc7, tc8, tc9, tc10, tc11, tc12, tc13, tc14, tc15, tc16, tc17, tc18, tc19, tc20, tc21, tc22, tc23, tc24, tc25, tc26, tc27, tc28, tc29, tc30, tc31, tc32, tc33, tc34, tc35, tc36, tc37, tc38, tc39, tc40, tc41, tc42, tc43, tc44, tc45, tc46, tc47, tc48, tc49, tc50, tc51, tc52, tc53, tc54, tc55, tc56, tc57, tc58, tc59, tc60, tc61, tc62, tc63, tc64, tc65, tc66, tc67, tc68, tc69, tc77, tc83, tc119, tc159, tc160, nI_add, al0, ar0, ml0, mr0, al1, ar1, ml1, mr1, al2, ar2, ml2, mr2, al3, ar3, ml3, mr3, al4, ar4, ml4, mr4, al5, ar5, ml5, mr5, al6, ar6, ml6, mr6, al8, ar8, ml8, mr8, al10, ar10, ml10, mr10, al11, ar11, ml11, mr11, al12, ar12, ml12, mr12, al13, ar13, ml13, mr13, al16, ar16, ml16, mr16, al20, ar20, ml20, mr20, al24, ar24, ml24, mr24, al29, ar29, ml29, mr29, al36, ar36, ml36, mr36, al42, ar42, ml42, mr42, al48, ar48, ml48, mr48, al55, ar55, ml55, mr55, al60, ar60, ml60, mr60, al65, ar65, ml65, mr65, al77, ar77, ml77, mr77, al83, ar83, ml83, mr83, al119, ar119, ml119, mr119, al159, ar159, ml159, mr159, al160, ar160, ml160, mr160, al400, ar400, ml400, mr400, hm, r0, k0]
  by_cases h1 : s < 0
  · simp only [if_pos h1]
  · simp only [if_neg h1]
    by_cases hc : jI h (m + 10) 4 ≤ s <;> simp (config := { decide := true }) only [hc, ite_true, ite_false, if_true, if_false]
/-- what is said is in its bounds -/
def sC (S : Nat → Int32) : Nat := (S 3).toNatClampNeg
def sK (S : Nat → Int32) : Nat := (S 4).toNatClampNeg
def sN (S : Nat → Int32) : Nat := (S 5).toNatClampNeg
def sD (S : Nat → Int32) : Nat := (S 10).toNatClampNeg
def mW (S : Nat → Int32) : Prop := (S 3 = nI (sC S) ∧ sC S ≤ 12) ∧ (S 4 = nI (sK S) ∧ sK S ≤ 6) ∧ (S 5 = nI (sN S) ∧ sN S ≤ 6) ∧ (S 10 = nI (sD S) ∧ sD S ≤ 3000)
def calmS (S : Nat → Int32) (D : Nat) : Int32 := if sC S = 0 then S 2 else S (65 + D % sC S)
/-- calmOn -/
theorem c188 (H : mInv h m) (W : mW (jI h (m + 10))) {D : Nat} (hD : D < 10000) : jC (d + 1) 188 [.ref m, .int (nI D)] h Q ↔ Q (some (.int (calmS (jI h (m + 10)) D))) h := by
  rw [e188]
  have hm : jK h m = (32, 43) := H.1
  obtain ⟨r0, k0⟩ := H.at 9 rfl
  obtain ⟨⟨hC, hC2⟩, -⟩ := W
  unfold calmS
  by_cases h0 : sC (jI h (m + 10)) = 0
  · have h1 : jI h (m + 10) 3 = 0 := by rw [hC, h0]; rfl
    simp (config := { decide := true }) (disch := (first | assumption | omega | (simp (config := { decide := true }) only [hm, r0, k0, h1, jK_wI, jK_wJ, jK_wR, jK_wr, jR_wr, jR_wI, jR_wJ]; done) | (simp only [hm, r0, k0, h1, jK_wI, jK_wJ, jK_wR, jK_wr, jR_wr, jR_wI, jR_wJ]; refine jinb_nI ?_ ?_ <;> omega) | (refine jinb_nI ?_ ?_ <;> omega))) only [s188_0, s188_1, s188_4, s188_5, s188_6, s188_9, s188_10, s188_13, s188_14, s188_15, s188_18, s188_19, s188_22, s188_24, s188_25, s188_26, s188_29, s188_30, s188_31, s188_32, s188_33, s188_34, if_pos h0, va_rf_some, va_rf_none, jK_wI, jR_wI, jJ_wI, jK_wJ, jR_wJ, jI_wJ, jK_wR, jI_wR, jJ_wR, jK_wr, jR_wr, jJ_wr, jcl1_i, jcl1_r, jcl1_z, jcl1_n, jcl1_l, jwI_row, jwr_jwr, jwr_cm, jwr_cc, upd_upd, jI_wr_s, jI_wr_a, jI_wr_b, jI_wr_c, mInv_wr, upd_s, upd_n, Option.toList, List.cons_append, List.nil_append, true_or, or_true, eq_self, and_self, ite_true, ite_false, if_true, if_false, jinb_nI, nI_clamp, tc0, tc1, tc2, tc3, tc4, tc5, tc6, tc7, tc8, tc9, tc10, tc11, tc12, tc13, tc14, tc15, tc16, tc17, tc18, tc19, tc20, tc21, tc22, tc23, tc24, tc25, tc26, tc27, tc28, tc29, tc30, tc31, tc32, tc33, tc34, tc35, tc36, tc37, tc38, tc39, tc40, tc41, tc42, tc43, tc44, tc45, tc46, tc47, tc48, tc49, tc50, tc51, tc52, tc53, tc54, tc55, tc56, tc57, tc58, tc59, tc60, tc61, tc62, tc63, tc64, tc65, tc66, tc67, tc68, tc69, tc77, tc83, tc119, tc159, tc160, nI_add, al0, ar0, ml0, mr0, al1, ar1, ml1, mr1, al2, ar2, ml2, mr2, al3, ar3, ml3, mr3, al4, ar4, ml4, mr4, al5, ar5, ml5, mr5, al6, ar6, ml6, mr6, al8, ar8, ml8, mr8, al10, ar10, ml10, mr10, al11, ar11, ml11, mr11, al12, ar12, ml12, mr12, al13, ar13, ml13, mr13, al16, ar16, ml16, mr16, al20, ar20, ml20, mr20, al24, ar24, ml24, mr24, al29, ar29, ml29, mr29, al36, ar36, ml36, mr36, al42, ar42, ml42, mr42, al48, ar48, ml48, mr48, al55, ar55, ml55, mr55, al60, ar60, ml60, mr60, al65, ar65, ml65, mr65, al77, ar77, ml77, mr77, al83, ar83, ml83, mr83, al119, ar119, ml119, mr119, al159, ar159, ml159, mr159, al160, ar160, ml160, mr160, al400, ar400, ml400, mr400, hm, r0, k0, h1]
  · have h1 : ¬ nI (sC (jI h (m + 10))) = 0 := nI_ne0 (by omega) (by omega)
    have h2 : nI D - nI D / nI (sC (jI h (m + 10))) * nI (sC (jI h (m + 10))) = nI (D % sC (jI h (m + 10))) := pk_rem (by omega) (by omega) (by omega)
    have h3 : D % sC (jI h (m + 10)) < 12 := Nat.lt_of_lt_of_le (Nat.mod_lt _ (by omega)) hC2
    rw [if_neg h0]
    generalize sC (jI h (m + 10)) = C at *
    simp (config := { decide := true }) (disch := (first | assumption | omega | (simp (config := { decide := true }) only [hm, r0, k0, hC, h1, h2, jK_wI, jK_wJ, jK_wR, jK_wr, jR_wr, jR_wI, jR_wJ]; done) | (simp only [hm, r0, k0, hC, h1, h2, jK_wI, jK_wJ, jK_wR, jK_wr, jR_wr, jR_wI, jR_wJ]; refine jinb_nI ?_ ?_ <;> omega) | (refine jinb_nI ?_ ?_ <;> omega))) only [s188_0, s188_1, s188_4, s188_5, s188_6, s188_9, s188_10, s188_13, s188_14, s188_15, s188_18, s188_19, s188_22, s188_24, s188_25, s188_26, s188_29, s188_30, s188_31, s188_32, s188_33, s188_34, va_rf_some, va_rf_none, jK_wI, jR_wI, jJ_wI, jK_wJ, jR_wJ, jI_wJ, jK_wR, jI_wR, jJ_wR, jK_wr, jR_wr, jJ_wr, jcl1_i, jcl1_r, jcl1_z, jcl1_n, jcl1_l, jwI_row, jwr_jwr, jwr_cm, jwr_cc, upd_upd, jI_wr_s, jI_wr_a, jI_wr_b, jI_wr_c, mInv_wr, upd_s, upd_n, Option.toList, List.cons_append, List.nil_append, true_or, or_true, eq_self, and_self, ite_true, ite_false, if_true, if_false, jinb_nI, nI_clamp, tc0, tc1, tc2, tc3, tc4, tc5, tc6, tc7, tc8, tc9, tc10, tc11, tc12, tc13, tc14, tc15, tc16, tc17, tc18, tc19, tc20, tc21, tc22, tc23, tc24, tc25, tc26, tc27, tc28, tc29, tc30, tc31, tc32, tc33, tc34, tc35, tc36, tc37, tc38, tc39, tc40, tc41, tc42, tc43, tc44, tc45, tc46, tc47, tc48, tc49, tc50, tc51, tc52, tc53, tc54, tc55, tc56, tc57, tc58, tc59, tc60, tc61, tc62, tc63, tc64, tc65, tc66, tc67, tc68, tc69, tc77, tc83, tc119, tc159, tc160, nI_add, al0, ar0, ml0, mr0, al1, ar1, ml1, mr1, al2, ar2, ml2, mr2, al3, ar3, ml3, mr3, al4, ar4, ml4, mr4, al5, ar5, ml5, mr5, al6, ar6, ml6, mr6, al8, ar8, ml8, mr8, al10, ar10, ml10, mr10, al11, ar11, ml11, mr11, al12, ar12, ml12, mr12, al13, ar13, ml13, mr13, al16, ar16, ml16, mr16, al20, ar20, ml20, mr20, al24, ar24, ml24, mr24, al29, ar29, ml29, mr29, al36, ar36, ml36, mr36, al42, ar42, ml42, mr42, al48, ar48, ml48, mr48, al55, ar55, ml55, mr55, al60, ar60, ml60, mr60, al65, ar65, ml65, mr65, al77, ar77, ml77, mr77, al83, ar83, ml83, mr83, al119, ar119, ml119, mr119, al159, ar159, ml159, mr159, al160, ar160, ml160, mr160, al400, ar400, ml400, mr400, hm, r0, k0, hC, h1, h2]
/-- comesOff -/
theorem c189 (H : mInv h m) {s k : Nat} {c : Int32} (hs : s < 6) (hk : k < 6) : jC (d + 2) 189 [.ref m, .int (nI s), .int (nI k), .int c] h Q ↔ Q (some (.int (if jI h (m + 10) (29 + 6 * s + k) + c < jI h (m + 10) (77 + k) then 0 else 1))) h := by
  rw [e189]
  have hm : jK h m = (32, 43) := H.1
  obtain ⟨r0, k0⟩ := H.at 9 rfl
  simp (config := { decide := true }) (disch := (first | assumption | omega | (simp (config := { decide := true }) only [hm, r0, k0, jK_wI, jK_wJ, jK_wR, jK_wr, jR_wr, jR_wI, jR_wJ]; done) | (simp only [hm, r0, k0, jK_wI, jK_wJ, jK_wR, jK_wr, jR_wr, jR_wI, jR_wJ]; refine jinb_nI ?_ ?_ <;> omega) | (refine jinb_nI ?_ ?_ <;> omega))) only [s189_0, s189_1, s189_2, s189_3, s189_6, s189_7, s189_8, s189_9, s189_12, s189_14, s189_15, s189_16, s189_17, s189_20, s189_21, s189_24, s189_25, c190, va_rf_some, va_rf_none, jK_wI, jR_wI, jJ_wI, jK_wJ, jR_wJ, jI_wJ, jK_wR, jI_wR, jJ_wR, jK_wr, jR_wr, jJ_wr, jcl1_i, jcl1_r, jcl1_z, jcl1_n, jcl1_l, jwI_row, jwr_jwr, jwr_cm, jwr_cc, upd_upd, jI_wr_s, jI_wr_a, jI_wr_b, jI_wr_c, mInv_wr, upd_s, upd_n, Option.toList, List.cons_append, List.nil_append, true_or, or_true, eq_self, and_self, ite_true, ite_false, if_true, if_false, jinb_nI, nI_clamp, tc0, tc1, tc2, tc3, tc4, tc5, tc6, tc7, tc8, tc9, tc10, tc11, tc12, tc13, tc14, tc15, tc16, tc17, tc18, tc19, tc20, tc21, tc22, tc23, tc24, tc25, tc26, tc27, tc28, tc29, tc30, tc31, tc32, tc33, tc34, tc35, tc36, tc37, tc38, tc39, tc40, tc41, tc42, tc43, tc44, tc45, tc46, tc47, tc48, tc49, tc50, tc51, tc52, tc53, tc54, tc55, tc56, tc57, tc58, tc59, tc60, tc61, tc62, tc63, tc64, tc65, tc66, tc67, tc68, tc69, tc77, tc83, tc119, tc159, tc160, nI_add, al0, ar0, ml0, mr0, al1, ar1, ml1, mr1, al2, ar2, ml2, mr2, al3, ar3, ml3, mr3, al4, ar4, ml4, mr4, al5, ar5, ml5, mr5, al6, ar6, ml6, mr6, al8, ar8, ml8, mr8, al10, ar10, ml10, mr10, al11, ar11, ml11, mr11, al12, ar12, ml12, mr12, al13, ar13, ml13, mr13, al16, ar16, ml16, mr16, al20, ar20, ml20, mr20, al24, ar24, ml24, mr24, al29, ar29, ml29, mr29, al36, ar36, ml36, mr36, al42, ar42, ml42, mr42, al48, ar48, ml48, mr48, al55, ar55, ml55, mr55, al60, ar60, ml60, mr60, al65, ar65, ml65, mr65, al77, ar77, ml77, mr77, al83, ar83, ml83, mr83, al119, ar119, ml119, mr119, al159, ar159, ml159, mr159, al160, ar160, ml160, mr160, al400, ar400, ml400, mr400, hm, r0, k0]
  by_cases hc : jI h (m + 10) (29 + 6 * s + k) + c < jI h (m + 10) (77 + k) <;> simp (config := { decide := true }) only [hc, ite_true, ite_false, if_true, if_false]
def mcalm (dr : Int32) (S : Nat → Int32) : Int32 := if dr < 0 then calmS S (sD S) else dr
/-- calmNow -/
theorem c187 (H : mInv h m) (W : mW (jI h (m + 10))) : jC (d + 2) 187 [.ref m] h Q ↔ Q (some (.int (mcalm (jI h m 23) (jI h (m + 10))))) h := by
  rw [e187]
  have hm : jK h m = (32, 43) := H.1
  obtain ⟨r0, k0⟩ := H.at 9 rfl
  obtain ⟨hD, hD2⟩ := W.2.2.2
  unfold mcalm
  have hc8 := @c188 h m (d := d) (D := sD (jI h (m + 10))) (H := H) (W := W) (hD := by omega)
  simp (config := { decide := true }) (disch := (first | assumption | omega | (simp (config := { decide := true }) only [hm, r0, k0, jK_wI, jK_wJ, jK_wR, jK_wr, jR_wr, jR_wI, jR_wJ]; done) | (simp only [hm, r0, k0, jK_wI, jK_wJ, jK_wR, jK_wr, jR_wr, jR_wI, jR_wJ]; refine jinb_nI ?_ ?_ <;> omega) | (refine jinb_nI ?_ ?_ <;> omega))) only [s187_0, s187_1, s187_4, s187_7, s187_8, s187_11, s187_14, s187_15, s187_16, s187_19, s187_21, s187_22, s187_25, hD, hc8, va_rf_some, va_rf_none, jK_wI, jR_wI, jJ_wI, jK_wJ, jR_wJ, jI_wJ, jK_wR, jI_wR, jJ_wR, jK_wr, jR_wr, jJ_wr, jcl1_i, jcl1_r, jcl1_z, jcl1_n, jcl1_l, jwI_row, jwr_jwr, jwr_cm, jwr_cc, upd_upd, jI_wr_s, jI_wr_a, jI_wr_b, jI_wr_c, mInv_wr, upd_s, upd_n, Option.toList, List.cons_append, List.nil_append, true_or, or_true, eq_self, and_self, ite_true, ite_false, if_true, if_false, jinb_nI, nI_clamp, tc0, tc1, tc2, tc3, tc4, tc5, tc6, tc7, tc8, tc9, tc10, tc11, tc12, tc13, tc14, tc15, tc16, tc17, tc18, tc19, tc20, tc21, tc22, tc23, tc24, tc25, tc26, tc27, tc28, tc29, tc30, tc31, tc32, tc33, tc34, tc35, tc36, tc37, tc38, tc39, tc40, tc41, tc42, tc43, tc44, tc45, tc46, tc47, tc48, tc49, tc50, tc51, tc52, tc53, tc54, tc55, tc56, tc57, tc58, tc59, tc60, tc61, tc62, tc63, tc64, tc65, tc66, tc67, tc68, tc69, tc77, tc83, tc119, tc159, tc160, nI_add, al0, ar0, ml0, mr0, al1, ar1, ml1, mr1, al2, ar2, ml2, mr2, al3, ar3, ml3, mr3, al4, ar4, ml4, mr4, al5, ar5, ml5, mr5, al6, ar6, ml6, mr6, al8, ar8, ml8, mr8, al10, ar10, ml10, mr10, al11, ar11, ml11, mr11, al12, ar12, ml12, mr12, al13, ar13, ml13, mr13, al16, ar16, ml16, mr16, al20, ar20, ml20, mr20, al24, ar24, ml24, mr24, al29, ar29, ml29, mr29, al36, ar36, ml36, mr36, al42, ar42, ml42, mr42, al48, ar48, ml48, mr48, al55, ar55, ml55, mr55, al60, ar60, ml60, mr60, al65, ar65, ml65, mr65, al77, ar77, ml77, mr77, al83, ar83, ml83, mr83, al119, ar119, ml119, mr119, al159, ar159, ml159, mr159, al160, ar160, ml160, mr160, al400, ar400, ml400, mr400, hm, r0, k0]
  by_cases hc : jI h m 23 < 0 <;> simp (config := { decide := true }) only [hc, ite_true, ite_false, if_true, if_false]
/-- what a scout can now -/
def mcan (S : Nat → Int32) (s : Nat) (c : Int32) : Nat → Int32
  | 0 => 0
  | k + 1 => mcan S s c k ||| (if S (29 + 6 * s + k) + c < S (77 + k) then 0 else (1 : Int32) <<< (nI k &&& 31))
theorem l186 (H : mInv h m) (W : mW (jI h (m + 10))) {s : Nat} (hs : s < 6) : ∀ (n k : Nat), k + n = sK (jI h (m + 10)) → (jW (d + 2) 186 4 [some (.ref m), some (.int (nI s)), some (.int (mcan (jI h (m + 10)) s (mcalm (jI h m 23) (jI h (m + 10))) k)), some (.int (nI k))] [] h Q ↔ Q (some (.int (mcan (jI h (m + 10)) s (mcalm (jI h m 23) (jI h (m + 10))) (sK (jI h (m + 10)))))) h) := by
  have hm : jK h m = (32, 43) := H.1
  obtain ⟨r0, k0⟩ := H.at 9 rfl
  obtain ⟨hK, hK2⟩ := W.2.1
  intro n
  induction n with
  | zero =>
    intro k hk
    have e : k = sK (jI h (m + 10)) := by omega
    have hle : nI (sK (jI h (m + 10))) ≤ nI k := nI_le (by omega) (by omega)
    simp (config := { decide := true }) (disch := (first | assumption | omega | (simp (config := { decide := true }) only [hm, r0, k0, jK_wI, jK_wJ, jK_wR, jK_wr, jR_wr, jR_wI, jR_wJ]; done) | (simp only [hm, r0, k0, jK_wI, jK_wJ, jK_wR, jK_wr, jR_wr, jR_wI, jR_wJ]; refine jinb_nI ?_ ?_ <;> omega) | (refine jinb_nI ?_ ?_ <;> omega))) only [s186_4, s186_5, s186_6, s186_9, s186_10, s186_11, s186_43, s186_44, hK, if_pos hle, va_rf_some, va_rf_none, jK_wI, jR_wI, jJ_wI, jK_wJ, jR_wJ, jI_wJ, jK_wR, jI_wR, jJ_wR, jK_wr, jR_wr, jJ_wr, jcl1_i, jcl1_r, jcl1_z, jcl1_n, jcl1_l, jwI_row, jwr_jwr, jwr_cm, jwr_cc, upd_upd, jI_wr_s, jI_wr_a, jI_wr_b, jI_wr_c, mInv_wr, upd_s, upd_n, Option.toList, List.cons_append, List.nil_append, true_or, or_true, eq_self, and_self, ite_true, ite_false, if_true, if_false, jinb_nI, nI_clamp, tc0, tc1, tc2, tc3, tc4, tc5, tc6, tc7, tc8, tc9, tc10, tc11, tc12, tc13, tc14, tc15, tc16, tc17, tc18, tc19, tc20, tc21, tc22, tc23, tc24, tc25, tc26, tc27, tc28, tc29, tc30, tc31, tc32, tc33, tc34, tc35, tc36, tc37, tc38, tc39, tc40, tc41, tc42, tc43, tc44, tc45, tc46, tc47, tc48, tc49, tc50, tc51, tc52, tc53, tc54, tc55, tc56, tc57, tc58, tc59, tc60, tc61, tc62, tc63, tc64, tc65, tc66, tc67, tc68, tc69, tc77, tc83, tc119, tc159, tc160, nI_add, al0, ar0, ml0, mr0, al1, ar1, ml1, mr1, al2, ar2, ml2, mr2, al3, ar3, ml3, mr3, al4, ar4, ml4, mr4, al5, ar5, ml5, mr5, al6, ar6, ml6, mr6, al8, ar8, ml8, mr8, al10, ar10, ml10, mr10, al11, ar11, ml11, mr11, al12, ar12, ml12, mr12, al13, ar13, ml13, mr13, al16, ar16, ml16, mr16, al20, ar20, ml20, mr20, al24, ar24, ml24, mr24, al29, ar29, ml29, mr29, al36, ar36, ml36, mr36, al42, ar42, ml42, mr42, al48, ar48, ml48, mr48, al55, ar55, ml55, mr55, al60, ar60, ml60, mr60, al65, ar65, ml65, mr65, al77, ar77, ml77, mr77, al83, ar83, ml83, mr83, al119, ar119, ml119, mr119, al159, ar159, ml159, mr159, al160, ar160, ml160, mr160, al400, ar400, ml400, mr400, hm, r0, k0]
    rw [e]
  | succ n ih =>
    intro k hk
    have hle : ¬ nI (sK (jI h (m + 10))) ≤ nI k := nI_ge (by omega) (by omega)
    simp (config := { decide := true }) (disch := (first | assumption | omega | (simp (config := { decide := true }) only [hm, r0, k0, jK_wI, jK_wJ, jK_wR, jK_wr, jR_wr, jR_wI, jR_wJ]; done) | (simp only [hm, r0, k0, jK_wI, jK_wJ, jK_wR, jK_wr, jR_wr, jR_wI, jR_wJ]; refine jinb_nI ?_ ?_ <;> omega) | (refine jinb_nI ?_ ?_ <;> omega))) only [s186_4, s186_5, s186_6, s186_9, s186_10, s186_11, hK, if_neg hle, va_rf_some, va_rf_none, jK_wI, jR_wI, jJ_wI, jK_wJ, jR_wJ, jI_wJ, jK_wR, jI_wR, jJ_wR, jK_wr, jR_wr, jJ_wr, jcl1_i, jcl1_r, jcl1_z, jcl1_n, jcl1_l, jwI_row, jwr_jwr, jwr_cm, jwr_cc, upd_upd, jI_wr_s, jI_wr_a, jI_wr_b, jI_wr_c, mInv_wr, upd_s, upd_n, Option.toList, List.cons_append, List.nil_append, true_or, or_true, eq_self, and_self, ite_true, ite_false, if_true, if_false, jinb_nI, nI_clamp, tc0, tc1, tc2, tc3, tc4, tc5, tc6, tc7, tc8, tc9, tc10, tc11, tc12, tc13, tc14, tc15, tc16, tc17, tc18, tc19, tc20, tc21, tc22, tc23, tc24, tc25, tc26, tc27, tc28, tc29, tc30, tc31, tc32, tc33, tc34, tc35, tc36, tc37, tc38, tc39, tc40, tc41, tc42, tc43, tc44, tc45, tc46, tc47, tc48, tc49, tc50, tc51, tc52, tc53, tc54, tc55, tc56, tc57, tc58, tc59, tc60, tc61, tc62, tc63, tc64, tc65, tc66, tc67, tc68, tc69, tc77, tc83, tc119, tc159, tc160, nI_add, al0, ar0, ml0, mr0, al1, ar1, ml1, mr1, al2, ar2, ml2, mr2, al3, ar3, ml3, mr3, al4, ar4, ml4, mr4, al5, ar5, ml5, mr5, al6, ar6, ml6, mr6, al8, ar8, ml8, mr8, al10, ar10, ml10, mr10, al11, ar11, ml11, mr11, al12, ar12, ml12, mr12, al13, ar13, ml13, mr13, al16, ar16, ml16, mr16, al20, ar20, ml20, mr20, al24, ar24, ml24, mr24, al29, ar29, ml29, mr29, al36, ar36, ml36, mr36, al42, ar42, ml42, mr42, al48, ar48, ml48, mr48, al55, ar55, ml55, mr55, al60, ar60, ml60, mr60, al65, ar65, ml65, mr65, al77, ar77, ml77, mr77, al83, ar83, ml83, mr83, al119, ar119, ml119, mr119, al159, ar159, ml159, mr159, al160, ar160, ml160, mr160, al400, ar400, ml400, mr400, hm, r0, k0]
    simp (config := { decide := true }) (disch := (first | assumption | omega | (simp (config := { decide := true }) only [hm, r0, k0, jK_wI, jK_wJ, jK_wR, jK_wr, jR_wr, jR_wI, jR_wJ]; done) | (simp only [hm, r0, k0, jK_wI, jK_wJ, jK_wR, jK_wr, jR_wr, jR_wI, jR_wJ]; refine jinb_nI ?_ ?_ <;> omega) | (refine jinb_nI ?_ ?_ <;> omega))) only [s186_14, s186_15, s186_16, s186_17, s186_18, s186_19, s186_22, s186_25, s186_28, s186_29, s186_30, s186_31, s186_34, s186_35, s186_36, s186_37, s186_40, c187 H W, c189 H hs (show k < 6 by omega), va_rf_some, va_rf_none, jK_wI, jR_wI, jJ_wI, jK_wJ, jR_wJ, jI_wJ, jK_wR, jI_wR, jJ_wR, jK_wr, jR_wr, jJ_wr, jcl1_i, jcl1_r, jcl1_z, jcl1_n, jcl1_l, jwI_row, jwr_jwr, jwr_cm, jwr_cc, upd_upd, jI_wr_s, jI_wr_a, jI_wr_b, jI_wr_c, mInv_wr, upd_s, upd_n, Option.toList, List.cons_append, List.nil_append, true_or, or_true, eq_self, and_self, ite_true, ite_false, if_true, if_false, jinb_nI, nI_clamp, tc0, tc1, tc2, tc3, tc4, tc5, tc6, tc7, tc8, tc9, tc10, tc11, tc12, tc13, tc14, tc15, tc16, tc17, tc18, tc19, tc20, tc21, tc22, tc23, tc24, tc25, tc26, tc27, tc28, tc29, tc30, tc31, tc32, tc33, tc34, tc35, tc36, tc37, tc38, tc39, tc40, tc41, tc42, tc43, tc44, tc45, tc46, tc47, tc48, tc49, tc50, tc51, tc52, tc53, tc54, tc55, tc56, tc57, tc58, tc59, tc60, tc61, tc62, tc63, tc64, tc65, tc66, tc67, tc68, tc69, tc77, tc83, tc119, tc159, tc160, nI_add, al0, ar0, ml0, mr0, al1, ar1, ml1, mr1, al2, ar2, ml2, mr2, al3, ar3, ml3, mr3, al4, ar4, ml4, mr4, al5, ar5, ml5, mr5, al6, ar6, ml6, mr6, al8, ar8, ml8, mr8, al10, ar10, ml10, mr10, al11, ar11, ml11, mr11, al12, ar12, ml12, mr12, al13, ar13, ml13, mr13, al16, ar16, ml16, mr16, al20, ar20, ml20, mr20, al24, ar24, ml24, mr24, al29, ar29, ml29, mr29, al36, ar36, ml36, mr36, al42, ar42, ml42, mr42, al48, ar48, ml48, mr48, al55, ar55, ml55, mr55, al60, ar60, ml60, mr60, al65, ar65, ml65, mr65, al77, ar77, ml77, mr77, al83, ar83, ml83, mr83, al119, ar119, ml119, mr119, al159, ar159, ml159, mr159, al160, ar160, ml160, mr160, al400, ar400, ml400, mr400, hm, r0, k0]
    have ih' := ih (k + 1) (by omega)
    by_cases ho : jI h (m + 10) (29 + 6 * s + k) + mcalm (jI h m 23) (jI h (m + 10)) < jI h (m + 10) (77 + k)
    · simp (config := { decide := true }) only [ho, mcan, ite_true, ite_false, if_true, if_false] at ih' ⊢
      exact ih'
    · simp (config := { decide := true }) only [ho, mcan, ite_true, ite_false, if_true, if_false] at ih' ⊢
      exact ih'
/-- canNow -/
theorem c186 (H : mInv h m) (W : mW (jI h (m + 10))) {s : Nat} (hs : s < 6) : jC (d + 3) 186 [.ref m, .int (nI s)] h Q ↔ Q (some (.int (mcan (jI h (m + 10)) s (mcalm (jI h m 23) (jI h (m + 10))) (sK (jI h (m + 10)))))) h := by
  rw [e186]
  simp only [s186_0, s186_1, s186_2, s186_3, va_rf_some, va_rf_none, jK_wI, jR_wI, jJ_wI, jK_wJ, jR_wJ, jI_wJ, jK_wR, jI_wR, jJ_wR, jK_wr, jR_wr, jJ_wr, jcl1_i, jcl1_r, jcl1_z, jcl1_n, jcl1_l, jwI_row, jwr_jwr, jwr_cm, jwr_cc, upd_upd, jI_wr_s, jI_wr_a, jI_wr_b, jI_wr_c, mInv_wr, upd_s, upd_n, Option.toList, List.cons_append, List.nil_append, true_or, or_true, eq_self, and_self, ite_true, ite_false, if_true, if_false]
  exact l186 H W hs (sK (jI h (m + 10))) 0 (by omega)
end
