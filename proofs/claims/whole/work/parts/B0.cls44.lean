/-! THE CLASS: the reader of rules: clauses -/
def eE (e : Nat × Nat × Option (Nat × Nat)) : Nat := match e.2.2 with
  | none => e.2.1
  | some q => q.2
def sKl (h : jH) (r : Nat) (K : List (Nat × Nat × Option (Nat × Nat))) : Prop := ∀ i e, K[i]? = some e → jI h (r + 2) i = nI e.1 ∧ jI h (r + 3) i = nI e.2.1 ∧ jI h (r + 2) (i + 1) = nI (eE e)
def uO (Q : Option Value → jH → Prop) (r t L : Nat) (h : jH) : Except Nat (List Nat × List (Nat × Nat × Option (Nat × Nat))) → Prop
  | .ok q => ∀ h', cfr r t h h' → jI h' t 1 = nI L → (∃ md, cdI h' r md q.1) → jI h' r 1 = nI q.2.length → sKl h' r q.2 → Q (some (.int 1)) h'
  | .error w => ∀ h', cfr r t h h' → tE L w (jI h' t) → Q (some (.int 0)) h'
section
variable {h h0 h1 h2 : jH} {r t L md : Nat} {c : List Nat} {T : Nat → Nat} {d : Nat} {Q : Option Value → jH → Prop} {tK tV : Nat → Nat} {K : List (Nat × Nat × Option (Nat × Nat))}
theorem rfr_cfr (G : rfr r t h h1) : cfr r t h h1 := ⟨G.1, fun a h1 h2 => G.2.2 a h1 (by omega) (by omega)⟩
theorem cfr_rd (F : cfr r t h h1) (H : rdI h r t) : rdI h1 r t := by
  unfold rdI at *
  rw [F.1.2.2.1, F.1.2.2.2.1]
  exact H
theorem wR_cf (ht : t + 1 < r) (hv : ∀ i, i < 6 → tV i < t) (G : cfr r t h h1) (W : wR h r t T L tK tV) : wR h1 r t T L tK tV := ⟨cfr_rd G W.1, cfr_tp G ht W.2.1, cfr_tx G (by omega) hv W.2.2⟩
theorem sKl_fr (G : rfr r t h h1) (ht : t + 1 < r) (S : sKl h r K) : sKl h1 r K := fun i e hi => by
  obtain ⟨a, b, c⟩ := S i e hi
  rw [G.2.2 (r + 2) (by omega) (by omega) (by omega), G.2.2 (r + 3) (by omega) (by omega) (by omega)]
  exact ⟨a, b, c⟩
/-- behind a clause -/
theorem l72c (W0 : wR h0 r t T L tK tV) (ht : t + 1 < r) (hv : ∀ i, i < 6 → tV i < t) {p : Nat} {e : Nat × Nat × Option (Nat × Nat)} (hk : K.length < 12) (G : cfr r t h0 h) (hp : p ≤ L) (F : tkF T L (skp T L p) (jI h t)) (C : cdI h r md c) (S : sKl h r K) (s1 : jI h (r + 2) K.length = nI e.1) (s2 : jI h (r + 3) K.length = nI e.2.1) (s3 : eE e = c.length)
    (hG : chr T L (skp T L p) = some 59 → ∀ h', cfr r t h0 h' → tkF T L (skp T L (skp T L p + 1)) (jI h' t) → cdI h' r md c → sKl h' r (K ++ [e]) → jW (d + 30) 72 21 [some (.ref r), some (.ref t), some (.int (nI (K.length + 1)))] [] h' Q)
    (hN : chr T L (skp T L p) = none → ∀ h', cfr r t h0 h' → jI h' t 1 = nI L → cdI h' r md c → jI h' r 1 = nI (K.length + 1) → sKl h' r (K ++ [e]) → Q (some (.int 1)) h')
    (hE : ¬ chr T L (skp T L p) = some 59 → ¬ chr T L (skp T L p) = none → ∀ h', cfr r t h0 h' → tE L (fW 0 0 (skp T L p)) (jI h' t) → Q (some (.int 0)) h') : jW (d + 30) 72 114 [some (.ref r), some (.ref t), some (.int (nI K.length))] [] h Q := by
  obtain ⟨R, X, Y⟩ := wR_cf ht hv G W0
  obtain ⟨r1, r2, ⟨r3, r4⟩, ⟨r5, r6⟩, r7, r8⟩ := R
  have a1 : jK h t = (30, 7) := X.1
  have hT := fun p hp => (X.2.2.2.2 p hp).2
  obtain ⟨f1, f2, f3, f4, f5, f6, f7⟩ := F
  obtain ⟨c1, c2, c3, c4⟩ := C
  have hk13 : K.length + 1 < 13 := by omega
  have hte := tsr_e (q := skp T L p) hT
  obtain ⟨hts, htn⟩ := tsr_c (q := skp T L p) (x := 59) hT (by omega) (by omega) (by omega) (by omega) (by omega)
  simp (config := { decide := true }) (disch := (first | assumption | omega | (simp (config := { decide := true }) only [r1, r2, r5, r6, jK_wI, jK_wJ, jK_wR, jK_wr, jR_wr, jR_wI, jR_wJ, jK_wj, jR_wj, stI_wr, cmI_wr, stI_wj, cmI_wj]; done) | (simp only [r1, r2, r5, r6, jK_wI, jK_wJ, jK_wR, jK_wr, jR_wr, jR_wI, jR_wJ, jK_wj, jR_wj, stI_wr, cmI_wr, stI_wj, cmI_wj]; refine jinb_nI ?_ ?_ <;> omega) | (refine jinb_nI ?_ ?_ <;> omega) | (simp only [stI_wr, cmI_wr, stI_wj, cmI_wj]; assumption))) only [s72_114, s72_115, s72_116, s72_117, s72_118, s72_121, s72_122, s72_125, s72_126, s72_129, s72_130, s72_133, c1, va_rf_some, va_rf_none, jK_wI, jR_wI, jJ_wI, jK_wJ, jR_wJ, jI_wJ, jK_wR, jI_wR, jJ_wR, jK_wr, jR_wr, jJ_wr, jcl1_i, jcl1_r, jcl1_z, jcl1_n, jcl1_l, jwI_row, jwr_jwr, jwr_cm, jwr_cc, upd_upd, jI_wr_s, jI_wr_a, jI_wr_b, jI_wr_c, mInv_wr, upd_s, upd_n, Option.toList, List.cons_append, List.nil_append, true_or, or_true, eq_self, and_self, ite_true, ite_false, if_true, if_false, jK_wj, jR_wj, jI_wj, jwJ_row, jwj_jwj, jJ_wj_s, jJ_wj_n, jI_wr_n, jinb_nI, nI_clamp, tc0, tc1, tc2, tc3, tc4, tc5, tc6, tc7, tc8, tc9, tc10, tc11, tc12, tc13, tc14, tc15, tc16, tc17, tc18, tc19, tc20, tc21, tc22, tc23, tc24, tc25, tc26, tc27, tc28, tc29, tc30, tc31, tc32, tc33, tc34, tc35, tc36, tc37, tc38, tc39, tc40, tc41, tc42, tc43, tc44, tc45, tc46, tc47, tc48, tc49, tc50, tc51, tc52, tc53, tc54, tc55, tc56, tc57, tc58, tc59, tc60, tc61, tc62, tc63, tc64, tc65, tc66, tc67, tc68, tc69, tc77, tc83, tc119, tc159, tc160, nI_add, al0, ar0, ml0, mr0, al1, ar1, ml1, mr1, al2, ar2, ml2, mr2, al3, ar3, ml3, mr3, al4, ar4, ml4, mr4, al5, ar5, ml5, mr5, al6, ar6, ml6, mr6, al8, ar8, ml8, mr8, al10, ar10, ml10, mr10, al11, ar11, ml11, mr11, al12, ar12, ml12, mr12, al13, ar13, ml13, mr13, al16, ar16, ml16, mr16, al20, ar20, ml20, mr20, al24, ar24, ml24, mr24, al29, ar29, ml29, mr29, al36, ar36, ml36, mr36, al42, ar42, ml42, mr42, al48, ar48, ml48, mr48, al55, ar55, ml55, mr55, al60, ar60, ml60, mr60, al65, ar65, ml65, mr65, al77, ar77, ml77, mr77, al83, ar83, ml83, mr83, al119, ar119, ml119, mr119, al159, ar159, ml159, mr159, al160, ar160, ml160, mr160, al400, ar400, ml400, mr400, r1, r2, r5, r6]
  generalize hh : jwr (jwr h (r + 2) (upd (jI h (r + 2)) (K.length + 1) (nI c.length))) r (upd (jI h r) 1 (nI (K.length + 1))) = g
  have G' : cfr r t h0 g := by rw [← hh]; exact cfr_wr (by omega) (cfr_wr (by omega) G)
  have it : jI g t = jI h t := by rw [← hh, jI_wr_n (by omega), jI_wr_n (by omega)]
  have C' : cdI g r md c := by
    rw [← hh]
    refine ⟨?_, ?_, c3, fun j hj => ?_⟩
    · rw [jI_wr_s, upd_n (by omega)]; exact c1
    · rw [jI_wr_s, upd_n (by omega)]; exact c2
    · rw [jI_wr_n (by omega), jI_wr_n (by omega)]; exact c4 j hj
  have i2 : jI g r 1 = nI (K.length + 1) := by rw [← hh, jI_wr_s, upd_s]
  have S' : sKl g r (K ++ [e]) := by
    intro i e' hi
    rw [← hh, jI_wr_n (by omega), jI_wr_s, jI_wr_n (by omega), jI_wr_n (by omega)]
    by_cases ei : i < K.length
    · rw [List.getElem?_append_left ei] at hi
      obtain ⟨b1, b2, b3⟩ := S i e' hi
      exact ⟨by rw [upd_n (by omega)]; exact b1, b2, by rw [upd_n (by omega)]; exact b3⟩
    · rw [List.getElem?_append_right (by omega)] at hi
      have ei2 : i = K.length := by
        rcases (by omega : i = K.length ∨ K.length < i) with w | w
        · exact w
        · rw [List.getElem?_eq_none (by rw [List.length_singleton]; omega)] at hi; cases hi
      rw [ei2, Nat.sub_self] at hi
      have ee : e = e' := by injection hi
      rw [← ee, ei2]
      exact ⟨by rw [upd_n (by omega)]; exact s1, s2, by rw [upd_s, s3]⟩
  obtain ⟨R', X', Y'⟩ := wR_cf ht hv G' W0
  obtain ⟨q1, q2, -⟩ := R'
  have b1 : jK g t = (30, 7) := X'.1
  clear hh
  by_cases e59 : chr T L (skp T L p) = some 59
  · obtain ⟨n1, n2⟩ := htn e59
    rw [n2] at f3
    have y1 : ¬ tsr T L (skp T L p) = -1 := fun w => by rw [hte.mp w] at e59; cases e59
    have y2 : tsr T L (skp T L p) = 59 := hts.mpr e59
    simp (config := { decide := true }) (disch := (first | assumption | omega | (simp (config := { decide := true }) only [q1, q2, b1, jK_wI, jK_wJ, jK_wR, jK_wr, jR_wr, jR_wI, jR_wJ, jK_wj, jR_wj, stI_wr, cmI_wr, stI_wj, cmI_wj]; done) | (simp only [q1, q2, b1, jK_wI, jK_wJ, jK_wR, jK_wr, jR_wr, jR_wI, jR_wJ, jK_wj, jR_wj, stI_wr, cmI_wr, stI_wj, cmI_wj]; refine jinb_nI ?_ ?_ <;> omega) | (refine jinb_nI ?_ ?_ <;> omega) | (simp only [stI_wr, cmI_wr, stI_wj, cmI_wj]; assumption))) only [s72_134, s72_134N, s72_135, s72_138, s72_139, s72_144, s72_144N, s72_145, s72_148, s72_150, s72_159, s72_159N, s72_160, it, f4, if_pos y1, if_pos y2, va_rf_some, va_rf_none, jK_wI, jR_wI, jJ_wI, jK_wJ, jR_wJ, jI_wJ, jK_wR, jI_wR, jJ_wR, jK_wr, jR_wr, jJ_wr, jcl1_i, jcl1_r, jcl1_z, jcl1_n, jcl1_l, jwI_row, jwr_jwr, jwr_cm, jwr_cc, upd_upd, jI_wr_s, jI_wr_a, jI_wr_b, jI_wr_c, mInv_wr, upd_s, upd_n, Option.toList, List.cons_append, List.nil_append, true_or, or_true, eq_self, and_self, ite_true, ite_false, if_true, if_false, jK_wj, jR_wj, jI_wj, jwJ_row, jwj_jwj, jJ_wj_s, jJ_wj_n, jI_wr_n, jinb_nI, nI_clamp, tc0, tc1, tc2, tc3, tc4, tc5, tc6, tc7, tc8, tc9, tc10, tc11, tc12, tc13, tc14, tc15, tc16, tc17, tc18, tc19, tc20, tc21, tc22, tc23, tc24, tc25, tc26, tc27, tc28, tc29, tc30, tc31, tc32, tc33, tc34, tc35, tc36, tc37, tc38, tc39, tc40, tc41, tc42, tc43, tc44, tc45, tc46, tc47, tc48, tc49, tc50, tc51, tc52, tc53, tc54, tc55, tc56, tc57, tc58, tc59, tc60, tc61, tc62, tc63, tc64, tc65, tc66, tc67, tc68, tc69, tc77, tc83, tc119, tc159, tc160, nI_add, al0, ar0, ml0, mr0, al1, ar1, ml1, mr1, al2, ar2, ml2, mr2, al3, ar3, ml3, mr3, al4, ar4, ml4, mr4, al5, ar5, ml5, mr5, al6, ar6, ml6, mr6, al8, ar8, ml8, mr8, al10, ar10, ml10, mr10, al11, ar11, ml11, mr11, al12, ar12, ml12, mr12, al13, ar13, ml13, mr13, al16, ar16, ml16, mr16, al20, ar20, ml20, mr20, al24, ar24, ml24, mr24, al29, ar29, ml29, mr29, al36, ar36, ml36, mr36, al42, ar42, ml42, mr42, al48, ar48, ml48, mr48, al55, ar55, ml55, mr55, al60, ar60, ml60, mr60, al65, ar65, ml65, mr65, al77, ar77, ml77, mr77, al83, ar83, ml83, mr83, al119, ar119, ml119, mr119, al159, ar159, ml159, mr159, al160, ar160, ml160, mr160, al400, ar400, ml400, mr400, q1, q2, b1]
    refine k99 X' (by rw [it]; exact f1) (by rw [it]; exact f3) n1 (fun F4 u2 u6 => ?_)
    simp (config := { decide := true }) (disch := (first | assumption | omega | (simp (config := { decide := true }) only [q1, jK_wI, jK_wJ, jK_wR, jK_wr, jR_wr, jR_wI, jR_wJ, jK_wj, jR_wj, stI_wr, cmI_wr, stI_wj, cmI_wj]; done) | (simp only [q1, jK_wI, jK_wJ, jK_wR, jK_wr, jR_wr, jR_wI, jR_wJ, jK_wj, jR_wj, stI_wr, cmI_wr, stI_wj, cmI_wj]; refine jinb_nI ?_ ?_ <;> omega) | (refine jinb_nI ?_ ?_ <;> omega) | (simp only [stI_wr, cmI_wr, stI_wj, cmI_wj]; assumption))) only [s72_163, va_rf_some, va_rf_none, jK_wI, jR_wI, jJ_wI, jK_wJ, jR_wJ, jI_wJ, jK_wR, jI_wR, jJ_wR, jK_wr, jR_wr, jJ_wr, jcl1_i, jcl1_r, jcl1_z, jcl1_n, jcl1_l, jwI_row, jwr_jwr, jwr_cm, jwr_cc, upd_upd, jI_wr_s, jI_wr_a, jI_wr_b, jI_wr_c, mInv_wr, upd_s, upd_n, Option.toList, List.cons_append, List.nil_append, true_or, or_true, eq_self, and_self, ite_true, ite_false, if_true, if_false, jK_wj, jR_wj, jI_wj, jwJ_row, jwj_jwj, jJ_wj_s, jJ_wj_n, jI_wr_n, jinb_nI, nI_clamp, tc0, tc1, tc2, tc3, tc4, tc5, tc6, tc7, tc8, tc9, tc10, tc11, tc12, tc13, tc14, tc15, tc16, tc17, tc18, tc19, tc20, tc21, tc22, tc23, tc24, tc25, tc26, tc27, tc28, tc29, tc30, tc31, tc32, tc33, tc34, tc35, tc36, tc37, tc38, tc39, tc40, tc41, tc42, tc43, tc44, tc45, tc46, tc47, tc48, tc49, tc50, tc51, tc52, tc53, tc54, tc55, tc56, tc57, tc58, tc59, tc60, tc61, tc62, tc63, tc64, tc65, tc66, tc67, tc68, tc69, tc77, tc83, tc119, tc159, tc160, nI_add, al0, ar0, ml0, mr0, al1, ar1, ml1, mr1, al2, ar2, ml2, mr2, al3, ar3, ml3, mr3, al4, ar4, ml4, mr4, al5, ar5, ml5, mr5, al6, ar6, ml6, mr6, al8, ar8, ml8, mr8, al10, ar10, ml10, mr10, al11, ar11, ml11, mr11, al12, ar12, ml12, mr12, al13, ar13, ml13, mr13, al16, ar16, ml16, mr16, al20, ar20, ml20, mr20, al24, ar24, ml24, mr24, al29, ar29, ml29, mr29, al36, ar36, ml36, mr36, al42, ar42, ml42, mr42, al48, ar48, ml48, mr48, al55, ar55, ml55, mr55, al60, ar60, ml60, mr60, al65, ar65, ml65, mr65, al77, ar77, ml77, mr77, al83, ar83, ml83, mr83, al119, ar119, ml119, mr119, al159, ar159, ml159, mr159, al160, ar160, ml160, mr160, al400, ar400, ml400, mr400, q1]
    rw [s72_166]
    refine hG e59 _ (cfr_wr (Or.inl rfl) G') (by rw [jI_wr_s]; exact u2) (cdI_t ht C') (fun i e' hi => ?_)
    rw [jI_wr_n (by omega), jI_wr_n (by omega)]
    exact S' i e' hi
  · have y2 : ¬ tsr T L (skp T L p) = 59 := fun w => e59 (hts.mp w)
    by_cases en : chr T L (skp T L p) = none
    · have y1 : ¬ ¬ tsr T L (skp T L p) = -1 := fun w => w (hte.mpr en)
      simp (config := { decide := true }) (disch := (first | assumption | omega | (simp (config := { decide := true }) only [q1, q2, b1, jK_wI, jK_wJ, jK_wR, jK_wr, jR_wr, jR_wI, jR_wJ, jK_wj, jR_wj, stI_wr, cmI_wr, stI_wj, cmI_wj]; done) | (simp only [q1, q2, b1, jK_wI, jK_wJ, jK_wR, jK_wr, jR_wr, jR_wI, jR_wJ, jK_wj, jR_wj, stI_wr, cmI_wr, stI_wj, cmI_wj]; refine jinb_nI ?_ ?_ <;> omega) | (refine jinb_nI ?_ ?_ <;> omega) | (simp only [stI_wr, cmI_wr, stI_wj, cmI_wj]; assumption))) only [s72_134, s72_134N, s72_135, s72_138, s72_139, s72_142, s72_143, it, f4, if_neg y1, va_rf_some, va_rf_none, jK_wI, jR_wI, jJ_wI, jK_wJ, jR_wJ, jI_wJ, jK_wR, jI_wR, jJ_wR, jK_wr, jR_wr, jJ_wr, jcl1_i, jcl1_r, jcl1_z, jcl1_n, jcl1_l, jwI_row, jwr_jwr, jwr_cm, jwr_cc, upd_upd, jI_wr_s, jI_wr_a, jI_wr_b, jI_wr_c, mInv_wr, upd_s, upd_n, Option.toList, List.cons_append, List.nil_append, true_or, or_true, eq_self, and_self, ite_true, ite_false, if_true, if_false, jK_wj, jR_wj, jI_wj, jwJ_row, jwj_jwj, jJ_wj_s, jJ_wj_n, jI_wr_n, jinb_nI, nI_clamp, tc0, tc1, tc2, tc3, tc4, tc5, tc6, tc7, tc8, tc9, tc10, tc11, tc12, tc13, tc14, tc15, tc16, tc17, tc18, tc19, tc20, tc21, tc22, tc23, tc24, tc25, tc26, tc27, tc28, tc29, tc30, tc31, tc32, tc33, tc34, tc35, tc36, tc37, tc38, tc39, tc40, tc41, tc42, tc43, tc44, tc45, tc46, tc47, tc48, tc49, tc50, tc51, tc52, tc53, tc54, tc55, tc56, tc57, tc58, tc59, tc60, tc61, tc62, tc63, tc64, tc65, tc66, tc67, tc68, tc69, tc77, tc83, tc119, tc159, tc160, nI_add, al0, ar0, ml0, mr0, al1, ar1, ml1, mr1, al2, ar2, ml2, mr2, al3, ar3, ml3, mr3, al4, ar4, ml4, mr4, al5, ar5, ml5, mr5, al6, ar6, ml6, mr6, al8, ar8, ml8, mr8, al10, ar10, ml10, mr10, al11, ar11, ml11, mr11, al12, ar12, ml12, mr12, al13, ar13, ml13, mr13, al16, ar16, ml16, mr16, al20, ar20, ml20, mr20, al24, ar24, ml24, mr24, al29, ar29, ml29, mr29, al36, ar36, ml36, mr36, al42, ar42, ml42, mr42, al48, ar48, ml48, mr48, al55, ar55, ml55, mr55, al60, ar60, ml60, mr60, al65, ar65, ml65, mr65, al77, ar77, ml77, mr77, al83, ar83, ml83, mr83, al119, ar119, ml119, mr119, al159, ar159, ml159, mr159, al160, ar160, ml160, mr160, al400, ar400, ml400, mr400, q1, q2, b1]
      exact hN en g G' (by rw [it]; exact f1) C' i2 S'
    · have y1 : ¬ tsr T L (skp T L p) = -1 := fun w => en (hte.mp w)
      simp (config := { decide := true }) (disch := (first | assumption | omega | (simp (config := { decide := true }) only [q1, q2, b1, jK_wI, jK_wJ, jK_wR, jK_wr, jR_wr, jR_wI, jR_wJ, jK_wj, jR_wj, stI_wr, cmI_wr, stI_wj, cmI_wj]; done) | (simp only [q1, q2, b1, jK_wI, jK_wJ, jK_wR, jK_wr, jR_wr, jR_wI, jR_wJ, jK_wj, jR_wj, stI_wr, cmI_wr, stI_wj, cmI_wj]; refine jinb_nI ?_ ?_ <;> omega) | (refine jinb_nI ?_ ?_ <;> omega) | (simp only [stI_wr, cmI_wr, stI_wj, cmI_wj]; assumption))) only [s72_134, s72_134N, s72_135, s72_138, s72_139, s72_144, s72_144N, s72_145, s72_148, s72_150, s72_153, s72_153N, s72_154, s72_155, it, f4, if_pos y1, if_neg y2, va_rf_some, va_rf_none, jK_wI, jR_wI, jJ_wI, jK_wJ, jR_wJ, jI_wJ, jK_wR, jI_wR, jJ_wR, jK_wr, jR_wr, jJ_wr, jcl1_i, jcl1_r, jcl1_z, jcl1_n, jcl1_l, jwI_row, jwr_jwr, jwr_cm, jwr_cc, upd_upd, jI_wr_s, jI_wr_a, jI_wr_b, jI_wr_c, mInv_wr, upd_s, upd_n, Option.toList, List.cons_append, List.nil_append, true_or, or_true, eq_self, and_self, ite_true, ite_false, if_true, if_false, jK_wj, jR_wj, jI_wj, jwJ_row, jwj_jwj, jJ_wj_s, jJ_wj_n, jI_wr_n, jinb_nI, nI_clamp, tc0, tc1, tc2, tc3, tc4, tc5, tc6, tc7, tc8, tc9, tc10, tc11, tc12, tc13, tc14, tc15, tc16, tc17, tc18, tc19, tc20, tc21, tc22, tc23, tc24, tc25, tc26, tc27, tc28, tc29, tc30, tc31, tc32, tc33, tc34, tc35, tc36, tc37, tc38, tc39, tc40, tc41, tc42, tc43, tc44, tc45, tc46, tc47, tc48, tc49, tc50, tc51, tc52, tc53, tc54, tc55, tc56, tc57, tc58, tc59, tc60, tc61, tc62, tc63, tc64, tc65, tc66, tc67, tc68, tc69, tc77, tc83, tc119, tc159, tc160, nI_add, al0, ar0, ml0, mr0, al1, ar1, ml1, mr1, al2, ar2, ml2, mr2, al3, ar3, ml3, mr3, al4, ar4, ml4, mr4, al5, ar5, ml5, mr5, al6, ar6, ml6, mr6, al8, ar8, ml8, mr8, al10, ar10, ml10, mr10, al11, ar11, ml11, mr11, al12, ar12, ml12, mr12, al13, ar13, ml13, mr13, al16, ar16, ml16, mr16, al20, ar20, ml20, mr20, al24, ar24, ml24, mr24, al29, ar29, ml29, mr29, al36, ar36, ml36, mr36, al42, ar42, ml42, mr42, al48, ar48, ml48, mr48, al55, ar55, ml55, mr55, al60, ar60, ml60, mr60, al65, ar65, ml65, mr65, al77, ar77, ml77, mr77, al83, ar83, ml83, mr83, al119, ar119, ml119, mr119, al159, ar159, ml159, mr159, al160, ar160, ml160, mr160, al400, ar400, ml400, mr400, q1, q2, b1]
      have k2 := fun Q' => k101 (d := d + 29) (h := g) (t := t) (q := skp T L p) (k := 0) (Q := Q') b1 (by rw [it]; exact f2)
      rw [nI_0] at k2
      rw [k2]
      simp only [Option.toList, List.cons_append, List.nil_append]
      rw [s72_158 (Or.inl rfl)]
      refine hE e59 en _ (cfr_wr (Or.inl rfl) G') ?_
      rw [jI_wr_s]
      exact ⟨by rw [upd_n (by omega), it]; exact f1, by rw [upd_s]; rfl⟩
end
