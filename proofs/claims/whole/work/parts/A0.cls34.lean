/-! THE CLASS: the reader of rules: a code put, a sign's code, a value -/
def rdI (h : jH) (r t : Nat) : Prop := jK h r = (28, 6) ∧ t < r ∧ (jR h r 3 = some (r + 1) ∧ jK h (r + 1) = (1, 400)) ∧ (jR h r 4 = some (r + 2) ∧ jK h (r + 2) = (1, 13)) ∧ jR h r 5 = some (r + 3) ∧ jK h (r + 3) = (1, 12)
def cdI (h : jH) (r md : Nat) (c : List Nat) : Prop := jI h r 0 = nI c.length ∧ jI h r 2 = nI md ∧ c.length ≤ 400 ∧ ∀ j, j < c.length → jI h (r + 1) j = nI (xc (c.getD j 0))
def szI (h : jH) (r : Nat) : Prop := ∃ n, n ≤ 400 ∧ jI h r 0 = nI n
def rfr (r t : Nat) (h h' : jH) : Prop := (jnx h' = jnx h ∧ jsl h' = jsl h ∧ jK h' = jK h ∧ jR h' = jR h ∧ jJ h' = jJ h) ∧ jI h' r 1 = jI h r 1 ∧ ∀ a, a ≠ t → a ≠ r → a ≠ r + 1 → jI h' a = jI h a
def rO (Q : Option Value → jH → Prop) (r t : Nat) (T : Nat → Nat) (L : Nat) (h : jH) : Except Nat (Nat × Nat × List Nat) → Prop
  | .ok q => ∀ h', rfr r t h h' → tkF T L (skp T L q.1) (jI h' t) → cdI h' r q.2.1 q.2.2 → Q (some (.int 1)) h'
  | .error w => ∀ h', rfr r t h h' → tE L w (jI h' t) → szI h' r → Q (some (.int 0)) h'
def cdf (x : Int32) : Int32 := if x = 43 then 12 else if x = 45 then 13 else if x = 42 then 14 else if x = 47 then 15 else if x = 37 then 16 else if x = 60 then 17 else if x = -4 then 18 else if x = 61 then 19 else if x = -5 then 20 else if x = 62 then 21 else -1
def cdt (x : Int32) : Nat := if x = 43 then 92 else if x = 45 then 95 else if x = 42 then 98 else if x = 47 then 101 else if x = 37 then 104 else if x = 60 then 107 else if x = -4 then 110 else if x = 61 then 113 else if x = -5 then 116 else if x = 62 then 119 else 122
theorem cdt_ok : ∀ n, n < 261 → jtg 1 (Op.lookupswitch.offset [((-5), 115), ((-4), 109), (37, 103), (42, 97), (43, 91), (45, 94), (47, 100), (60, 106), (61, 112), (62, 118)] 121 (nI n - 5).toInt) = some (cdt (nI n - 5)) := by decide +kernel
theorem tsr_in {T : Nat → Nat} {L q : Nat} (hT : ∀ p, p < L → T p < 256) : ∃ n, n < 261 ∧ tsr T L q = nI n - 5 := by
  have dd : ∀ n, n < 256 → nI n = nI (n + 5) - 5 := by decide +kernel
  unfold tsr
  by_cases e : q < L
  · rw [if_pos e]
    split
    · exact ⟨3, by omega, rfl⟩
    · split
      · exact ⟨2, by omega, rfl⟩
      · split
        · split
          · exact ⟨1, by omega, rfl⟩
          · exact ⟨0, by omega, rfl⟩
        · have := hT q e
          exact ⟨T q + 5, by omega, dd _ this⟩
  · rw [if_neg e]
    exact ⟨4, by omega, rfl⟩
section
variable {h h1 h2 : jH} {r t L md : Nat} {c : List Nat} {T : Nat → Nat} {d : Nat} {Q : Option Value → jH → Prop} {tK tV : Nat → Nat}
theorem rfr_refl : rfr r t h h := ⟨⟨rfl, rfl, rfl, rfl, rfl⟩, rfl, fun _ _ _ _ => rfl⟩
theorem rfr_t {f : Nat → Int32} (ht : t ≠ r) (F : rfr r t h h1) : rfr r t h (jwr h1 t f) := ⟨F.1, by rw [jI_wr_n (by omega)]; exact F.2.1, fun b x y z => by rw [jI_wr_n (by omega)]; exact F.2.2 b x y z⟩
theorem rfr_1 {f : Nat → Int32} (F : rfr r t h h1) : rfr r t h (jwr h1 (r + 1) f) := ⟨F.1, by rw [jI_wr_n (by omega)]; exact F.2.1, fun b x y z => by rw [jI_wr_n (by omega)]; exact F.2.2 b x y z⟩
theorem rfr_r {f : Nat → Int32} (hf : f 1 = jI h1 r 1) (F : rfr r t h h1) : rfr r t h (jwr h1 r f) := ⟨F.1, by rw [jI_wr_s, hf]; exact F.2.1, fun b x y z => by rw [jI_wr_n (by omega)]; exact F.2.2 b x y z⟩
theorem rfr_trans (F : rfr r t h h1) (G : rfr r t h1 h2) : rfr r t h h2 := by
  obtain ⟨⟨a1, a2, a3, a4, a5⟩, a7, a6⟩ := F
  obtain ⟨⟨b1, b2, b3, b4, b5⟩, b7, b6⟩ := G
  exact ⟨⟨by rw [b1, a1], by rw [b2, a2], by rw [b3, a3], by rw [b4, a4], by rw [b5, a5]⟩, by rw [b7, a7], fun a x y z => by rw [b6 a x y z, a6 a x y z]⟩
theorem rfr_rd (F : rfr r t h h1) (H : rdI h r t) : rdI h1 r t := by
  unfold rdI at *
  rw [F.1.2.2.1, F.1.2.2.2.1]
  exact H
theorem rfr_tp (F : rfr r t h h1) (ht : t + 1 < r) (H : tpI h t T L) : tpI h1 t T L := by
  obtain ⟨a1, a2, a3, a4, a5⟩ := H
  refine ⟨by rw [F.1.2.2.1]; exact a1, by rw [F.1.2.2.2.1]; exact a2, by rw [F.1.2.2.1]; exact a3, a4, fun p hp => ?_⟩
  rw [F.2.2 (t + 1) (by omega) (by omega) (by omega)]
  exact a5 p hp
theorem rfr_tx (G : rfr r t h h1) (hc : t + 1 < r) (hv : ∀ i, i < 6 → tV i < t) (Y : txI h tK tV) : txI h1 tK tV := by
  refine ⟨Y.1, fun i hi => ?_⟩
  obtain ⟨y1, y2, y3, y4, y5⟩ := Y.2 i hi
  have := hv i hi
  rw [G.1.2.2.2.1, G.1.2.2.1, G.2.2 (tV i) (by omega) (by omega) (by omega)]
  exact ⟨y1, y2, y3, y4, y5⟩
theorem cdI_t {F : Nat → Int32} (ht : t + 1 < r) (H : cdI h r md c) : cdI (jwr h t F) r md c := by
  obtain ⟨a1, a2, a3, a4⟩ := H
  refine ⟨by rw [jI_wr_n (by omega)]; exact a1, by rw [jI_wr_n (by omega)]; exact a2, a3, fun j hj => ?_⟩
  rw [jI_wr_n (by omega)]
  exact a4 j hj
/-- put -/
theorem k75 (R : rdI h r t) (C : cdI h r md c) (hc : c.length < 400) {v : Nat} (hQ : ∀ h', rfr r t h h' → jI h' t = jI h t → cdI h' r md (c ++ [v]) → Q none h') (hrt : t ≠ r ∧ t ≠ r + 1) : jC (d + 1) 75 [.ref r, .int (nI (xc v))] h Q := by
  obtain ⟨r1, r2, ⟨r3, r4⟩, -⟩ := R
  obtain ⟨a1, a2, a3, a4⟩ := C
  have z : ¬ Int32.ofNat 400 ≤ nI c.length := nI_ge (b := 400) (by omega) (by omega)
  have hk : (1 ≤ (jK h (r + 1)).1 ∧ (jK h (r + 1)).1 ≤ 7) ∨ ((jK h (r + 1)).1 = 8 ∧ 75 = jlaw) ∨ (200 ≤ (jK h (r + 1)).1 ∧ (jK h (r + 1)).1 < 206) := by rw [r4]; exact Or.inl ⟨by omega, by omega⟩
  rw [e75]
  simp (config := { decide := true }) (disch := (first | assumption | omega | (simp (config := { decide := true }) only [r1, r3, jK_wI, jK_wJ, jK_wR, jK_wr, jR_wr, jR_wI, jR_wJ, jK_wj, jR_wj, stI_wr, cmI_wr, stI_wj, cmI_wj]; done) | (simp only [r1, r3, jK_wI, jK_wJ, jK_wR, jK_wr, jR_wr, jR_wI, jR_wJ, jK_wj, jR_wj, stI_wr, cmI_wr, stI_wj, cmI_wj]; refine jinb_nI ?_ ?_ <;> omega) | (refine jinb_nI ?_ ?_ <;> omega) | (simp only [stI_wr, cmI_wr, stI_wj, cmI_wj]; assumption))) only [s75_0, s75_1, s75_4, s75_5, a1, va_rf_some, va_rf_none, jK_wI, jR_wI, jJ_wI, jK_wJ, jR_wJ, jI_wJ, jK_wR, jI_wR, jJ_wR, jK_wr, jR_wr, jJ_wr, jcl1_i, jcl1_r, jcl1_z, jcl1_n, jcl1_l, jwI_row, jwr_jwr, jwr_cm, jwr_cc, upd_upd, jI_wr_s, jI_wr_a, jI_wr_b, jI_wr_c, mInv_wr, upd_s, upd_n, Option.toList, List.cons_append, List.nil_append, true_or, or_true, eq_self, and_self, ite_true, ite_false, if_true, if_false, jK_wj, jR_wj, jI_wj, jwJ_row, jwj_jwj, jJ_wj_s, jJ_wj_n, jI_wr_n, jinb_nI, nI_clamp, tc0, tc1, tc2, tc3, tc4, tc5, tc6, tc7, tc8, tc9, tc10, tc11, tc12, tc13, tc14, tc15, tc16, tc17, tc18, tc19, tc20, tc21, tc22, tc23, tc24, tc25, tc26, tc27, tc28, tc29, tc30, tc31, tc32, tc33, tc34, tc35, tc36, tc37, tc38, tc39, tc40, tc41, tc42, tc43, tc44, tc45, tc46, tc47, tc48, tc49, tc50, tc51, tc52, tc53, tc54, tc55, tc56, tc57, tc58, tc59, tc60, tc61, tc62, tc63, tc64, tc65, tc66, tc67, tc68, tc69, tc77, tc83, tc119, tc159, tc160, nI_add, al0, ar0, ml0, mr0, al1, ar1, ml1, mr1, al2, ar2, ml2, mr2, al3, ar3, ml3, mr3, al4, ar4, ml4, mr4, al5, ar5, ml5, mr5, al6, ar6, ml6, mr6, al8, ar8, ml8, mr8, al10, ar10, ml10, mr10, al11, ar11, ml11, mr11, al12, ar12, ml12, mr12, al13, ar13, ml13, mr13, al16, ar16, ml16, mr16, al20, ar20, ml20, mr20, al24, ar24, ml24, mr24, al29, ar29, ml29, mr29, al36, ar36, ml36, mr36, al42, ar42, ml42, mr42, al48, ar48, ml48, mr48, al55, ar55, ml55, mr55, al60, ar60, ml60, mr60, al65, ar65, ml65, mr65, al77, ar77, ml77, mr77, al83, ar83, ml83, mr83, al119, ar119, ml119, mr119, al159, ar159, ml159, mr159, al160, ar160, ml160, mr160, al400, ar400, ml400, mr400, r1, r3]
  rw [s75_8 hk, r4]
  simp (config := { decide := true }) (disch := (first | assumption | omega | (simp (config := { decide := true }) only [r1, r3, r4, jK_wI, jK_wJ, jK_wR, jK_wr, jR_wr, jR_wI, jR_wJ, jK_wj, jR_wj, stI_wr, cmI_wr, stI_wj, cmI_wj]; done) | (simp only [r1, r3, r4, jK_wI, jK_wJ, jK_wR, jK_wr, jR_wr, jR_wI, jR_wJ, jK_wj, jR_wj, stI_wr, cmI_wr, stI_wj, cmI_wj]; refine jinb_nI ?_ ?_ <;> omega) | (refine jinb_nI ?_ ?_ <;> omega) | (simp only [stI_wr, cmI_wr, stI_wj, cmI_wj]; assumption))) only [s75_9, s75_12, s75_13, s75_16, s75_17, s75_20, s75_21, s75_22, s75_23, s75_24, s75_27, s75_28, s75_29, s75_32, a1, if_neg z, va_rf_some, va_rf_none, jK_wI, jR_wI, jJ_wI, jK_wJ, jR_wJ, jI_wJ, jK_wR, jI_wR, jJ_wR, jK_wr, jR_wr, jJ_wr, jcl1_i, jcl1_r, jcl1_z, jcl1_n, jcl1_l, jwI_row, jwr_jwr, jwr_cm, jwr_cc, upd_upd, jI_wr_s, jI_wr_a, jI_wr_b, jI_wr_c, mInv_wr, upd_s, upd_n, Option.toList, List.cons_append, List.nil_append, true_or, or_true, eq_self, and_self, ite_true, ite_false, if_true, if_false, jK_wj, jR_wj, jI_wj, jwJ_row, jwj_jwj, jJ_wj_s, jJ_wj_n, jI_wr_n, jinb_nI, nI_clamp, tc0, tc1, tc2, tc3, tc4, tc5, tc6, tc7, tc8, tc9, tc10, tc11, tc12, tc13, tc14, tc15, tc16, tc17, tc18, tc19, tc20, tc21, tc22, tc23, tc24, tc25, tc26, tc27, tc28, tc29, tc30, tc31, tc32, tc33, tc34, tc35, tc36, tc37, tc38, tc39, tc40, tc41, tc42, tc43, tc44, tc45, tc46, tc47, tc48, tc49, tc50, tc51, tc52, tc53, tc54, tc55, tc56, tc57, tc58, tc59, tc60, tc61, tc62, tc63, tc64, tc65, tc66, tc67, tc68, tc69, tc77, tc83, tc119, tc159, tc160, nI_add, al0, ar0, ml0, mr0, al1, ar1, ml1, mr1, al2, ar2, ml2, mr2, al3, ar3, ml3, mr3, al4, ar4, ml4, mr4, al5, ar5, ml5, mr5, al6, ar6, ml6, mr6, al8, ar8, ml8, mr8, al10, ar10, ml10, mr10, al11, ar11, ml11, mr11, al12, ar12, ml12, mr12, al13, ar13, ml13, mr13, al16, ar16, ml16, mr16, al20, ar20, ml20, mr20, al24, ar24, ml24, mr24, al29, ar29, ml29, mr29, al36, ar36, ml36, mr36, al42, ar42, ml42, mr42, al48, ar48, ml48, mr48, al55, ar55, ml55, mr55, al60, ar60, ml60, mr60, al65, ar65, ml65, mr65, al77, ar77, ml77, mr77, al83, ar83, ml83, mr83, al119, ar119, ml119, mr119, al159, ar159, ml159, mr159, al160, ar160, ml160, mr160, al400, ar400, ml400, mr400, r1, r3, r4]
  refine hQ _ ?_ ?_ ?_
  · refine rfr_r ?_ (rfr_1 rfr_refl)
    rw [upd_n (by omega), jI_wr_n (by omega)]
  · rw [jI_wr_n hrt.1, jI_wr_n hrt.2]
  · refine ⟨?_, ?_, ?_, fun j hj => ?_⟩
    · rw [jI_wr_s, upd_s, List.length_append, List.length_singleton]
    · rw [jI_wr_s, upd_n (by omega)]; exact a2
    · rw [List.length_append, List.length_singleton]; omega
    · rw [List.length_append, List.length_singleton] at hj
      rw [jI_wr_n (by omega), jI_wr_s, List.getD_eq_getElem?_getD]
      by_cases e : j = c.length
      · subst e
        rw [upd_s, List.getElem?_append_right (Nat.le_refl _), Nat.sub_self]
        rfl
      · rw [upd_n e, List.getElem?_append_left (by omega), ← List.getD_eq_getElem?_getD]
        exact a4 j (by omega)
/-- put, whatever is there -/
theorem k75e (R : rdI h r t) (S : szI h r) {v : Int32} (hQ : ∀ h', rfr r t h h' → jI h' t = jI h t → szI h' r → Q none h') (hrt : t ≠ r ∧ t ≠ r + 1) : jC (d + 1) 75 [.ref r, .int v] h Q := by
  obtain ⟨r1, r2, ⟨r3, r4⟩, -⟩ := R
  obtain ⟨n, hn, a1⟩ := S
  have hk : (1 ≤ (jK h (r + 1)).1 ∧ (jK h (r + 1)).1 ≤ 7) ∨ ((jK h (r + 1)).1 = 8 ∧ 75 = jlaw) ∨ (200 ≤ (jK h (r + 1)).1 ∧ (jK h (r + 1)).1 < 206) := by rw [r4]; exact Or.inl ⟨by omega, by omega⟩
  rw [e75]
  simp (config := { decide := true }) (disch := (first | assumption | omega | (simp (config := { decide := true }) only [r1, r3, jK_wI, jK_wJ, jK_wR, jK_wr, jR_wr, jR_wI, jR_wJ, jK_wj, jR_wj, stI_wr, cmI_wr, stI_wj, cmI_wj]; done) | (simp only [r1, r3, jK_wI, jK_wJ, jK_wR, jK_wr, jR_wr, jR_wI, jR_wJ, jK_wj, jR_wj, stI_wr, cmI_wr, stI_wj, cmI_wj]; refine jinb_nI ?_ ?_ <;> omega) | (refine jinb_nI ?_ ?_ <;> omega) | (simp only [stI_wr, cmI_wr, stI_wj, cmI_wj]; assumption))) only [s75_0, s75_1, s75_4, s75_5, a1, va_rf_some, va_rf_none, jK_wI, jR_wI, jJ_wI, jK_wJ, jR_wJ, jI_wJ, jK_wR, jI_wR, jJ_wR, jK_wr, jR_wr, jJ_wr, jcl1_i, jcl1_r, jcl1_z, jcl1_n, jcl1_l, jwI_row, jwr_jwr, jwr_cm, jwr_cc, upd_upd, jI_wr_s, jI_wr_a, jI_wr_b, jI_wr_c, mInv_wr, upd_s, upd_n, Option.toList, List.cons_append, List.nil_append, true_or, or_true, eq_self, and_self, ite_true, ite_false, if_true, if_false, jK_wj, jR_wj, jI_wj, jwJ_row, jwj_jwj, jJ_wj_s, jJ_wj_n, jI_wr_n, jinb_nI, nI_clamp, tc0, tc1, tc2, tc3, tc4, tc5, tc6, tc7, tc8, tc9, tc10, tc11, tc12, tc13, tc14, tc15, tc16, tc17, tc18, tc19, tc20, tc21, tc22, tc23, tc24, tc25, tc26, tc27, tc28, tc29, tc30, tc31, tc32, tc33, tc34, tc35, tc36, tc37, tc38, tc39, tc40, tc41, tc42, tc43, tc44, tc45, tc46, tc47, tc48, tc49, tc50, tc51, tc52, tc53, tc54, tc55, tc56, tc57, tc58, tc59, tc60, tc61, tc62, tc63, tc64, tc65, tc66, tc67, tc68, tc69, tc77, tc83, tc119, tc159, tc160, nI_add, al0, ar0, ml0, mr0, al1, ar1, ml1, mr1, al2, ar2, ml2, mr2, al3, ar3, ml3, mr3, al4, ar4, ml4, mr4, al5, ar5, ml5, mr5, al6, ar6, ml6, mr6, al8, ar8, ml8, mr8, al10, ar10, ml10, mr10, al11, ar11, ml11, mr11, al12, ar12, ml12, mr12, al13, ar13, ml13, mr13, al16, ar16, ml16, mr16, al20, ar20, ml20, mr20, al24, ar24, ml24, mr24, al29, ar29, ml29, mr29, al36, ar36, ml36, mr36, al42, ar42, ml42, mr42, al48, ar48, ml48, mr48, al55, ar55, ml55, mr55, al60, ar60, ml60, mr60, al65, ar65, ml65, mr65, al77, ar77, ml77, mr77, al83, ar83, ml83, mr83, al119, ar119, ml119, mr119, al159, ar159, ml159, mr159, al160, ar160, ml160, mr160, al400, ar400, ml400, mr400, r1, r3]
  rw [s75_8 hk, r4]
  by_cases e : n < 400
  · have z : ¬ Int32.ofNat 400 ≤ nI n := nI_ge (b := 400) (by omega) (by omega)
    simp (config := { decide := true }) (disch := (first | assumption | omega | (simp (config := { decide := true }) only [r1, r3, r4, jK_wI, jK_wJ, jK_wR, jK_wr, jR_wr, jR_wI, jR_wJ, jK_wj, jR_wj, stI_wr, cmI_wr, stI_wj, cmI_wj]; done) | (simp only [r1, r3, r4, jK_wI, jK_wJ, jK_wR, jK_wr, jR_wr, jR_wI, jR_wJ, jK_wj, jR_wj, stI_wr, cmI_wr, stI_wj, cmI_wj]; refine jinb_nI ?_ ?_ <;> omega) | (refine jinb_nI ?_ ?_ <;> omega) | (simp only [stI_wr, cmI_wr, stI_wj, cmI_wj]; assumption))) only [s75_9, s75_12, s75_13, s75_16, s75_17, s75_20, s75_21, s75_22, s75_23, s75_24, s75_27, s75_28, s75_29, s75_32, a1, if_neg z, va_rf_some, va_rf_none, jK_wI, jR_wI, jJ_wI, jK_wJ, jR_wJ, jI_wJ, jK_wR, jI_wR, jJ_wR, jK_wr, jR_wr, jJ_wr, jcl1_i, jcl1_r, jcl1_z, jcl1_n, jcl1_l, jwI_row, jwr_jwr, jwr_cm, jwr_cc, upd_upd, jI_wr_s, jI_wr_a, jI_wr_b, jI_wr_c, mInv_wr, upd_s, upd_n, Option.toList, List.cons_append, List.nil_append, true_or, or_true, eq_self, and_self, ite_true, ite_false, if_true, if_false, jK_wj, jR_wj, jI_wj, jwJ_row, jwj_jwj, jJ_wj_s, jJ_wj_n, jI_wr_n, jinb_nI, nI_clamp, tc0, tc1, tc2, tc3, tc4, tc5, tc6, tc7, tc8, tc9, tc10, tc11, tc12, tc13, tc14, tc15, tc16, tc17, tc18, tc19, tc20, tc21, tc22, tc23, tc24, tc25, tc26, tc27, tc28, tc29, tc30, tc31, tc32, tc33, tc34, tc35, tc36, tc37, tc38, tc39, tc40, tc41, tc42, tc43, tc44, tc45, tc46, tc47, tc48, tc49, tc50, tc51, tc52, tc53, tc54, tc55, tc56, tc57, tc58, tc59, tc60, tc61, tc62, tc63, tc64, tc65, tc66, tc67, tc68, tc69, tc77, tc83, tc119, tc159, tc160, nI_add, al0, ar0, ml0, mr0, al1, ar1, ml1, mr1, al2, ar2, ml2, mr2, al3, ar3, ml3, mr3, al4, ar4, ml4, mr4, al5, ar5, ml5, mr5, al6, ar6, ml6, mr6, al8, ar8, ml8, mr8, al10, ar10, ml10, mr10, al11, ar11, ml11, mr11, al12, ar12, ml12, mr12, al13, ar13, ml13, mr13, al16, ar16, ml16, mr16, al20, ar20, ml20, mr20, al24, ar24, ml24, mr24, al29, ar29, ml29, mr29, al36, ar36, ml36, mr36, al42, ar42, ml42, mr42, al48, ar48, ml48, mr48, al55, ar55, ml55, mr55, al60, ar60, ml60, mr60, al65, ar65, ml65, mr65, al77, ar77, ml77, mr77, al83, ar83, ml83, mr83, al119, ar119, ml119, mr119, al159, ar159, ml159, mr159, al160, ar160, ml160, mr160, al400, ar400, ml400, mr400, r1, r3, r4]
    refine hQ _ ?_ ?_ ⟨n + 1, by omega, by rw [jI_wr_s, upd_s]⟩
    · refine rfr_r ?_ (rfr_1 rfr_refl)
      rw [upd_n (by omega), jI_wr_n (by omega)]
    · rw [jI_wr_n hrt.1, jI_wr_n hrt.2]
  · have z : Int32.ofNat 400 ≤ nI n := nI_le (a := 400) (by omega) (by omega)
    simp (config := { decide := true }) (disch := (first | assumption | omega | (simp (config := { decide := true }) only [r1, r3, r4, jK_wI, jK_wJ, jK_wR, jK_wr, jR_wr, jR_wI, jR_wJ, jK_wj, jR_wj, stI_wr, cmI_wr, stI_wj, cmI_wj]; done) | (simp only [r1, r3, r4, jK_wI, jK_wJ, jK_wR, jK_wr, jR_wr, jR_wI, jR_wJ, jK_wj, jR_wj, stI_wr, cmI_wr, stI_wj, cmI_wj]; refine jinb_nI ?_ ?_ <;> omega) | (refine jinb_nI ?_ ?_ <;> omega) | (simp only [stI_wr, cmI_wr, stI_wj, cmI_wj]; assumption))) only [s75_9, s75_32, if_pos z, va_rf_some, va_rf_none, jK_wI, jR_wI, jJ_wI, jK_wJ, jR_wJ, jI_wJ, jK_wR, jI_wR, jJ_wR, jK_wr, jR_wr, jJ_wr, jcl1_i, jcl1_r, jcl1_z, jcl1_n, jcl1_l, jwI_row, jwr_jwr, jwr_cm, jwr_cc, upd_upd, jI_wr_s, jI_wr_a, jI_wr_b, jI_wr_c, mInv_wr, upd_s, upd_n, Option.toList, List.cons_append, List.nil_append, true_or, or_true, eq_self, and_self, ite_true, ite_false, if_true, if_false, jK_wj, jR_wj, jI_wj, jwJ_row, jwj_jwj, jJ_wj_s, jJ_wj_n, jI_wr_n, jinb_nI, nI_clamp, tc0, tc1, tc2, tc3, tc4, tc5, tc6, tc7, tc8, tc9, tc10, tc11, tc12, tc13, tc14, tc15, tc16, tc17, tc18, tc19, tc20, tc21, tc22, tc23, tc24, tc25, tc26, tc27, tc28, tc29, tc30, tc31, tc32, tc33, tc34, tc35, tc36, tc37, tc38, tc39, tc40, tc41, tc42, tc43, tc44, tc45, tc46, tc47, tc48, tc49, tc50, tc51, tc52, tc53, tc54, tc55, tc56, tc57, tc58, tc59, tc60, tc61, tc62, tc63, tc64, tc65, tc66, tc67, tc68, tc69, tc77, tc83, tc119, tc159, tc160, nI_add, al0, ar0, ml0, mr0, al1, ar1, ml1, mr1, al2, ar2, ml2, mr2, al3, ar3, ml3, mr3, al4, ar4, ml4, mr4, al5, ar5, ml5, mr5, al6, ar6, ml6, mr6, al8, ar8, ml8, mr8, al10, ar10, ml10, mr10, al11, ar11, ml11, mr11, al12, ar12, ml12, mr12, al13, ar13, ml13, mr13, al16, ar16, ml16, mr16, al20, ar20, ml20, mr20, al24, ar24, ml24, mr24, al29, ar29, ml29, mr29, al36, ar36, ml36, mr36, al42, ar42, ml42, mr42, al48, ar48, ml48, mr48, al55, ar55, ml55, mr55, al60, ar60, ml60, mr60, al65, ar65, ml65, mr65, al77, ar77, ml77, mr77, al83, ar83, ml83, mr83, al119, ar119, ml119, mr119, al159, ar159, ml159, mr159, al160, ar160, ml160, mr160, al400, ar400, ml400, mr400, r1, r3, r4]
    exact hQ _ rfr_refl rfl ⟨n, hn, a1⟩
/-- codeOf -/
theorem k76 {x : Int32} (hx : ∃ n, n < 261 ∧ x = nI n - 5) : jC (d + 1) 76 [.int x] h Q ↔ Q (some (.int (cdf x))) h := by
  obtain ⟨n, hn, e⟩ := hx
  have ht := cdt_ok n hn
  rw [← e] at ht
  rw [e76, s76_0, s76_1 ht]
  unfold cdt cdf
  by_cases h1 : x = 43
  · rw [if_pos h1, if_pos h1, s76_92, s76_94]
  · rw [if_neg h1, if_neg h1]
    by_cases h2 : x = 45
    · rw [if_pos h2, if_pos h2, s76_95, s76_97]
    · rw [if_neg h2, if_neg h2]
      by_cases h3 : x = 42
      · rw [if_pos h3, if_pos h3, s76_98, s76_100]
      · rw [if_neg h3, if_neg h3]
        by_cases h4 : x = 47
        · rw [if_pos h4, if_pos h4, s76_101, s76_103]
        · rw [if_neg h4, if_neg h4]
          by_cases h5 : x = 37
          · rw [if_pos h5, if_pos h5, s76_104, s76_106]
          · rw [if_neg h5, if_neg h5]
            by_cases h6 : x = 60
            · rw [if_pos h6, if_pos h6, s76_107, s76_109]
            · rw [if_neg h6, if_neg h6]
              by_cases h7 : x = -4
              · rw [if_pos h7, if_pos h7, s76_110, s76_112]
              · rw [if_neg h7, if_neg h7]
                by_cases h8 : x = 61
                · rw [if_pos h8, if_pos h8, s76_113, s76_115]
                · rw [if_neg h8, if_neg h8]
                  by_cases h9 : x = -5
                  · rw [if_pos h9, if_pos h9, s76_116, s76_118]
                  · rw [if_neg h9, if_neg h9]
                    by_cases h10 : x = 62
                    · rw [if_pos h10, if_pos h10, s76_119, s76_121]
                    · rw [if_neg h10, if_neg h10, s76_122, s76_123]
end
