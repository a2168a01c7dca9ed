/-! THE TIE: questions -/
section
variable {h h1 : jH} {x c C : Nat} {d : Nat} {Q : Option Value → jH → Prop} {S : Nat → Int32} {F : Int32} {rr : Option Nat} {rv : Option ((Nat → Int64) → Int64)} {fs : Nat → (Nat → Int64) → Int64}
theorem k112f (X : wx h x c C fs S F rr rv) (h23 : jK h (x + 23) = (25, 3)) (h1 : jK h (x + 1) = (30, 7)) : (jC (d + 4) 112 [.ref x, .int 12] h Q ↔ Q (some (.int (jI h (x + 23) 2))) h) ∧ (jC (d + 4) 112 [.ref x, .int 13] h Q ↔ Q (some (.int (jI h (x + 8) 2))) h) ∧ (jC (d + 4) 112 [.ref x, .int 14] h Q ↔ Q (some (.int (jI h (x + 1) 1))) h) := by
  obtain ⟨⟨⟨x0, x1, x2, x3, x4, x5, -⟩, xc⟩, ⟨⟨a1, a2, a3⟩, ⟨a4, a5⟩, ⟨a6, a7, a8⟩, -⟩, ⟨n1, n2, n3, -⟩, -⟩ := X
  refine ⟨?_, ?_, ?_⟩
  · rw [e112]
    simp (config := { decide := true }) (disch := (first | assumption | omega | (simp (config := { decide := true }) only [x0, x4, x5, a1, a2, h23, jK_wI, jK_wJ, jK_wR, jK_wr, jR_wr, jR_wI, jR_wJ, jK_wj, jR_wj, stI_wr, cmI_wr, stI_wj, cmI_wj]; done) | (simp only [x0, x4, x5, a1, a2, h23, jK_wI, jK_wJ, jK_wR, jK_wr, jR_wr, jR_wI, jR_wJ, jK_wj, jR_wj, stI_wr, cmI_wr, stI_wj, cmI_wj]; refine jinb_nI ?_ ?_ <;> omega) | (refine jinb_nI ?_ ?_ <;> omega) | (simp only [stI_wr, cmI_wr, stI_wj, cmI_wj]; assumption))) only [s112_0, s112_1_0, s112_1_1, s112_1_2, s112_1_3, s112_1_4, s112_1_5, s112_1_6, s112_1_7, s112_1_8, s112_1_9, s112_1_10, s112_1_11, s112_1_12, s112_1_13, s112_1_14, s112_1_d, s112_209, s112_210, s112_213, s112_216, va_rf_some, va_rf_none, jK_wI, jR_wI, jJ_wI, jK_wJ, jR_wJ, jI_wJ, jK_wR, jI_wR, jJ_wR, jK_wr, jR_wr, jJ_wr, jcl1_i, jcl1_r, jcl1_z, jcl1_n, jcl1_l, jwI_row, jwr_jwr, jwr_cm, jwr_cc, upd_upd, jI_wr_s, jI_wr_a, jI_wr_b, jI_wr_c, mInv_wr, upd_s, upd_n, Option.toList, List.cons_append, List.nil_append, true_or, or_true, eq_self, and_self, ite_true, ite_false, if_true, if_false, jK_wj, jR_wj, jI_wj, jwJ_row, jwj_jwj, jJ_wj_s, jJ_wj_n, jI_wr_n, jinb_nI, nI_clamp, tc0, tc1, tc2, tc3, tc4, tc5, tc6, tc7, tc8, tc9, tc10, tc11, tc12, tc13, tc14, tc15, tc16, tc17, tc18, tc19, tc20, tc21, tc22, tc23, tc24, tc25, tc26, tc27, tc28, tc29, tc30, tc31, tc32, tc33, tc34, tc35, tc36, tc37, tc38, tc39, tc40, tc41, tc42, tc43, tc44, tc45, tc46, tc47, tc48, tc49, tc50, tc51, tc52, tc53, tc54, tc55, tc56, tc57, tc58, tc59, tc60, tc61, tc62, tc63, tc64, tc65, tc66, tc67, tc68, tc69, tc77, tc83, tc119, tc159, tc160, nI_add, al0, ar0, ml0, mr0, al1, ar1, ml1, mr1, al2, ar2, ml2, mr2, al3, ar3, ml3, mr3, al4, ar4, ml4, mr4, al5, ar5, ml5, mr5, al6, ar6, ml6, mr6, al8, ar8, ml8, mr8, al10, ar10, ml10, mr10, al11, ar11, ml11, mr11, al12, ar12, ml12, mr12, al13, ar13, ml13, mr13, al16, ar16, ml16, mr16, al20, ar20, ml20, mr20, al24, ar24, ml24, mr24, al29, ar29, ml29, mr29, al36, ar36, ml36, mr36, al42, ar42, ml42, mr42, al48, ar48, ml48, mr48, al55, ar55, ml55, mr55, al60, ar60, ml60, mr60, al65, ar65, ml65, mr65, al77, ar77, ml77, mr77, al83, ar83, ml83, mr83, al119, ar119, ml119, mr119, al159, ar159, ml159, mr159, al160, ar160, ml160, mr160, al400, ar400, ml400, mr400, x0, x4, x5, a1, a2, h23]
  · rw [e112]
    simp (config := { decide := true }) (disch := (first | assumption | omega | (simp (config := { decide := true }) only [x0, x4, x5, a1, a2, h23, jK_wI, jK_wJ, jK_wR, jK_wr, jR_wr, jR_wI, jR_wJ, jK_wj, jR_wj, stI_wr, cmI_wr, stI_wj, cmI_wj]; done) | (simp only [x0, x4, x5, a1, a2, h23, jK_wI, jK_wJ, jK_wR, jK_wr, jR_wr, jR_wI, jR_wJ, jK_wj, jR_wj, stI_wr, cmI_wr, stI_wj, cmI_wj]; refine jinb_nI ?_ ?_ <;> omega) | (refine jinb_nI ?_ ?_ <;> omega) | (simp only [stI_wr, cmI_wr, stI_wj, cmI_wj]; assumption))) only [s112_0, s112_1_0, s112_1_1, s112_1_2, s112_1_3, s112_1_4, s112_1_5, s112_1_6, s112_1_7, s112_1_8, s112_1_9, s112_1_10, s112_1_11, s112_1_12, s112_1_13, s112_1_14, s112_1_d, s112_217, s112_218, s112_221, s112_224, va_rf_some, va_rf_none, jK_wI, jR_wI, jJ_wI, jK_wJ, jR_wJ, jI_wJ, jK_wR, jI_wR, jJ_wR, jK_wr, jR_wr, jJ_wr, jcl1_i, jcl1_r, jcl1_z, jcl1_n, jcl1_l, jwI_row, jwr_jwr, jwr_cm, jwr_cc, upd_upd, jI_wr_s, jI_wr_a, jI_wr_b, jI_wr_c, mInv_wr, upd_s, upd_n, Option.toList, List.cons_append, List.nil_append, true_or, or_true, eq_self, and_self, ite_true, ite_false, if_true, if_false, jK_wj, jR_wj, jI_wj, jwJ_row, jwj_jwj, jJ_wj_s, jJ_wj_n, jI_wr_n, jinb_nI, nI_clamp, tc0, tc1, tc2, tc3, tc4, tc5, tc6, tc7, tc8, tc9, tc10, tc11, tc12, tc13, tc14, tc15, tc16, tc17, tc18, tc19, tc20, tc21, tc22, tc23, tc24, tc25, tc26, tc27, tc28, tc29, tc30, tc31, tc32, tc33, tc34, tc35, tc36, tc37, tc38, tc39, tc40, tc41, tc42, tc43, tc44, tc45, tc46, tc47, tc48, tc49, tc50, tc51, tc52, tc53, tc54, tc55, tc56, tc57, tc58, tc59, tc60, tc61, tc62, tc63, tc64, tc65, tc66, tc67, tc68, tc69, tc77, tc83, tc119, tc159, tc160, nI_add, al0, ar0, ml0, mr0, al1, ar1, ml1, mr1, al2, ar2, ml2, mr2, al3, ar3, ml3, mr3, al4, ar4, ml4, mr4, al5, ar5, ml5, mr5, al6, ar6, ml6, mr6, al8, ar8, ml8, mr8, al10, ar10, ml10, mr10, al11, ar11, ml11, mr11, al12, ar12, ml12, mr12, al13, ar13, ml13, mr13, al16, ar16, ml16, mr16, al20, ar20, ml20, mr20, al24, ar24, ml24, mr24, al29, ar29, ml29, mr29, al36, ar36, ml36, mr36, al42, ar42, ml42, mr42, al48, ar48, ml48, mr48, al55, ar55, ml55, mr55, al60, ar60, ml60, mr60, al65, ar65, ml65, mr65, al77, ar77, ml77, mr77, al83, ar83, ml83, mr83, al119, ar119, ml119, mr119, al159, ar159, ml159, mr159, al160, ar160, ml160, mr160, al400, ar400, ml400, mr400, x0, x4, x5, a1, a2, h23]
  · rw [e112]
    simp (config := { decide := true }) (disch := (first | assumption | omega | (simp (config := { decide := true }) only [x0, x1, x4, x5, a1, a2, h1, jK_wI, jK_wJ, jK_wR, jK_wr, jR_wr, jR_wI, jR_wJ, jK_wj, jR_wj, stI_wr, cmI_wr, stI_wj, cmI_wj]; done) | (simp only [x0, x1, x4, x5, a1, a2, h1, jK_wI, jK_wJ, jK_wR, jK_wr, jR_wr, jR_wI, jR_wJ, jK_wj, jR_wj, stI_wr, cmI_wr, stI_wj, cmI_wj]; refine jinb_nI ?_ ?_ <;> omega) | (refine jinb_nI ?_ ?_ <;> omega) | (simp only [stI_wr, cmI_wr, stI_wj, cmI_wj]; assumption))) only [s112_0, s112_1_0, s112_1_1, s112_1_2, s112_1_3, s112_1_4, s112_1_5, s112_1_6, s112_1_7, s112_1_8, s112_1_9, s112_1_10, s112_1_11, s112_1_12, s112_1_13, s112_1_14, s112_1_d, s112_225, s112_226, s112_229, s112_232, va_rf_some, va_rf_none, jK_wI, jR_wI, jJ_wI, jK_wJ, jR_wJ, jI_wJ, jK_wR, jI_wR, jJ_wR, jK_wr, jR_wr, jJ_wr, jcl1_i, jcl1_r, jcl1_z, jcl1_n, jcl1_l, jwI_row, jwr_jwr, jwr_cm, jwr_cc, upd_upd, jI_wr_s, jI_wr_a, jI_wr_b, jI_wr_c, mInv_wr, upd_s, upd_n, Option.toList, List.cons_append, List.nil_append, true_or, or_true, eq_self, and_self, ite_true, ite_false, if_true, if_false, jK_wj, jR_wj, jI_wj, jwJ_row, jwj_jwj, jJ_wj_s, jJ_wj_n, jI_wr_n, jinb_nI, nI_clamp, tc0, tc1, tc2, tc3, tc4, tc5, tc6, tc7, tc8, tc9, tc10, tc11, tc12, tc13, tc14, tc15, tc16, tc17, tc18, tc19, tc20, tc21, tc22, tc23, tc24, tc25, tc26, tc27, tc28, tc29, tc30, tc31, tc32, tc33, tc34, tc35, tc36, tc37, tc38, tc39, tc40, tc41, tc42, tc43, tc44, tc45, tc46, tc47, tc48, tc49, tc50, tc51, tc52, tc53, tc54, tc55, tc56, tc57, tc58, tc59, tc60, tc61, tc62, tc63, tc64, tc65, tc66, tc67, tc68, tc69, tc77, tc83, tc119, tc159, tc160, nI_add, al0, ar0, ml0, mr0, al1, ar1, ml1, mr1, al2, ar2, ml2, mr2, al3, ar3, ml3, mr3, al4, ar4, ml4, mr4, al5, ar5, ml5, mr5, al6, ar6, ml6, mr6, al8, ar8, ml8, mr8, al10, ar10, ml10, mr10, al11, ar11, ml11, mr11, al12, ar12, ml12, mr12, al13, ar13, ml13, mr13, al16, ar16, ml16, mr16, al20, ar20, ml20, mr20, al24, ar24, ml24, mr24, al29, ar29, ml29, mr29, al36, ar36, ml36, mr36, al42, ar42, ml42, mr42, al48, ar48, ml48, mr48, al55, ar55, ml55, mr55, al60, ar60, ml60, mr60, al65, ar65, ml65, mr65, al77, ar77, ml77, mr77, al83, ar83, ml83, mr83, al119, ar119, ml119, mr119, al159, ar159, ml159, mr159, al160, ar160, ml160, mr160, al400, ar400, ml400, mr400, x0, x1, x4, x5, a1, a2, h1]
end
theorem ty_a5 {s w : Int32} : ty_ans 109 184 [.int s, .int w] := by
  intro d h x c C fs S F X rr rv U L Wx hX hX0 hU hL
  have O : oS S := Wx.2.1.2.2.2.2.2.1
  have W : mW S := O.1
  have B : mB S := O.2.1
  have hD : sD S ≤ 1000 := Nat.le_trans Wx.2.2.2.2.2.2.2.1 (by omega)
  cases hs : isS S s with
  | false => exact ⟨-1, fun Q q => (k109n Wx hs).2 (q h (scr_refl Wx)), fun h1 Q b e _ _ q => by subst e; exact (c184n b.1 (ty_noS hs)).2 (q h1 rq_refl)⟩
  | true =>
    obtain ⟨n, rfl, hn, h6⟩ := ty_isS W hs
    rcases ty_w (hi := 4) (by omega) w with hw | ⟨k, hk, rfl⟩
    · exact ⟨-1, fun Q q => (k109d Wx hn hw).2 (q h (scr_refl Wx)), fun h1 Q b e _ _ q => by subst e; exact (c184d b.1 W hn hw).2 (q h1 rq_refl)⟩
    · rcases (by omega : k < 3 ∨ k = 3 ∨ k = 4) with g | g | g
      · exact ⟨_, fun Q q => (k109t Wx hn g).2 (q h (scr_refl Wx)), fun h1 Q b e _ _ q => by subst e; exact (c184t b.1 W hn g).2 (q h1 rq_refl)⟩
      · subst g
        exact ⟨_, fun Q q => (k109c Wx hn).2 (q h (scr_refl Wx)), fun h1 Q b e _ _ q => by
          subst e
          have e3 : jI h1 (x + 50) 23 = -1 := b.2.2.2.2.1
          refine (c184c b.1 W hn).2 ?_
          rw [e3, mday0]
          exact q h1 rq_refl⟩
      · subst g
        exact ⟨_, fun Q q => (k109b Wx hn).2 (q h (scr_refl Wx)), fun h1 Q b e _ _ q => by
          subst e
          have e3 : jI h1 (x + 50) 23 = -1 := b.2.2.2.2.1
          refine (c184b b.1 W hn).2 ?_
          rw [e3, mday0]
          exact q h1 rq_refl⟩
theorem ty_a6 {s k : Int32} : ty_ans 110 192 [.int s, .int k] := by
  intro d h x c C fs S F X rr rv U L Wx hX hX0 hU hL
  have O : oS S := Wx.2.1.2.2.2.2.2.1
  have W : mW S := O.1
  have B : mB S := O.2.1
  have hD : sD S ≤ 1000 := Nat.le_trans Wx.2.2.2.2.2.2.2.1 (by omega)
  cases hn : (isS S s && isK S k) with
  | false => exact ⟨-1, fun Q q => (k110n Wx hn).2 (q h (scr_refl Wx)), fun h1 Q b e _ _ q => by subst e; exact (c192n b.1 W (ty_noB W hn)).2 (q h1 rq_refl)⟩
  | true =>
    obtain ⟨hA, h2⟩ := Bool.and_eq_true_iff.mp hn
    obtain ⟨s, rfl, hs, -⟩ := ty_isS W hA
    obtain ⟨k, rfl, hk, -⟩ := ty_isK W h2
    exact ⟨_, fun Q q => (k110y Wx hs hk).2 (q h (scr_refl Wx)), fun h1 Q b e _ _ q => by subst e; exact (c192y b.1 W hs hk).2 (q h1 rq_refl)⟩
theorem ty_a22 {s k : Int32} : ty_ans 132 234 [.int s, .int k] := by
  intro d h x c C fs S F X rr rv U L Wx hX hX0 hU hL
  have O : oS S := Wx.2.1.2.2.2.2.2.1
  have W : mW S := O.1
  have B : mB S := O.2.1
  have hD : sD S ≤ 1000 := Nat.le_trans Wx.2.2.2.2.2.2.2.1 (by omega)
  cases hn : (isS S s && isK S k) with
  | false => exact ⟨-1, fun Q q => (k132n Wx hn).2 (q h (scr_refl Wx)), fun h1 Q b e _ _ q => by subst e; exact (c234n b.1 W (ty_noB W hn)).2 (q h1 rq_refl)⟩
  | true =>
    obtain ⟨hA, h2⟩ := Bool.and_eq_true_iff.mp hn
    obtain ⟨s, rfl, hs, -⟩ := ty_isS W hA
    obtain ⟨k, rfl, hk, -⟩ := ty_isK W h2
    exact ⟨_, fun Q q => (k132y Wx hs hk).2 (q h (scr_refl Wx)), fun h1 Q b e _ _ q => by subst e; exact (c234y b.1 W hs hk).2 (q h1 rq_refl)⟩
theorem ty_a7 {k : Int32} : ty_ans 111 194 [.int k] := by
  intro d h x c C fs S F X rr rv U L Wx hX hX0 hU hL
  have O : oS S := Wx.2.1.2.2.2.2.2.1
  have W : mW S := O.1
  have B : mB S := O.2.1
  have hD : sD S ≤ 1000 := Nat.le_trans Wx.2.2.2.2.2.2.2.1 (by omega)
  cases hn : isK S k with
  | false => exact ⟨-1, fun Q q => (k111n Wx hn).2 (q h (scr_refl Wx)), fun h1 Q b e _ _ q => by subst e; exact (c194n b.1 (ty_noK hn)).2 (q h1 rq_refl)⟩
  | true =>
    obtain ⟨k, rfl, hk, -⟩ := ty_isK W hn
    exact ⟨_, fun Q q => (k111y Wx hk).2 (q h (scr_refl Wx)), fun h1 Q b e _ _ q => by subst e; exact (c194y b.1 W hk).2 (q h1 rq_refl)⟩
theorem ty_a14 {s n w : Int32} : ty_ans 121 215 [.int s, .int n, .int w] := by
  intro d h x c C fs S F X rr rv U L Wx hX hX0 hU hL
  have O : oS S := Wx.2.1.2.2.2.2.2.1
  have W : mW S := O.1
  have B : mB S := O.2.1
  have hD : sD S ≤ 1000 := Nat.le_trans Wx.2.2.2.2.2.2.2.1 (by omega)
  cases hn : okAhead S s n w with
  | false => exact ⟨-1, fun Q q => (k121n Wx hn).2 (q h (scr_refl Wx)), fun h1 Q b e _ _ q => by subst e; exact (c215n b.1 hn).2 (q h1 rq_refl)⟩
  | true =>
    unfold okAhead at hn
    simp only [Bool.and_eq_true] at hn
    obtain ⟨⟨hA, h2⟩, h3⟩ := hn
    obtain ⟨s, rfl, hs, -⟩ := ty_isS W hA
    obtain ⟨n, -, hn, rfl⟩ := inR_nat (lo := 0) (hi := 100) (by omega) (by omega) h2
    obtain ⟨w, -, hw, rfl⟩ := inR_nat (lo := 0) (hi := 2) (by omega) (by omega) h3
    exact ⟨_, fun Q q => k121y Wx hs hn hw q, fun h1 Q b e _ _ q => by
      subst e
      rw [← mSc_self (h := h1) (m := x + 50)]
      exact c215y b W B hD hs hn hw (fun K tp st wd => q _ (rq_trans (rq_wr (j := 13) (by omega) (by omega)) rq_sc))⟩
theorem ty_a15 {s : Int32} : ty_ans 122 220 [.int s] := by
  intro d h x c C fs S F X rr rv U L Wx hX hX0 hU hL
  have O : oS S := Wx.2.1.2.2.2.2.2.1
  have W : mW S := O.1
  have B : mB S := O.2.1
  have hD : sD S ≤ 1000 := Nat.le_trans Wx.2.2.2.2.2.2.2.1 (by omega)
  cases hn : isS S s with
  | false => exact ⟨-1, fun Q q => (k122n Wx hn).2 (q h (scr_refl Wx)), fun h1 Q b e _ _ q => by subst e; exact (c220n b.1 hn).2 (q h1 rq_refl)⟩
  | true =>
    obtain ⟨s, rfl, hs, -⟩ := ty_isS W hn
    exact ⟨_, fun Q q => k122y Wx hs q, fun h1 Q b e _ _ q => by
      subst e
      rw [← mSc_self (h := h1) (m := x + 50)]
      exact c220y b W B hD hs (fun K tp st wd => q _ (rq_trans (rq_wr (j := 13) (by omega) (by omega)) rq_sc))⟩
theorem ty_a16 {w : Int32} : ty_ans 123 221 [.int w] := by
  intro d h x c C fs S F X rr rv U L Wx hX hX0 hU hL
  have O : oS S := Wx.2.1.2.2.2.2.2.1
  have W : mW S := O.1
  have B : mB S := O.2.1
  have hD : sD S ≤ 1000 := Nat.le_trans Wx.2.2.2.2.2.2.2.1 (by omega)
  cases hn : okOff S w with
  | false => exact ⟨-1, fun Q q => (k123n Wx hn).2 (q h (scr_refl Wx)), fun h1 Q b e _ _ q => by subst e; exact (c221n b.1 hn).2 (q h1 rq_refl)⟩
  | true =>
    unfold okOff at hn
    simp only [Bool.and_eq_true] at hn
    obtain ⟨hC, h2⟩ := hn
    obtain ⟨w, -, hw, rfl⟩ := inR_nat (lo := 0) (hi := 1) (by omega) (by omega) h2
    exact ⟨_, fun Q q => k123y Wx hC hw q, fun h1 Q b e Rs fl q => by
      subst e
      rw [← mSc_self (h := h1) (m := x + 50)]
      exact c221y b W B hD hC hw (fun K tp st wd => q _ (rq_trans (rq_wr (j := 13) (by omega) (by omega)) rq_sc))⟩
theorem ty_a17 {w : Int32} : ty_ans 128 222 [.int w] := by
  intro d h x c C fs S F X rr rv U L Wx hX hX0 hU hL
  have O : oS S := Wx.2.1.2.2.2.2.2.1
  have W : mW S := O.1
  have B : mB S := O.2.1
  have hD : sD S ≤ 1000 := Nat.le_trans Wx.2.2.2.2.2.2.2.1 (by omega)
  cases hn : okOff S w with
  | false => exact ⟨-1, fun Q q => (k128n Wx hn).2 (q h (scr_refl Wx)), fun h1 Q b e _ _ q => by subst e; exact (c222n b.1 hn).2 (q h1 rq_refl)⟩
  | true =>
    unfold okOff at hn
    simp only [Bool.and_eq_true] at hn
    obtain ⟨hC, h2⟩ := hn
    obtain ⟨w, -, hw, rfl⟩ := inR_nat (lo := 0) (hi := 1) (by omega) (by omega) h2
    exact ⟨_, fun Q q => k128y Wx hC hw q, fun h1 Q b e Rs fl q => by
      subst e
      exact (c222y b.1 W b.2.2.2.2.1 hC hw).2 (q h1 rq_refl)⟩
theorem ty_a26 {w : Int32} : ty_ans 126 241 [.int w] := by
  intro d h x c C fs S F X rr rv U L Wx hX hX0 hU hL
  have O : oS S := Wx.2.1.2.2.2.2.2.1
  have W : mW S := O.1
  have B : mB S := O.2.1
  have hD : sD S ≤ 1000 := Nat.le_trans Wx.2.2.2.2.2.2.2.1 (by omega)
  cases hn : okOff S w with
  | false => exact ⟨-1, fun Q q => (k126n Wx hn).2 (q h (scr_refl Wx)), fun h1 Q b e _ _ q => by subst e; exact (c241n b.1 hn).2 (q h1 rq_refl)⟩
  | true =>
    unfold okOff at hn
    simp only [Bool.and_eq_true] at hn
    obtain ⟨hC, h2⟩ := hn
    obtain ⟨w, -, hw, rfl⟩ := inR_nat (lo := 0) (hi := 1) (by omega) (by omega) h2
    exact ⟨_, fun Q q => k126y Wx hC hw q, fun h1 Q b e Rs fl q => by
      subst e
      rw [← mSc_self (h := h1) (m := x + 50)]
      exact c241y b rfl W B hD hC hw (fun K X tp st wd => q _ (rq_trans (rq_wr (j := 13) (by omega) (by omega)) (rq_trans (rq_wr (j := 18) (by omega) (by omega)) rq_sc)))⟩
theorem ty_a28 {w : Int32} : ty_ans 136 244 [.int w] := by
  intro d h x c C fs S F X rr rv U L Wx hX hX0 hU hL
  have O : oS S := Wx.2.1.2.2.2.2.2.1
  have W : mW S := O.1
  have B : mB S := O.2.1
  have hD : sD S ≤ 1000 := Nat.le_trans Wx.2.2.2.2.2.2.2.1 (by omega)
  cases hn : okOff S w with
  | false => exact ⟨-3, fun Q q => (k136n Wx hn).2 (q h (scr_refl Wx)), fun h1 Q b e _ _ q => by subst e; exact (c244n b.1 hn).2 (q h1 rq_refl)⟩
  | true =>
    unfold okOff at hn
    simp only [Bool.and_eq_true] at hn
    obtain ⟨hC, h2⟩ := hn
    obtain ⟨w, -, hw, rfl⟩ := inR_nat (lo := 0) (hi := 1) (by omega) (by omega) h2
    exact ⟨_, fun Q q => k136y Wx hC hw q, fun h1 Q b e Rs fl q => by
      subst e
      rw [← mSc_self (h := h1) (m := x + 50)]
      exact c244y b Rs rfl W (nO_nOk Wx.2.2.1.2.2.2.1) hC hw (fun K Y X tp st wd => q _ (rq_trans (rq_wr (j := 13) (by omega) (by omega)) (rq_trans (rq_wr (j := 19) (by omega) (by omega)) (rq_trans (rq_wr (j := 20) (by omega) (by omega)) rq_sc))))⟩
theorem ty_a29 {n w : Int32} : ty_ans 137 247 [.int n, .int w] := by
  intro d h x c C fs S F X rr rv U L Wx hX hX0 hU hL
  have O : oS S := Wx.2.1.2.2.2.2.2.1
  have W : mW S := O.1
  have B : mB S := O.2.1
  have hD : sD S ≤ 1000 := Nat.le_trans Wx.2.2.2.2.2.2.2.1 (by omega)
  cases hn : okLook S n w with
  | false => exact ⟨-1, fun Q q => (k137n Wx hn).2 (q h (scr_refl Wx)), fun h1 Q b e _ _ q => by subst e; exact (c247n b.1 hn).2 (q h1 rq_refl)⟩
  | true =>
    unfold okLook at hn
    simp only [Bool.and_eq_true] at hn
    obtain ⟨⟨hC, h2⟩, h3⟩ := hn
    obtain ⟨n, -, hn, rfl⟩ := inR_nat (lo := 0) (hi := 60) (by omega) (by omega) h2
    obtain ⟨w, -, hw, rfl⟩ := inR_nat (lo := 0) (hi := 1) (by omega) (by omega) h3
    exact ⟨_, fun Q q => k137y Wx hC hn hw q, fun h1 Q b e Rs fl q => by
      subst e
      rw [← mSc_self (h := h1) (m := x + 50)]
      exact c247y b Rs rfl W (nO_nOk Wx.2.2.1.2.2.2.1) hC hn hw (fun K Y X tp st wd => q _ (rq_trans (rq_wr (j := 13) (by omega) (by omega)) (rq_trans (rq_wr (j := 19) (by omega) (by omega)) (rq_trans (rq_wr (j := 20) (by omega) (by omega)) rq_sc))))⟩
theorem ty_a19 : ty_ans 130 228 [] := by
  intro d h x c C fs S F X rr rv U L Wx hX hX0 hU hL
  have O : oS S := Wx.2.1.2.2.2.2.2.1
  have W : mW S := O.1
  have B : mB S := O.2.1
  have hD : sD S ≤ 1000 := Nat.le_trans Wx.2.2.2.2.2.2.2.1 (by omega)
  cases hn : isC S with
  | false => exact ⟨-1, fun Q q => (k130n Wx hn).2 (q h (scr_refl Wx)), fun h1 Q b e _ _ q => by subst e; exact (c228n b.1 hn).2 (q h1 rq_refl)⟩
  | true => exact ⟨_, fun Q q => (k130y Wx hn).2 (q h (scr_refl Wx)), fun h1 Q b e _ _ q => by subst e; exact (c228y b.1 W B hn).2 (q h1 rq_refl)⟩
theorem ty_a21 {n : Int32} : ty_ans 124 233 [.int n] := by
  intro d h x c C fs S F X rr rv U L Wx hX hX0 hU hL
  have O : oS S := Wx.2.1.2.2.2.2.2.1
  have W : mW S := O.1
  have B : mB S := O.2.1
  have hD : sD S ≤ 1000 := Nat.le_trans Wx.2.2.2.2.2.2.2.1 (by omega)
  cases hn : okLearn S n with
  | false => exact ⟨-1, fun Q q => (k124n Wx hn).2 (q h (scr_refl Wx)), fun h1 Q b e _ _ q => by subst e; exact (c233n b.1 hn).2 (q h1 rq_refl)⟩
  | true =>
    unfold okLearn at hn
    simp only [Bool.and_eq_true] at hn
    obtain ⟨hC, h2⟩ := hn
    obtain ⟨n, hn1, hn, rfl⟩ := inR_nat (lo := 1) (hi := 60) (by omega) (by omega) h2
    exact ⟨_, fun Q q => k124y Wx hC hn1 hn q, fun h1 Q b e _ _ q => by
      subst e
      rw [← mSc_self (h := h1) (m := x + 50)]
      exact c233y b W B hD hC hn1 hn (fun K tp st wd => q _ (rq_trans (rq_wr (j := 13) (by omega) (by omega)) rq_sc))⟩
theorem ty_a23 {n w : Int32} : ty_ans 125 235 [.int n, .int w] := by
  intro d h x c C fs S F X rr rv U L Wx hX hX0 hU hL
  have O : oS S := Wx.2.1.2.2.2.2.2.1
  have W : mW S := O.1
  have B : mB S := O.2.1
  have hD : sD S ≤ 1000 := Nat.le_trans Wx.2.2.2.2.2.2.2.1 (by omega)
  cases hn : okOut S n w with
  | false => exact ⟨-1, fun Q q => (k125n Wx hn).2 (q h (scr_refl Wx)), fun h1 Q b e _ _ q => by subst e; exact (c235n b.1 hn).2 (q h1 rq_refl)⟩
  | true =>
    unfold okOut at hn
    simp only [Bool.and_eq_true] at hn
    obtain ⟨⟨hC, h2⟩, h3⟩ := hn
    obtain ⟨n, hn1, hn, rfl⟩ := inR_nat (lo := 1) (hi := 30) (by omega) (by omega) h2
    obtain ⟨w, -, hw, rfl⟩ := inR_nat (lo := 0) (hi := 1) (by omega) (by omega) h3
    have ha := (lo_eq (p := loP rv S n) O.1.2.1.2 (loP_top O (by omega))).1
    exact ⟨if w = 0 then nI (mbN (xlo (loP rv S n) (2 ^ sK S - 1) (sK S) 0)) else nI (xlo (loP rv S n) (2 ^ sK S - 1) (sK S) 0), fun Q q => k125y Wx hC hn1 hn hw (fun h1 a G ea => by
      rw [ha] at ea
      cases ea
      exact q h1 G), fun h1 Q b e _ _ q => by
      subst e
      rw [← mSc_self (h := h1) (m := x + 50)]
      exact c235y b W B hD hC hn1 hn hw ha (fun K tp st wd => q _ (rq_trans (rq_wr (j := 13) (by omega) (by omega)) rq_sc))⟩
theorem ty_a25 {p s : Int32} : ty_ans 131 239 [.int p, .int s] := by
  intro d h x c C fs S F X rr rv U L Wx hX hX0 hU hL
  have O : oS S := Wx.2.1.2.2.2.2.2.1
  have W : mW S := O.1
  have B : mB S := O.2.1
  have hD : sD S ≤ 1000 := Nat.le_trans Wx.2.2.2.2.2.2.2.1 (by omega)
  cases hn : okPence S p s with
  | false => exact ⟨-1, fun Q q => (k131n Wx hn).2 (q h (scr_refl Wx)), fun h1 Q b e _ _ q => by subst e; exact (c239n b.1 hn).2 (q h1 rq_refl)⟩
  | true =>
    unfold okPence at hn
    simp only [Bool.and_eq_true] at hn
    obtain ⟨hA, h2⟩ := hn
    obtain ⟨s, rfl, hs, -⟩ := ty_isS W hA
    obtain ⟨p, -, hp, rfl⟩ := inR_nat (lo := 0) (hi := 9999) (by omega) (by omega) h2
    exact ⟨_, fun Q q => (k131y Wx hp hs).2 (q h (scr_refl Wx)), fun h1 Q b e _ _ q => by subst e; exact (c239y b.1 W B hp hs).2 (q h1 rq_refl)⟩
