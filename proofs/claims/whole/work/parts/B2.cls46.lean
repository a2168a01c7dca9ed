/-! THE CLASS: the reader of rules: read -/
section
variable {h h0 h1 h2 : jH} {r t L md : Nat} {c : List Nat} {T : Nat → Nat} {d : Nat} {Q : Option Value → jH → Prop} {tK tV : Nat → Nat}
/-- the clauses -/
theorem l72 (W0 : wR h0 r t T L tK tV) (ht : t + 1 < r) (hv : ∀ i, i < 6 → tV i < t) : ∀ (n p md : Nat) (c : List Nat) (K : List (Nat × Nat × Option (Nat × Nat))) (h : jH), L + 1 - p ≤ n → p ≤ L → md ≤ 60 → c.length ≤ p → K.length ≤ 12 → cfr r t h0 h → tkF T L (skp T L p) (jI h t) → cdI h r md c → sKl h r K → (∀ i e, K[i]? = some e → i + 1 = K.length → eE e = c.length) → uO Q r t L h0 (aRul T L n p md c K) → jW (d + 30) 72 21 [some (.ref r), some (.ref t), some (.int (nI K.length))] [] h Q := by
  intro n
  induction n with
  | zero => intro p md c K h hn hp; omega
  | succ n ih =>
    intro p md c K h hn hp hm hc hk G F C S hl hQ
    obtain ⟨R, X, Y⟩ := wR_cf ht hv G W0
    obtain ⟨r1, r2, -⟩ := R
    have a1 : jK h t = (30, 7) := X.1
    have ha : jR h 0 1 = some (tK 1) := (Y.2 1 (by omega)).1
    have zk : ¬ (12 : Int32) < nI K.length := nI_nlt (a := 12) hk (by omega)
    have er : aRul T L (n + 1) p md c K = (match aCls T L p md c K.length with
      | .error w => .error w
      | .ok r => if chr T L (skp T L r.1.1) = some 59 then aRul T L n (skp T L r.1.1 + 1) r.1.2.1 r.1.2.2 (K ++ [r.2]) else if chr T L (skp T L r.1.1) = none then .ok (r.1.2.2, K ++ [r.2]) else .error (fW 0 0 (skp T L r.1.1))) := rfl
    rw [er] at hQ
    simp (config := { decide := true }) (disch := (first | assumption | omega | (simp (config := { decide := true }) only [r1, r2, a1, ha, jK_wI, jK_wJ, jK_wR, jK_wr, jR_wr, jR_wI, jR_wJ, jK_wj, jR_wj, stI_wr, cmI_wr, stI_wj, cmI_wj]; done) | (simp only [r1, r2, a1, ha, jK_wI, jK_wJ, jK_wR, jK_wr, jR_wr, jR_wI, jR_wJ, jK_wj, jR_wj, stI_wr, cmI_wr, stI_wj, cmI_wj]; refine jinb_nI ?_ ?_ <;> omega) | (refine jinb_nI ?_ ?_ <;> omega) | (simp only [stI_wr, cmI_wr, stI_wj, cmI_wj]; assumption))) only [s72_21, s72_22, s72_24, s72_27, s72_27N, s72_28, s72_30, if_neg zk, va_rf_some, va_rf_none, jK_wI, jR_wI, jJ_wI, jK_wJ, jR_wJ, jI_wJ, jK_wR, jI_wR, jJ_wR, jK_wr, jR_wr, jJ_wr, jcl1_i, jcl1_r, jcl1_z, jcl1_n, jcl1_l, jwI_row, jwr_jwr, jwr_cm, jwr_cc, upd_upd, jI_wr_s, jI_wr_a, jI_wr_b, jI_wr_c, mInv_wr, upd_s, upd_n, Option.toList, List.cons_append, List.nil_append, true_or, or_true, eq_self, and_self, ite_true, ite_false, if_true, if_false, jK_wj, jR_wj, jI_wj, jwJ_row, jwj_jwj, jJ_wj_s, jJ_wj_n, jI_wr_n, jinb_nI, nI_clamp, tc0, tc1, tc2, tc3, tc4, tc5, tc6, tc7, tc8, tc9, tc10, tc11, tc12, tc13, tc14, tc15, tc16, tc17, tc18, tc19, tc20, tc21, tc22, tc23, tc24, tc25, tc26, tc27, tc28, tc29, tc30, tc31, tc32, tc33, tc34, tc35, tc36, tc37, tc38, tc39, tc40, tc41, tc42, tc43, tc44, tc45, tc46, tc47, tc48, tc49, tc50, tc51, tc52, tc53, tc54, tc55, tc56, tc57, tc58, tc59, tc60, tc61, tc62, tc63, tc64, tc65, tc66, tc67, tc68, tc69, tc77, tc83, tc119, tc159, tc160, nI_add, al0, ar0, ml0, mr0, al1, ar1, ml1, mr1, al2, ar2, ml2, mr2, al3, ar3, ml3, mr3, al4, ar4, ml4, mr4, al5, ar5, ml5, mr5, al6, ar6, ml6, mr6, al8, ar8, ml8, mr8, al10, ar10, ml10, mr10, al11, ar11, ml11, mr11, al12, ar12, ml12, mr12, al13, ar13, ml13, mr13, al16, ar16, ml16, mr16, al20, ar20, ml20, mr20, al24, ar24, ml24, mr24, al29, ar29, ml29, mr29, al36, ar36, ml36, mr36, al42, ar42, ml42, mr42, al48, ar48, ml48, mr48, al55, ar55, ml55, mr55, al60, ar60, ml60, mr60, al65, ar65, ml65, mr65, al77, ar77, ml77, mr77, al83, ar83, ml83, mr83, al119, ar119, ml119, mr119, al159, ar159, ml159, mr159, al160, ar160, ml160, mr160, al400, ar400, ml400, mr400, r1, r2, a1, ha]
    rw [am X Y (by omega) F, am_t]
    obtain ⟨f1, f2, f3, f4, f5, f6, f7⟩ := F
    have k2 := fun (k : Nat) Q' => k101 (d := d + 29) (h := h) (t := t) (q := skp T L p) (k := k) (Q := Q') a1 f2
    have bad : ∀ k, uO Q r t L h0 (.error (fW 0 k (skp T L p))) → Q (some (.int 0)) (jwr h t (upd (jI h t) 6 (nI (1 + 8 * skp T L p + k)))) := fun k hq => by
      refine hq _ (cfr_wr (Or.inl rfl) G) ?_
      rw [jI_wr_s]
      exact ⟨by rw [upd_n (by omega)]; exact f1, by rw [upd_s]; rfl⟩
    cases wt : isW T L (skp T L p) 7631481 with
    | false =>
      have ec : aCls T L p md c K.length = .error (fW 0 0 (skp T L p)) := by unfold aCls; rw [wt]; rfl
      rw [ec] at hQ
      rw [if_neg (show ¬ false = true by decide)]
      have e0 : oI none = -1 := rfl
      rw [e0]
      have zz : ¬ ¬ (-1 : Int32) = -1 := fun w => w rfl
      simp (config := { decide := true }) (disch := (first | assumption | omega | (simp (config := { decide := true }) only [r1, r2, a1, jK_wI, jK_wJ, jK_wR, jK_wr, jR_wr, jR_wI, jR_wJ, jK_wj, jR_wj, stI_wr, cmI_wr, stI_wj, cmI_wj]; done) | (simp only [r1, r2, a1, jK_wI, jK_wJ, jK_wR, jK_wr, jR_wr, jR_wI, jR_wJ, jK_wj, jR_wj, stI_wr, cmI_wr, stI_wj, cmI_wj]; refine jinb_nI ?_ ?_ <;> omega) | (refine jinb_nI ?_ ?_ <;> omega) | (simp only [stI_wr, cmI_wr, stI_wj, cmI_wj]; assumption))) only [s72_33, s72_34, s72_37, s72_37N, s72_38, s72_39, if_neg zz, va_rf_some, va_rf_none, jK_wI, jR_wI, jJ_wI, jK_wJ, jR_wJ, jI_wJ, jK_wR, jI_wR, jJ_wR, jK_wr, jR_wr, jJ_wr, jcl1_i, jcl1_r, jcl1_z, jcl1_n, jcl1_l, jwI_row, jwr_jwr, jwr_cm, jwr_cc, upd_upd, jI_wr_s, jI_wr_a, jI_wr_b, jI_wr_c, mInv_wr, upd_s, upd_n, Option.toList, List.cons_append, List.nil_append, true_or, or_true, eq_self, and_self, ite_true, ite_false, if_true, if_false, jK_wj, jR_wj, jI_wj, jwJ_row, jwj_jwj, jJ_wj_s, jJ_wj_n, jI_wr_n, jinb_nI, nI_clamp, tc0, tc1, tc2, tc3, tc4, tc5, tc6, tc7, tc8, tc9, tc10, tc11, tc12, tc13, tc14, tc15, tc16, tc17, tc18, tc19, tc20, tc21, tc22, tc23, tc24, tc25, tc26, tc27, tc28, tc29, tc30, tc31, tc32, tc33, tc34, tc35, tc36, tc37, tc38, tc39, tc40, tc41, tc42, tc43, tc44, tc45, tc46, tc47, tc48, tc49, tc50, tc51, tc52, tc53, tc54, tc55, tc56, tc57, tc58, tc59, tc60, tc61, tc62, tc63, tc64, tc65, tc66, tc67, tc68, tc69, tc77, tc83, tc119, tc159, tc160, nI_add, al0, ar0, ml0, mr0, al1, ar1, ml1, mr1, al2, ar2, ml2, mr2, al3, ar3, ml3, mr3, al4, ar4, ml4, mr4, al5, ar5, ml5, mr5, al6, ar6, ml6, mr6, al8, ar8, ml8, mr8, al10, ar10, ml10, mr10, al11, ar11, ml11, mr11, al12, ar12, ml12, mr12, al13, ar13, ml13, mr13, al16, ar16, ml16, mr16, al20, ar20, ml20, mr20, al24, ar24, ml24, mr24, al29, ar29, ml29, mr29, al36, ar36, ml36, mr36, al42, ar42, ml42, mr42, al48, ar48, ml48, mr48, al55, ar55, ml55, mr55, al60, ar60, ml60, mr60, al65, ar65, ml65, mr65, al77, ar77, ml77, mr77, al83, ar83, ml83, mr83, al119, ar119, ml119, mr119, al159, ar159, ml159, mr159, al160, ar160, ml160, mr160, al400, ar400, ml400, mr400, r1, r2, a1]
      have k3 := k2 0
      rw [nI_0] at k3
      rw [k3]
      simp only [Option.toList, List.cons_append, List.nil_append]
      rw [s72_42 (Or.inl rfl)]
      exact bad 0 hQ
    | true =>
      rw [if_pos rfl]
      have e0 : oI (some 0) = 0 := rfl
      rw [e0]
      have z0 : ¬ (0 : Int32) = -1 := by decide
      by_cases e12 : K.length = 12
      · have ec : aCls T L p md c K.length = .error (fW 0 4 (skp T L p)) := by unfold aCls; rw [wt, if_pos rfl, if_pos e12]
        rw [ec] at hQ
        have zz : ¬ ¬ nI K.length = 12 := fun w => w (by rw [e12]; rfl)
        simp (config := { decide := true }) (disch := (first | assumption | omega | (simp (config := { decide := true }) only [r1, r2, a1, jK_wI, jK_wJ, jK_wR, jK_wr, jR_wr, jR_wI, jR_wJ, jK_wj, jR_wj, stI_wr, cmI_wr, stI_wj, cmI_wj]; done) | (simp only [r1, r2, a1, jK_wI, jK_wJ, jK_wR, jK_wr, jR_wr, jR_wI, jR_wJ, jK_wj, jR_wj, stI_wr, cmI_wr, stI_wj, cmI_wj]; refine jinb_nI ?_ ?_ <;> omega) | (refine jinb_nI ?_ ?_ <;> omega) | (simp only [stI_wr, cmI_wr, stI_wj, cmI_wj]; assumption))) only [s72_33, s72_34, s72_43, s72_44, s72_46, s72_49, s72_49N, s72_50, s72_51, if_pos z0, if_neg zz, va_rf_some, va_rf_none, jK_wI, jR_wI, jJ_wI, jK_wJ, jR_wJ, jI_wJ, jK_wR, jI_wR, jJ_wR, jK_wr, jR_wr, jJ_wr, jcl1_i, jcl1_r, jcl1_z, jcl1_n, jcl1_l, jwI_row, jwr_jwr, jwr_cm, jwr_cc, upd_upd, jI_wr_s, jI_wr_a, jI_wr_b, jI_wr_c, mInv_wr, upd_s, upd_n, Option.toList, List.cons_append, List.nil_append, true_or, or_true, eq_self, and_self, ite_true, ite_false, if_true, if_false, jK_wj, jR_wj, jI_wj, jwJ_row, jwj_jwj, jJ_wj_s, jJ_wj_n, jI_wr_n, jinb_nI, nI_clamp, tc0, tc1, tc2, tc3, tc4, tc5, tc6, tc7, tc8, tc9, tc10, tc11, tc12, tc13, tc14, tc15, tc16, tc17, tc18, tc19, tc20, tc21, tc22, tc23, tc24, tc25, tc26, tc27, tc28, tc29, tc30, tc31, tc32, tc33, tc34, tc35, tc36, tc37, tc38, tc39, tc40, tc41, tc42, tc43, tc44, tc45, tc46, tc47, tc48, tc49, tc50, tc51, tc52, tc53, tc54, tc55, tc56, tc57, tc58, tc59, tc60, tc61, tc62, tc63, tc64, tc65, tc66, tc67, tc68, tc69, tc77, tc83, tc119, tc159, tc160, nI_add, al0, ar0, ml0, mr0, al1, ar1, ml1, mr1, al2, ar2, ml2, mr2, al3, ar3, ml3, mr3, al4, ar4, ml4, mr4, al5, ar5, ml5, mr5, al6, ar6, ml6, mr6, al8, ar8, ml8, mr8, al10, ar10, ml10, mr10, al11, ar11, ml11, mr11, al12, ar12, ml12, mr12, al13, ar13, ml13, mr13, al16, ar16, ml16, mr16, al20, ar20, ml20, mr20, al24, ar24, ml24, mr24, al29, ar29, ml29, mr29, al36, ar36, ml36, mr36, al42, ar42, ml42, mr42, al48, ar48, ml48, mr48, al55, ar55, ml55, mr55, al60, ar60, ml60, mr60, al65, ar65, ml65, mr65, al77, ar77, ml77, mr77, al83, ar83, ml83, mr83, al119, ar119, ml119, mr119, al159, ar159, ml159, mr159, al160, ar160, ml160, mr160, al400, ar400, ml400, mr400, r1, r2, a1]
        have k3 := k2 4
        rw [show nI 4 = (4 : Int32) from rfl] at k3
        rw [k3]
        simp only [Option.toList, List.cons_append, List.nil_append]
        rw [s72_54 (Or.inl rfl)]
        exact bad 4 hQ
      · have ec : aCls T L p md c K.length = aTry T L (lnd T L (skp T L p)) md c := by unfold aCls; rw [wt, if_pos rfl, if_neg e12]
        have zz : ¬ nI K.length = 12 := fun w => e12 ((nI_eq (b := 12) (by omega) (by omega)).mp w)
        obtain ⟨w1, w2⟩ := isW_lnd wt
        have w3 := lnd_le (T := T) f6
        have sk := skp_ge (T := T) (L := L) (p := p)
        have et := tnd_w (i := 1) (j := 0) (by omega) (by decide) wt
        rw [et] at f3
        have hk2 : K.length < 12 := by omega
        simp (config := { decide := true }) (disch := (first | assumption | omega | (simp (config := { decide := true }) only [r1, r2, a1, jK_wI, jK_wJ, jK_wR, jK_wr, jR_wr, jR_wI, jR_wJ, jK_wj, jR_wj, stI_wr, cmI_wr, stI_wj, cmI_wj]; done) | (simp only [r1, r2, a1, jK_wI, jK_wJ, jK_wR, jK_wr, jR_wr, jR_wI, jR_wJ, jK_wj, jR_wj, stI_wr, cmI_wr, stI_wj, cmI_wj]; refine jinb_nI ?_ ?_ <;> omega) | (refine jinb_nI ?_ ?_ <;> omega) | (simp only [stI_wr, cmI_wr, stI_wj, cmI_wj]; assumption))) only [s72_33, s72_34, s72_43, s72_44, s72_46, s72_55, s72_55N, s72_56, if_pos z0, if_pos zz, va_rf_some, va_rf_none, jK_wI, jR_wI, jJ_wI, jK_wJ, jR_wJ, jI_wJ, jK_wR, jI_wR, jJ_wR, jK_wr, jR_wr, jJ_wr, jcl1_i, jcl1_r, jcl1_z, jcl1_n, jcl1_l, jwI_row, jwr_jwr, jwr_cm, jwr_cc, upd_upd, jI_wr_s, jI_wr_a, jI_wr_b, jI_wr_c, mInv_wr, upd_s, upd_n, Option.toList, List.cons_append, List.nil_append, true_or, or_true, eq_self, and_self, ite_true, ite_false, if_true, if_false, jK_wj, jR_wj, jI_wj, jwJ_row, jwj_jwj, jJ_wj_s, jJ_wj_n, jI_wr_n, jinb_nI, nI_clamp, tc0, tc1, tc2, tc3, tc4, tc5, tc6, tc7, tc8, tc9, tc10, tc11, tc12, tc13, tc14, tc15, tc16, tc17, tc18, tc19, tc20, tc21, tc22, tc23, tc24, tc25, tc26, tc27, tc28, tc29, tc30, tc31, tc32, tc33, tc34, tc35, tc36, tc37, tc38, tc39, tc40, tc41, tc42, tc43, tc44, tc45, tc46, tc47, tc48, tc49, tc50, tc51, tc52, tc53, tc54, tc55, tc56, tc57, tc58, tc59, tc60, tc61, tc62, tc63, tc64, tc65, tc66, tc67, tc68, tc69, tc77, tc83, tc119, tc159, tc160, nI_add, al0, ar0, ml0, mr0, al1, ar1, ml1, mr1, al2, ar2, ml2, mr2, al3, ar3, ml3, mr3, al4, ar4, ml4, mr4, al5, ar5, ml5, mr5, al6, ar6, ml6, mr6, al8, ar8, ml8, mr8, al10, ar10, ml10, mr10, al11, ar11, ml11, mr11, al12, ar12, ml12, mr12, al13, ar13, ml13, mr13, al16, ar16, ml16, mr16, al20, ar20, ml20, mr20, al24, ar24, ml24, mr24, al29, ar29, ml29, mr29, al36, ar36, ml36, mr36, al42, ar42, ml42, mr42, al48, ar48, ml48, mr48, al55, ar55, ml55, mr55, al60, ar60, ml60, mr60, al65, ar65, ml65, mr65, al77, ar77, ml77, mr77, al83, ar83, ml83, mr83, al119, ar119, ml119, mr119, al159, ar159, ml159, mr159, al160, ar160, ml160, mr160, al400, ar400, ml400, mr400, r1, r2, a1]
        refine k99 X f1 f3 w3 (fun F4 u2 u6 => ?_)
        simp only [Option.toList, List.nil_append]
        have S4 : sKl (jwr h t F4) r K := fun i e hi => by
          rw [jI_wr_n (by omega), jI_wr_n (by omega)]
          exact S i e hi
        refine l72a W0 ht hv hk2 (cfr_wr (Or.inl rfl) G) w3 hm (by omega) (by rw [jI_wr_s]; exact u2) (cdI_t ht C) S4 hl (fun w hw h' g1 g2 => ?_) (fun x e hx h' g1 g2 g3 g4 g5 g6 g7 => ?_)
        · rw [ec, hw] at hQ
          exact hQ h' g1 g2
        · rw [hx] at ec
          obtain ⟨v1, v2, v3, v4, -⟩ := aCls_gd hp hm hc ec
          rw [ec] at hQ
          replace hQ : uO Q r t L h0 (if chr T L (skp T L x.1) = some 59 then aRul T L n (skp T L x.1 + 1) x.2.1 x.2.2 (K ++ [e]) else if chr T L (skp T L x.1) = none then .ok (x.2.2, K ++ [e]) else .error (fW 0 0 (skp T L x.1))) := hQ
          have el : (K ++ [e]).length = K.length + 1 := by rw [List.length_append, List.length_singleton]
          have v1' : p < x.1 := v1
          have sk2 := skp_ge (T := T) (L := L) (p := x.1)
          refine l72c W0 ht hv hk2 g1 v2 g2 g3 g4 g5 g6 g7 (fun e59 h2 k1 k2 k3 k4 => ?_) (fun en h2 k1 k2 k3 k4 k5 => ?_) (fun e59 en h2 k1 k2 => ?_)
          · rw [if_pos e59] at hQ
            have := ih (skp T L x.1 + 1) x.2.1 x.2.2 (K ++ [e]) h2 (by omega) (chrL e59) v3 (show x.2.2.length ≤ skp T L x.1 + 1 by have : x.2.2.length ≤ x.1 := v4; omega) (by rw [el]; omega) k1 k2 k3 k4 (fun i e' hi hie => by
              rw [el] at hie
              have hi2 : i = K.length := by omega
              rw [hi2, List.getElem?_append_right (Nat.le_refl _), Nat.sub_self] at hi
              have ee : e = e' := by injection hi
              rw [← ee]
              exact g7) hQ
            rw [el] at this
            exact this
          · rw [if_neg (by rw [en]; intro w; cases w), if_pos en] at hQ
            exact hQ h2 k1 k2 ⟨_, k3⟩ (by rw [el]; exact k4) k5
          · rw [if_neg e59, if_neg en] at hQ
            exact hQ h2 k1 k2
/-- read -/
theorem k72 (W : wR h r t T L tK tV) (ht : t + 1 < r) (hv : ∀ i, i < 6 → tV i < t) (h1 : jI h t 1 = nI L) (hQ : uO Q r t L h (aRul T L (L + 1) 0 0 [] [])) : jC (d + 31) 72 [.ref r, .ref t] h Q := by
  have W' := W
  obtain ⟨R, X, Y⟩ := W
  obtain ⟨r1, r2, -⟩ := R
  have a1 : jK h t = (30, 7) := X.1
  rw [e72]
  simp (config := { decide := true }) (disch := (first | assumption | omega | (simp (config := { decide := true }) only [r1, r2, a1, jK_wI, jK_wJ, jK_wR, jK_wr, jR_wr, jR_wI, jR_wJ, jK_wj, jR_wj, stI_wr, cmI_wr, stI_wj, cmI_wj]; done) | (simp only [r1, r2, a1, jK_wI, jK_wJ, jK_wR, jK_wr, jR_wr, jR_wI, jR_wJ, jK_wj, jR_wj, stI_wr, cmI_wr, stI_wj, cmI_wj]; refine jinb_nI ?_ ?_ <;> omega) | (refine jinb_nI ?_ ?_ <;> omega) | (simp only [stI_wr, cmI_wr, stI_wj, cmI_wj]; assumption))) only [s72_0, s72_1, s72_2, s72_5, s72_6, s72_7, s72_10, s72_11, s72_12, s72_15, s72_15N, s72_16, va_rf_some, va_rf_none, jK_wI, jR_wI, jJ_wI, jK_wJ, jR_wJ, jI_wJ, jK_wR, jI_wR, jJ_wR, jK_wr, jR_wr, jJ_wr, jcl1_i, jcl1_r, jcl1_z, jcl1_n, jcl1_l, jwI_row, jwr_jwr, jwr_cm, jwr_cc, upd_upd, jI_wr_s, jI_wr_a, jI_wr_b, jI_wr_c, mInv_wr, upd_s, upd_n, Option.toList, List.cons_append, List.nil_append, true_or, or_true, eq_self, and_self, ite_true, ite_false, if_true, if_false, jK_wj, jR_wj, jI_wj, jwJ_row, jwj_jwj, jJ_wj_s, jJ_wj_n, jI_wr_n, jinb_nI, nI_clamp, tc0, tc1, tc2, tc3, tc4, tc5, tc6, tc7, tc8, tc9, tc10, tc11, tc12, tc13, tc14, tc15, tc16, tc17, tc18, tc19, tc20, tc21, tc22, tc23, tc24, tc25, tc26, tc27, tc28, tc29, tc30, tc31, tc32, tc33, tc34, tc35, tc36, tc37, tc38, tc39, tc40, tc41, tc42, tc43, tc44, tc45, tc46, tc47, tc48, tc49, tc50, tc51, tc52, tc53, tc54, tc55, tc56, tc57, tc58, tc59, tc60, tc61, tc62, tc63, tc64, tc65, tc66, tc67, tc68, tc69, tc77, tc83, tc119, tc159, tc160, nI_add, al0, ar0, ml0, mr0, al1, ar1, ml1, mr1, al2, ar2, ml2, mr2, al3, ar3, ml3, mr3, al4, ar4, ml4, mr4, al5, ar5, ml5, mr5, al6, ar6, ml6, mr6, al8, ar8, ml8, mr8, al10, ar10, ml10, mr10, al11, ar11, ml11, mr11, al12, ar12, ml12, mr12, al13, ar13, ml13, mr13, al16, ar16, ml16, mr16, al20, ar20, ml20, mr20, al24, ar24, ml24, mr24, al29, ar29, ml29, mr29, al36, ar36, ml36, mr36, al42, ar42, ml42, mr42, al48, ar48, ml48, mr48, al55, ar55, ml55, mr55, al60, ar60, ml60, mr60, al65, ar65, ml65, mr65, al77, ar77, ml77, mr77, al83, ar83, ml83, mr83, al119, ar119, ml119, mr119, al159, ar159, ml159, mr159, al160, ar160, ml160, mr160, al400, ar400, ml400, mr400, r1, r2, a1]
  generalize hh : jwr h r (upd (upd (upd (jI h r) 0 0) 1 0) 2 0) = g
  have G : cfr r t h g := by rw [← hh]; exact cfr_wr (by omega) cfr_refl
  have X' := cfr_tp G ht X
  have it : jI g t = jI h t := by rw [← hh, jI_wr_n (by omega)]
  have g1 : jI g r 0 = nI 0 := by rw [← hh, jI_wr_s, upd_n (by omega), upd_n (by omega), upd_s]; rfl
  have g3 : jI g r 2 = nI 0 := by rw [← hh, jI_wr_s, upd_s]; rfl
  clear hh
  refine k98 X' (by rw [it]; exact h1) (fun F f f6 => ?_)
  have q1 : jK g r = (28, 6) := (wR_cf ht hv G W').1.1
  simp (config := { decide := true }) (disch := (first | assumption | omega | (simp (config := { decide := true }) only [q1, jK_wI, jK_wJ, jK_wR, jK_wr, jR_wr, jR_wI, jR_wJ, jK_wj, jR_wj, stI_wr, cmI_wr, stI_wj, cmI_wj]; done) | (simp only [q1, jK_wI, jK_wJ, jK_wR, jK_wr, jR_wr, jR_wI, jR_wJ, jK_wj, jR_wj, stI_wr, cmI_wr, stI_wj, cmI_wj]; refine jinb_nI ?_ ?_ <;> omega) | (refine jinb_nI ?_ ?_ <;> omega) | (simp only [stI_wr, cmI_wr, stI_wj, cmI_wj]; assumption))) only [s72_19, s72_20, va_rf_some, va_rf_none, jK_wI, jR_wI, jJ_wI, jK_wJ, jR_wJ, jI_wJ, jK_wR, jI_wR, jJ_wR, jK_wr, jR_wr, jJ_wr, jcl1_i, jcl1_r, jcl1_z, jcl1_n, jcl1_l, jwI_row, jwr_jwr, jwr_cm, jwr_cc, upd_upd, jI_wr_s, jI_wr_a, jI_wr_b, jI_wr_c, mInv_wr, upd_s, upd_n, Option.toList, List.cons_append, List.nil_append, true_or, or_true, eq_self, and_self, ite_true, ite_false, if_true, if_false, jK_wj, jR_wj, jI_wj, jwJ_row, jwj_jwj, jJ_wj_s, jJ_wj_n, jI_wr_n, jinb_nI, nI_clamp, tc0, tc1, tc2, tc3, tc4, tc5, tc6, tc7, tc8, tc9, tc10, tc11, tc12, tc13, tc14, tc15, tc16, tc17, tc18, tc19, tc20, tc21, tc22, tc23, tc24, tc25, tc26, tc27, tc28, tc29, tc30, tc31, tc32, tc33, tc34, tc35, tc36, tc37, tc38, tc39, tc40, tc41, tc42, tc43, tc44, tc45, tc46, tc47, tc48, tc49, tc50, tc51, tc52, tc53, tc54, tc55, tc56, tc57, tc58, tc59, tc60, tc61, tc62, tc63, tc64, tc65, tc66, tc67, tc68, tc69, tc77, tc83, tc119, tc159, tc160, nI_add, al0, ar0, ml0, mr0, al1, ar1, ml1, mr1, al2, ar2, ml2, mr2, al3, ar3, ml3, mr3, al4, ar4, ml4, mr4, al5, ar5, ml5, mr5, al6, ar6, ml6, mr6, al8, ar8, ml8, mr8, al10, ar10, ml10, mr10, al11, ar11, ml11, mr11, al12, ar12, ml12, mr12, al13, ar13, ml13, mr13, al16, ar16, ml16, mr16, al20, ar20, ml20, mr20, al24, ar24, ml24, mr24, al29, ar29, ml29, mr29, al36, ar36, ml36, mr36, al42, ar42, ml42, mr42, al48, ar48, ml48, mr48, al55, ar55, ml55, mr55, al60, ar60, ml60, mr60, al65, ar65, ml65, mr65, al77, ar77, ml77, mr77, al83, ar83, ml83, mr83, al119, ar119, ml119, mr119, al159, ar159, ml159, mr159, al160, ar160, ml160, mr160, al400, ar400, ml400, mr400, q1]
  have e0 : (0 : Int32) = nI ([] : List (Nat × Nat × Option (Nat × Nat))).length := rfl
  rw [e0]
  refine l72 W' ht hv (L + 1) 0 0 [] [] (jwr g t F) (by omega) (by omega) (by omega) (by rw [List.length_nil]; omega) (by rw [List.length_nil]; omega) (cfr_wr (Or.inl rfl) G) (by rw [jI_wr_s]; exact f) ?_ (fun i e hi => by cases hi) (fun i e hi => by cases hi) hQ
  refine ⟨?_, ?_, by rw [List.length_nil]; omega, fun j hj => by rw [List.length_nil] at hj; omega⟩
  · rw [jI_wr_n (by omega)]; exact g1
  · rw [jI_wr_n (by omega)]; exact g3
end
