/-! THE TIE: note, day -/
theorem oS_ext {S S' : Nat → Int32} (e : ∀ j, j < 119 → S' j = S j) (O : oS S) : oS S' := by
  obtain ⟨W, B, ⟨z1, z2, z3⟩, ⟨g1, g2, g3⟩⟩ := O
  have eC : sC S' = sC S := by unfold sC; rw [e 3 (by omega)]
  have eK : sK S' = sK S := by unfold sK; rw [e 4 (by omega)]
  have eN : sN S' = sN S := by unfold sN; rw [e 5 (by omega)]
  have eD : sD S' = sD S := by unfold sD; rw [e 10 (by omega)]
  have eB : ∀ t, t < 6 → sB S' t = sB S t := fun t ht => by unfold sB; rw [e _ (by omega)]
  refine ⟨?_, fun t ht => ?_, ⟨fun t ht h1 => ?_, fun t k ht hk h1 => ?_, fun t ht => ?_⟩, ⟨fun k hk => ?_, ?_, fun j hj => ?_⟩⟩
  · unfold mW
    rw [eC, eK, eN, eD, e 3 (by omega), e 4 (by omega), e 5 (by omega), e 10 (by omega)]
    exact W
  · rw [eB t ht, e _ (by omega)]; exact B t ht
  · rw [eN] at h1
    rw [e _ (by omega), e _ (by omega)]
    exact z1 t ht h1
  · rw [eK] at h1
    rw [e _ (by omega)]
    exact z2 t k ht hk h1
  · rw [eB t ht, eK]; exact z3 t ht
  · rw [e _ (by omega)]; exact g1 k hk
  · rw [e 1 (by omega)]; exact g2
  · rw [e _ (by omega)]; exact g3 j hj
theorem ty_gd_N {S S' : Nat → Int32} (G : ty_gd S) (e : ∀ j, j < 119 → S' j = S j) (N : nO S') : ty_gd S' := by
  obtain ⟨g1, g2, ⟨g3, g4⟩, g5, g6⟩ := G
  refine ⟨oS_ext e g1, N, ⟨fun j hj => by rw [e _ (by omega)]; exact g3 j hj, fun s k hs hk h1 => by rw [e _ (by omega)]; exact g4 s k hs hk (by unfold sK at *; rw [e 4 (by omega)] at h1; exact h1)⟩, by unfold sD at *; rw [e 10 (by omega)]; exact g5, by rw [e 0 (by omega)]; exact g6⟩
theorem und_N {S S' Z : Nat → Int32} (e : ∀ j, j < 119 → S' j = S j) : ∀ j, j < 119 → und S' Z j = und S Z j := by
  intro j hj
  unfold und
  by_cases h1 : 10 ≤ j ∧ j < 10 + 55
  · rw [jput_in h1.1 h1.2, jput_in h1.1 h1.2]
  · rw [jput_out (by omega), jput_out (by omega)]
    exact e j hj
theorem nO_note {S : Nat → Int32} {a s k e : Int32} (W : mW S) (N : nO S) (ok : okNote S a s k e = true) : nO (mNote S a s k e) := by
  obtain ⟨M, N⟩ := N
  unfold okNote at ok
  simp only [Bool.and_eq_true, Bool.not_eq_true', decide_eq_false_iff_not] at ok
  obtain ⟨⟨⟨⟨h1, h2⟩, h2'⟩, h3⟩, h4⟩ := ok
  have h10 : sQ S < 10 := by
    have := M.2
    rcases Nat.lt_or_ge (sQ S) 10 with g | g
    · exact g
    · exfalso
      apply h4
      rw [M.1, show sQ S = 10 by omega]
      rfl
  have eq := sQ_note (S := S) (a := a) (b := s) (c := k) (e := e) M h10
  refine ⟨⟨by rw [eq]; exact upd_s, by omega⟩, fun i hi => ?_⟩
  rw [eq] at hi
  by_cases ei : i = sQ S
  · subst ei
    obtain ⟨n1, n2, n3, n4⟩ := note_new (S := S) (a := a) (b := s) (c := k) (e := e) h10
    rw [n1, n2, n3, n4]
    obtain ⟨n, -, b1, b2⟩ := inR_nat (lo := 0) (hi := 60) (by omega) (by omega) h1
    obtain ⟨s', c1, c2, c3⟩ := ty_isS W h2
    obtain ⟨k', d1, d2, d3⟩ := ty_isK W h2'
    obtain ⟨e', -, f1, f2⟩ := inR_nat (lo := 0) (hi := 1) (by omega) (by omega) h3
    refine ⟨⟨n, b1, b2⟩, ⟨s', c3, c1⟩, ⟨k', d3, d1⟩, ?_⟩
    rcases (by omega : e' = 0 ∨ e' = 1) with g | g <;> subst g
    · exact Or.inl f2
    · exact Or.inr f2
  · rw [note_at h10 (by omega) (by omega), note_at h10 (by omega) (by omega), note_at h10 (by omega) (by omega), note_at h10 (by omega) (by omega)]
    exact N i (by omega)
/-- note -/
theorem ty_s27 {a s k e : Int32} : ty_st 135 243 [.int a, .int s, .int k, .int e] := by
  intro d h x n Q I hQ
  have I' := I
  obtain ⟨⟨c, C, fs, S, F, X, ow, l, U, K, T, L, tK, tV, IM, A, P, R⟩, i1, i2⟩ := I
  obtain ⟨rr, rv, Wx, V⟩ := ty_wx A P.1 P.2.1
  have A' := A
  obtain ⟨⟨⟨s1, ⟨s2, s3, s4⟩, s5, s6, s7, s8, s9⟩, sc, hx⟩, ⟨a4, a5⟩, ⟨a6, a7⟩, ⟨a8, a9⟩, b1, ps, b3, b4, b5⟩ := A
  have fin : ∀ (h1 : jH) (S' : Nat → Int32), frm (x + 18) (x + 23) h h1 → noV h1 (x + 18) S' → (∀ j, j < 119 → S' j = S j) → nO S' → ty_lo x h h1 ∧ ty_R h1 (x + 50) C fs S F X U K T L IM ∧ ty_inv (jwr h1 (x + 50 + 10) S') x (n + 1) ∧ ty_lo x h (jwr h1 (x + 50 + 10) S') := by
    intro h1 S' G N e g
    have B : agx (fun a => x + 18 ≤ a ∧ a < x + 23) h h1 := agx_frm G (fun a h1 h2 => ⟨h1, h2⟩)
    obtain ⟨lo, R1⟩ := ty_fi A' R B (fun a w => by omega)
    have e8 := B.2.2 (x + 8) (by omega) (fun w => by omega)
    have V1 : stV h1 (x + 13) S' := by
      intro s hs
      obtain ⟨v0, v1, v2, v3, v4⟩ := agx_stV B (by omega) (fun a h1 h2 w => by omega) a6 s hs
      exact ⟨by rw [e _ (by omega)]; exact v0, by rw [e _ (by omega)]; exact v1, by rw [e _ (by omega)]; exact v2, by rw [e _ (by omega)]; exact v3, fun k hk => by rw [e _ (by omega)]; exact v4 k hk⟩
    have C1 : ty_C h1 x c C fs S' F X ow l U K T L tK tV IM := ty_C_J A' B G.1.2.2.2.1 G.1.2.2.1 (fun a w => by omega) V1 N (fun j hj => e j (by omega)) (by rw [e8.1]; exact a8) (by rw [e8.1]; exact a9) (ty_ps_ag B hx (fun _ _ => rfl) (fun a w g => by omega) ps) (ty_tp_ag B hx (fun a w g => by omega) b4)
    obtain ⟨⟨p1, ⟨p2, p2'⟩, p3⟩, r2, r3, ⟨f1, f2, f3, f4, f5, f6⟩, -⟩ := id R1
    obtain ⟨R2, fr⟩ := ty_R_m (S' := S') (f := jI h1 (x + 50)) (U' := U) (F' := F) (X' := X) R1 p2 (Nat.le_refl _) rfl f1 f2 f3 f4 f5 f6 (Nat.le_refl _)
    have es : jwr (jwr h1 (x + 50 + 10) S') (x + 50) (jI h1 (x + 50)) = jwr h1 (x + 50 + 10) S' := by
      have : jI (jwr h1 (x + 50 + 10) S') (x + 50) = jI h1 (x + 50) := jI_wr_n (by omega)
      rw [← this, jwr_self]
    rw [es] at R2 fr
    refine ⟨lo, R1, ⟨⟨c, C, fs, S', F, X, ow, l, U, K, T, L, tK, tV, IM, ty_C_frg fr C1, ⟨ty_gd_N P.1 e g, P.2.1, P.2.2.1, fun i hi => ⟨oS_ext (und_N e) (P.2.2.2.1 i hi).1, ?_⟩, P.2.2.2.2⟩, R2⟩, ?_, ?_⟩, ty_lo_trans lo (ty_lo_frg fr (by omega))⟩
    · have := (P.2.2.2.1 i hi).2
      unfold sD at *
      rw [und_N e 10 (by omega)]
      exact this
    · rw [fr.1.1, G.1.1]; omega
    · rw [fr.1.2.1, G.1.2.1]; omega
  by_cases ha : a = -1
  · subst ha
    refine (k135z Wx).2 ?_
    have N : noV (jwr h (x + 18) (upd (jI h (x + 18)) 0 0)) (x + 18) (upd S 159 0) := ⟨by rw [jI_wr_s, upd_s, upd_s], fun i hi => by
      have : sQ (upd S 159 0) = 0 := by unfold sQ; rw [upd_s]; rfl
      omega⟩
    have g : nO (upd S 159 0) := by
      have : sQ (upd S 159 0) = 0 := by unfold sQ; rw [upd_s]; rfl
      exact ⟨⟨by rw [this, upd_s]; rfl, by omega⟩, fun i hi => by omega⟩
    obtain ⟨lo, R1, i3, lo2⟩ := fin _ (upd S 159 0) (frm_wr (by omega) (by omega) frm_refl) N (fun j hj => upd_n (by omega)) g
    refine hQ _ _ lo (fun Q2 hQ2 => (c243z R1.1.1).2 ?_)
    rw [R1.2.1]
    exact hQ2 _ i3 lo2
  · cases hn : okNote S a s k e with
    | false => exact ty_no I' hQ (k135n Wx ha hn).2 (fun Q2 q => (c243n R.1.1 ha (by rw [R.2.1]; exact hn)).2 q)
    | true =>
      have h10 : sQ S < 10 := by
        have M := P.1.2.1.1
        have := M.2
        rcases Nat.lt_or_ge (sQ S) 10 with g | g
        · exact g
        · exfalso
          have e10 : S 159 = 10 := by rw [M.1, show sQ S = 10 by omega]; rfl
          unfold okNote at hn
          simp [e10] at hn
      refine k135y Wx ha hn (fun h1 G N => ?_)
      obtain ⟨lo, R1, i3, lo2⟩ := fin h1 (mNote S a s k e) G N (fun j hj => note_at h10 (by omega) (by omega)) (nO_note P.1.1.1 P.1.2.1 hn)
      refine hQ _ _ lo (fun Q2 hQ2 => (c243y R1.1.1 (by rw [R1.2.1]; exact P.1.2.1.1) ha (by rw [R1.2.1]; exact hn)).2 ?_)
      rw [R1.2.1]
      exact hQ2 _ i3 lo2
section
variable {h : jH} {x c C : Nat} {d : Nat} {Q : Option Value → jH → Prop} {S : Nat → Int32} {F : Int32} {rr : Option Nat} {rv : Option ((Nat → Int64) → Int64)} {fs : Nat → (Nat → Int64) → Int64}
theorem k113n (X : wx h x c C fs S F rr rv) (hn : okDay S = false) : jC (d + 1) 113 [.ref x] h Q ↔ Q (some (.int (-1))) h := by
  rw [e113]
  obtain ⟨⟨⟨x0, x1, x2, x3, x4, -⟩, xc⟩, ⟨⟨a1, a2, a3⟩, ⟨a4, a5⟩, ⟨a6, a7, a8⟩, -⟩, -, -, -, -, -, -, hb⟩ := X
  have hc := a6.1
  have g0 := a8.1
  have s0 : jK h (x + 13) = (29, 5) := a4.1
  have v0 : jI h (x + 13) 0 = S 10 := (a5 0 (by omega)).1
  have a3' : jR h (x + 8) 3 = some (x + 13) := a3
  unfold okDay at hn
  cases h1 : isC S with
  | false =>
    have z := isC_f hb h1
    simp (config := { decide := true }) (disch := (first | assumption | omega | (simp (config := { decide := true }) only [x0, x4, a1, a2, hc, jK_wI, jK_wJ, jK_wR, jK_wr, jR_wr, jR_wI, jR_wJ, jK_wj, jR_wj, stI_wr, cmI_wr, stI_wj, cmI_wj]; done) | (simp only [x0, x4, a1, a2, hc, jK_wI, jK_wJ, jK_wR, jK_wr, jR_wr, jR_wI, jR_wJ, jK_wj, jR_wj, stI_wr, cmI_wr, stI_wj, cmI_wj]; refine jinb_nI ?_ ?_ <;> omega) | (refine jinb_nI ?_ ?_ <;> omega) | (simp only [stI_wr, cmI_wr, stI_wj, cmI_wj]; assumption))) only [s113_0, s113_1, s113_4, s113_7, s113_10, s113_29, s113_30, g0, z, va_rf_some, va_rf_none, jK_wI, jR_wI, jJ_wI, jK_wJ, jR_wJ, jI_wJ, jK_wR, jI_wR, jJ_wR, jK_wr, jR_wr, jJ_wr, jcl1_i, jcl1_r, jcl1_z, jcl1_n, jcl1_l, jwI_row, jwr_jwr, jwr_cm, jwr_cc, upd_upd, jI_wr_s, jI_wr_a, jI_wr_b, jI_wr_c, mInv_wr, upd_s, upd_n, Option.toList, List.cons_append, List.nil_append, true_or, or_true, eq_self, and_self, ite_true, ite_false, if_true, if_false, jK_wj, jR_wj, jI_wj, jwJ_row, jwj_jwj, jJ_wj_s, jJ_wj_n, jI_wr_n, jinb_nI, nI_clamp, tc0, tc1, tc2, tc3, tc4, tc5, tc6, tc7, tc8, tc9, tc10, tc11, tc12, tc13, tc14, tc15, tc16, tc17, tc18, tc19, tc20, tc21, tc22, tc23, tc24, tc25, tc26, tc27, tc28, tc29, tc30, tc31, tc32, tc33, tc34, tc35, tc36, tc37, tc38, tc39, tc40, tc41, tc42, tc43, tc44, tc45, tc46, tc47, tc48, tc49, tc50, tc51, tc52, tc53, tc54, tc55, tc56, tc57, tc58, tc59, tc60, tc61, tc62, tc63, tc64, tc65, tc66, tc67, tc68, tc69, tc77, tc83, tc119, tc159, tc160, nI_add, al0, ar0, ml0, mr0, al1, ar1, ml1, mr1, al2, ar2, ml2, mr2, al3, ar3, ml3, mr3, al4, ar4, ml4, mr4, al5, ar5, ml5, mr5, al6, ar6, ml6, mr6, al8, ar8, ml8, mr8, al10, ar10, ml10, mr10, al11, ar11, ml11, mr11, al12, ar12, ml12, mr12, al13, ar13, ml13, mr13, al16, ar16, ml16, mr16, al20, ar20, ml20, mr20, al24, ar24, ml24, mr24, al29, ar29, ml29, mr29, al36, ar36, ml36, mr36, al42, ar42, ml42, mr42, al48, ar48, ml48, mr48, al55, ar55, ml55, mr55, al60, ar60, ml60, mr60, al65, ar65, ml65, mr65, al77, ar77, ml77, mr77, al83, ar83, ml83, mr83, al119, ar119, ml119, mr119, al159, ar159, ml159, mr159, al160, ar160, ml160, mr160, al400, ar400, ml400, mr400, x0, x4, a1, a2, hc]
  | true =>
    have z := isC_t h1
    rw [h1, Bool.true_and] at hn
    have z2 : S 10 = 999 := by
      by_cases g : S 10 = 999
      · exact g
      · simp [g] at hn
    have z3 : ¬ (999 : Int32) < 999 := by decide
    simp (config := { decide := true }) (disch := (first | assumption | omega | (simp (config := { decide := true }) only [x0, x4, a1, a2, a3', s0, hc, jK_wI, jK_wJ, jK_wR, jK_wr, jR_wr, jR_wI, jR_wJ, jK_wj, jR_wj, stI_wr, cmI_wr, stI_wj, cmI_wj]; done) | (simp only [x0, x4, a1, a2, a3', s0, hc, jK_wI, jK_wJ, jK_wR, jK_wr, jR_wr, jR_wI, jR_wJ, jK_wj, jR_wj, stI_wr, cmI_wr, stI_wj, cmI_wj]; refine jinb_nI ?_ ?_ <;> omega) | (refine jinb_nI ?_ ?_ <;> omega) | (simp only [stI_wr, cmI_wr, stI_wj, cmI_wj]; assumption))) only [s113_0, s113_1, s113_4, s113_7, s113_10, s113_13, s113_14, s113_17, s113_20, s113_23, s113_26, s113_29, s113_30, g0, if_neg z, v0, z2, if_neg z3, va_rf_some, va_rf_none, jK_wI, jR_wI, jJ_wI, jK_wJ, jR_wJ, jI_wJ, jK_wR, jI_wR, jJ_wR, jK_wr, jR_wr, jJ_wr, jcl1_i, jcl1_r, jcl1_z, jcl1_n, jcl1_l, jwI_row, jwr_jwr, jwr_cm, jwr_cc, upd_upd, jI_wr_s, jI_wr_a, jI_wr_b, jI_wr_c, mInv_wr, upd_s, upd_n, Option.toList, List.cons_append, List.nil_append, true_or, or_true, eq_self, and_self, ite_true, ite_false, if_true, if_false, jK_wj, jR_wj, jI_wj, jwJ_row, jwj_jwj, jJ_wj_s, jJ_wj_n, jI_wr_n, jinb_nI, nI_clamp, tc0, tc1, tc2, tc3, tc4, tc5, tc6, tc7, tc8, tc9, tc10, tc11, tc12, tc13, tc14, tc15, tc16, tc17, tc18, tc19, tc20, tc21, tc22, tc23, tc24, tc25, tc26, tc27, tc28, tc29, tc30, tc31, tc32, tc33, tc34, tc35, tc36, tc37, tc38, tc39, tc40, tc41, tc42, tc43, tc44, tc45, tc46, tc47, tc48, tc49, tc50, tc51, tc52, tc53, tc54, tc55, tc56, tc57, tc58, tc59, tc60, tc61, tc62, tc63, tc64, tc65, tc66, tc67, tc68, tc69, tc77, tc83, tc119, tc159, tc160, nI_add, al0, ar0, ml0, mr0, al1, ar1, ml1, mr1, al2, ar2, ml2, mr2, al3, ar3, ml3, mr3, al4, ar4, ml4, mr4, al5, ar5, ml5, mr5, al6, ar6, ml6, mr6, al8, ar8, ml8, mr8, al10, ar10, ml10, mr10, al11, ar11, ml11, mr11, al12, ar12, ml12, mr12, al13, ar13, ml13, mr13, al16, ar16, ml16, mr16, al20, ar20, ml20, mr20, al24, ar24, ml24, mr24, al29, ar29, ml29, mr29, al36, ar36, ml36, mr36, al42, ar42, ml42, mr42, al48, ar48, ml48, mr48, al55, ar55, ml55, mr55, al60, ar60, ml60, mr60, al65, ar65, ml65, mr65, al77, ar77, ml77, mr77, al83, ar83, ml83, mr83, al119, ar119, ml119, mr119, al159, ar159, ml159, mr159, al160, ar160, ml160, mr160, al400, ar400, ml400, mr400, x0, x4, a1, a2, a3', s0, hc]
theorem k113h (X : wx h x c C fs S F rr rv) (hn : okDay S = true) (p1 : (jK h (x + 23)).1 = 25) (hQ : jC d 48 [.ref (x + 23), .ref (x + 13)] h (fun r h' => jW d 113 45 [some (.ref x)] (r.toList ++ []) h' Q)) : jC (d + 1) 113 [.ref x] h Q := by
  rw [e113]
  obtain ⟨⟨⟨x0, x1, x2, x3, x4, x5, -⟩, xc⟩, ⟨⟨a1, a2, a3⟩, ⟨a4, a5⟩, ⟨a6, a7, a8⟩, -, -, O, -⟩, -, -, -, -, -, hD, hb⟩ := X
  have hc := a6.1
  have g0 := a8.1
  have s0 : jK h (x + 13) = (29, 5) := a4.1
  have v0 : jI h (x + 13) 0 = S 10 := (a5 0 (by omega)).1
  have a3' : jR h (x + 8) 3 = some (x + 13) := a3
  unfold okDay at hn
  simp only [Bool.and_eq_true, Bool.not_eq_true', decide_eq_false_iff_not] at hn
  have z := isC_t hn.1
  have eD := O.1.2.2.2.1
  have h9 : sD S < 999 := by
    rcases Nat.lt_or_ge (sD S) 999 with g | g
    · exact g
    · exfalso
      apply hn.2
      rw [eD, show sD S = 999 by omega]
      rfl
  have z3 : S 10 < 999 := by rw [eD]; exact nI_lt (b := 999) h9 (by omega)
  simp (config := { decide := true }) (disch := (first | assumption | omega | (simp (config := { decide := true }) only [x0, x4, x5, a1, a2, a3', s0, hc, jK_wI, jK_wJ, jK_wR, jK_wr, jR_wr, jR_wI, jR_wJ, jK_wj, jR_wj, stI_wr, cmI_wr, stI_wj, cmI_wj]; done) | (simp only [x0, x4, x5, a1, a2, a3', s0, hc, jK_wI, jK_wJ, jK_wR, jK_wr, jR_wr, jR_wI, jR_wJ, jK_wj, jR_wj, stI_wr, cmI_wr, stI_wj, cmI_wj]; refine jinb_nI ?_ ?_ <;> omega) | (refine jinb_nI ?_ ?_ <;> omega) | (simp only [stI_wr, cmI_wr, stI_wj, cmI_wj]; assumption))) only [s113_0, s113_1, s113_4, s113_7, s113_10, s113_13, s113_14, s113_17, s113_20, s113_23, s113_26, s113_31, s113_32, s113_35, s113_36, s113_39, g0, if_neg z, v0, if_pos z3, va_rf_some, va_rf_none, jK_wI, jR_wI, jJ_wI, jK_wJ, jR_wJ, jI_wJ, jK_wR, jI_wR, jJ_wR, jK_wr, jR_wr, jJ_wr, jcl1_i, jcl1_r, jcl1_z, jcl1_n, jcl1_l, jwI_row, jwr_jwr, jwr_cm, jwr_cc, upd_upd, jI_wr_s, jI_wr_a, jI_wr_b, jI_wr_c, mInv_wr, upd_s, upd_n, Option.toList, List.cons_append, List.nil_append, true_or, or_true, eq_self, and_self, ite_true, ite_false, if_true, if_false, jK_wj, jR_wj, jI_wj, jwJ_row, jwj_jwj, jJ_wj_s, jJ_wj_n, jI_wr_n, jinb_nI, nI_clamp, tc0, tc1, tc2, tc3, tc4, tc5, tc6, tc7, tc8, tc9, tc10, tc11, tc12, tc13, tc14, tc15, tc16, tc17, tc18, tc19, tc20, tc21, tc22, tc23, tc24, tc25, tc26, tc27, tc28, tc29, tc30, tc31, tc32, tc33, tc34, tc35, tc36, tc37, tc38, tc39, tc40, tc41, tc42, tc43, tc44, tc45, tc46, tc47, tc48, tc49, tc50, tc51, tc52, tc53, tc54, tc55, tc56, tc57, tc58, tc59, tc60, tc61, tc62, tc63, tc64, tc65, tc66, tc67, tc68, tc69, tc77, tc83, tc119, tc159, tc160, nI_add, al0, ar0, ml0, mr0, al1, ar1, ml1, mr1, al2, ar2, ml2, mr2, al3, ar3, ml3, mr3, al4, ar4, ml4, mr4, al5, ar5, ml5, mr5, al6, ar6, ml6, mr6, al8, ar8, ml8, mr8, al10, ar10, ml10, mr10, al11, ar11, ml11, mr11, al12, ar12, ml12, mr12, al13, ar13, ml13, mr13, al16, ar16, ml16, mr16, al20, ar20, ml20, mr20, al24, ar24, ml24, mr24, al29, ar29, ml29, mr29, al36, ar36, ml36, mr36, al42, ar42, ml42, mr42, al48, ar48, ml48, mr48, al55, ar55, ml55, mr55, al60, ar60, ml60, mr60, al65, ar65, ml65, mr65, al77, ar77, ml77, mr77, al83, ar83, ml83, mr83, al119, ar119, ml119, mr119, al159, ar159, ml159, mr159, al160, ar160, ml160, mr160, al400, ar400, ml400, mr400, x0, x4, x5, a1, a2, a3', s0, hc]
  rw [s113_42 p1]
  exact hQ
theorem k113g (X : wx h x c C fs S F rr rv) (hQ : ∀ h1 h2, frg (x + 35) (x + 50) h h1 → fsI h1 (x + 35) → frm (x + 13) (x + 18) h1 h2 → stV h2 (x + 13) (mnxt rv 0 noP (-1) S) → Q (some (.int (moff rv 0 noP (-1) S))) h2) : jW (d + 6) 113 45 [some (.ref x)] [] h Q := by
  have X' := X
  obtain ⟨⟨⟨x0, x1, x2, x3, x4, x5, x6, x7, x8⟩, xc⟩, wl0, -, -, -, -, -, hD, hb⟩ := X
  have a1 : jK h (x + 8) = (23, 5) := wl0.1.1
  have fk : (jK h (x + 35)).1 = 22 := by rw [wl0.2.2.2.1.1]
  have hD' : sD S < 3000 := by omega
  simp (config := { decide := true }) (disch := (first | assumption | omega | (simp (config := { decide := true }) only [x0, x4, x8, a1, jK_wI, jK_wJ, jK_wR, jK_wr, jR_wr, jR_wI, jR_wJ, jK_wj, jR_wj, stI_wr, cmI_wr, stI_wj, cmI_wj]; done) | (simp only [x0, x4, x8, a1, jK_wI, jK_wJ, jK_wR, jK_wr, jR_wr, jR_wI, jR_wJ, jK_wj, jR_wj, stI_wr, cmI_wr, stI_wj, cmI_wj]; refine jinb_nI ?_ ?_ <;> omega) | (refine jinb_nI ?_ ?_ <;> omega) | (simp only [stI_wr, cmI_wr, stI_wj, cmI_wj]; assumption))) only [s113_45, s113_46, s113_49, s113_50, s113_53, va_rf_some, va_rf_none, jK_wI, jR_wI, jJ_wI, jK_wJ, jR_wJ, jI_wJ, jK_wR, jI_wR, jJ_wR, jK_wr, jR_wr, jJ_wr, jcl1_i, jcl1_r, jcl1_z, jcl1_n, jcl1_l, jwI_row, jwr_jwr, jwr_cm, jwr_cc, upd_upd, jI_wr_s, jI_wr_a, jI_wr_b, jI_wr_c, mInv_wr, upd_s, upd_n, Option.toList, List.cons_append, List.nil_append, true_or, or_true, eq_self, and_self, ite_true, ite_false, if_true, if_false, jK_wj, jR_wj, jI_wj, jwJ_row, jwj_jwj, jJ_wj_s, jJ_wj_n, jI_wr_n, jinb_nI, nI_clamp, tc0, tc1, tc2, tc3, tc4, tc5, tc6, tc7, tc8, tc9, tc10, tc11, tc12, tc13, tc14, tc15, tc16, tc17, tc18, tc19, tc20, tc21, tc22, tc23, tc24, tc25, tc26, tc27, tc28, tc29, tc30, tc31, tc32, tc33, tc34, tc35, tc36, tc37, tc38, tc39, tc40, tc41, tc42, tc43, tc44, tc45, tc46, tc47, tc48, tc49, tc50, tc51, tc52, tc53, tc54, tc55, tc56, tc57, tc58, tc59, tc60, tc61, tc62, tc63, tc64, tc65, tc66, tc67, tc68, tc69, tc77, tc83, tc119, tc159, tc160, nI_add, al0, ar0, ml0, mr0, al1, ar1, ml1, mr1, al2, ar2, ml2, mr2, al3, ar3, ml3, mr3, al4, ar4, ml4, mr4, al5, ar5, ml5, mr5, al6, ar6, ml6, mr6, al8, ar8, ml8, mr8, al10, ar10, ml10, mr10, al11, ar11, ml11, mr11, al12, ar12, ml12, mr12, al13, ar13, ml13, mr13, al16, ar16, ml16, mr16, al20, ar20, ml20, mr20, al24, ar24, ml24, mr24, al29, ar29, ml29, mr29, al36, ar36, ml36, mr36, al42, ar42, ml42, mr42, al48, ar48, ml48, mr48, al55, ar55, ml55, mr55, al60, ar60, ml60, mr60, al65, ar65, ml65, mr65, al77, ar77, ml77, mr77, al83, ar83, ml83, mr83, al119, ar119, ml119, mr119, al159, ar159, ml159, mr159, al160, ar160, ml160, mr160, al400, ar400, ml400, mr400, x0, x4, x8, a1]
  rw [s113_54 (by rw [x0]), k114 X']
  cases rr with
  | none =>
    rw [va_rf_none]
    simp only [Option.toList, List.cons_append, List.nil_append]
    rw [s113_57 fk]
    refine k21 (rr := none) wl0 hD' (fun h1 h2 G1 G2 G3 V => ?_)
    simp only [Option.toList, List.cons_append, List.nil_append]
    rw [s113_60]
    exact hQ h1 h2 G1 G2 G3 V
  | some r =>
    rw [va_rf_some]
    simp only [Option.toList, List.cons_append, List.nil_append]
    rw [s113_57 fk]
    refine k21 (rr := some r) wl0 hD' (fun h1 h2 G1 G2 G3 V => ?_)
    simp only [Option.toList, List.cons_append, List.nil_append]
    rw [s113_60]
    exact hQ h1 h2 G1 G2 G3 V
end
