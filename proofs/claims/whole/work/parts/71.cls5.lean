/-! THE CLASS: the worthiest kind, a day lived -/
def H2 (h : jH) (q : Nat) (W st : Nat → Int64) : jH := jwj (jwj h (q + 6) W) (q + 7) st
section
variable {h : jH} {a b q : Nat} {f g W st : Nat → Int64}
theorem jwj_self : jwj h a (jJ h a) = h := by
  have e : jur (jJ h) a (jJ h a) = jJ h := by
    funext b
    by_cases hb : b = a
    · subst hb; rw [jur_eq]
    · rw [jur_ne hb]
  show (jnx h, jsl h, jK h, jI h, jur (jJ h) a (jJ h a), jR h) = h
  rw [e]
  rfl
theorem jwj_com (hab : a ≠ b) : jwj (jwj h a f) b g = jwj (jwj h b g) a f := by
  have e : jur (jur (jJ h) a f) b g = jur (jur (jJ h) b g) a f := by
    funext c
    by_cases h1 : c = a
    · subst h1
      rw [jur_ne hab, jur_eq, jur_eq]
    · by_cases h2 : c = b
      · subst h2
        rw [jur_eq, jur_ne h1, jur_eq]
      · rw [jur_ne h2, jur_ne h1, jur_ne h1, jur_ne h2]
  show (jnx h, jsl h, jK h, jI h, jur (jur (jJ h) a f) b g, jR h) = (jnx h, jsl h, jK h, jI h, jur (jur (jJ h) b g) a f, jR h)
  rw [e]
theorem H2_com : H2 h q W st = jwj (jwj h (q + 7) st) (q + 6) W := jwj_com (by omega)
theorem H2_self : H2 h q (jJ h (q + 6)) (jJ h (q + 7)) = h := by
  unfold H2
  rw [jwj_self, jwj_self]
theorem H2_mid : jwj h (q + 6) W = H2 h q W (jJ h (q + 7)) := by
  rw [H2_com, jwj_self]
theorem jK_H2 : jK (H2 h q W st) = jK h := rfl
theorem jR_H2 : jR (H2 h q W st) = jR h := rfl
theorem jI_H2 : jI (H2 h q W st) = jI h := rfl
theorem frg_H2 : frg q (q + 8) h (H2 h q W st) := frg_wj (by omega) (by omega) (frg_wj (by omega) (by omega) frg_refl)
end
section
variable {S : Nat → Int32}
theorem mwd_eq {W : Nat → Int64} {cal : Int32} {s k : Nat} (w0 : W 0 = lN s) (w1 : W 1 = lN k) (w2 : W 2 = (S (77 + k)).toInt64) (w3 : W 3 = (S (29 + 6 * s + k)).toInt64) (w4 : W 4 = if hasB S s k then 1 else 0) (w5 : W 5 = (nI (mbN (sB S s))).toInt64) (w6 : W 6 = (nI (moth S s k (sN S))).toInt64) (w7 : W 7 = cal.toInt64) (w8 : W 8 = (calmS S (sD S + 1)).toInt64) (w9 : W 9 = (S (11 + 3 * s + 1)).toInt64) (w10 : W 10 = (S (11 + 3 * s + 2)).toInt64) (w11 : W 11 = lN (sD S)) : w12 W = mwd S cal s k := by
  funext i
  unfold w12 mwd
  by_cases hi : i < 12
  · rw [if_pos hi]
    rcases (by omega : i = 0 ∨ i = 1 ∨ i = 2 ∨ i = 3 ∨ i = 4 ∨ i = 5 ∨ i = 6 ∨ i = 7 ∨ i = 8 ∨ i = 9 ∨ i = 10 ∨ i = 11) with rfl | rfl | rfl | rfl | rfl | rfl | rfl | rfl | rfl | rfl | rfl | rfl
    · exact w0
    · exact w1
    · exact w2
    · exact w3
    · exact w4
    · exact w5
    · exact w6
    · exact w7
    · exact w8
    · exact w9
    · exact w10
    · exact w11
  · rw [if_neg hi, List.getD_eq_getElem?_getD, List.getElem?_eq_none (by simp; omega)]
    rfl
theorem sN_F {S' : Nat → Int32} (e : eqF S S') : sN S' = sN S := by unfold sN; rw [e 5 (by omega)]
theorem sK_F {S' : Nat → Int32} (e : eqF S S') : sK S' = sK S := by unfold sK; rw [e 4 (by omega)]
theorem oS_try {s k : Nat} {c : Int32} (O : oS S) (hs : s < sN S) (hk : k < sK S) : oS (mtry S s k c) := by
  obtain ⟨W, B, Z, hH, ⟨l, hl, el⟩, hK⟩ := O
  have hs6 : s < 6 := Nat.lt_of_lt_of_le hs W.2.2.1.2
  have hk6 : k < 6 := Nat.lt_of_lt_of_le hk W.2.1.2
  have e := mtry_eqF (S := S) (c := c) hs6 hk6
  have eN : sN (mtry S s k c) = sN S := by unfold sN; rw [e 5 (by omega)]
  have eK : sK (mtry S s k c) = sK S := by unfold sK; rw [e 4 (by omega)]
  have oth : ∀ j, j < 36 → j ≠ 6 * s + k → mtry S s k c (29 + j) = S (29 + j) := by
    intro j hj hne
    unfold mtry
    split <;> simp (disch := omega) only [upd_n]
  refine ⟨?_, mtry_B B hs6 hk6, ⟨fun t ht hN => ?_, fun t j ht hj hK' => ?_, fun t ht => ?_⟩, fun j hj => ?_, ⟨l, hl, ?_⟩, fun j hj => ?_⟩
  · unfold mW sC sK sN sD at *
    rw [e 3 (by omega), e 4 (by omega), e 5 (by omega), e 10 (by omega)]
    exact W
  · rw [eN] at hN
    obtain ⟨m0, m1, m2, m3, -⟩ := mtry_o (S := S) (c := c) (k := k) (j := 0) hs6 ht (by omega) hk6 (by omega)
    rw [m1, m2]
    exact Z.1 t ht hN
  · rw [eK] at hK'
    have := oth (6 * t + j) (by omega) (by omega)
    rw [← Nat.add_assoc] at this
    rw [this]
    exact Z.2.1 t j ht hj hK'
  · rw [eK]
    have z3 := Z.2.2 t ht
    by_cases hts : t = s
    · subst hts
      obtain ⟨b1, b2⟩ := B t ht
      generalize sB S t = b at b1 b2 z3
      have hb : sB (mtry S t k c) t = b ||| 2 ^ k ∨ sB (mtry S t k c) t = b &&& (63 - 2 ^ k) := by
        unfold sB mtry
        split
        · left
          rw [upd_n (by omega), upd_s, b1, (mb_or _ b2 k hk6).1, nI_clamp (by have := (mb_or _ b2 k hk6).2; omega)]
        · right
          rw [upd_s, b1, (mb_and _ b2 k hk6).1, nI_clamp (by have := (mb_and _ b2 k hk6).2; omega)]
      rcases hb with hb | hb
      · rw [hb]
        exact Nat.or_lt_two_pow z3 (Nat.pow_lt_pow_right (by omega) hk)
      · rw [hb]
        exact Nat.lt_of_le_of_lt Nat.and_le_left z3
    · have := (mtry_o (S := S) (c := c) (k := k) (j := 0) hs6 ht hts hk6 (by omega)).2.1
      unfold sB at *
      rw [this]
      exact z3
  · rw [e (77 + j) (by omega)]
    exact hH j hj
  · rw [e 1 (by omega)]
    exact el
  · by_cases hne : j = 6 * s + k
    · obtain ⟨v, hv, ev⟩ := hK j hj
      unfold mtry
      split
      · subst hne
        rw [show 29 + (6 * s + k) = 29 + 6 * s + k by omega, upd_s]
        rw [show 29 + (6 * s + k) = 29 + 6 * s + k by omega] at ev
        rw [ev, el, nI_add]
        split
        · next hle =>
          have : v + l ≤ 50 := (nI_leI (b := 50) (by omega) (by omega)).mp hle
          exact ⟨v + l, this, rfl⟩
        · exact ⟨50, Nat.le_refl _, rfl⟩
      · refine ⟨v, hv, ?_⟩
        rw [upd_n (by omega), upd_n (by omega), upd_n (by omega)]
        exact ev
    · rw [oth j hj hne]
      exact hK j hj
theorem oS_day {rv : Option ((Nat → Int64) → Int64)} {lf c : Int32} (O : oS S) : ∀ n, n ≤ sN S → oS (mday rv lf noP c S n).1 ∧ eqF S (mday rv lf noP c S n).1 := by
  intro n
  induction n with
  | zero => intro _; exact ⟨O, fun _ _ => rfl⟩
  | succ n ih =>
    intro hn
    obtain ⟨o1, e1⟩ := ih (by omega)
    have eN : sN (mday rv lf noP c S n).1 = sN S := by unfold sN; rw [e1 5 (by omega)]
    have em : (mday rv lf noP c S (n + 1)).1 = match mcho rv (mday rv lf noP c S n).1 c lf noP n with
      | none => (mday rv lf noP c S n).1
      | some k => mtry (mday rv lf noP c S n).1 n k c := by
      rw [mday]
      cases mcho rv (mday rv lf noP c S n).1 c lf noP n <;> rfl
    rw [em]
    cases hc : mcho rv (mday rv lf noP c S n).1 c lf noP n with
    | none => exact ⟨o1, e1⟩
    | some k =>
      have hk : k < sK (mday rv lf noP c S n).1 := mbest_lt (show (mbest (mval rv (mday rv lf noP c S n).1 c lf n) (sK (mday rv lf noP c S n).1)).1 = some k from hc)
      refine ⟨oS_try o1 (by omega) hk, fun j hj => ?_⟩
      have hN := o1.1.2.2.1.2
      have hK := o1.1.2.1.2
      show mtry (mday rv lf noP c S n).1 n k c j = S j
      rw [mtry_eqF (by omega) (by omega) j hj]
      exact e1 j hj
theorem oS_nxt {rv : Option ((Nat → Int64) → Int64)} {lf dr : Int32} (O : oS S) (hD : sD S < 3000) : oS (mnxt rv lf noP dr S) ∧ eqG S (mnxt rv lf noP dr S) ∧ sD (mnxt rv lf noP dr S) = sD S + 1 := by
  obtain ⟨i1, i2, i3, i4⟩ := mnxt_inv (rv := rv) (lf := lf) (pd := noP) (dr := dr) (S := S) (fun s k hk => by cases hk) O.1 O.2.1 hD
  obtain ⟨o1, e1⟩ := oS_day (rv := rv) (lf := lf) (c := mcalm dr S) O (sN S) (Nat.le_refl _)
  have eN : sN (mnxt rv lf noP dr S) = sN S := by unfold sN; rw [i1 5 (by omega)]
  have eK : sK (mnxt rv lf noP dr S) = sK S := by unfold sK; rw [i1 4 (by omega)]
  have eN' : sN (mday rv lf noP (mcalm dr S) S (sN S)).1 = sN S := sN_F e1
  have eK' : sK (mday rv lf noP (mcalm dr S) S (sN S)).1 = sK S := sK_F e1
  obtain ⟨-, -, Z, hH, hl, hK⟩ := o1
  have un : ∀ j, j ≠ 10 → mnxt rv lf noP dr S j = (mday rv lf noP (mcalm dr S) S (sN S)).1 j := fun j hj => by
    unfold mnxt
    rw [upd_n hj]
  refine ⟨⟨i3, i2, ⟨fun t ht hN => ?_, fun t j ht hj hK' => ?_, fun t ht => ?_⟩, fun j hj => ?_, ?_, fun j hj => ?_⟩, i1, i4⟩
  · rw [un _ (by omega), un _ (by omega)]
    exact Z.1 t ht (by omega)
  · rw [un _ (by omega)]
    exact Z.2.1 t j ht hj (by omega)
  · have z3 := Z.2.2 t ht
    rw [eK'] at z3
    rw [eK]
    unfold sB at *
    rw [un _ (by omega)]
    exact z3
  · rw [un _ (by omega)]
    exact hH j hj
  · rw [un _ (by omega)]
    exact hl
  · rw [un _ (by omega)]
    exact hK j hj
theorem stV_day {h : jH} {p : Nat} {v : Int32} (V : stV h p S) : stV (jwr h p (upd (jI h p) 0 v)) p (upd S 10 v) := by
  intro s hs
  obtain ⟨v0, v1, v2, v3, v4⟩ := V s hs
  refine ⟨?_, ?_, ?_, ?_, fun k hk => ?_⟩ <;> simp (disch := omega) only [jI_wr_s, jI_wr_n, upd_s, upd_n]
  · exact v1
  · exact v2
  · exact v3
  · exact v4 k hk
end
section
variable {h : jH} {c q r : Nat} {d : Nat} {Q : Option Value → jH → Prop} {S : Nat → Int32} {rr : Option Nat}
theorem l15 {f : (Nat → Int64) → Int64} (X : crs h q c (some r) S) (R : xRl h r f) (O : oS S) {l : Nat} (hl : jI h q 6 = nI l) (hl2 : l < 64) {s : Nat} (hs : s < 6) {cal : Int32} {b : Option Nat} (hb : b = (mbest (mval (some f) S cal (nI l) s) (sK S)).1) (hQ : ∀ W st, Q (some (.int (oI b))) (H2 h q W st)) : ∀ (n k : Nat) (x7 x8 : Option Value) (V st : Nat → Int64), k + n = sK S → V 0 = lN s → V 5 = (nI (mbN (sB S s))).toInt64 → V 7 = cal.toInt64 → V 8 = (calmS S (sD S + 1)).toInt64 → V 9 = (S (11 + 3 * s + 1)).toInt64 → V 10 = (S (11 + 3 * s + 2)).toInt64 → V 11 = lN (sD S) → jW (d + 3) 15 14 [some (.ref q), some (.int (nI s)), some (.int cal), some (.int (oI (mbest (mval (some f) S cal (nI l) s) k).1)), some (.long (mbest (mval (some f) S cal (nI l) s) k).2), none, some (.int (nI k)), x7, x8] [] (H2 h q V st) Q := by
  obtain ⟨hI, a2, a3, a4, a5, a6, a7, a8⟩ := id X
  obtain ⟨hq, r0, ⟨r1, k1⟩, ⟨r2, k2⟩, hst⟩ := id hI
  have hc := a5.1
  obtain ⟨hK, hK2⟩ := O.1.2.1
  have gK : jI h c 4 = nI (sK S) := by rw [a6.2.2.1]; exact hK
  have hrk : jK h r = (27, 4) := by obtain ⟨n, L, cd, cl, x, -⟩ := R; exact x.1
  intro n
  induction n with
  | zero =>
    intro k x7 x8 V st hk v0 v5 v7 v8 v9 v10 v11
    have e1 : k = sK S := by omega
    have hle : nI (sK S) ≤ nI k := nI_le (by omega) (by omega)
    simp (config := { decide := true }) (disch := (first | assumption | omega | (simp (config := { decide := true }) only [hq, a2, hc, jK_H2, jK_wI, jK_wJ, jK_wR, jK_wr, jR_wr, jR_wI, jR_wJ, jK_wj, jR_wj, stI_wr, cmI_wr, stI_wj, cmI_wj]; done) | (simp only [hq, a2, hc, jK_H2, jK_wI, jK_wJ, jK_wR, jK_wr, jR_wr, jR_wI, jR_wJ, jK_wj, jR_wj, stI_wr, cmI_wr, stI_wj, cmI_wj]; refine jinb_nI ?_ ?_ <;> omega) | (refine jinb_nI ?_ ?_ <;> omega) | (simp only [stI_wr, cmI_wr, stI_wj, cmI_wj]; assumption))) only [s15_14, s15_16, s15_17, s15_20, s15_23, s15_83, s15_84, jK_H2, jR_H2, jI_H2, gK, if_pos hle, va_rf_some, va_rf_none, jK_wI, jR_wI, jJ_wI, jK_wJ, jR_wJ, jI_wJ, jK_wR, jI_wR, jJ_wR, jK_wr, jR_wr, jJ_wr, jcl1_i, jcl1_r, jcl1_z, jcl1_n, jcl1_l, jwI_row, jwr_jwr, jwr_cm, jwr_cc, upd_upd, jI_wr_s, jI_wr_a, jI_wr_b, jI_wr_c, mInv_wr, upd_s, upd_n, Option.toList, List.cons_append, List.nil_append, true_or, or_true, eq_self, and_self, ite_true, ite_false, if_true, if_false, jK_wj, jR_wj, jI_wj, jwJ_row, jwj_jwj, jJ_wj_s, jJ_wj_n, jI_wr_n, jinb_nI, nI_clamp, tc0, tc1, tc2, tc3, tc4, tc5, tc6, tc7, tc8, tc9, tc10, tc11, tc12, tc13, tc14, tc15, tc16, tc17, tc18, tc19, tc20, tc21, tc22, tc23, tc24, tc25, tc26, tc27, tc28, tc29, tc30, tc31, tc32, tc33, tc34, tc35, tc36, tc37, tc38, tc39, tc40, tc41, tc42, tc43, tc44, tc45, tc46, tc47, tc48, tc49, tc50, tc51, tc52, tc53, tc54, tc55, tc56, tc57, tc58, tc59, tc60, tc61, tc62, tc63, tc64, tc65, tc66, tc67, tc68, tc69, tc77, tc83, tc119, tc159, tc160, nI_add, al0, ar0, ml0, mr0, al1, ar1, ml1, mr1, al2, ar2, ml2, mr2, al3, ar3, ml3, mr3, al4, ar4, ml4, mr4, al5, ar5, ml5, mr5, al6, ar6, ml6, mr6, al8, ar8, ml8, mr8, al10, ar10, ml10, mr10, al11, ar11, ml11, mr11, al12, ar12, ml12, mr12, al13, ar13, ml13, mr13, al16, ar16, ml16, mr16, al20, ar20, ml20, mr20, al24, ar24, ml24, mr24, al29, ar29, ml29, mr29, al36, ar36, ml36, mr36, al42, ar42, ml42, mr42, al48, ar48, ml48, mr48, al55, ar55, ml55, mr55, al60, ar60, ml60, mr60, al65, ar65, ml65, mr65, al77, ar77, ml77, mr77, al83, ar83, ml83, mr83, al119, ar119, ml119, mr119, al159, ar159, ml159, mr159, al160, ar160, ml160, mr160, al400, ar400, ml400, mr400, hq, a2, hc, jK_H2]
    rw [e1, ← hb]
    exact hQ _ _
  | succ n ih =>
    intro k x7 x8 V st hk v0 v5 v7 v8 v9 v10 v11
    have hk6 : k < 6 := by omega
    have hle : ¬ nI (sK S) ≤ nI k := nI_ge (by omega) (by omega)
    have c14 := fun Q => k14 (h := H2 h q V st) (d := d + 2) (Q := Q) hq hl hl2 hk6
    have em : mbest (mval (some f) S cal (nI l) s) (k + 1) = match mval (some f) S cal (nI l) s k with
      | none => mbest (mval (some f) S cal (nI l) s) k
      | some n => if (mbest (mval (some f) S cal (nI l) s) k).2 < n then (some k, n) else mbest (mval (some f) S cal (nI l) s) k := rfl
    have ih' := fun x7 x8 V st => ih (k + 1) x7 x8 V st (by omega)
    simp (config := { decide := true }) (disch := (first | assumption | omega | (simp (config := { decide := true }) only [hq, a2, hc, jK_H2, jK_wI, jK_wJ, jK_wR, jK_wr, jR_wr, jR_wI, jR_wJ, jK_wj, jR_wj, stI_wr, cmI_wr, stI_wj, cmI_wj]; done) | (simp only [hq, a2, hc, jK_H2, jK_wI, jK_wJ, jK_wR, jK_wr, jR_wr, jR_wI, jR_wJ, jK_wj, jR_wj, stI_wr, cmI_wr, stI_wj, cmI_wj]; refine jinb_nI ?_ ?_ <;> omega) | (refine jinb_nI ?_ ?_ <;> omega) | (simp only [stI_wr, cmI_wr, stI_wj, cmI_wj]; assumption))) only [s15_14, s15_16, s15_17, s15_20, s15_23, jK_H2, jR_H2, jI_H2, gK, if_neg hle, va_rf_some, va_rf_none, jK_wI, jR_wI, jJ_wI, jK_wJ, jR_wJ, jI_wJ, jK_wR, jI_wR, jJ_wR, jK_wr, jR_wr, jJ_wr, jcl1_i, jcl1_r, jcl1_z, jcl1_n, jcl1_l, jwI_row, jwr_jwr, jwr_cm, jwr_cc, upd_upd, jI_wr_s, jI_wr_a, jI_wr_b, jI_wr_c, mInv_wr, upd_s, upd_n, Option.toList, List.cons_append, List.nil_append, true_or, or_true, eq_self, and_self, ite_true, ite_false, if_true, if_false, jK_wj, jR_wj, jI_wj, jwJ_row, jwj_jwj, jJ_wj_s, jJ_wj_n, jI_wr_n, jinb_nI, nI_clamp, tc0, tc1, tc2, tc3, tc4, tc5, tc6, tc7, tc8, tc9, tc10, tc11, tc12, tc13, tc14, tc15, tc16, tc17, tc18, tc19, tc20, tc21, tc22, tc23, tc24, tc25, tc26, tc27, tc28, tc29, tc30, tc31, tc32, tc33, tc34, tc35, tc36, tc37, tc38, tc39, tc40, tc41, tc42, tc43, tc44, tc45, tc46, tc47, tc48, tc49, tc50, tc51, tc52, tc53, tc54, tc55, tc56, tc57, tc58, tc59, tc60, tc61, tc62, tc63, tc64, tc65, tc66, tc67, tc68, tc69, tc77, tc83, tc119, tc159, tc160, nI_add, al0, ar0, ml0, mr0, al1, ar1, ml1, mr1, al2, ar2, ml2, mr2, al3, ar3, ml3, mr3, al4, ar4, ml4, mr4, al5, ar5, ml5, mr5, al6, ar6, ml6, mr6, al8, ar8, ml8, mr8, al10, ar10, ml10, mr10, al11, ar11, ml11, mr11, al12, ar12, ml12, mr12, al13, ar13, ml13, mr13, al16, ar16, ml16, mr16, al20, ar20, ml20, mr20, al24, ar24, ml24, mr24, al29, ar29, ml29, mr29, al36, ar36, ml36, mr36, al42, ar42, ml42, mr42, al48, ar48, ml48, mr48, al55, ar55, ml55, mr55, al60, ar60, ml60, mr60, al65, ar65, ml65, mr65, al77, ar77, ml77, mr77, al83, ar83, ml83, mr83, al119, ar119, ml119, mr119, al159, ar159, ml159, mr159, al160, ar160, ml160, mr160, al400, ar400, ml400, mr400, hq, a2, hc, jK_H2]
    simp (config := { decide := true }) (disch := (first | assumption | omega | (simp (config := { decide := true }) only [hq, jK_H2, jK_wI, jK_wJ, jK_wR, jK_wr, jR_wr, jR_wI, jR_wJ, jK_wj, jR_wj, stI_wr, cmI_wr, stI_wj, cmI_wj]; done) | (simp only [hq, jK_H2, jK_wI, jK_wJ, jK_wR, jK_wr, jR_wr, jR_wI, jR_wJ, jK_wj, jR_wj, stI_wr, cmI_wr, stI_wj, cmI_wj]; refine jinb_nI ?_ ?_ <;> omega) | (refine jinb_nI ?_ ?_ <;> omega) | (simp only [stI_wr, cmI_wr, stI_wj, cmI_wj]; assumption))) only [s15_26, s15_27, s15_29, c14, jK_H2, va_rf_some, va_rf_none, jK_wI, jR_wI, jJ_wI, jK_wJ, jR_wJ, jI_wJ, jK_wR, jI_wR, jJ_wR, jK_wr, jR_wr, jJ_wr, jcl1_i, jcl1_r, jcl1_z, jcl1_n, jcl1_l, jwI_row, jwr_jwr, jwr_cm, jwr_cc, upd_upd, jI_wr_s, jI_wr_a, jI_wr_b, jI_wr_c, mInv_wr, upd_s, upd_n, Option.toList, List.cons_append, List.nil_append, true_or, or_true, eq_self, and_self, ite_true, ite_false, if_true, if_false, jK_wj, jR_wj, jI_wj, jwJ_row, jwj_jwj, jJ_wj_s, jJ_wj_n, jI_wr_n, jinb_nI, nI_clamp, tc0, tc1, tc2, tc3, tc4, tc5, tc6, tc7, tc8, tc9, tc10, tc11, tc12, tc13, tc14, tc15, tc16, tc17, tc18, tc19, tc20, tc21, tc22, tc23, tc24, tc25, tc26, tc27, tc28, tc29, tc30, tc31, tc32, tc33, tc34, tc35, tc36, tc37, tc38, tc39, tc40, tc41, tc42, tc43, tc44, tc45, tc46, tc47, tc48, tc49, tc50, tc51, tc52, tc53, tc54, tc55, tc56, tc57, tc58, tc59, tc60, tc61, tc62, tc63, tc64, tc65, tc66, tc67, tc68, tc69, tc77, tc83, tc119, tc159, tc160, nI_add, al0, ar0, ml0, mr0, al1, ar1, ml1, mr1, al2, ar2, ml2, mr2, al3, ar3, ml3, mr3, al4, ar4, ml4, mr4, al5, ar5, ml5, mr5, al6, ar6, ml6, mr6, al8, ar8, ml8, mr8, al10, ar10, ml10, mr10, al11, ar11, ml11, mr11, al12, ar12, ml12, mr12, al13, ar13, ml13, mr13, al16, ar16, ml16, mr16, al20, ar20, ml20, mr20, al24, ar24, ml24, mr24, al29, ar29, ml29, mr29, al36, ar36, ml36, mr36, al42, ar42, ml42, mr42, al48, ar48, ml48, mr48, al55, ar55, ml55, mr55, al60, ar60, ml60, mr60, al65, ar65, ml65, mr65, al77, ar77, ml77, mr77, al83, ar83, ml83, mr83, al119, ar119, ml119, mr119, al159, ar159, ml159, mr159, al160, ar160, ml160, mr160, al400, ar400, ml400, mr400, hq, jK_H2]
    cases hlf : lfB (nI l) k with
    | true =>
      have ev : mval (some f) S cal (nI l) s k = none := if_pos hlf
      simp only [em, ev] at ih'
      simp only [Bool.true_and, Bool.false_and, Bool.and_true, Bool.and_false, Bool.true_or, Bool.false_or, Bool.false_eq_true, Bool.not_true, Bool.not_false, eq_self, if_true, if_false, ite_true, ite_false]
      simp (config := { decide := true }) (disch := (first | assumption | omega | (simp (config := { decide := true }) only [hq, jK_wI, jK_wJ, jK_wR, jK_wr, jR_wr, jR_wI, jR_wJ, jK_wj, jR_wj, stI_wr, cmI_wr, stI_wj, cmI_wj]; done) | (simp only [hq, jK_wI, jK_wJ, jK_wR, jK_wr, jR_wr, jR_wI, jR_wJ, jK_wj, jR_wj, stI_wr, cmI_wr, stI_wj, cmI_wj]; refine jinb_nI ?_ ?_ <;> omega) | (refine jinb_nI ?_ ?_ <;> omega) | (simp only [stI_wr, cmI_wr, stI_wj, cmI_wj]; assumption))) only [s15_32, s15_35, s15_77, s15_80, va_rf_some, va_rf_none, jK_wI, jR_wI, jJ_wI, jK_wJ, jR_wJ, jI_wJ, jK_wR, jI_wR, jJ_wR, jK_wr, jR_wr, jJ_wr, jcl1_i, jcl1_r, jcl1_z, jcl1_n, jcl1_l, jwI_row, jwr_jwr, jwr_cm, jwr_cc, upd_upd, jI_wr_s, jI_wr_a, jI_wr_b, jI_wr_c, mInv_wr, upd_s, upd_n, Option.toList, List.cons_append, List.nil_append, true_or, or_true, eq_self, and_self, ite_true, ite_false, if_true, if_false, jK_wj, jR_wj, jI_wj, jwJ_row, jwj_jwj, jJ_wj_s, jJ_wj_n, jI_wr_n, jinb_nI, nI_clamp, tc0, tc1, tc2, tc3, tc4, tc5, tc6, tc7, tc8, tc9, tc10, tc11, tc12, tc13, tc14, tc15, tc16, tc17, tc18, tc19, tc20, tc21, tc22, tc23, tc24, tc25, tc26, tc27, tc28, tc29, tc30, tc31, tc32, tc33, tc34, tc35, tc36, tc37, tc38, tc39, tc40, tc41, tc42, tc43, tc44, tc45, tc46, tc47, tc48, tc49, tc50, tc51, tc52, tc53, tc54, tc55, tc56, tc57, tc58, tc59, tc60, tc61, tc62, tc63, tc64, tc65, tc66, tc67, tc68, tc69, tc77, tc83, tc119, tc159, tc160, nI_add, al0, ar0, ml0, mr0, al1, ar1, ml1, mr1, al2, ar2, ml2, mr2, al3, ar3, ml3, mr3, al4, ar4, ml4, mr4, al5, ar5, ml5, mr5, al6, ar6, ml6, mr6, al8, ar8, ml8, mr8, al10, ar10, ml10, mr10, al11, ar11, ml11, mr11, al12, ar12, ml12, mr12, al13, ar13, ml13, mr13, al16, ar16, ml16, mr16, al20, ar20, ml20, mr20, al24, ar24, ml24, mr24, al29, ar29, ml29, mr29, al36, ar36, ml36, mr36, al42, ar42, ml42, mr42, al48, ar48, ml48, mr48, al55, ar55, ml55, mr55, al60, ar60, ml60, mr60, al65, ar65, ml65, mr65, al77, ar77, ml77, mr77, al83, ar83, ml83, mr83, al119, ar119, ml119, mr119, al159, ar159, ml159, mr159, al160, ar160, ml160, mr160, al400, ar400, ml400, mr400, hq]
      exact ih' _ _ _ _ v0 v5 v7 v8 v9 v10 v11
    | false =>
      have ev : mval (some f) S cal (nI l) s k = some (f (mwd S cal s k)) := if_neg (by rw [hlf]; decide)
      simp only [em, ev] at ih'
      simp only [Bool.true_and, Bool.false_and, Bool.and_true, Bool.and_false, Bool.true_or, Bool.false_or, Bool.false_eq_true, Bool.not_true, Bool.not_false, eq_self, if_true, if_false, ite_true, ite_false]
      simp (config := { decide := true }) (disch := (first | assumption | omega | (simp (config := { decide := true }) only [hq, jK_H2, jK_wI, jK_wJ, jK_wR, jK_wr, jR_wr, jR_wI, jR_wJ, jK_wj, jR_wj, stI_wr, cmI_wr, stI_wj, cmI_wj]; done) | (simp only [hq, jK_H2, jK_wI, jK_wJ, jK_wR, jK_wr, jR_wr, jR_wI, jR_wJ, jK_wj, jR_wj, stI_wr, cmI_wr, stI_wj, cmI_wj]; refine jinb_nI ?_ ?_ <;> omega) | (refine jinb_nI ?_ ?_ <;> omega) | (simp only [stI_wr, cmI_wr, stI_wj, cmI_wj]; assumption))) only [s15_32, s15_38, s15_39, s15_40, s15_42, jK_H2, va_rf_some, va_rf_none, jK_wI, jR_wI, jJ_wI, jK_wJ, jR_wJ, jI_wJ, jK_wR, jI_wR, jJ_wR, jK_wr, jR_wr, jJ_wr, jcl1_i, jcl1_r, jcl1_z, jcl1_n, jcl1_l, jwI_row, jwr_jwr, jwr_cm, jwr_cc, upd_upd, jI_wr_s, jI_wr_a, jI_wr_b, jI_wr_c, mInv_wr, upd_s, upd_n, Option.toList, List.cons_append, List.nil_append, true_or, or_true, eq_self, and_self, ite_true, ite_false, if_true, if_false, jK_wj, jR_wj, jI_wj, jwJ_row, jwj_jwj, jJ_wj_s, jJ_wj_n, jI_wr_n, jinb_nI, nI_clamp, tc0, tc1, tc2, tc3, tc4, tc5, tc6, tc7, tc8, tc9, tc10, tc11, tc12, tc13, tc14, tc15, tc16, tc17, tc18, tc19, tc20, tc21, tc22, tc23, tc24, tc25, tc26, tc27, tc28, tc29, tc30, tc31, tc32, tc33, tc34, tc35, tc36, tc37, tc38, tc39, tc40, tc41, tc42, tc43, tc44, tc45, tc46, tc47, tc48, tc49, tc50, tc51, tc52, tc53, tc54, tc55, tc56, tc57, tc58, tc59, tc60, tc61, tc62, tc63, tc64, tc65, tc66, tc67, tc68, tc69, tc77, tc83, tc119, tc159, tc160, nI_add, al0, ar0, ml0, mr0, al1, ar1, ml1, mr1, al2, ar2, ml2, mr2, al3, ar3, ml3, mr3, al4, ar4, ml4, mr4, al5, ar5, ml5, mr5, al6, ar6, ml6, mr6, al8, ar8, ml8, mr8, al10, ar10, ml10, mr10, al11, ar11, ml11, mr11, al12, ar12, ml12, mr12, al13, ar13, ml13, mr13, al16, ar16, ml16, mr16, al20, ar20, ml20, mr20, al24, ar24, ml24, mr24, al29, ar29, ml29, mr29, al36, ar36, ml36, mr36, al42, ar42, ml42, mr42, al48, ar48, ml48, mr48, al55, ar55, ml55, mr55, al60, ar60, ml60, mr60, al65, ar65, ml65, mr65, al77, ar77, ml77, mr77, al83, ar83, ml83, mr83, al119, ar119, ml119, mr119, al159, ar159, ml159, mr159, al160, ar160, ml160, mr160, al400, ar400, ml400, mr400, hq, jK_H2]
      rw [H2_com]
      refine k17 (h := jwj h (q + 7) st) X O hs hk6 (fun W w1 w2 w3 w4 w6 wv => ?_)
      obtain ⟨w0, w5, w7, w8, w9, w10, w11⟩ := wv
      simp only [Option.toList, List.nil_append]
      have ew : w12 W = mwd S cal s k := mwd_eq (w0.trans v0) w1 w2 w3 w4 (w5.trans v5) w6 (w7.trans v7) (w8.trans v8) (w9.trans v9) (w10.trans v10) (w11.trans v11)
      rw [← H2_com]
      simp (config := { decide := true }) (disch := (first | assumption | omega | (simp (config := { decide := true }) only [hq, r1, r2, hrk, jK_H2, jK_wI, jK_wJ, jK_wR, jK_wr, jR_wr, jR_wI, jR_wJ, jK_wj, jR_wj, stI_wr, cmI_wr, stI_wj, cmI_wj]; done) | (simp only [hq, r1, r2, hrk, jK_H2, jK_wI, jK_wJ, jK_wR, jK_wr, jR_wr, jR_wI, jR_wJ, jK_wj, jR_wj, stI_wr, cmI_wr, stI_wj, cmI_wj]; refine jinb_nI ?_ ?_ <;> omega) | (refine jinb_nI ?_ ?_ <;> omega) | (simp only [stI_wr, cmI_wr, stI_wj, cmI_wj]; assumption))) only [s15_45, s15_46, s15_49, s15_50, s15_53, s15_54, s15_57, jK_H2, jR_H2, a3, va_rf_some, va_rf_none, jK_wI, jR_wI, jJ_wI, jK_wJ, jR_wJ, jI_wJ, jK_wR, jI_wR, jJ_wR, jK_wr, jR_wr, jJ_wr, jcl1_i, jcl1_r, jcl1_z, jcl1_n, jcl1_l, jwI_row, jwr_jwr, jwr_cm, jwr_cc, upd_upd, jI_wr_s, jI_wr_a, jI_wr_b, jI_wr_c, mInv_wr, upd_s, upd_n, Option.toList, List.cons_append, List.nil_append, true_or, or_true, eq_self, and_self, ite_true, ite_false, if_true, if_false, jK_wj, jR_wj, jI_wj, jwJ_row, jwj_jwj, jJ_wj_s, jJ_wj_n, jI_wr_n, jinb_nI, nI_clamp, tc0, tc1, tc2, tc3, tc4, tc5, tc6, tc7, tc8, tc9, tc10, tc11, tc12, tc13, tc14, tc15, tc16, tc17, tc18, tc19, tc20, tc21, tc22, tc23, tc24, tc25, tc26, tc27, tc28, tc29, tc30, tc31, tc32, tc33, tc34, tc35, tc36, tc37, tc38, tc39, tc40, tc41, tc42, tc43, tc44, tc45, tc46, tc47, tc48, tc49, tc50, tc51, tc52, tc53, tc54, tc55, tc56, tc57, tc58, tc59, tc60, tc61, tc62, tc63, tc64, tc65, tc66, tc67, tc68, tc69, tc77, tc83, tc119, tc159, tc160, nI_add, al0, ar0, ml0, mr0, al1, ar1, ml1, mr1, al2, ar2, ml2, mr2, al3, ar3, ml3, mr3, al4, ar4, ml4, mr4, al5, ar5, ml5, mr5, al6, ar6, ml6, mr6, al8, ar8, ml8, mr8, al10, ar10, ml10, mr10, al11, ar11, ml11, mr11, al12, ar12, ml12, mr12, al13, ar13, ml13, mr13, al16, ar16, ml16, mr16, al20, ar20, ml20, mr20, al24, ar24, ml24, mr24, al29, ar29, ml29, mr29, al36, ar36, ml36, mr36, al42, ar42, ml42, mr42, al48, ar48, ml48, mr48, al55, ar55, ml55, mr55, al60, ar60, ml60, mr60, al65, ar65, ml65, mr65, al77, ar77, ml77, mr77, al83, ar83, ml83, mr83, al119, ar119, ml119, mr119, al159, ar159, ml159, mr159, al160, ar160, ml160, mr160, al400, ar400, ml400, mr400, hq, r1, r2, hrk, jK_H2]
      have k8 := fun Q => k68 (h := jwj h (q + 6) W) (d := d) (r := r) (wa := q + 6) (sa := q + 7) (st := st) (f := f) (Q := Q) R k1 k2 (by omega)
      rw [jJ_wj_s, ew] at k8
      refine k8 _ (fun st' => ?_)
      simp only [Option.toList, List.cons_append, List.nil_append]
      have eh : jwj (jwj h (q + 6) W) (q + 7) st' = H2 h q W st' := rfl
      rw [eh]
      simp (config := { decide := true }) (disch := (first | assumption | omega | (simp (config := { decide := true }) only [hq, jK_wI, jK_wJ, jK_wR, jK_wr, jR_wr, jR_wI, jR_wJ, jK_wj, jR_wj, stI_wr, cmI_wr, stI_wj, cmI_wj]; done) | (simp only [hq, jK_wI, jK_wJ, jK_wR, jK_wr, jR_wr, jR_wI, jR_wJ, jK_wj, jR_wj, stI_wr, cmI_wr, stI_wj, cmI_wj]; refine jinb_nI ?_ ?_ <;> omega) | (refine jinb_nI ?_ ?_ <;> omega) | (simp only [stI_wr, cmI_wr, stI_wj, cmI_wj]; assumption))) only [s15_60, s15_62, s15_64, s15_66, s15_67, lg_cmp_le, va_rf_some, va_rf_none, jK_wI, jR_wI, jJ_wI, jK_wJ, jR_wJ, jI_wJ, jK_wR, jI_wR, jJ_wR, jK_wr, jR_wr, jJ_wr, jcl1_i, jcl1_r, jcl1_z, jcl1_n, jcl1_l, jwI_row, jwr_jwr, jwr_cm, jwr_cc, upd_upd, jI_wr_s, jI_wr_a, jI_wr_b, jI_wr_c, mInv_wr, upd_s, upd_n, Option.toList, List.cons_append, List.nil_append, true_or, or_true, eq_self, and_self, ite_true, ite_false, if_true, if_false, jK_wj, jR_wj, jI_wj, jwJ_row, jwj_jwj, jJ_wj_s, jJ_wj_n, jI_wr_n, jinb_nI, nI_clamp, tc0, tc1, tc2, tc3, tc4, tc5, tc6, tc7, tc8, tc9, tc10, tc11, tc12, tc13, tc14, tc15, tc16, tc17, tc18, tc19, tc20, tc21, tc22, tc23, tc24, tc25, tc26, tc27, tc28, tc29, tc30, tc31, tc32, tc33, tc34, tc35, tc36, tc37, tc38, tc39, tc40, tc41, tc42, tc43, tc44, tc45, tc46, tc47, tc48, tc49, tc50, tc51, tc52, tc53, tc54, tc55, tc56, tc57, tc58, tc59, tc60, tc61, tc62, tc63, tc64, tc65, tc66, tc67, tc68, tc69, tc77, tc83, tc119, tc159, tc160, nI_add, al0, ar0, ml0, mr0, al1, ar1, ml1, mr1, al2, ar2, ml2, mr2, al3, ar3, ml3, mr3, al4, ar4, ml4, mr4, al5, ar5, ml5, mr5, al6, ar6, ml6, mr6, al8, ar8, ml8, mr8, al10, ar10, ml10, mr10, al11, ar11, ml11, mr11, al12, ar12, ml12, mr12, al13, ar13, ml13, mr13, al16, ar16, ml16, mr16, al20, ar20, ml20, mr20, al24, ar24, ml24, mr24, al29, ar29, ml29, mr29, al36, ar36, ml36, mr36, al42, ar42, ml42, mr42, al48, ar48, ml48, mr48, al55, ar55, ml55, mr55, al60, ar60, ml60, mr60, al65, ar65, ml65, mr65, al77, ar77, ml77, mr77, al83, ar83, ml83, mr83, al119, ar119, ml119, mr119, al159, ar159, ml159, mr159, al160, ar160, ml160, mr160, al400, ar400, ml400, mr400, hq]
      by_cases hlt : (mbest (mval (some f) S cal (nI l) s) k).2 < f (mwd S cal s k)
      · simp only [if_pos hlt] at ih'
        rw [if_neg (Int64.not_le.mpr hlt)]
        simp (config := { decide := true }) (disch := (first | assumption | omega | (simp (config := { decide := true }) only [hq, jK_wI, jK_wJ, jK_wR, jK_wr, jR_wr, jR_wI, jR_wJ, jK_wj, jR_wj, stI_wr, cmI_wr, stI_wj, cmI_wj]; done) | (simp only [hq, jK_wI, jK_wJ, jK_wR, jK_wr, jR_wr, jR_wI, jR_wJ, jK_wj, jR_wj, stI_wr, cmI_wr, stI_wj, cmI_wj]; refine jinb_nI ?_ ?_ <;> omega) | (refine jinb_nI ?_ ?_ <;> omega) | (simp only [stI_wr, cmI_wr, stI_wj, cmI_wj]; assumption))) only [s15_70, s15_72, s15_74, s15_76, s15_77, s15_80, va_rf_some, va_rf_none, jK_wI, jR_wI, jJ_wI, jK_wJ, jR_wJ, jI_wJ, jK_wR, jI_wR, jJ_wR, jK_wr, jR_wr, jJ_wr, jcl1_i, jcl1_r, jcl1_z, jcl1_n, jcl1_l, jwI_row, jwr_jwr, jwr_cm, jwr_cc, upd_upd, jI_wr_s, jI_wr_a, jI_wr_b, jI_wr_c, mInv_wr, upd_s, upd_n, Option.toList, List.cons_append, List.nil_append, true_or, or_true, eq_self, and_self, ite_true, ite_false, if_true, if_false, jK_wj, jR_wj, jI_wj, jwJ_row, jwj_jwj, jJ_wj_s, jJ_wj_n, jI_wr_n, jinb_nI, nI_clamp, tc0, tc1, tc2, tc3, tc4, tc5, tc6, tc7, tc8, tc9, tc10, tc11, tc12, tc13, tc14, tc15, tc16, tc17, tc18, tc19, tc20, tc21, tc22, tc23, tc24, tc25, tc26, tc27, tc28, tc29, tc30, tc31, tc32, tc33, tc34, tc35, tc36, tc37, tc38, tc39, tc40, tc41, tc42, tc43, tc44, tc45, tc46, tc47, tc48, tc49, tc50, tc51, tc52, tc53, tc54, tc55, tc56, tc57, tc58, tc59, tc60, tc61, tc62, tc63, tc64, tc65, tc66, tc67, tc68, tc69, tc77, tc83, tc119, tc159, tc160, nI_add, al0, ar0, ml0, mr0, al1, ar1, ml1, mr1, al2, ar2, ml2, mr2, al3, ar3, ml3, mr3, al4, ar4, ml4, mr4, al5, ar5, ml5, mr5, al6, ar6, ml6, mr6, al8, ar8, ml8, mr8, al10, ar10, ml10, mr10, al11, ar11, ml11, mr11, al12, ar12, ml12, mr12, al13, ar13, ml13, mr13, al16, ar16, ml16, mr16, al20, ar20, ml20, mr20, al24, ar24, ml24, mr24, al29, ar29, ml29, mr29, al36, ar36, ml36, mr36, al42, ar42, ml42, mr42, al48, ar48, ml48, mr48, al55, ar55, ml55, mr55, al60, ar60, ml60, mr60, al65, ar65, ml65, mr65, al77, ar77, ml77, mr77, al83, ar83, ml83, mr83, al119, ar119, ml119, mr119, al159, ar159, ml159, mr159, al160, ar160, ml160, mr160, al400, ar400, ml400, mr400, hq]
        exact ih' _ _ _ _ (w0.trans v0) (w5.trans v5) (w7.trans v7) (w8.trans v8) (w9.trans v9) (w10.trans v10) (w11.trans v11)
      · simp only [if_neg hlt] at ih'
        rw [if_pos (Int64.not_lt.mp hlt)]
        simp (config := { decide := true }) (disch := (first | assumption | omega | (simp (config := { decide := true }) only [hq, jK_wI, jK_wJ, jK_wR, jK_wr, jR_wr, jR_wI, jR_wJ, jK_wj, jR_wj, stI_wr, cmI_wr, stI_wj, cmI_wj]; done) | (simp only [hq, jK_wI, jK_wJ, jK_wR, jK_wr, jR_wr, jR_wI, jR_wJ, jK_wj, jR_wj, stI_wr, cmI_wr, stI_wj, cmI_wj]; refine jinb_nI ?_ ?_ <;> omega) | (refine jinb_nI ?_ ?_ <;> omega) | (simp only [stI_wr, cmI_wr, stI_wj, cmI_wj]; assumption))) only [s15_77, s15_80, va_rf_some, va_rf_none, jK_wI, jR_wI, jJ_wI, jK_wJ, jR_wJ, jI_wJ, jK_wR, jI_wR, jJ_wR, jK_wr, jR_wr, jJ_wr, jcl1_i, jcl1_r, jcl1_z, jcl1_n, jcl1_l, jwI_row, jwr_jwr, jwr_cm, jwr_cc, upd_upd, jI_wr_s, jI_wr_a, jI_wr_b, jI_wr_c, mInv_wr, upd_s, upd_n, Option.toList, List.cons_append, List.nil_append, true_or, or_true, eq_self, and_self, ite_true, ite_false, if_true, if_false, jK_wj, jR_wj, jI_wj, jwJ_row, jwj_jwj, jJ_wj_s, jJ_wj_n, jI_wr_n, jinb_nI, nI_clamp, tc0, tc1, tc2, tc3, tc4, tc5, tc6, tc7, tc8, tc9, tc10, tc11, tc12, tc13, tc14, tc15, tc16, tc17, tc18, tc19, tc20, tc21, tc22, tc23, tc24, tc25, tc26, tc27, tc28, tc29, tc30, tc31, tc32, tc33, tc34, tc35, tc36, tc37, tc38, tc39, tc40, tc41, tc42, tc43, tc44, tc45, tc46, tc47, tc48, tc49, tc50, tc51, tc52, tc53, tc54, tc55, tc56, tc57, tc58, tc59, tc60, tc61, tc62, tc63, tc64, tc65, tc66, tc67, tc68, tc69, tc77, tc83, tc119, tc159, tc160, nI_add, al0, ar0, ml0, mr0, al1, ar1, ml1, mr1, al2, ar2, ml2, mr2, al3, ar3, ml3, mr3, al4, ar4, ml4, mr4, al5, ar5, ml5, mr5, al6, ar6, ml6, mr6, al8, ar8, ml8, mr8, al10, ar10, ml10, mr10, al11, ar11, ml11, mr11, al12, ar12, ml12, mr12, al13, ar13, ml13, mr13, al16, ar16, ml16, mr16, al20, ar20, ml20, mr20, al24, ar24, ml24, mr24, al29, ar29, ml29, mr29, al36, ar36, ml36, mr36, al42, ar42, ml42, mr42, al48, ar48, ml48, mr48, al55, ar55, ml55, mr55, al60, ar60, ml60, mr60, al65, ar65, ml65, mr65, al77, ar77, ml77, mr77, al83, ar83, ml83, mr83, al119, ar119, ml119, mr119, al159, ar159, ml159, mr159, al160, ar160, ml160, mr160, al400, ar400, ml400, mr400, hq]
        exact ih' _ _ _ _ (w0.trans v0) (w5.trans v5) (w7.trans v7) (w8.trans v8) (w9.trans v9) (w10.trans v10) (w11.trans v11)
/-- worthiest -/
theorem k15 {f : (Nat → Int64) → Int64} (X : crs h q c (some r) S) (R : xRl h r f) (O : oS S) {l : Nat} (hl : jI h q 6 = nI l) (hl2 : l < 64) {s : Nat} (hs : s < 6) {cal : Int32} (hQ : ∀ W st, Q (some (.int (oI (mbest (mval (some f) S cal (nI l) s) (sK S)).1))) (H2 h q W st)) : jC (d + 4) 15 [.ref q, .int (nI s), .int cal] h Q := by
  rw [e15]
  have hq := X.1.1
  simp (config := { decide := true }) (disch := (first | assumption | omega | (simp (config := { decide := true }) only [hq, jK_wI, jK_wJ, jK_wR, jK_wr, jR_wr, jR_wI, jR_wJ, jK_wj, jR_wj, stI_wr, cmI_wr, stI_wj, cmI_wj]; done) | (simp only [hq, jK_wI, jK_wJ, jK_wR, jK_wr, jR_wr, jR_wI, jR_wJ, jK_wj, jR_wj, stI_wr, cmI_wr, stI_wj, cmI_wj]; refine jinb_nI ?_ ?_ <;> omega) | (refine jinb_nI ?_ ?_ <;> omega) | (simp only [stI_wr, cmI_wr, stI_wj, cmI_wj]; assumption))) only [s15_0, s15_1, s15_2, s15_3, va_rf_some, va_rf_none, jK_wI, jR_wI, jJ_wI, jK_wJ, jR_wJ, jI_wJ, jK_wR, jI_wR, jJ_wR, jK_wr, jR_wr, jJ_wr, jcl1_i, jcl1_r, jcl1_z, jcl1_n, jcl1_l, jwI_row, jwr_jwr, jwr_cm, jwr_cc, upd_upd, jI_wr_s, jI_wr_a, jI_wr_b, jI_wr_c, mInv_wr, upd_s, upd_n, Option.toList, List.cons_append, List.nil_append, true_or, or_true, eq_self, and_self, ite_true, ite_false, if_true, if_false, jK_wj, jR_wj, jI_wj, jwJ_row, jwj_jwj, jJ_wj_s, jJ_wj_n, jI_wr_n, jinb_nI, nI_clamp, tc0, tc1, tc2, tc3, tc4, tc5, tc6, tc7, tc8, tc9, tc10, tc11, tc12, tc13, tc14, tc15, tc16, tc17, tc18, tc19, tc20, tc21, tc22, tc23, tc24, tc25, tc26, tc27, tc28, tc29, tc30, tc31, tc32, tc33, tc34, tc35, tc36, tc37, tc38, tc39, tc40, tc41, tc42, tc43, tc44, tc45, tc46, tc47, tc48, tc49, tc50, tc51, tc52, tc53, tc54, tc55, tc56, tc57, tc58, tc59, tc60, tc61, tc62, tc63, tc64, tc65, tc66, tc67, tc68, tc69, tc77, tc83, tc119, tc159, tc160, nI_add, al0, ar0, ml0, mr0, al1, ar1, ml1, mr1, al2, ar2, ml2, mr2, al3, ar3, ml3, mr3, al4, ar4, ml4, mr4, al5, ar5, ml5, mr5, al6, ar6, ml6, mr6, al8, ar8, ml8, mr8, al10, ar10, ml10, mr10, al11, ar11, ml11, mr11, al12, ar12, ml12, mr12, al13, ar13, ml13, mr13, al16, ar16, ml16, mr16, al20, ar20, ml20, mr20, al24, ar24, ml24, mr24, al29, ar29, ml29, mr29, al36, ar36, ml36, mr36, al42, ar42, ml42, mr42, al48, ar48, ml48, mr48, al55, ar55, ml55, mr55, al60, ar60, ml60, mr60, al65, ar65, ml65, mr65, al77, ar77, ml77, mr77, al83, ar83, ml83, mr83, al119, ar119, ml119, mr119, al159, ar159, ml159, mr159, al160, ar160, ml160, mr160, al400, ar400, ml400, mr400, hq]
  refine k16 X O hs (fun W w0 w5 w7 w8 w9 w10 w11 => ?_)
  simp only [Option.toList, List.nil_append]
  rw [H2_mid]
  simp (config := { decide := true }) (disch := (first | assumption | omega | (simp (config := { decide := true }) only [hq, jK_wI, jK_wJ, jK_wR, jK_wr, jR_wr, jR_wI, jR_wJ, jK_wj, jR_wj, stI_wr, cmI_wr, stI_wj, cmI_wj]; done) | (simp only [hq, jK_wI, jK_wJ, jK_wR, jK_wr, jR_wr, jR_wI, jR_wJ, jK_wj, jR_wj, stI_wr, cmI_wr, stI_wj, cmI_wj]; refine jinb_nI ?_ ?_ <;> omega) | (refine jinb_nI ?_ ?_ <;> omega) | (simp only [stI_wr, cmI_wr, stI_wj, cmI_wj]; assumption))) only [s15_6, s15_7, s15_8, s15_9, s15_11, s15_12, va_rf_some, va_rf_none, jK_wI, jR_wI, jJ_wI, jK_wJ, jR_wJ, jI_wJ, jK_wR, jI_wR, jJ_wR, jK_wr, jR_wr, jJ_wr, jcl1_i, jcl1_r, jcl1_z, jcl1_n, jcl1_l, jwI_row, jwr_jwr, jwr_cm, jwr_cc, upd_upd, jI_wr_s, jI_wr_a, jI_wr_b, jI_wr_c, mInv_wr, upd_s, upd_n, Option.toList, List.cons_append, List.nil_append, true_or, or_true, eq_self, and_self, ite_true, ite_false, if_true, if_false, jK_wj, jR_wj, jI_wj, jwJ_row, jwj_jwj, jJ_wj_s, jJ_wj_n, jI_wr_n, jinb_nI, nI_clamp, tc0, tc1, tc2, tc3, tc4, tc5, tc6, tc7, tc8, tc9, tc10, tc11, tc12, tc13, tc14, tc15, tc16, tc17, tc18, tc19, tc20, tc21, tc22, tc23, tc24, tc25, tc26, tc27, tc28, tc29, tc30, tc31, tc32, tc33, tc34, tc35, tc36, tc37, tc38, tc39, tc40, tc41, tc42, tc43, tc44, tc45, tc46, tc47, tc48, tc49, tc50, tc51, tc52, tc53, tc54, tc55, tc56, tc57, tc58, tc59, tc60, tc61, tc62, tc63, tc64, tc65, tc66, tc67, tc68, tc69, tc77, tc83, tc119, tc159, tc160, nI_add, al0, ar0, ml0, mr0, al1, ar1, ml1, mr1, al2, ar2, ml2, mr2, al3, ar3, ml3, mr3, al4, ar4, ml4, mr4, al5, ar5, ml5, mr5, al6, ar6, ml6, mr6, al8, ar8, ml8, mr8, al10, ar10, ml10, mr10, al11, ar11, ml11, mr11, al12, ar12, ml12, mr12, al13, ar13, ml13, mr13, al16, ar16, ml16, mr16, al20, ar20, ml20, mr20, al24, ar24, ml24, mr24, al29, ar29, ml29, mr29, al36, ar36, ml36, mr36, al42, ar42, ml42, mr42, al48, ar48, ml48, mr48, al55, ar55, ml55, mr55, al60, ar60, ml60, mr60, al65, ar65, ml65, mr65, al77, ar77, ml77, mr77, al83, ar83, ml83, mr83, al119, ar119, ml119, mr119, al159, ar159, ml159, mr159, al160, ar160, ml160, mr160, al400, ar400, ml400, mr400, hq]
  exact l15 X R O hl hl2 hs rfl hQ (sK S) 0 _ _ W _ (by omega) w0 w5 w7 w8 w9 w10 w11
/-- a scout's choice on a day -/
theorem k12c {rv : Option ((Nat → Int64) → Int64)} (X : crs h q c rr S) (R : rvI h q rr rv) (O : oS S) {l : Nat} (hl : jI h q 6 = nI l) (hl2 : l < 64) {s : Nat} (hs : s < 6) {cal off : Int32} {x4 : Option Value} (hQ : ∀ W st, jW (d + 4) 12 66 [some (.ref q), some (.int cal), some (.int off), some (.int (nI s)), x4] [.int (oI (mcho rv S cal (nI l) noP s))] (H2 h q W st) Q) : jW (d + 4) 12 45 [some (.ref q), some (.int cal), some (.int off), some (.int (nI s)), x4] [] h Q := by
  have hq := X.1.1
  have a3 := X.2.2.1
  match rr, rv, R, X, a3 with
  | none, none, R, X, a3 =>
    simp (config := { decide := true }) (disch := (first | assumption | omega | (simp (config := { decide := true }) only [hq, jK_wI, jK_wJ, jK_wR, jK_wr, jR_wr, jR_wI, jR_wJ, jK_wj, jR_wj, stI_wr, cmI_wr, stI_wj, cmI_wj]; done) | (simp only [hq, jK_wI, jK_wJ, jK_wR, jK_wr, jR_wr, jR_wI, jR_wJ, jK_wj, jR_wj, stI_wr, cmI_wr, stI_wj, cmI_wj]; refine jinb_nI ?_ ?_ <;> omega) | (refine jinb_nI ?_ ?_ <;> omega) | (simp only [stI_wr, cmI_wr, stI_wj, cmI_wj]; assumption))) only [s12_45, s12_46, s12_49, s12_49N, s12_52, s12_53, s12_54, a3, va_rf_some, va_rf_none, jK_wI, jR_wI, jJ_wI, jK_wJ, jR_wJ, jI_wJ, jK_wR, jI_wR, jJ_wR, jK_wr, jR_wr, jJ_wr, jcl1_i, jcl1_r, jcl1_z, jcl1_n, jcl1_l, jwI_row, jwr_jwr, jwr_cm, jwr_cc, upd_upd, jI_wr_s, jI_wr_a, jI_wr_b, jI_wr_c, mInv_wr, upd_s, upd_n, Option.toList, List.cons_append, List.nil_append, true_or, or_true, eq_self, and_self, ite_true, ite_false, if_true, if_false, jK_wj, jR_wj, jI_wj, jwJ_row, jwj_jwj, jJ_wj_s, jJ_wj_n, jI_wr_n, jinb_nI, nI_clamp, tc0, tc1, tc2, tc3, tc4, tc5, tc6, tc7, tc8, tc9, tc10, tc11, tc12, tc13, tc14, tc15, tc16, tc17, tc18, tc19, tc20, tc21, tc22, tc23, tc24, tc25, tc26, tc27, tc28, tc29, tc30, tc31, tc32, tc33, tc34, tc35, tc36, tc37, tc38, tc39, tc40, tc41, tc42, tc43, tc44, tc45, tc46, tc47, tc48, tc49, tc50, tc51, tc52, tc53, tc54, tc55, tc56, tc57, tc58, tc59, tc60, tc61, tc62, tc63, tc64, tc65, tc66, tc67, tc68, tc69, tc77, tc83, tc119, tc159, tc160, nI_add, al0, ar0, ml0, mr0, al1, ar1, ml1, mr1, al2, ar2, ml2, mr2, al3, ar3, ml3, mr3, al4, ar4, ml4, mr4, al5, ar5, ml5, mr5, al6, ar6, ml6, mr6, al8, ar8, ml8, mr8, al10, ar10, ml10, mr10, al11, ar11, ml11, mr11, al12, ar12, ml12, mr12, al13, ar13, ml13, mr13, al16, ar16, ml16, mr16, al20, ar20, ml20, mr20, al24, ar24, ml24, mr24, al29, ar29, ml29, mr29, al36, ar36, ml36, mr36, al42, ar42, ml42, mr42, al48, ar48, ml48, mr48, al55, ar55, ml55, mr55, al60, ar60, ml60, mr60, al65, ar65, ml65, mr65, al77, ar77, ml77, mr77, al83, ar83, ml83, mr83, al119, ar119, ml119, mr119, al159, ar159, ml159, mr159, al160, ar160, ml160, mr160, al400, ar400, ml400, mr400, hq]
    rw [k13 X O hl hl2 hs (cal := cal)]
    simp (config := { decide := true }) (disch := (first | assumption | omega | (simp (config := { decide := true }) only [hq, jK_wI, jK_wJ, jK_wR, jK_wr, jR_wr, jR_wI, jR_wJ, jK_wj, jR_wj, stI_wr, cmI_wr, stI_wj, cmI_wj]; done) | (simp only [hq, jK_wI, jK_wJ, jK_wR, jK_wr, jR_wr, jR_wI, jR_wJ, jK_wj, jR_wj, stI_wr, cmI_wr, stI_wj, cmI_wj]; refine jinb_nI ?_ ?_ <;> omega) | (refine jinb_nI ?_ ?_ <;> omega) | (simp only [stI_wr, cmI_wr, stI_wj, cmI_wj]; assumption))) only [s12_57, va_rf_some, va_rf_none, jK_wI, jR_wI, jJ_wI, jK_wJ, jR_wJ, jI_wJ, jK_wR, jI_wR, jJ_wR, jK_wr, jR_wr, jJ_wr, jcl1_i, jcl1_r, jcl1_z, jcl1_n, jcl1_l, jwI_row, jwr_jwr, jwr_cm, jwr_cc, upd_upd, jI_wr_s, jI_wr_a, jI_wr_b, jI_wr_c, mInv_wr, upd_s, upd_n, Option.toList, List.cons_append, List.nil_append, true_or, or_true, eq_self, and_self, ite_true, ite_false, if_true, if_false, jK_wj, jR_wj, jI_wj, jwJ_row, jwj_jwj, jJ_wj_s, jJ_wj_n, jI_wr_n, jinb_nI, nI_clamp, tc0, tc1, tc2, tc3, tc4, tc5, tc6, tc7, tc8, tc9, tc10, tc11, tc12, tc13, tc14, tc15, tc16, tc17, tc18, tc19, tc20, tc21, tc22, tc23, tc24, tc25, tc26, tc27, tc28, tc29, tc30, tc31, tc32, tc33, tc34, tc35, tc36, tc37, tc38, tc39, tc40, tc41, tc42, tc43, tc44, tc45, tc46, tc47, tc48, tc49, tc50, tc51, tc52, tc53, tc54, tc55, tc56, tc57, tc58, tc59, tc60, tc61, tc62, tc63, tc64, tc65, tc66, tc67, tc68, tc69, tc77, tc83, tc119, tc159, tc160, nI_add, al0, ar0, ml0, mr0, al1, ar1, ml1, mr1, al2, ar2, ml2, mr2, al3, ar3, ml3, mr3, al4, ar4, ml4, mr4, al5, ar5, ml5, mr5, al6, ar6, ml6, mr6, al8, ar8, ml8, mr8, al10, ar10, ml10, mr10, al11, ar11, ml11, mr11, al12, ar12, ml12, mr12, al13, ar13, ml13, mr13, al16, ar16, ml16, mr16, al20, ar20, ml20, mr20, al24, ar24, ml24, mr24, al29, ar29, ml29, mr29, al36, ar36, ml36, mr36, al42, ar42, ml42, mr42, al48, ar48, ml48, mr48, al55, ar55, ml55, mr55, al60, ar60, ml60, mr60, al65, ar65, ml65, mr65, al77, ar77, ml77, mr77, al83, ar83, ml83, mr83, al119, ar119, ml119, mr119, al159, ar159, ml159, mr159, al160, ar160, ml160, mr160, al400, ar400, ml400, mr400, hq]
    have := hQ (jJ h (q + 6)) (jJ h (q + 7))
    rw [H2_self] at this
    exact this
  | some r, some f, R, X, a3 =>
    simp (config := { decide := true }) (disch := (first | assumption | omega | (simp (config := { decide := true }) only [hq, jK_wI, jK_wJ, jK_wR, jK_wr, jR_wr, jR_wI, jR_wJ, jK_wj, jR_wj, stI_wr, cmI_wr, stI_wj, cmI_wj]; done) | (simp only [hq, jK_wI, jK_wJ, jK_wR, jK_wr, jR_wr, jR_wI, jR_wJ, jK_wj, jR_wj, stI_wr, cmI_wr, stI_wj, cmI_wj]; refine jinb_nI ?_ ?_ <;> omega) | (refine jinb_nI ?_ ?_ <;> omega) | (simp only [stI_wr, cmI_wr, stI_wj, cmI_wj]; assumption))) only [s12_45, s12_46, s12_49, s12_49N, s12_60, s12_61, s12_62, s12_63, a3, va_rf_some, va_rf_none, jK_wI, jR_wI, jJ_wI, jK_wJ, jR_wJ, jI_wJ, jK_wR, jI_wR, jJ_wR, jK_wr, jR_wr, jJ_wr, jcl1_i, jcl1_r, jcl1_z, jcl1_n, jcl1_l, jwI_row, jwr_jwr, jwr_cm, jwr_cc, upd_upd, jI_wr_s, jI_wr_a, jI_wr_b, jI_wr_c, mInv_wr, upd_s, upd_n, Option.toList, List.cons_append, List.nil_append, true_or, or_true, eq_self, and_self, ite_true, ite_false, if_true, if_false, jK_wj, jR_wj, jI_wj, jwJ_row, jwj_jwj, jJ_wj_s, jJ_wj_n, jI_wr_n, jinb_nI, nI_clamp, tc0, tc1, tc2, tc3, tc4, tc5, tc6, tc7, tc8, tc9, tc10, tc11, tc12, tc13, tc14, tc15, tc16, tc17, tc18, tc19, tc20, tc21, tc22, tc23, tc24, tc25, tc26, tc27, tc28, tc29, tc30, tc31, tc32, tc33, tc34, tc35, tc36, tc37, tc38, tc39, tc40, tc41, tc42, tc43, tc44, tc45, tc46, tc47, tc48, tc49, tc50, tc51, tc52, tc53, tc54, tc55, tc56, tc57, tc58, tc59, tc60, tc61, tc62, tc63, tc64, tc65, tc66, tc67, tc68, tc69, tc77, tc83, tc119, tc159, tc160, nI_add, al0, ar0, ml0, mr0, al1, ar1, ml1, mr1, al2, ar2, ml2, mr2, al3, ar3, ml3, mr3, al4, ar4, ml4, mr4, al5, ar5, ml5, mr5, al6, ar6, ml6, mr6, al8, ar8, ml8, mr8, al10, ar10, ml10, mr10, al11, ar11, ml11, mr11, al12, ar12, ml12, mr12, al13, ar13, ml13, mr13, al16, ar16, ml16, mr16, al20, ar20, ml20, mr20, al24, ar24, ml24, mr24, al29, ar29, ml29, mr29, al36, ar36, ml36, mr36, al42, ar42, ml42, mr42, al48, ar48, ml48, mr48, al55, ar55, ml55, mr55, al60, ar60, ml60, mr60, al65, ar65, ml65, mr65, al77, ar77, ml77, mr77, al83, ar83, ml83, mr83, al119, ar119, ml119, mr119, al159, ar159, ml159, mr159, al160, ar160, ml160, mr160, al400, ar400, ml400, mr400, hq]
    refine k15 X R.1 O hl hl2 hs (fun W st => ?_)
    simp only [Option.toList, List.cons_append, List.nil_append]
    exact hQ W st
theorem l12 {rv : Option ((Nat → Int64) → Int64)} {S : Nat → Int32} (R : rvI h q rr rv) (O : oS S) {l : Nat} (hl : jI h q 6 = nI l) (hl2 : l < 64) {cal dr : Int32} (hcal : cal = mcalm dr S) (hQ : ∀ h', frg q (q + 8) h h' → jI h' q = jI h q → crs h' q c rr (mnxt rv (nI l) noP dr S) → Q (some (.int (moff rv (nI l) noP dr S))) h') : ∀ (r n : Nat) (h1 : jH) (x4 : Option Value), n + r = sN S → frg q (q + 8) h h1 → jI h1 q = jI h q → crs h1 q c rr (mday rv (nI l) noP cal S n).1 → jW (d + 4) 12 34 [some (.ref q), some (.int cal), some (.int (mday rv (nI l) noP cal S n).2), some (.int (nI n)), x4] [] h1 Q := by
  have hN2 := O.1.2.2.1.2
  intro r
  induction r with
  | zero =>
    intro n h1 x4 hn F e1 X
    have en : n = sN S := by omega
    obtain ⟨hI, a2, a3, a4, a5, a6, a7, a8⟩ := id X
    obtain ⟨hq, r0, -, -, hst⟩ := hI
    have hk1 : jK h1 (q + 1) = (29, 5) := hst.1
    have hc := a5.1
    obtain ⟨o1, f1⟩ := oS_day (rv := rv) (lf := nI l) (c := cal) O n (by omega)
    have gN : jI h1 c 5 = nI (sN S) := by rw [a6.2.2.2.1, f1 5 (by omega)]; exact O.1.2.2.1.1
    have hle : nI (sN S) ≤ nI n := nI_le (by omega) (by omega)
    have gD : jI h1 (q + 1) 0 = nI (sD S) := by rw [(a7 0 (by omega)).1, f1 10 (by omega)]; exact O.1.2.2.2.1
    simp (config := { decide := true }) (disch := (first | assumption | omega | (simp (config := { decide := true }) only [hq, a2, hc, r0, hk1, jK_wI, jK_wJ, jK_wR, jK_wr, jR_wr, jR_wI, jR_wJ, jK_wj, jR_wj, stI_wr, cmI_wr, stI_wj, cmI_wj]; done) | (simp only [hq, a2, hc, r0, hk1, jK_wI, jK_wJ, jK_wR, jK_wr, jR_wr, jR_wI, jR_wJ, jK_wj, jR_wj, stI_wr, cmI_wr, stI_wj, cmI_wj]; refine jinb_nI ?_ ?_ <;> omega) | (refine jinb_nI ?_ ?_ <;> omega) | (simp only [stI_wr, cmI_wr, stI_wj, cmI_wj]; assumption))) only [s12_34, s12_35, s12_36, s12_39, s12_42, s12_108, s12_109, s12_112, s12_113, s12_116, s12_117, s12_118, s12_121, s12_122, gN, if_pos hle, gD, va_rf_some, va_rf_none, jK_wI, jR_wI, jJ_wI, jK_wJ, jR_wJ, jI_wJ, jK_wR, jI_wR, jJ_wR, jK_wr, jR_wr, jJ_wr, jcl1_i, jcl1_r, jcl1_z, jcl1_n, jcl1_l, jwI_row, jwr_jwr, jwr_cm, jwr_cc, upd_upd, jI_wr_s, jI_wr_a, jI_wr_b, jI_wr_c, mInv_wr, upd_s, upd_n, Option.toList, List.cons_append, List.nil_append, true_or, or_true, eq_self, and_self, ite_true, ite_false, if_true, if_false, jK_wj, jR_wj, jI_wj, jwJ_row, jwj_jwj, jJ_wj_s, jJ_wj_n, jI_wr_n, jinb_nI, nI_clamp, tc0, tc1, tc2, tc3, tc4, tc5, tc6, tc7, tc8, tc9, tc10, tc11, tc12, tc13, tc14, tc15, tc16, tc17, tc18, tc19, tc20, tc21, tc22, tc23, tc24, tc25, tc26, tc27, tc28, tc29, tc30, tc31, tc32, tc33, tc34, tc35, tc36, tc37, tc38, tc39, tc40, tc41, tc42, tc43, tc44, tc45, tc46, tc47, tc48, tc49, tc50, tc51, tc52, tc53, tc54, tc55, tc56, tc57, tc58, tc59, tc60, tc61, tc62, tc63, tc64, tc65, tc66, tc67, tc68, tc69, tc77, tc83, tc119, tc159, tc160, nI_add, al0, ar0, ml0, mr0, al1, ar1, ml1, mr1, al2, ar2, ml2, mr2, al3, ar3, ml3, mr3, al4, ar4, ml4, mr4, al5, ar5, ml5, mr5, al6, ar6, ml6, mr6, al8, ar8, ml8, mr8, al10, ar10, ml10, mr10, al11, ar11, ml11, mr11, al12, ar12, ml12, mr12, al13, ar13, ml13, mr13, al16, ar16, ml16, mr16, al20, ar20, ml20, mr20, al24, ar24, ml24, mr24, al29, ar29, ml29, mr29, al36, ar36, ml36, mr36, al42, ar42, ml42, mr42, al48, ar48, ml48, mr48, al55, ar55, ml55, mr55, al60, ar60, ml60, mr60, al65, ar65, ml65, mr65, al77, ar77, ml77, mr77, al83, ar83, ml83, mr83, al119, ar119, ml119, mr119, al159, ar159, ml159, mr159, al160, ar160, ml160, mr160, al400, ar400, ml400, mr400, hq, a2, hc, r0, hk1]
    subst hcal
    subst en
    refine hQ _ (frg_wr (by omega) (by omega) F) ?_ ?_
    · rw [jI_wr_n (by omega)]
      exact e1
    · refine crs_fr (S := (mday rv (nI l) noP (mcalm dr S) S (sN S)).1) (frm_wr (by omega) (by omega) frm_refl) (fun j hj => ?_) (stV_day a7) X
      show mnxt rv (nI l) noP dr S j = _
      unfold mnxt
      rw [upd_n (by omega)]
  | succ r ih =>
    intro n h1 x4 hn F e1 X
    obtain ⟨hI, a2, a3, a4, a5, a6, a7, a8⟩ := id X
    obtain ⟨hq, r0, -, -, hst⟩ := hI
    have hk1 : jK h1 (q + 1) = (29, 5) := hst.1
    have hc := a5.1
    obtain ⟨o1, f1⟩ := oS_day (rv := rv) (lf := nI l) (c := cal) O n (by omega)
    have gN : jI h1 c 5 = nI (sN S) := by rw [a6.2.2.2.1, f1 5 (by omega)]; exact O.1.2.2.1.1
    have hle : ¬ nI (sN S) ≤ nI n := nI_ge (by omega) (by omega)
    have hl1 : jI h1 q 6 = nI l := by rw [e1]; exact hl
    have R1 := frg_rvI F R
    simp (config := { decide := true }) (disch := (first | assumption | omega | (simp (config := { decide := true }) only [hq, a2, hc, jK_wI, jK_wJ, jK_wR, jK_wr, jR_wr, jR_wI, jR_wJ, jK_wj, jR_wj, stI_wr, cmI_wr, stI_wj, cmI_wj]; done) | (simp only [hq, a2, hc, jK_wI, jK_wJ, jK_wR, jK_wr, jR_wr, jR_wI, jR_wJ, jK_wj, jR_wj, stI_wr, cmI_wr, stI_wj, cmI_wj]; refine jinb_nI ?_ ?_ <;> omega) | (refine jinb_nI ?_ ?_ <;> omega) | (simp only [stI_wr, cmI_wr, stI_wj, cmI_wj]; assumption))) only [s12_34, s12_35, s12_36, s12_39, s12_42, gN, if_neg hle, va_rf_some, va_rf_none, jK_wI, jR_wI, jJ_wI, jK_wJ, jR_wJ, jI_wJ, jK_wR, jI_wR, jJ_wR, jK_wr, jR_wr, jJ_wr, jcl1_i, jcl1_r, jcl1_z, jcl1_n, jcl1_l, jwI_row, jwr_jwr, jwr_cm, jwr_cc, upd_upd, jI_wr_s, jI_wr_a, jI_wr_b, jI_wr_c, mInv_wr, upd_s, upd_n, Option.toList, List.cons_append, List.nil_append, true_or, or_true, eq_self, and_self, ite_true, ite_false, if_true, if_false, jK_wj, jR_wj, jI_wj, jwJ_row, jwj_jwj, jJ_wj_s, jJ_wj_n, jI_wr_n, jinb_nI, nI_clamp, tc0, tc1, tc2, tc3, tc4, tc5, tc6, tc7, tc8, tc9, tc10, tc11, tc12, tc13, tc14, tc15, tc16, tc17, tc18, tc19, tc20, tc21, tc22, tc23, tc24, tc25, tc26, tc27, tc28, tc29, tc30, tc31, tc32, tc33, tc34, tc35, tc36, tc37, tc38, tc39, tc40, tc41, tc42, tc43, tc44, tc45, tc46, tc47, tc48, tc49, tc50, tc51, tc52, tc53, tc54, tc55, tc56, tc57, tc58, tc59, tc60, tc61, tc62, tc63, tc64, tc65, tc66, tc67, tc68, tc69, tc77, tc83, tc119, tc159, tc160, nI_add, al0, ar0, ml0, mr0, al1, ar1, ml1, mr1, al2, ar2, ml2, mr2, al3, ar3, ml3, mr3, al4, ar4, ml4, mr4, al5, ar5, ml5, mr5, al6, ar6, ml6, mr6, al8, ar8, ml8, mr8, al10, ar10, ml10, mr10, al11, ar11, ml11, mr11, al12, ar12, ml12, mr12, al13, ar13, ml13, mr13, al16, ar16, ml16, mr16, al20, ar20, ml20, mr20, al24, ar24, ml24, mr24, al29, ar29, ml29, mr29, al36, ar36, ml36, mr36, al42, ar42, ml42, mr42, al48, ar48, ml48, mr48, al55, ar55, ml55, mr55, al60, ar60, ml60, mr60, al65, ar65, ml65, mr65, al77, ar77, ml77, mr77, al83, ar83, ml83, mr83, al119, ar119, ml119, mr119, al159, ar159, ml159, mr159, al160, ar160, ml160, mr160, al400, ar400, ml400, mr400, hq, a2, hc]
    refine k12c X R1 o1 hl1 hl2 (by omega) (fun W st => ?_)
    have F2 : frg q (q + 8) h (H2 h1 q W st) := frg_trans F frg_H2
    have em : mday rv (nI l) noP cal S (n + 1) = match mcho rv (mday rv (nI l) noP cal S n).1 cal (nI l) noP n with
      | none => mday rv (nI l) noP cal S n
      | some k => (mtry (mday rv (nI l) noP cal S n).1 n k cal, if (mday rv (nI l) noP cal S n).1 (29 + 6 * n + k) + cal < (mday rv (nI l) noP cal S n).1 (77 + k) then (mday rv (nI l) noP cal S n).2 else (mday rv (nI l) noP cal S n).2 ||| (1 : Int32) <<< (nI n &&& 31)) := rfl
    have ih' := ih (n + 1)
    rw [em] at ih'
    cases hch : mcho rv (mday rv (nI l) noP cal S n).1 cal (nI l) noP n with
    | none =>
      simp only [hch] at ih'
      have z : oI none = -1 := rfl
      rw [z]
      simp (config := { decide := true }) (disch := (first | assumption | omega | (simp (config := { decide := true }) only [hq, jK_wI, jK_wJ, jK_wR, jK_wr, jR_wr, jR_wI, jR_wJ, jK_wj, jR_wj, stI_wr, cmI_wr, stI_wj, cmI_wj]; done) | (simp only [hq, jK_wI, jK_wJ, jK_wR, jK_wr, jR_wr, jR_wI, jR_wJ, jK_wj, jR_wj, stI_wr, cmI_wr, stI_wj, cmI_wj]; refine jinb_nI ?_ ?_ <;> omega) | (refine jinb_nI ?_ ?_ <;> omega) | (simp only [stI_wr, cmI_wr, stI_wj, cmI_wj]; assumption))) only [s12_66, s12_68, s12_70, s12_71, s12_102, s12_105, va_rf_some, va_rf_none, jK_wI, jR_wI, jJ_wI, jK_wJ, jR_wJ, jI_wJ, jK_wR, jI_wR, jJ_wR, jK_wr, jR_wr, jJ_wr, jcl1_i, jcl1_r, jcl1_z, jcl1_n, jcl1_l, jwI_row, jwr_jwr, jwr_cm, jwr_cc, upd_upd, jI_wr_s, jI_wr_a, jI_wr_b, jI_wr_c, mInv_wr, upd_s, upd_n, Option.toList, List.cons_append, List.nil_append, true_or, or_true, eq_self, and_self, ite_true, ite_false, if_true, if_false, jK_wj, jR_wj, jI_wj, jwJ_row, jwj_jwj, jJ_wj_s, jJ_wj_n, jI_wr_n, jinb_nI, nI_clamp, tc0, tc1, tc2, tc3, tc4, tc5, tc6, tc7, tc8, tc9, tc10, tc11, tc12, tc13, tc14, tc15, tc16, tc17, tc18, tc19, tc20, tc21, tc22, tc23, tc24, tc25, tc26, tc27, tc28, tc29, tc30, tc31, tc32, tc33, tc34, tc35, tc36, tc37, tc38, tc39, tc40, tc41, tc42, tc43, tc44, tc45, tc46, tc47, tc48, tc49, tc50, tc51, tc52, tc53, tc54, tc55, tc56, tc57, tc58, tc59, tc60, tc61, tc62, tc63, tc64, tc65, tc66, tc67, tc68, tc69, tc77, tc83, tc119, tc159, tc160, nI_add, al0, ar0, ml0, mr0, al1, ar1, ml1, mr1, al2, ar2, ml2, mr2, al3, ar3, ml3, mr3, al4, ar4, ml4, mr4, al5, ar5, ml5, mr5, al6, ar6, ml6, mr6, al8, ar8, ml8, mr8, al10, ar10, ml10, mr10, al11, ar11, ml11, mr11, al12, ar12, ml12, mr12, al13, ar13, ml13, mr13, al16, ar16, ml16, mr16, al20, ar20, ml20, mr20, al24, ar24, ml24, mr24, al29, ar29, ml29, mr29, al36, ar36, ml36, mr36, al42, ar42, ml42, mr42, al48, ar48, ml48, mr48, al55, ar55, ml55, mr55, al60, ar60, ml60, mr60, al65, ar65, ml65, mr65, al77, ar77, ml77, mr77, al83, ar83, ml83, mr83, al119, ar119, ml119, mr119, al159, ar159, ml159, mr159, al160, ar160, ml160, mr160, al400, ar400, ml400, mr400, hq]
      exact ih' _ _ (by omega) F2 e1 X
    | some k =>
      simp only [hch] at ih'
      have hk : k < sK (mday rv (nI l) noP cal S n).1 := mbest_lt (show (mbest (mval rv (mday rv (nI l) noP cal S n).1 cal (nI l) n) (sK (mday rv (nI l) noP cal S n).1)).1 = some k from hch)
      have hk6 : k < 6 := Nat.lt_of_lt_of_le hk o1.1.2.1.2
      have zj := oI_ne hk6
      have z : oI (some k) = nI k := rfl
      rw [z] at zj ⊢
      simp (config := { decide := true }) (disch := (first | assumption | omega | (simp (config := { decide := true }) only [hq, a2, r0, hk1, jK_H2, jK_wI, jK_wJ, jK_wR, jK_wr, jR_wr, jR_wI, jR_wJ, jK_wj, jR_wj, stI_wr, cmI_wr, stI_wj, cmI_wj]; done) | (simp only [hq, a2, r0, hk1, jK_H2, jK_wI, jK_wJ, jK_wR, jK_wr, jR_wr, jR_wI, jR_wJ, jK_wj, jR_wj, stI_wr, cmI_wr, stI_wj, cmI_wj]; refine jinb_nI ?_ ?_ <;> omega) | (refine jinb_nI ?_ ?_ <;> omega) | (simp only [stI_wr, cmI_wr, stI_wj, cmI_wj]; assumption))) only [s12_66, s12_68, s12_70, s12_71, s12_74, s12_75, s12_78, s12_79, s12_82, s12_83, s12_85, s12_86, s12_87, s12_90, if_neg zj, jK_H2, jR_H2, jI_H2, a4, va_rf_some, va_rf_none, jK_wI, jR_wI, jJ_wI, jK_wJ, jR_wJ, jI_wJ, jK_wR, jI_wR, jJ_wR, jK_wr, jR_wr, jJ_wr, jcl1_i, jcl1_r, jcl1_z, jcl1_n, jcl1_l, jwI_row, jwr_jwr, jwr_cm, jwr_cc, upd_upd, jI_wr_s, jI_wr_a, jI_wr_b, jI_wr_c, mInv_wr, upd_s, upd_n, Option.toList, List.cons_append, List.nil_append, true_or, or_true, eq_self, and_self, ite_true, ite_false, if_true, if_false, jK_wj, jR_wj, jI_wj, jwJ_row, jwj_jwj, jJ_wj_s, jJ_wj_n, jI_wr_n, jinb_nI, nI_clamp, tc0, tc1, tc2, tc3, tc4, tc5, tc6, tc7, tc8, tc9, tc10, tc11, tc12, tc13, tc14, tc15, tc16, tc17, tc18, tc19, tc20, tc21, tc22, tc23, tc24, tc25, tc26, tc27, tc28, tc29, tc30, tc31, tc32, tc33, tc34, tc35, tc36, tc37, tc38, tc39, tc40, tc41, tc42, tc43, tc44, tc45, tc46, tc47, tc48, tc49, tc50, tc51, tc52, tc53, tc54, tc55, tc56, tc57, tc58, tc59, tc60, tc61, tc62, tc63, tc64, tc65, tc66, tc67, tc68, tc69, tc77, tc83, tc119, tc159, tc160, nI_add, al0, ar0, ml0, mr0, al1, ar1, ml1, mr1, al2, ar2, ml2, mr2, al3, ar3, ml3, mr3, al4, ar4, ml4, mr4, al5, ar5, ml5, mr5, al6, ar6, ml6, mr6, al8, ar8, ml8, mr8, al10, ar10, ml10, mr10, al11, ar11, ml11, mr11, al12, ar12, ml12, mr12, al13, ar13, ml13, mr13, al16, ar16, ml16, mr16, al20, ar20, ml20, mr20, al24, ar24, ml24, mr24, al29, ar29, ml29, mr29, al36, ar36, ml36, mr36, al42, ar42, ml42, mr42, al48, ar48, ml48, mr48, al55, ar55, ml55, mr55, al60, ar60, ml60, mr60, al65, ar65, ml65, mr65, al77, ar77, ml77, mr77, al83, ar83, ml83, mr83, al119, ar119, ml119, mr119, al159, ar159, ml159, mr159, al160, ar160, ml160, mr160, al400, ar400, ml400, mr400, hq, a2, r0, hk1, jK_H2]
      refine k91f (h := H2 h1 q W st) hst a5 (by omega) (by omega) hk6 a7 a6 rfl (fun h2 G2 V2 => ?_)
      have X2 := crs_fr (h := H2 h1 q W st) (rr := rr) G2 (eqF_G (mtry_eqF (by omega) hk6)) V2 X
      have F3 : frg q (q + 8) h h2 := frg_trans F2 (frg_frm G2 (by omega) (by omega))
      have e3 : jI h2 q = jI h q := by rw [G2.2 q (by omega)]; exact e1
      have hq2 := X2.1.1
      simp only [Option.toList, List.cons_append, List.nil_append]
      by_cases ho : (mday rv (nI l) noP cal S n).1 (29 + 6 * n + k) + cal < (mday rv (nI l) noP cal S n).1 (77 + k)
      · simp only [if_pos ho] at ih' ⊢
        simp (config := { decide := true }) (disch := (first | assumption | omega | (simp (config := { decide := true }) only [hq2, jK_wI, jK_wJ, jK_wR, jK_wr, jR_wr, jR_wI, jR_wJ, jK_wj, jR_wj, stI_wr, cmI_wr, stI_wj, cmI_wj]; done) | (simp only [hq2, jK_wI, jK_wJ, jK_wR, jK_wr, jR_wr, jR_wI, jR_wJ, jK_wj, jR_wj, stI_wr, cmI_wr, stI_wj, cmI_wj]; refine jinb_nI ?_ ?_ <;> omega) | (refine jinb_nI ?_ ?_ <;> omega) | (simp only [stI_wr, cmI_wr, stI_wj, cmI_wj]; assumption))) only [s12_93, s12_102, s12_105, va_rf_some, va_rf_none, jK_wI, jR_wI, jJ_wI, jK_wJ, jR_wJ, jI_wJ, jK_wR, jI_wR, jJ_wR, jK_wr, jR_wr, jJ_wr, jcl1_i, jcl1_r, jcl1_z, jcl1_n, jcl1_l, jwI_row, jwr_jwr, jwr_cm, jwr_cc, upd_upd, jI_wr_s, jI_wr_a, jI_wr_b, jI_wr_c, mInv_wr, upd_s, upd_n, Option.toList, List.cons_append, List.nil_append, true_or, or_true, eq_self, and_self, ite_true, ite_false, if_true, if_false, jK_wj, jR_wj, jI_wj, jwJ_row, jwj_jwj, jJ_wj_s, jJ_wj_n, jI_wr_n, jinb_nI, nI_clamp, tc0, tc1, tc2, tc3, tc4, tc5, tc6, tc7, tc8, tc9, tc10, tc11, tc12, tc13, tc14, tc15, tc16, tc17, tc18, tc19, tc20, tc21, tc22, tc23, tc24, tc25, tc26, tc27, tc28, tc29, tc30, tc31, tc32, tc33, tc34, tc35, tc36, tc37, tc38, tc39, tc40, tc41, tc42, tc43, tc44, tc45, tc46, tc47, tc48, tc49, tc50, tc51, tc52, tc53, tc54, tc55, tc56, tc57, tc58, tc59, tc60, tc61, tc62, tc63, tc64, tc65, tc66, tc67, tc68, tc69, tc77, tc83, tc119, tc159, tc160, nI_add, al0, ar0, ml0, mr0, al1, ar1, ml1, mr1, al2, ar2, ml2, mr2, al3, ar3, ml3, mr3, al4, ar4, ml4, mr4, al5, ar5, ml5, mr5, al6, ar6, ml6, mr6, al8, ar8, ml8, mr8, al10, ar10, ml10, mr10, al11, ar11, ml11, mr11, al12, ar12, ml12, mr12, al13, ar13, ml13, mr13, al16, ar16, ml16, mr16, al20, ar20, ml20, mr20, al24, ar24, ml24, mr24, al29, ar29, ml29, mr29, al36, ar36, ml36, mr36, al42, ar42, ml42, mr42, al48, ar48, ml48, mr48, al55, ar55, ml55, mr55, al60, ar60, ml60, mr60, al65, ar65, ml65, mr65, al77, ar77, ml77, mr77, al83, ar83, ml83, mr83, al119, ar119, ml119, mr119, al159, ar159, ml159, mr159, al160, ar160, ml160, mr160, al400, ar400, ml400, mr400, hq2]
        exact ih' _ _ (by omega) F3 e3 X2
      · simp only [if_neg ho] at ih' ⊢
        simp (config := { decide := true }) (disch := (first | assumption | omega | (simp (config := { decide := true }) only [hq2, jK_wI, jK_wJ, jK_wR, jK_wr, jR_wr, jR_wI, jR_wJ, jK_wj, jR_wj, stI_wr, cmI_wr, stI_wj, cmI_wj]; done) | (simp only [hq2, jK_wI, jK_wJ, jK_wR, jK_wr, jR_wr, jR_wI, jR_wJ, jK_wj, jR_wj, stI_wr, cmI_wr, stI_wj, cmI_wj]; refine jinb_nI ?_ ?_ <;> omega) | (refine jinb_nI ?_ ?_ <;> omega) | (simp only [stI_wr, cmI_wr, stI_wj, cmI_wj]; assumption))) only [s12_93, s12_96, s12_97, s12_98, s12_99, s12_100, s12_101, s12_102, s12_105, va_rf_some, va_rf_none, jK_wI, jR_wI, jJ_wI, jK_wJ, jR_wJ, jI_wJ, jK_wR, jI_wR, jJ_wR, jK_wr, jR_wr, jJ_wr, jcl1_i, jcl1_r, jcl1_z, jcl1_n, jcl1_l, jwI_row, jwr_jwr, jwr_cm, jwr_cc, upd_upd, jI_wr_s, jI_wr_a, jI_wr_b, jI_wr_c, mInv_wr, upd_s, upd_n, Option.toList, List.cons_append, List.nil_append, true_or, or_true, eq_self, and_self, ite_true, ite_false, if_true, if_false, jK_wj, jR_wj, jI_wj, jwJ_row, jwj_jwj, jJ_wj_s, jJ_wj_n, jI_wr_n, jinb_nI, nI_clamp, tc0, tc1, tc2, tc3, tc4, tc5, tc6, tc7, tc8, tc9, tc10, tc11, tc12, tc13, tc14, tc15, tc16, tc17, tc18, tc19, tc20, tc21, tc22, tc23, tc24, tc25, tc26, tc27, tc28, tc29, tc30, tc31, tc32, tc33, tc34, tc35, tc36, tc37, tc38, tc39, tc40, tc41, tc42, tc43, tc44, tc45, tc46, tc47, tc48, tc49, tc50, tc51, tc52, tc53, tc54, tc55, tc56, tc57, tc58, tc59, tc60, tc61, tc62, tc63, tc64, tc65, tc66, tc67, tc68, tc69, tc77, tc83, tc119, tc159, tc160, nI_add, al0, ar0, ml0, mr0, al1, ar1, ml1, mr1, al2, ar2, ml2, mr2, al3, ar3, ml3, mr3, al4, ar4, ml4, mr4, al5, ar5, ml5, mr5, al6, ar6, ml6, mr6, al8, ar8, ml8, mr8, al10, ar10, ml10, mr10, al11, ar11, ml11, mr11, al12, ar12, ml12, mr12, al13, ar13, ml13, mr13, al16, ar16, ml16, mr16, al20, ar20, ml20, mr20, al24, ar24, ml24, mr24, al29, ar29, ml29, mr29, al36, ar36, ml36, mr36, al42, ar42, ml42, mr42, al48, ar48, ml48, mr48, al55, ar55, ml55, mr55, al60, ar60, ml60, mr60, al65, ar65, ml65, mr65, al77, ar77, ml77, mr77, al83, ar83, ml83, mr83, al119, ar119, ml119, mr119, al159, ar159, ml159, mr159, al160, ar160, ml160, mr160, al400, ar400, ml400, mr400, hq2]
        exact ih' _ _ (by omega) F3 e3 X2
/-- live -/
theorem k12 {rv : Option ((Nat → Int64) → Int64)} (X : crs h q c rr S) (R : rvI h q rr rv) (O : oS S) {l : Nat} (hl : jI h q 6 = nI l) (hl2 : l < 64) {dr : Int32} (hdr : jI h q 7 = dr) (hd2 : dr = -1 ∨ ¬ dr < 0) (hQ : ∀ h', frg q (q + 8) h h' → jI h' q = jI h q → crs h' q c rr (mnxt rv (nI l) noP dr S) → Q (some (.int (moff rv (nI l) noP dr S))) h') : jC (d + 5) 12 [.ref q] h Q := by
  rw [e12]
  obtain ⟨hI, a2, a3, a4, a5, a6, a7, a8⟩ := id X
  obtain ⟨hq, r0, -, -, hst⟩ := hI
  have hk1 : jK h (q + 1) = (29, 5) := hst.1
  have hc := a5.1
  have hD2 := O.1.2.2.2.2
  have gD : jI h (q + 1) 0 = nI (sD S) := by rw [(a7 0 (by omega)).1]; exact O.1.2.2.2.1
  have go := l12 (d := d) (c := c) R O hl hl2 (cal := mcalm dr S) rfl hQ (sN S) 0 h none (by omega) frg_refl rfl X
  by_cases h1 : dr = -1
  · have em : mcalm dr S = calmS S (sD S) := by unfold mcalm; rw [if_pos (by rw [h1]; decide)]
    rw [em] at go
    have c6 := fun Q => k6 (d := d + 3) (Q := Q) a5 a6 O.1.1.1 O.1.1.2 (D := sD S) (by omega)
    subst h1
    simp (config := { decide := true }) (disch := (first | assumption | omega | (simp (config := { decide := true }) only [hq, a2, hc, r0, hk1, jK_wI, jK_wJ, jK_wR, jK_wr, jR_wr, jR_wI, jR_wJ, jK_wj, jR_wj, stI_wr, cmI_wr, stI_wj, cmI_wj]; done) | (simp only [hq, a2, hc, r0, hk1, jK_wI, jK_wJ, jK_wR, jK_wr, jR_wr, jR_wI, jR_wJ, jK_wj, jR_wj, stI_wr, cmI_wr, stI_wj, cmI_wj]; refine jinb_nI ?_ ?_ <;> omega) | (refine jinb_nI ?_ ?_ <;> omega) | (simp only [stI_wr, cmI_wr, stI_wj, cmI_wj]; assumption))) only [s12_0, s12_1, s12_4, s12_5, s12_8, s12_9, s12_12, s12_13, s12_16, s12_19, hdr, gD, c6, va_rf_some, va_rf_none, jK_wI, jR_wI, jJ_wI, jK_wJ, jR_wJ, jI_wJ, jK_wR, jI_wR, jJ_wR, jK_wr, jR_wr, jJ_wr, jcl1_i, jcl1_r, jcl1_z, jcl1_n, jcl1_l, jwI_row, jwr_jwr, jwr_cm, jwr_cc, upd_upd, jI_wr_s, jI_wr_a, jI_wr_b, jI_wr_c, mInv_wr, upd_s, upd_n, Option.toList, List.cons_append, List.nil_append, true_or, or_true, eq_self, and_self, ite_true, ite_false, if_true, if_false, jK_wj, jR_wj, jI_wj, jwJ_row, jwj_jwj, jJ_wj_s, jJ_wj_n, jI_wr_n, jinb_nI, nI_clamp, tc0, tc1, tc2, tc3, tc4, tc5, tc6, tc7, tc8, tc9, tc10, tc11, tc12, tc13, tc14, tc15, tc16, tc17, tc18, tc19, tc20, tc21, tc22, tc23, tc24, tc25, tc26, tc27, tc28, tc29, tc30, tc31, tc32, tc33, tc34, tc35, tc36, tc37, tc38, tc39, tc40, tc41, tc42, tc43, tc44, tc45, tc46, tc47, tc48, tc49, tc50, tc51, tc52, tc53, tc54, tc55, tc56, tc57, tc58, tc59, tc60, tc61, tc62, tc63, tc64, tc65, tc66, tc67, tc68, tc69, tc77, tc83, tc119, tc159, tc160, nI_add, al0, ar0, ml0, mr0, al1, ar1, ml1, mr1, al2, ar2, ml2, mr2, al3, ar3, ml3, mr3, al4, ar4, ml4, mr4, al5, ar5, ml5, mr5, al6, ar6, ml6, mr6, al8, ar8, ml8, mr8, al10, ar10, ml10, mr10, al11, ar11, ml11, mr11, al12, ar12, ml12, mr12, al13, ar13, ml13, mr13, al16, ar16, ml16, mr16, al20, ar20, ml20, mr20, al24, ar24, ml24, mr24, al29, ar29, ml29, mr29, al36, ar36, ml36, mr36, al42, ar42, ml42, mr42, al48, ar48, ml48, mr48, al55, ar55, ml55, mr55, al60, ar60, ml60, mr60, al65, ar65, ml65, mr65, al77, ar77, ml77, mr77, al83, ar83, ml83, mr83, al119, ar119, ml119, mr119, al159, ar159, ml159, mr159, al160, ar160, ml160, mr160, al400, ar400, ml400, mr400, hq, a2, hc, r0, hk1]
    simp (config := { decide := true }) (disch := (first | assumption | omega | (simp (config := { decide := true }) only [hq, jK_wI, jK_wJ, jK_wR, jK_wr, jR_wr, jR_wI, jR_wJ, jK_wj, jR_wj, stI_wr, cmI_wr, stI_wj, cmI_wj]; done) | (simp only [hq, jK_wI, jK_wJ, jK_wR, jK_wr, jR_wr, jR_wI, jR_wJ, jK_wj, jR_wj, stI_wr, cmI_wr, stI_wj, cmI_wj]; refine jinb_nI ?_ ?_ <;> omega) | (refine jinb_nI ?_ ?_ <;> omega) | (simp only [stI_wr, cmI_wr, stI_wj, cmI_wj]; assumption))) only [s12_22, s12_29, s12_30, s12_31, s12_32, s12_33, va_rf_some, va_rf_none, jK_wI, jR_wI, jJ_wI, jK_wJ, jR_wJ, jI_wJ, jK_wR, jI_wR, jJ_wR, jK_wr, jR_wr, jJ_wr, jcl1_i, jcl1_r, jcl1_z, jcl1_n, jcl1_l, jwI_row, jwr_jwr, jwr_cm, jwr_cc, upd_upd, jI_wr_s, jI_wr_a, jI_wr_b, jI_wr_c, mInv_wr, upd_s, upd_n, Option.toList, List.cons_append, List.nil_append, true_or, or_true, eq_self, and_self, ite_true, ite_false, if_true, if_false, jK_wj, jR_wj, jI_wj, jwJ_row, jwj_jwj, jJ_wj_s, jJ_wj_n, jI_wr_n, jinb_nI, nI_clamp, tc0, tc1, tc2, tc3, tc4, tc5, tc6, tc7, tc8, tc9, tc10, tc11, tc12, tc13, tc14, tc15, tc16, tc17, tc18, tc19, tc20, tc21, tc22, tc23, tc24, tc25, tc26, tc27, tc28, tc29, tc30, tc31, tc32, tc33, tc34, tc35, tc36, tc37, tc38, tc39, tc40, tc41, tc42, tc43, tc44, tc45, tc46, tc47, tc48, tc49, tc50, tc51, tc52, tc53, tc54, tc55, tc56, tc57, tc58, tc59, tc60, tc61, tc62, tc63, tc64, tc65, tc66, tc67, tc68, tc69, tc77, tc83, tc119, tc159, tc160, nI_add, al0, ar0, ml0, mr0, al1, ar1, ml1, mr1, al2, ar2, ml2, mr2, al3, ar3, ml3, mr3, al4, ar4, ml4, mr4, al5, ar5, ml5, mr5, al6, ar6, ml6, mr6, al8, ar8, ml8, mr8, al10, ar10, ml10, mr10, al11, ar11, ml11, mr11, al12, ar12, ml12, mr12, al13, ar13, ml13, mr13, al16, ar16, ml16, mr16, al20, ar20, ml20, mr20, al24, ar24, ml24, mr24, al29, ar29, ml29, mr29, al36, ar36, ml36, mr36, al42, ar42, ml42, mr42, al48, ar48, ml48, mr48, al55, ar55, ml55, mr55, al60, ar60, ml60, mr60, al65, ar65, ml65, mr65, al77, ar77, ml77, mr77, al83, ar83, ml83, mr83, al119, ar119, ml119, mr119, al159, ar159, ml159, mr159, al160, ar160, ml160, mr160, al400, ar400, ml400, mr400, hq]
    exact go
  · have h2 := hd2.resolve_left h1
    have em : mcalm dr S = dr := by unfold mcalm; rw [if_neg h2]
    rw [em] at go
    simp (config := { decide := true }) (disch := (first | assumption | omega | (simp (config := { decide := true }) only [hq, jK_wI, jK_wJ, jK_wR, jK_wr, jR_wr, jR_wI, jR_wJ, jK_wj, jR_wj, stI_wr, cmI_wr, stI_wj, cmI_wj]; done) | (simp only [hq, jK_wI, jK_wJ, jK_wR, jK_wr, jR_wr, jR_wI, jR_wJ, jK_wj, jR_wj, stI_wr, cmI_wr, stI_wj, cmI_wj]; refine jinb_nI ?_ ?_ <;> omega) | (refine jinb_nI ?_ ?_ <;> omega) | (simp only [stI_wr, cmI_wr, stI_wj, cmI_wj]; assumption))) only [s12_0, s12_1, s12_4, s12_5, s12_25, s12_26, s12_29, s12_30, s12_31, s12_32, s12_33, hdr, if_pos h1, va_rf_some, va_rf_none, jK_wI, jR_wI, jJ_wI, jK_wJ, jR_wJ, jI_wJ, jK_wR, jI_wR, jJ_wR, jK_wr, jR_wr, jJ_wr, jcl1_i, jcl1_r, jcl1_z, jcl1_n, jcl1_l, jwI_row, jwr_jwr, jwr_cm, jwr_cc, upd_upd, jI_wr_s, jI_wr_a, jI_wr_b, jI_wr_c, mInv_wr, upd_s, upd_n, Option.toList, List.cons_append, List.nil_append, true_or, or_true, eq_self, and_self, ite_true, ite_false, if_true, if_false, jK_wj, jR_wj, jI_wj, jwJ_row, jwj_jwj, jJ_wj_s, jJ_wj_n, jI_wr_n, jinb_nI, nI_clamp, tc0, tc1, tc2, tc3, tc4, tc5, tc6, tc7, tc8, tc9, tc10, tc11, tc12, tc13, tc14, tc15, tc16, tc17, tc18, tc19, tc20, tc21, tc22, tc23, tc24, tc25, tc26, tc27, tc28, tc29, tc30, tc31, tc32, tc33, tc34, tc35, tc36, tc37, tc38, tc39, tc40, tc41, tc42, tc43, tc44, tc45, tc46, tc47, tc48, tc49, tc50, tc51, tc52, tc53, tc54, tc55, tc56, tc57, tc58, tc59, tc60, tc61, tc62, tc63, tc64, tc65, tc66, tc67, tc68, tc69, tc77, tc83, tc119, tc159, tc160, nI_add, al0, ar0, ml0, mr0, al1, ar1, ml1, mr1, al2, ar2, ml2, mr2, al3, ar3, ml3, mr3, al4, ar4, ml4, mr4, al5, ar5, ml5, mr5, al6, ar6, ml6, mr6, al8, ar8, ml8, mr8, al10, ar10, ml10, mr10, al11, ar11, ml11, mr11, al12, ar12, ml12, mr12, al13, ar13, ml13, mr13, al16, ar16, ml16, mr16, al20, ar20, ml20, mr20, al24, ar24, ml24, mr24, al29, ar29, ml29, mr29, al36, ar36, ml36, mr36, al42, ar42, ml42, mr42, al48, ar48, ml48, mr48, al55, ar55, ml55, mr55, al60, ar60, ml60, mr60, al65, ar65, ml65, mr65, al77, ar77, ml77, mr77, al83, ar83, ml83, mr83, al119, ar119, ml119, mr119, al159, ar159, ml159, mr159, al160, ar160, ml160, mr160, al400, ar400, ml400, mr400, hq]
    exact go
/-- liveFor -/
theorem k18 {rv : Option ((Nat → Int64) → Int64)} (X : crs h q c rr S) (R : rvI h q rr rv) (O : oS S) {l : Nat} (hl : jI h q 6 = nI l) (hl2 : l < 64) (hdr : jI h q 7 = -1) {n : Nat} (hn : sD S + n ≤ 3000) (hQ : ∀ h', frg q (q + 8) h h' → jI h' q = jI h q → crs h' q c rr (mdays rv (nI l) noP S n) → Q none h') : jC (d + 6) 18 [.ref q, .int (nI n)] h Q := by
  rw [e18]
  have hq := X.1.1
  simp (config := { decide := true }) (disch := (first | assumption | omega | (simp (config := { decide := true }) only [hq, jK_wI, jK_wJ, jK_wR, jK_wr, jR_wr, jR_wI, jR_wJ, jK_wj, jR_wj, stI_wr, cmI_wr, stI_wj, cmI_wj]; done) | (simp only [hq, jK_wI, jK_wJ, jK_wR, jK_wr, jR_wr, jR_wI, jR_wJ, jK_wj, jR_wj, stI_wr, cmI_wr, stI_wj, cmI_wj]; refine jinb_nI ?_ ?_ <;> omega) | (refine jinb_nI ?_ ?_ <;> omega) | (simp only [stI_wr, cmI_wr, stI_wj, cmI_wj]; assumption))) only [s18_0, s18_1, va_rf_some, va_rf_none, jK_wI, jR_wI, jJ_wI, jK_wJ, jR_wJ, jI_wJ, jK_wR, jI_wR, jJ_wR, jK_wr, jR_wr, jJ_wr, jcl1_i, jcl1_r, jcl1_z, jcl1_n, jcl1_l, jwI_row, jwr_jwr, jwr_cm, jwr_cc, upd_upd, jI_wr_s, jI_wr_a, jI_wr_b, jI_wr_c, mInv_wr, upd_s, upd_n, Option.toList, List.cons_append, List.nil_append, true_or, or_true, eq_self, and_self, ite_true, ite_false, if_true, if_false, jK_wj, jR_wj, jI_wj, jwJ_row, jwj_jwj, jJ_wj_s, jJ_wj_n, jI_wr_n, jinb_nI, nI_clamp, tc0, tc1, tc2, tc3, tc4, tc5, tc6, tc7, tc8, tc9, tc10, tc11, tc12, tc13, tc14, tc15, tc16, tc17, tc18, tc19, tc20, tc21, tc22, tc23, tc24, tc25, tc26, tc27, tc28, tc29, tc30, tc31, tc32, tc33, tc34, tc35, tc36, tc37, tc38, tc39, tc40, tc41, tc42, tc43, tc44, tc45, tc46, tc47, tc48, tc49, tc50, tc51, tc52, tc53, tc54, tc55, tc56, tc57, tc58, tc59, tc60, tc61, tc62, tc63, tc64, tc65, tc66, tc67, tc68, tc69, tc77, tc83, tc119, tc159, tc160, nI_add, al0, ar0, ml0, mr0, al1, ar1, ml1, mr1, al2, ar2, ml2, mr2, al3, ar3, ml3, mr3, al4, ar4, ml4, mr4, al5, ar5, ml5, mr5, al6, ar6, ml6, mr6, al8, ar8, ml8, mr8, al10, ar10, ml10, mr10, al11, ar11, ml11, mr11, al12, ar12, ml12, mr12, al13, ar13, ml13, mr13, al16, ar16, ml16, mr16, al20, ar20, ml20, mr20, al24, ar24, ml24, mr24, al29, ar29, ml29, mr29, al36, ar36, ml36, mr36, al42, ar42, ml42, mr42, al48, ar48, ml48, mr48, al55, ar55, ml55, mr55, al60, ar60, ml60, mr60, al65, ar65, ml65, mr65, al77, ar77, ml77, mr77, al83, ar83, ml83, mr83, al119, ar119, ml119, mr119, al159, ar159, ml159, mr159, al160, ar160, ml160, mr160, al400, ar400, ml400, mr400, hq]
  have go : ∀ (r k : Nat) (h1 : jH), k + r = n → frg q (q + 8) h h1 → jI h1 q = jI h q → crs h1 q c rr (mdays rv (nI l) noP S k) → oS (mdays rv (nI l) noP S k) → sD (mdays rv (nI l) noP S k) = sD S + k → jW (d + 5) 18 2 [some (.ref q), some (.int (nI n)), some (.int (nI k))] [] h1 Q := by
    intro r
    induction r with
    | zero =>
      intro k h1 hk F e X1 O1 D1
      have ek : k = n := by omega
      subst ek
      have hle : nI k ≤ nI k := nI_le (Nat.le_refl _) (by omega)
      have hq1 := X1.1.1
      simp (config := { decide := true }) (disch := (first | assumption | omega | (simp (config := { decide := true }) only [hq1, jK_wI, jK_wJ, jK_wR, jK_wr, jR_wr, jR_wI, jR_wJ, jK_wj, jR_wj, stI_wr, cmI_wr, stI_wj, cmI_wj]; done) | (simp only [hq1, jK_wI, jK_wJ, jK_wR, jK_wr, jR_wr, jR_wI, jR_wJ, jK_wj, jR_wj, stI_wr, cmI_wr, stI_wj, cmI_wj]; refine jinb_nI ?_ ?_ <;> omega) | (refine jinb_nI ?_ ?_ <;> omega) | (simp only [stI_wr, cmI_wr, stI_wj, cmI_wj]; assumption))) only [s18_2, s18_3, s18_4, s18_18, if_pos hle, va_rf_some, va_rf_none, jK_wI, jR_wI, jJ_wI, jK_wJ, jR_wJ, jI_wJ, jK_wR, jI_wR, jJ_wR, jK_wr, jR_wr, jJ_wr, jcl1_i, jcl1_r, jcl1_z, jcl1_n, jcl1_l, jwI_row, jwr_jwr, jwr_cm, jwr_cc, upd_upd, jI_wr_s, jI_wr_a, jI_wr_b, jI_wr_c, mInv_wr, upd_s, upd_n, Option.toList, List.cons_append, List.nil_append, true_or, or_true, eq_self, and_self, ite_true, ite_false, if_true, if_false, jK_wj, jR_wj, jI_wj, jwJ_row, jwj_jwj, jJ_wj_s, jJ_wj_n, jI_wr_n, jinb_nI, nI_clamp, tc0, tc1, tc2, tc3, tc4, tc5, tc6, tc7, tc8, tc9, tc10, tc11, tc12, tc13, tc14, tc15, tc16, tc17, tc18, tc19, tc20, tc21, tc22, tc23, tc24, tc25, tc26, tc27, tc28, tc29, tc30, tc31, tc32, tc33, tc34, tc35, tc36, tc37, tc38, tc39, tc40, tc41, tc42, tc43, tc44, tc45, tc46, tc47, tc48, tc49, tc50, tc51, tc52, tc53, tc54, tc55, tc56, tc57, tc58, tc59, tc60, tc61, tc62, tc63, tc64, tc65, tc66, tc67, tc68, tc69, tc77, tc83, tc119, tc159, tc160, nI_add, al0, ar0, ml0, mr0, al1, ar1, ml1, mr1, al2, ar2, ml2, mr2, al3, ar3, ml3, mr3, al4, ar4, ml4, mr4, al5, ar5, ml5, mr5, al6, ar6, ml6, mr6, al8, ar8, ml8, mr8, al10, ar10, ml10, mr10, al11, ar11, ml11, mr11, al12, ar12, ml12, mr12, al13, ar13, ml13, mr13, al16, ar16, ml16, mr16, al20, ar20, ml20, mr20, al24, ar24, ml24, mr24, al29, ar29, ml29, mr29, al36, ar36, ml36, mr36, al42, ar42, ml42, mr42, al48, ar48, ml48, mr48, al55, ar55, ml55, mr55, al60, ar60, ml60, mr60, al65, ar65, ml65, mr65, al77, ar77, ml77, mr77, al83, ar83, ml83, mr83, al119, ar119, ml119, mr119, al159, ar159, ml159, mr159, al160, ar160, ml160, mr160, al400, ar400, ml400, mr400, hq1]
      exact hQ h1 F e X1
    | succ r ih =>
      intro k h1 hk F e X1 O1 D1
      have hle : ¬ nI n ≤ nI k := nI_ge (by omega) (by omega)
      have hq1 := X1.1.1
      simp (config := { decide := true }) (disch := (first | assumption | omega | (simp (config := { decide := true }) only [hq1, jK_wI, jK_wJ, jK_wR, jK_wr, jR_wr, jR_wI, jR_wJ, jK_wj, jR_wj, stI_wr, cmI_wr, stI_wj, cmI_wj]; done) | (simp only [hq1, jK_wI, jK_wJ, jK_wR, jK_wr, jR_wr, jR_wI, jR_wJ, jK_wj, jR_wj, stI_wr, cmI_wr, stI_wj, cmI_wj]; refine jinb_nI ?_ ?_ <;> omega) | (refine jinb_nI ?_ ?_ <;> omega) | (simp only [stI_wr, cmI_wr, stI_wj, cmI_wj]; assumption))) only [s18_2, s18_3, s18_4, s18_7, s18_8, if_neg hle, va_rf_some, va_rf_none, jK_wI, jR_wI, jJ_wI, jK_wJ, jR_wJ, jI_wJ, jK_wR, jI_wR, jJ_wR, jK_wr, jR_wr, jJ_wr, jcl1_i, jcl1_r, jcl1_z, jcl1_n, jcl1_l, jwI_row, jwr_jwr, jwr_cm, jwr_cc, upd_upd, jI_wr_s, jI_wr_a, jI_wr_b, jI_wr_c, mInv_wr, upd_s, upd_n, Option.toList, List.cons_append, List.nil_append, true_or, or_true, eq_self, and_self, ite_true, ite_false, if_true, if_false, jK_wj, jR_wj, jI_wj, jwJ_row, jwj_jwj, jJ_wj_s, jJ_wj_n, jI_wr_n, jinb_nI, nI_clamp, tc0, tc1, tc2, tc3, tc4, tc5, tc6, tc7, tc8, tc9, tc10, tc11, tc12, tc13, tc14, tc15, tc16, tc17, tc18, tc19, tc20, tc21, tc22, tc23, tc24, tc25, tc26, tc27, tc28, tc29, tc30, tc31, tc32, tc33, tc34, tc35, tc36, tc37, tc38, tc39, tc40, tc41, tc42, tc43, tc44, tc45, tc46, tc47, tc48, tc49, tc50, tc51, tc52, tc53, tc54, tc55, tc56, tc57, tc58, tc59, tc60, tc61, tc62, tc63, tc64, tc65, tc66, tc67, tc68, tc69, tc77, tc83, tc119, tc159, tc160, nI_add, al0, ar0, ml0, mr0, al1, ar1, ml1, mr1, al2, ar2, ml2, mr2, al3, ar3, ml3, mr3, al4, ar4, ml4, mr4, al5, ar5, ml5, mr5, al6, ar6, ml6, mr6, al8, ar8, ml8, mr8, al10, ar10, ml10, mr10, al11, ar11, ml11, mr11, al12, ar12, ml12, mr12, al13, ar13, ml13, mr13, al16, ar16, ml16, mr16, al20, ar20, ml20, mr20, al24, ar24, ml24, mr24, al29, ar29, ml29, mr29, al36, ar36, ml36, mr36, al42, ar42, ml42, mr42, al48, ar48, ml48, mr48, al55, ar55, ml55, mr55, al60, ar60, ml60, mr60, al65, ar65, ml65, mr65, al77, ar77, ml77, mr77, al83, ar83, ml83, mr83, al119, ar119, ml119, mr119, al159, ar159, ml159, mr159, al160, ar160, ml160, mr160, al400, ar400, ml400, mr400, hq1]
      refine k12 X1 (frg_rvI F R) O1 (by rw [e]; exact hl) hl2 (by rw [e]; exact hdr) (Or.inl rfl) (fun h2 F2 e2 X2 => ?_)
      have hq2 := X2.1.1
      simp only [Option.toList, List.cons_append, List.nil_append]
      simp (config := { decide := true }) (disch := (first | assumption | omega | (simp (config := { decide := true }) only [hq2, jK_wI, jK_wJ, jK_wR, jK_wr, jR_wr, jR_wI, jR_wJ, jK_wj, jR_wj, stI_wr, cmI_wr, stI_wj, cmI_wj]; done) | (simp only [hq2, jK_wI, jK_wJ, jK_wR, jK_wr, jR_wr, jR_wI, jR_wJ, jK_wj, jR_wj, stI_wr, cmI_wr, stI_wj, cmI_wj]; refine jinb_nI ?_ ?_ <;> omega) | (refine jinb_nI ?_ ?_ <;> omega) | (simp only [stI_wr, cmI_wr, stI_wj, cmI_wj]; assumption))) only [s18_11, s18_12, s18_15, va_rf_some, va_rf_none, jK_wI, jR_wI, jJ_wI, jK_wJ, jR_wJ, jI_wJ, jK_wR, jI_wR, jJ_wR, jK_wr, jR_wr, jJ_wr, jcl1_i, jcl1_r, jcl1_z, jcl1_n, jcl1_l, jwI_row, jwr_jwr, jwr_cm, jwr_cc, upd_upd, jI_wr_s, jI_wr_a, jI_wr_b, jI_wr_c, mInv_wr, upd_s, upd_n, Option.toList, List.cons_append, List.nil_append, true_or, or_true, eq_self, and_self, ite_true, ite_false, if_true, if_false, jK_wj, jR_wj, jI_wj, jwJ_row, jwj_jwj, jJ_wj_s, jJ_wj_n, jI_wr_n, jinb_nI, nI_clamp, tc0, tc1, tc2, tc3, tc4, tc5, tc6, tc7, tc8, tc9, tc10, tc11, tc12, tc13, tc14, tc15, tc16, tc17, tc18, tc19, tc20, tc21, tc22, tc23, tc24, tc25, tc26, tc27, tc28, tc29, tc30, tc31, tc32, tc33, tc34, tc35, tc36, tc37, tc38, tc39, tc40, tc41, tc42, tc43, tc44, tc45, tc46, tc47, tc48, tc49, tc50, tc51, tc52, tc53, tc54, tc55, tc56, tc57, tc58, tc59, tc60, tc61, tc62, tc63, tc64, tc65, tc66, tc67, tc68, tc69, tc77, tc83, tc119, tc159, tc160, nI_add, al0, ar0, ml0, mr0, al1, ar1, ml1, mr1, al2, ar2, ml2, mr2, al3, ar3, ml3, mr3, al4, ar4, ml4, mr4, al5, ar5, ml5, mr5, al6, ar6, ml6, mr6, al8, ar8, ml8, mr8, al10, ar10, ml10, mr10, al11, ar11, ml11, mr11, al12, ar12, ml12, mr12, al13, ar13, ml13, mr13, al16, ar16, ml16, mr16, al20, ar20, ml20, mr20, al24, ar24, ml24, mr24, al29, ar29, ml29, mr29, al36, ar36, ml36, mr36, al42, ar42, ml42, mr42, al48, ar48, ml48, mr48, al55, ar55, ml55, mr55, al60, ar60, ml60, mr60, al65, ar65, ml65, mr65, al77, ar77, ml77, mr77, al83, ar83, ml83, mr83, al119, ar119, ml119, mr119, al159, ar159, ml159, mr159, al160, ar160, ml160, mr160, al400, ar400, ml400, mr400, hq2]
      obtain ⟨o1, o2, o3⟩ := oS_nxt (rv := rv) (lf := nI l) (dr := -1) O1 (by omega)
      exact ih (k + 1) h2 (by omega) (frg_trans F F2) (e2.trans e) X2 o1 (by show sD (mnxt rv (nI l) noP (-1) (mdays rv (nI l) noP S k)) = _; rw [o3, D1]; omega)
  exact go n 0 h (by omega) frg_refl rfl X O (by show sD S = _; omega)
end
