/-! THE REFERENCE READS: a clause of a rule -/
def aTry (T : Nat → Nat) (L p md : Nat) (c : List Nat) : Except Nat ((Nat × Nat × List Nat) × (Nat × Nat × Option (Nat × Nat))) := match aSum T L p md c with
  | .error w => .error w
  | .ok r => if isW T L (skp T L r.1) 26982 then (match ats T L (L + 1) (lnd T L (skp T L r.1)) r.2.1 r.2.2 [] with
      | .error w => .error w
      | .ok r2 => .ok (r2, (c.length, r.2.2.length, some (r.2.2.length, r2.2.2.length))))
    else .ok ((skp T L r.1, r.2.1, r.2.2), (c.length, r.2.2.length, none))
theorem ats_gd {T : Nat → Nat} {L : Nat} : ∀ (n p md : Nat) (c st : List Nat) (r : Nat × Nat × List Nat), p ≤ L → md ≤ 60 → okS st → dpt st ≤ 10 → c.length + st.length ≤ p → ats T L n p md c st = .ok r → p < r.1 ∧ r.1 ≤ L ∧ r.2.1 ≤ 60 ∧ r.2.2.length ≤ r.1 := by
  intro n
  induction n with
  | zero => intro p md c st r _ _ _ _ _ h; unfold ats at h; cases h
  | succ n ih =>
    intro p md c st r hp hd hs hdp hl h
    unfold ats at h
    split at h
    · cases h
    · next r1 hv =>
      obtain ⟨⟨a1, a2, a3⟩, a4, a5, a6⟩ := afc_gd _ _ _ _ _ _ hp hd hs hdp hl hv
      obtain ⟨⟨u1, u2, u3⟩, u4, u5, u6⟩ := acls_gd (T := T) a2 a5 a4
      generalize (acls T L r1.1.1 r1.1.2.2 r1.2).1 = q at *
      generalize (acls T L r1.1.1 r1.1.2.2 r1.2).2.1 = c1 at *
      generalize (acls T L r1.1.1 r1.1.2.2 r1.2).2.2 = st1 at *
      have b3 := lnd_le (T := T) u2
      split at h
      · next g1 =>
        have b4 := isW_lt g1
        have l2 := ly_len (k := 2) st1
        have d2 := dpt_ly (k := 2) (st := st1)
        obtain ⟨c1, c2, c3, c4⟩ := ih _ _ _ _ _ b3 a3 (show okS (12 :: lyR 2 st1) from ⟨Or.inr (Or.inl rfl), okS_ly u5⟩) (show dpt (lyR 2 st1) + 0 ≤ 10 by omega) (by rw [List.length_cons, List.length_append]; omega) h
        exact ⟨by omega, c2, c3, c4⟩
      · split at h
        · next g1 =>
          have b4 := isW_lt g1
          have l2 := ly_len (k := 1) st1
          have d2 := dpt_ly (k := 1) (st := st1)
          obtain ⟨c1, c2, c3, c4⟩ := ih _ _ _ _ _ b3 a3 (show okS (13 :: lyR 1 st1) from ⟨Or.inr (Or.inr (Or.inl rfl)), okS_ly u5⟩) (show dpt (lyR 1 st1) + 0 ≤ 10 by omega) (by rw [List.length_cons, List.length_append]; omega) h
          exact ⟨by omega, c2, c3, c4⟩
        · split at h
          · cases h
          · cases h
            have l2 := ly_len (k := 1) st1
            refine ⟨show p < q by omega, u2, a3, ?_⟩
            show (c1 ++ lyE 1 st1).length ≤ q
            rw [List.length_append]
            omega
/-- codes are only laid down behind those that lie -/
def clE (row : Nat → Int32) (b : Nat) (e : Nat × Nat × Option (Nat × Nat)) : Prop := (row b = nI e.1 ∧ row (b + 1) = nI e.2.1) ∧ match e.2.2 with
  | none => row (b + 2) = -1
  | some q => row (b + 2) = nI q.1 ∧ row (b + 3) = nI q.2
def clR (row0 row : Nat → Int32) (t : Nat) (K : List (Nat × Nat × Option (Nat × Nat))) : Prop := (∀ i, i < 48 * t ∨ 48 * t + 48 ≤ i → row i = row0 i) ∧ ∀ i e, K[i]? = some e → clE row (48 * t + 4 * i) e
theorem clR_push {row0 row : Nat → Int32} {t : Nat} {K : List (Nat × Nat × Option (Nat × Nat))} {e : Nat × Nat × Option (Nat × Nat)} {row' : Nat → Int32} (R : clR row0 row t K) (hK : K.length < 12) (hr : ∀ i, i < 48 * t + 4 * K.length ∨ 48 * t + 4 * K.length + 4 ≤ i → row' i = row i) (he : clE row' (48 * t + 4 * K.length) e) : clR row0 row' t (K ++ [e]) := by
  refine ⟨fun i hi => ?_, fun i x hx => ?_⟩
  · rw [hr i (by omega)]
    exact R.1 i hi
  · rcases Nat.lt_or_ge i K.length with q | q
    · rw [List.getElem?_append_left q] at hx
      obtain ⟨⟨a1, a2⟩, a3⟩ := R.2 i x hx
      refine ⟨⟨by rw [hr _ (by omega)]; exact a1, by rw [hr _ (by omega)]; exact a2⟩, ?_⟩
      have e2 : row' (48 * t + 4 * i + 2) = row (48 * t + 4 * i + 2) := hr _ (by omega)
      have e3 : row' (48 * t + 4 * i + 3) = row (48 * t + 4 * i + 3) := hr _ (by omega)
      rw [e2, e3]
      exact a3
    · rw [List.getElem?_append_right q] at hx
      have : i - K.length = 0 := by
        rcases Nat.eq_zero_or_pos (i - K.length) with z | z
        · exact z
        · rw [List.getElem?_eq_none (by rw [List.length_singleton]; omega)] at hx
          cases hx
      rw [this] at hx
      cases hx
      rw [show i = K.length by omega]
      exact he
def kG (g : jH) (m : Nat) (cl cs f : Nat → Int32) : jH := jwr (jwr (jwr g (m + 4) cl) (m + 5) cs) (m + 7) f
section
variable {g : jH} {m : Nat} {cl cs f x : Nat → Int32}
theorem jK_kG : jK (kG g m cl cs f) = jK g := rfl
theorem jR_kG : jR (kG g m cl cs f) = jR g := rfl
theorem kG_m : jI (kG g m cl cs f) m = jI g m := by unfold kG; rw [jI_wr_c (by omega), jI_wr_c (by omega), jI_wr_c (by omega)]
theorem kG_4 : jI (kG g m cl cs f) (m + 4) = cl := by unfold kG; rw [jI_wr_a (by omega), jI_wr_a (by omega), jI_wr_s]
theorem kG_5 : jI (kG g m cl cs f) (m + 5) = cs := by unfold kG; rw [jI_wr_a (by omega), jI_wr_s]
theorem kG_c {e : Nat} (h4 : e ≠ 4) (h5 : e ≠ 5) (h7 : e ≠ 7) : jI (kG g m cl cs f) (m + e) = jI g (m + e) := by unfold kG; rw [jI_wr_a h7, jI_wr_a h5, jI_wr_a h4]
theorem kG_w4 : jwr (kG g m cl cs f) (m + 4) x = kG g m x cs f := by
  unfold kG
  rw [jwr_com (show m + 7 ≠ m + 4 by omega), jwr_com (show m + 5 ≠ m + 4 by omega), jwr_jwr]
theorem kG_w5 : jwr (kG g m cl cs f) (m + 5) x = kG g m cl x f := by
  unfold kG
  rw [jwr_com (show m + 7 ≠ m + 5 by omega), jwr_jwr]
theorem rG_we {t : Nat} {c : List Nat} {e : Nat} (h2 : e ≠ 2) (h3 : e ≠ 3) : jwr (rG g m t c) (m + e) x = rG (jwr g (m + e) x) m t c := by
  unfold rG
  rw [jwr_com (show m + 3 ≠ m + e by omega), jwr_com (show m + 2 ≠ m + e by omega), jI_wr_a (Ne.symm h2), jI_wr_a (Ne.symm h3)]
theorem kX {T : Nat → Nat} {L : Nat} (X : pX g m T L) : pX (kG g m cl cs f) m T L := by
  obtain ⟨H, hL, hT⟩ := X
  refine ⟨H, by rw [kG_m]; exact hL, fun p hp => ?_⟩
  rw [kG_c (by omega) (by omega) (by omega)]
  exact hT p hp
theorem kt {t : Nat} (ht : jI g m 11 = nI t) : jI (kG g m cl cs f) m 11 = nI t := by rw [kG_m]; exact ht
end
def yOut (Q : Option Value → jH → Prop) (g : jH) (m t li : Nat) (cl0 cs : Nat → Int32) (K : List (Nat × Nat × Option (Nat × Nat))) : Except Nat ((Nat × Nat × List Nat) × (Nat × Nat × Option (Nat × Nat))) → Prop
  | .ok r => ∀ nb f dp od cl, clR cl0 cl t (K ++ [r.2]) → Q (some (.int 1)) (pH (rG (kG g m cl (upd cs t (nI (K.length + 1))) f) m t r.1.2.2) m r.1.1 0 nb r.1.2.1 dp li od)
  | .error w => ∀ nx nb md c f dp od cl, (∀ i, i < 48 * t ∨ 48 * t + 48 ≤ i → cl i = cl0 i) → Q (some (.int 0)) (pH (rG (kG g m cl cs f) m t c) m nx w nb md dp li od)
section
variable {g : jH} {m : Nat} {d : Nat} {Q : Option Value → jH → Prop} {T : Nat → Nat} {L nx wr nb md dp li od t : Nat} {c : List Nat} {f : Nat → Int32}
/-- a clause's end -/
theorem c164e (X : pX g m T L) (ht : jI g m 11 = nI t) (ht6 : t < 6) {cl cs : Nat → Int32} {k : Nat} (hK : k < 12) (hcs : cs t = nI k) (hQ : Q (some (.int 1)) (pH (rG (kG g m (upd cl (48 * t + 4 * k + 3) (nI c.length)) (upd cs t (nI (k + 1))) f) m t c) m nx wr nb md dp li od)) : jW (d + 9) 164 110 [some (.ref m), some (.int (nI (48 * t + 4 * k)))] [] (pH (rG (kG g m cl cs f) m t c) m nx wr nb md dp li od) Q := by
  have H := X.1
  have hm : jK g m = (32, 43) := H.1
  obtain ⟨r0, k0⟩ := H.at 2 rfl
  obtain ⟨r1, k1⟩ := H.at 3 rfl
  obtain ⟨r2, k2⟩ := H.at 4 rfl
  have htr : ∀ cl cs f c, jI (rG (kG g m cl cs f) m t c) m 11 = nI t := fun cl cs f c => by rw [rG_m]; exact kt ht
  simp (config := { decide := true }) (disch := (first | assumption | omega | (simp (config := { decide := true }) only [hm, r0, k0, r1, k1, r2, k2, jK_pH, jK_rG, jK_kG, jK_wI, jK_wJ, jK_wR, jK_wr, jR_wr, jR_wI, jR_wJ]; done) | (simp only [hm, r0, k0, r1, k1, r2, k2, jK_pH, jK_rG, jK_kG, jK_wI, jK_wJ, jK_wR, jK_wr, jR_wr, jR_wI, jR_wJ]; refine jinb_nI ?_ ?_ <;> omega) | (refine jinb_nI ?_ ?_ <;> omega))) only [s164_110, s164_111, s164_114, s164_115, s164_116, s164_117, s164_118, s164_121, s164_122, s164_125, s164_126, s164_127, s164_128, s164_131, s164_132, s164_135, s164_136, s164_137, s164_138, s164_139, s164_140, s164_141, jK_pH, jR_pH, pH_m, pH_c, pF_1, pF_2, pF_8, pF_9, pF_10, pF_11, pF_12, pF_13, pF_14, pF_16, pF_w8, pF_w9, pF_w10, pF_w12, pF_w13, pF_w14, pF_w16, pH_wm, htr, hcs, rG_3, rG_c, kG_4, kG_5, pH_wc, rG_we, kG_w4, kG_w5, jK_rG, jR_rG, jK_kG, jR_kG, va_rf_some, va_rf_none, jK_wI, jR_wI, jJ_wI, jK_wJ, jR_wJ, jI_wJ, jK_wR, jI_wR, jJ_wR, jK_wr, jR_wr, jJ_wr, jcl1_i, jcl1_r, jcl1_z, jcl1_n, jcl1_l, jwI_row, jwr_jwr, jwr_cm, jwr_cc, upd_upd, jI_wr_s, jI_wr_a, jI_wr_b, jI_wr_c, mInv_wr, upd_s, upd_n, Option.toList, List.cons_append, List.nil_append, true_or, or_true, eq_self, and_self, ite_true, ite_false, if_true, if_false, jinb_nI, nI_clamp, tc0, tc1, tc2, tc3, tc4, tc5, tc6, tc7, tc8, tc9, tc10, tc11, tc12, tc13, tc14, tc15, tc16, tc17, tc18, tc19, tc20, tc21, tc22, tc23, tc24, tc25, tc26, tc27, tc28, tc29, tc30, tc31, tc32, tc33, tc34, tc35, tc36, tc37, tc38, tc39, tc40, tc41, tc42, tc43, tc44, tc45, tc46, tc47, tc48, tc49, tc50, tc51, tc52, tc53, tc54, tc55, tc56, tc57, tc58, tc59, tc60, tc61, tc62, tc63, tc64, tc65, tc66, tc67, tc68, tc69, tc77, tc83, tc119, tc159, tc160, nI_add, al0, ar0, ml0, mr0, al1, ar1, ml1, mr1, al2, ar2, ml2, mr2, al3, ar3, ml3, mr3, al4, ar4, ml4, mr4, al5, ar5, ml5, mr5, al6, ar6, ml6, mr6, al8, ar8, ml8, mr8, al10, ar10, ml10, mr10, al11, ar11, ml11, mr11, al12, ar12, ml12, mr12, al13, ar13, ml13, mr13, al16, ar16, ml16, mr16, al20, ar20, ml20, mr20, al24, ar24, ml24, mr24, al29, ar29, ml29, mr29, al36, ar36, ml36, mr36, al42, ar42, ml42, mr42, al48, ar48, ml48, mr48, al55, ar55, ml55, mr55, al60, ar60, ml60, mr60, al65, ar65, ml65, mr65, al77, ar77, ml77, mr77, al83, ar83, ml83, mr83, al119, ar119, ml119, mr119, al159, ar159, ml159, mr159, al160, ar160, ml160, mr160, al400, ar400, ml400, mr400, hm, r0, k0, r1, k1, r2, k2, jK_pH, jK_rG, jK_kG]
  exact hQ
/-- behind a clause's sum -/
theorem c164s (X : pX g m T L) (ht : jI g m 11 = nI t) (ht6 : t < 6) {cl cs : Nat → Int32} {k : Nat} (hK : k < 12) (hn : nx ≤ L) (hQ : if isW T L (skp T L nx) 26982 then jW (d + 9) 164 81 [some (.ref m), some (.int (nI (48 * t + 4 * k)))] [.int 1] (pH (rG (kG g m (upd (upd cl (48 * t + 4 * k + 1) (nI c.length)) (48 * t + 4 * k + 2) (-1)) cs f) m t c) m (lnd T L (skp T L nx)) 0 nb md dp li od) Q else jW (d + 9) 164 81 [some (.ref m), some (.int (nI (48 * t + 4 * k)))] [.int 0] (pH (rG (kG g m (upd (upd cl (48 * t + 4 * k + 1) (nI c.length)) (48 * t + 4 * k + 2) (-1)) cs f) m t c) m (skp T L nx) 0 nb md dp li od) Q) : jW (d + 9) 164 43 [some (.ref m), some (.int (nI (48 * t + 4 * k)))] [.int 1] (pH (rG (kG g m cl cs f) m t c) m nx 0 nb md dp li od) Q := by
  have H := X.1
  have hm : jK g m = (32, 43) := H.1
  obtain ⟨r0, k0⟩ := H.at 2 rfl
  obtain ⟨r1, k1⟩ := H.at 3 rfl
  have htr : ∀ cl cs f c, jI (rG (kG g m cl cs f) m t c) m 11 = nI t := fun cl cs f c => by rw [rG_m]; exact kt ht
  have ct := fun cl f Q => @c171 (rG (kG g m cl cs f) m t c) m (d + 6) Q T L nx 0 nb md dp li od (rG_X (kX X)) hn 26982
  simp (config := { decide := true }) (disch := (first | assumption | omega | (simp (config := { decide := true }) only [hm, r0, k0, r1, k1, jK_pH, jK_rG, jK_kG, jK_wI, jK_wJ, jK_wR, jK_wr, jR_wr, jR_wI, jR_wJ]; done) | (simp only [hm, r0, k0, r1, k1, jK_pH, jK_rG, jK_kG, jK_wI, jK_wJ, jK_wR, jK_wr, jR_wr, jR_wI, jR_wJ]; refine jinb_nI ?_ ?_ <;> omega) | (refine jinb_nI ?_ ?_ <;> omega))) only [s164_43, s164_48, s164_49, s164_52, s164_53, s164_54, s164_55, s164_56, s164_59, s164_60, s164_63, s164_64, jK_pH, jR_pH, pH_m, pH_c, pF_1, pF_2, pF_8, pF_9, pF_10, pF_11, pF_12, pF_13, pF_14, pF_16, pF_w8, pF_w9, pF_w10, pF_w12, pF_w13, pF_w14, pF_w16, pH_wm, htr, rG_3, rG_c, kG_4, pH_wc, rG_we, kG_w4, jK_rG, jR_rG, jK_kG, jR_kG, va_rf_some, va_rf_none, jK_wI, jR_wI, jJ_wI, jK_wJ, jR_wJ, jI_wJ, jK_wR, jI_wR, jJ_wR, jK_wr, jR_wr, jJ_wr, jcl1_i, jcl1_r, jcl1_z, jcl1_n, jcl1_l, jwI_row, jwr_jwr, jwr_cm, jwr_cc, upd_upd, jI_wr_s, jI_wr_a, jI_wr_b, jI_wr_c, mInv_wr, upd_s, upd_n, Option.toList, List.cons_append, List.nil_append, true_or, or_true, eq_self, and_self, ite_true, ite_false, if_true, if_false, jinb_nI, nI_clamp, tc0, tc1, tc2, tc3, tc4, tc5, tc6, tc7, tc8, tc9, tc10, tc11, tc12, tc13, tc14, tc15, tc16, tc17, tc18, tc19, tc20, tc21, tc22, tc23, tc24, tc25, tc26, tc27, tc28, tc29, tc30, tc31, tc32, tc33, tc34, tc35, tc36, tc37, tc38, tc39, tc40, tc41, tc42, tc43, tc44, tc45, tc46, tc47, tc48, tc49, tc50, tc51, tc52, tc53, tc54, tc55, tc56, tc57, tc58, tc59, tc60, tc61, tc62, tc63, tc64, tc65, tc66, tc67, tc68, tc69, tc77, tc83, tc119, tc159, tc160, nI_add, al0, ar0, ml0, mr0, al1, ar1, ml1, mr1, al2, ar2, ml2, mr2, al3, ar3, ml3, mr3, al4, ar4, ml4, mr4, al5, ar5, ml5, mr5, al6, ar6, ml6, mr6, al8, ar8, ml8, mr8, al10, ar10, ml10, mr10, al11, ar11, ml11, mr11, al12, ar12, ml12, mr12, al13, ar13, ml13, mr13, al16, ar16, ml16, mr16, al20, ar20, ml20, mr20, al24, ar24, ml24, mr24, al29, ar29, ml29, mr29, al36, ar36, ml36, mr36, al42, ar42, ml42, mr42, al48, ar48, ml48, mr48, al55, ar55, ml55, mr55, al60, ar60, ml60, mr60, al65, ar65, ml65, mr65, al77, ar77, ml77, mr77, al83, ar83, ml83, mr83, al119, ar119, ml119, mr119, al159, ar159, ml159, mr159, al160, ar160, ml160, mr160, al400, ar400, ml400, mr400, hm, r0, k0, r1, k1, jK_pH, jK_rG, jK_kG]
  simp (config := { decide := true }) (disch := (first | assumption | omega | (simp (config := { decide := true }) only [hm, r0, k0, r1, k1, jK_pH, jK_rG, jK_kG, jK_wI, jK_wJ, jK_wR, jK_wr, jR_wr, jR_wI, jR_wJ]; done) | (simp only [hm, r0, k0, r1, k1, jK_pH, jK_rG, jK_kG, jK_wI, jK_wJ, jK_wR, jK_wr, jR_wr, jR_wI, jR_wJ]; refine jinb_nI ?_ ?_ <;> omega) | (refine jinb_nI ?_ ?_ <;> omega))) only [s164_65, s164_66, s164_69, s164_70, s164_71, s164_72, s164_73, s164_74, s164_75, jK_pH, jR_pH, pH_m, pH_c, pF_1, pF_2, pF_8, pF_9, pF_10, pF_11, pF_12, pF_13, pF_14, pF_16, pF_w8, pF_w9, pF_w10, pF_w12, pF_w13, pF_w14, pF_w16, pH_wm, rG_c, kG_4, pH_wc, rG_we, kG_w4, jK_rG, jR_rG, jK_kG, jR_kG, va_rf_some, va_rf_none, jK_wI, jR_wI, jJ_wI, jK_wJ, jR_wJ, jI_wJ, jK_wR, jI_wR, jJ_wR, jK_wr, jR_wr, jJ_wr, jcl1_i, jcl1_r, jcl1_z, jcl1_n, jcl1_l, jwI_row, jwr_jwr, jwr_cm, jwr_cc, upd_upd, jI_wr_s, jI_wr_a, jI_wr_b, jI_wr_c, mInv_wr, upd_s, upd_n, Option.toList, List.cons_append, List.nil_append, true_or, or_true, eq_self, and_self, ite_true, ite_false, if_true, if_false, jinb_nI, nI_clamp, tc0, tc1, tc2, tc3, tc4, tc5, tc6, tc7, tc8, tc9, tc10, tc11, tc12, tc13, tc14, tc15, tc16, tc17, tc18, tc19, tc20, tc21, tc22, tc23, tc24, tc25, tc26, tc27, tc28, tc29, tc30, tc31, tc32, tc33, tc34, tc35, tc36, tc37, tc38, tc39, tc40, tc41, tc42, tc43, tc44, tc45, tc46, tc47, tc48, tc49, tc50, tc51, tc52, tc53, tc54, tc55, tc56, tc57, tc58, tc59, tc60, tc61, tc62, tc63, tc64, tc65, tc66, tc67, tc68, tc69, tc77, tc83, tc119, tc159, tc160, nI_add, al0, ar0, ml0, mr0, al1, ar1, ml1, mr1, al2, ar2, ml2, mr2, al3, ar3, ml3, mr3, al4, ar4, ml4, mr4, al5, ar5, ml5, mr5, al6, ar6, ml6, mr6, al8, ar8, ml8, mr8, al10, ar10, ml10, mr10, al11, ar11, ml11, mr11, al12, ar12, ml12, mr12, al13, ar13, ml13, mr13, al16, ar16, ml16, mr16, al20, ar20, ml20, mr20, al24, ar24, ml24, mr24, al29, ar29, ml29, mr29, al36, ar36, ml36, mr36, al42, ar42, ml42, mr42, al48, ar48, ml48, mr48, al55, ar55, ml55, mr55, al60, ar60, ml60, mr60, al65, ar65, ml65, mr65, al77, ar77, ml77, mr77, al83, ar83, ml83, mr83, al119, ar119, ml119, mr119, al159, ar159, ml159, mr159, al160, ar160, ml160, mr160, al400, ar400, ml400, mr400, hm, r0, k0, r1, k1, jK_pH, jK_rG, jK_kG]
  rw [s164_78 (by rw [jK_pH, jK_rG, jK_kG, hm])]
  rw [ct]
  cases g1 : isW T L (skp T L nx) 26982 with
  | false =>
    rw [g1, if_neg (by decide)] at hQ
    rw [if_neg (by decide)]
    exact hQ
  | true =>
    rw [g1, if_pos rfl] at hQ
    rw [if_pos rfl]
    exact hQ
/-- a clause's test -/
theorem c164t (X : pX g m T L) (ht : jI g m 11 = nI t) (ht6 : t < 6) {cl cs : Nat → Int32} {k : Nat} (hK : k < 12) (hcs : cs t = nI k) (hn : nx ≤ L) (hd : md ≤ 60) (hl : c.length ≤ nx) (hQ : tOut (fun r h => jW (d + 9) 164 105 [some (.ref m), some (.int (nI (48 * t + 4 * k)))] (r.toList ++ []) h Q) (jwr (jwr g (m + 4) (upd cl (48 * t + 4 * k + 2) (nI c.length))) (m + 5) cs) m t li (ats T L (L + 1) nx md c [])) : jW (d + 9) 164 81 [some (.ref m), some (.int (nI (48 * t + 4 * k)))] [.int 1] (pH (rG (kG g m cl cs f) m t c) m nx 0 nb md dp li od) Q := by
  have H := X.1
  have hm : jK g m = (32, 43) := H.1
  obtain ⟨r0, k0⟩ := H.at 2 rfl
  obtain ⟨r1, k1⟩ := H.at 3 rfl
  have htr : ∀ cl cs f c, jI (rG (kG g m cl cs f) m t c) m 11 = nI t := fun cl cs f c => by rw [rG_m]; exact kt ht
  simp (config := { decide := true }) (disch := (first | assumption | omega | (simp (config := { decide := true }) only [hm, r0, k0, r1, k1, jK_pH, jK_rG, jK_kG, jK_wI, jK_wJ, jK_wR, jK_wr, jR_wr, jR_wI, jR_wJ]; done) | (simp only [hm, r0, k0, r1, k1, jK_pH, jK_rG, jK_kG, jK_wI, jK_wJ, jK_wR, jK_wr, jR_wr, jR_wI, jR_wJ]; refine jinb_nI ?_ ?_ <;> omega) | (refine jinb_nI ?_ ?_ <;> omega))) only [s164_81, s164_84, s164_85, s164_88, s164_89, s164_90, s164_91, s164_92, s164_95, s164_96, s164_99, s164_100, s164_101, s164_102, jK_pH, jR_pH, pH_m, pH_c, pF_1, pF_2, pF_8, pF_9, pF_10, pF_11, pF_12, pF_13, pF_14, pF_16, pF_w8, pF_w9, pF_w10, pF_w12, pF_w13, pF_w14, pF_w16, pH_wm, htr, rG_3, rG_c, kG_4, pH_wc, rG_we, kG_w4, jK_rG, jR_rG, jK_kG, jR_kG, va_rf_some, va_rf_none, jK_wI, jR_wI, jJ_wI, jK_wJ, jR_wJ, jI_wJ, jK_wR, jI_wR, jJ_wR, jK_wr, jR_wr, jJ_wr, jcl1_i, jcl1_r, jcl1_z, jcl1_n, jcl1_l, jwI_row, jwr_jwr, jwr_cm, jwr_cc, upd_upd, jI_wr_s, jI_wr_a, jI_wr_b, jI_wr_c, mInv_wr, upd_s, upd_n, Option.toList, List.cons_append, List.nil_append, true_or, or_true, eq_self, and_self, ite_true, ite_false, if_true, if_false, jinb_nI, nI_clamp, tc0, tc1, tc2, tc3, tc4, tc5, tc6, tc7, tc8, tc9, tc10, tc11, tc12, tc13, tc14, tc15, tc16, tc17, tc18, tc19, tc20, tc21, tc22, tc23, tc24, tc25, tc26, tc27, tc28, tc29, tc30, tc31, tc32, tc33, tc34, tc35, tc36, tc37, tc38, tc39, tc40, tc41, tc42, tc43, tc44, tc45, tc46, tc47, tc48, tc49, tc50, tc51, tc52, tc53, tc54, tc55, tc56, tc57, tc58, tc59, tc60, tc61, tc62, tc63, tc64, tc65, tc66, tc67, tc68, tc69, tc77, tc83, tc119, tc159, tc160, nI_add, al0, ar0, ml0, mr0, al1, ar1, ml1, mr1, al2, ar2, ml2, mr2, al3, ar3, ml3, mr3, al4, ar4, ml4, mr4, al5, ar5, ml5, mr5, al6, ar6, ml6, mr6, al8, ar8, ml8, mr8, al10, ar10, ml10, mr10, al11, ar11, ml11, mr11, al12, ar12, ml12, mr12, al13, ar13, ml13, mr13, al16, ar16, ml16, mr16, al20, ar20, ml20, mr20, al24, ar24, ml24, mr24, al29, ar29, ml29, mr29, al36, ar36, ml36, mr36, al42, ar42, ml42, mr42, al48, ar48, ml48, mr48, al55, ar55, ml55, mr55, al60, ar60, ml60, mr60, al65, ar65, ml65, mr65, al77, ar77, ml77, mr77, al83, ar83, ml83, mr83, al119, ar119, ml119, mr119, al159, ar159, ml159, mr159, al160, ar160, ml160, mr160, al400, ar400, ml400, mr400, hm, r0, k0, r1, k1, jK_pH, jK_rG, jK_kG]
  refine @c172 (jwr (jwr g (m + 4) (upd cl (48 * t + 4 * k + 2) (nI c.length))) (m + 5) cs) m d _ T L nx nb md dp li od t c f ?_ ?_ ht6 hn hd hl hQ
  · obtain ⟨H, hL, hT⟩ := X
    refine ⟨H, by rw [jI_wr_c (by omega), jI_wr_c (by omega)]; exact hL, fun p hp => ?_⟩
    rw [jI_wr_a (by omega), jI_wr_a (by omega)]
    exact hT p hp
  · rw [jI_wr_c (by omega), jI_wr_c (by omega)]
    exact ht
theorem c164j {w : Option Value} {h : jH} : jW (d + 9) 164 105 [some (.ref m), w] [.int 0] h Q ↔ Q (some (.int 0)) h := by
  simp (config := { decide := true }) (disch := (first | assumption | omega | (simp (config := { decide := true }) only [true_and, jK_wI, jK_wJ, jK_wR, jK_wr, jR_wr, jR_wI, jR_wJ]; done) | (simp only [true_and, jK_wI, jK_wJ, jK_wR, jK_wr, jR_wr, jR_wI, jR_wJ]; refine jinb_nI ?_ ?_ <;> omega) | (refine jinb_nI ?_ ?_ <;> omega))) only [s164_105, s164_108, s164_109, va_rf_some, va_rf_none, jK_wI, jR_wI, jJ_wI, jK_wJ, jR_wJ, jI_wJ, jK_wR, jI_wR, jJ_wR, jK_wr, jR_wr, jJ_wr, jcl1_i, jcl1_r, jcl1_z, jcl1_n, jcl1_l, jwI_row, jwr_jwr, jwr_cm, jwr_cc, upd_upd, jI_wr_s, jI_wr_a, jI_wr_b, jI_wr_c, mInv_wr, upd_s, upd_n, Option.toList, List.cons_append, List.nil_append, true_or, or_true, eq_self, and_self, ite_true, ite_false, if_true, if_false, jinb_nI, nI_clamp, tc0, tc1, tc2, tc3, tc4, tc5, tc6, tc7, tc8, tc9, tc10, tc11, tc12, tc13, tc14, tc15, tc16, tc17, tc18, tc19, tc20, tc21, tc22, tc23, tc24, tc25, tc26, tc27, tc28, tc29, tc30, tc31, tc32, tc33, tc34, tc35, tc36, tc37, tc38, tc39, tc40, tc41, tc42, tc43, tc44, tc45, tc46, tc47, tc48, tc49, tc50, tc51, tc52, tc53, tc54, tc55, tc56, tc57, tc58, tc59, tc60, tc61, tc62, tc63, tc64, tc65, tc66, tc67, tc68, tc69, tc77, tc83, tc119, tc159, tc160, nI_add, al0, ar0, ml0, mr0, al1, ar1, ml1, mr1, al2, ar2, ml2, mr2, al3, ar3, ml3, mr3, al4, ar4, ml4, mr4, al5, ar5, ml5, mr5, al6, ar6, ml6, mr6, al8, ar8, ml8, mr8, al10, ar10, ml10, mr10, al11, ar11, ml11, mr11, al12, ar12, ml12, mr12, al13, ar13, ml13, mr13, al16, ar16, ml16, mr16, al20, ar20, ml20, mr20, al24, ar24, ml24, mr24, al29, ar29, ml29, mr29, al36, ar36, ml36, mr36, al42, ar42, ml42, mr42, al48, ar48, ml48, mr48, al55, ar55, ml55, mr55, al60, ar60, ml60, mr60, al65, ar65, ml65, mr65, al77, ar77, ml77, mr77, al83, ar83, ml83, mr83, al119, ar119, ml119, mr119, al159, ar159, ml159, mr159, al160, ar160, ml160, mr160, al400, ar400, ml400, mr400, true_and]
theorem c164k {w : Option Value} {h : jH} : jW (d + 9) 164 105 [some (.ref m), w] [.int 1] h Q ↔ jW (d + 9) 164 110 [some (.ref m), w] [] h Q := by
  simp (config := { decide := true }) (disch := (first | assumption | omega | (simp (config := { decide := true }) only [true_and, jK_wI, jK_wJ, jK_wR, jK_wr, jR_wr, jR_wI, jR_wJ]; done) | (simp only [true_and, jK_wI, jK_wJ, jK_wR, jK_wr, jR_wr, jR_wI, jR_wJ]; refine jinb_nI ?_ ?_ <;> omega) | (refine jinb_nI ?_ ?_ <;> omega))) only [s164_105, va_rf_some, va_rf_none, jK_wI, jR_wI, jJ_wI, jK_wJ, jR_wJ, jI_wJ, jK_wR, jI_wR, jJ_wR, jK_wr, jR_wr, jJ_wr, jcl1_i, jcl1_r, jcl1_z, jcl1_n, jcl1_l, jwI_row, jwr_jwr, jwr_cm, jwr_cc, upd_upd, jI_wr_s, jI_wr_a, jI_wr_b, jI_wr_c, mInv_wr, upd_s, upd_n, Option.toList, List.cons_append, List.nil_append, true_or, or_true, eq_self, and_self, ite_true, ite_false, if_true, if_false, jinb_nI, nI_clamp, tc0, tc1, tc2, tc3, tc4, tc5, tc6, tc7, tc8, tc9, tc10, tc11, tc12, tc13, tc14, tc15, tc16, tc17, tc18, tc19, tc20, tc21, tc22, tc23, tc24, tc25, tc26, tc27, tc28, tc29, tc30, tc31, tc32, tc33, tc34, tc35, tc36, tc37, tc38, tc39, tc40, tc41, tc42, tc43, tc44, tc45, tc46, tc47, tc48, tc49, tc50, tc51, tc52, tc53, tc54, tc55, tc56, tc57, tc58, tc59, tc60, tc61, tc62, tc63, tc64, tc65, tc66, tc67, tc68, tc69, tc77, tc83, tc119, tc159, tc160, nI_add, al0, ar0, ml0, mr0, al1, ar1, ml1, mr1, al2, ar2, ml2, mr2, al3, ar3, ml3, mr3, al4, ar4, ml4, mr4, al5, ar5, ml5, mr5, al6, ar6, ml6, mr6, al8, ar8, ml8, mr8, al10, ar10, ml10, mr10, al11, ar11, ml11, mr11, al12, ar12, ml12, mr12, al13, ar13, ml13, mr13, al16, ar16, ml16, mr16, al20, ar20, ml20, mr20, al24, ar24, ml24, mr24, al29, ar29, ml29, mr29, al36, ar36, ml36, mr36, al42, ar42, ml42, mr42, al48, ar48, ml48, mr48, al55, ar55, ml55, mr55, al60, ar60, ml60, mr60, al65, ar65, ml65, mr65, al77, ar77, ml77, mr77, al83, ar83, ml83, mr83, al119, ar119, ml119, mr119, al159, ar159, ml159, mr159, al160, ar160, ml160, mr160, al400, ar400, ml400, mr400, true_and]
theorem c164l {w : Option Value} {h : jH} : jW (d + 9) 164 81 [some (.ref m), w] [.int 0] h Q ↔ jW (d + 9) 164 110 [some (.ref m), w] [] h Q := by
  simp (config := { decide := true }) (disch := (first | assumption | omega | (simp (config := { decide := true }) only [true_and, jK_wI, jK_wJ, jK_wR, jK_wr, jR_wr, jR_wI, jR_wJ]; done) | (simp only [true_and, jK_wI, jK_wJ, jK_wR, jK_wr, jR_wr, jR_wI, jR_wJ]; refine jinb_nI ?_ ?_ <;> omega) | (refine jinb_nI ?_ ?_ <;> omega))) only [s164_81, va_rf_some, va_rf_none, jK_wI, jR_wI, jJ_wI, jK_wJ, jR_wJ, jI_wJ, jK_wR, jI_wR, jJ_wR, jK_wr, jR_wr, jJ_wr, jcl1_i, jcl1_r, jcl1_z, jcl1_n, jcl1_l, jwI_row, jwr_jwr, jwr_cm, jwr_cc, upd_upd, jI_wr_s, jI_wr_a, jI_wr_b, jI_wr_c, mInv_wr, upd_s, upd_n, Option.toList, List.cons_append, List.nil_append, true_or, or_true, eq_self, and_self, ite_true, ite_false, if_true, if_false, jinb_nI, nI_clamp, tc0, tc1, tc2, tc3, tc4, tc5, tc6, tc7, tc8, tc9, tc10, tc11, tc12, tc13, tc14, tc15, tc16, tc17, tc18, tc19, tc20, tc21, tc22, tc23, tc24, tc25, tc26, tc27, tc28, tc29, tc30, tc31, tc32, tc33, tc34, tc35, tc36, tc37, tc38, tc39, tc40, tc41, tc42, tc43, tc44, tc45, tc46, tc47, tc48, tc49, tc50, tc51, tc52, tc53, tc54, tc55, tc56, tc57, tc58, tc59, tc60, tc61, tc62, tc63, tc64, tc65, tc66, tc67, tc68, tc69, tc77, tc83, tc119, tc159, tc160, nI_add, al0, ar0, ml0, mr0, al1, ar1, ml1, mr1, al2, ar2, ml2, mr2, al3, ar3, ml3, mr3, al4, ar4, ml4, mr4, al5, ar5, ml5, mr5, al6, ar6, ml6, mr6, al8, ar8, ml8, mr8, al10, ar10, ml10, mr10, al11, ar11, ml11, mr11, al12, ar12, ml12, mr12, al13, ar13, ml13, mr13, al16, ar16, ml16, mr16, al20, ar20, ml20, mr20, al24, ar24, ml24, mr24, al29, ar29, ml29, mr29, al36, ar36, ml36, mr36, al42, ar42, ml42, mr42, al48, ar48, ml48, mr48, al55, ar55, ml55, mr55, al60, ar60, ml60, mr60, al65, ar65, ml65, mr65, al77, ar77, ml77, mr77, al83, ar83, ml83, mr83, al119, ar119, ml119, mr119, al159, ar159, ml159, mr159, al160, ar160, ml160, mr160, al400, ar400, ml400, mr400, true_and]
theorem c164i {w : Option Value} {h : jH} : jW (d + 9) 164 43 [some (.ref m), w] [.int 0] h Q ↔ Q (some (.int 0)) h := by
  simp (config := { decide := true }) (disch := (first | assumption | omega | (simp (config := { decide := true }) only [true_and, jK_wI, jK_wJ, jK_wR, jK_wr, jR_wr, jR_wI, jR_wJ]; done) | (simp only [true_and, jK_wI, jK_wJ, jK_wR, jK_wr, jR_wr, jR_wI, jR_wJ]; refine jinb_nI ?_ ?_ <;> omega) | (refine jinb_nI ?_ ?_ <;> omega))) only [s164_43, s164_46, s164_47, va_rf_some, va_rf_none, jK_wI, jR_wI, jJ_wI, jK_wJ, jR_wJ, jI_wJ, jK_wR, jI_wR, jJ_wR, jK_wr, jR_wr, jJ_wr, jcl1_i, jcl1_r, jcl1_z, jcl1_n, jcl1_l, jwI_row, jwr_jwr, jwr_cm, jwr_cc, upd_upd, jI_wr_s, jI_wr_a, jI_wr_b, jI_wr_c, mInv_wr, upd_s, upd_n, Option.toList, List.cons_append, List.nil_append, true_or, or_true, eq_self, and_self, ite_true, ite_false, if_true, if_false, jinb_nI, nI_clamp, tc0, tc1, tc2, tc3, tc4, tc5, tc6, tc7, tc8, tc9, tc10, tc11, tc12, tc13, tc14, tc15, tc16, tc17, tc18, tc19, tc20, tc21, tc22, tc23, tc24, tc25, tc26, tc27, tc28, tc29, tc30, tc31, tc32, tc33, tc34, tc35, tc36, tc37, tc38, tc39, tc40, tc41, tc42, tc43, tc44, tc45, tc46, tc47, tc48, tc49, tc50, tc51, tc52, tc53, tc54, tc55, tc56, tc57, tc58, tc59, tc60, tc61, tc62, tc63, tc64, tc65, tc66, tc67, tc68, tc69, tc77, tc83, tc119, tc159, tc160, nI_add, al0, ar0, ml0, mr0, al1, ar1, ml1, mr1, al2, ar2, ml2, mr2, al3, ar3, ml3, mr3, al4, ar4, ml4, mr4, al5, ar5, ml5, mr5, al6, ar6, ml6, mr6, al8, ar8, ml8, mr8, al10, ar10, ml10, mr10, al11, ar11, ml11, mr11, al12, ar12, ml12, mr12, al13, ar13, ml13, mr13, al16, ar16, ml16, mr16, al20, ar20, ml20, mr20, al24, ar24, ml24, mr24, al29, ar29, ml29, mr29, al36, ar36, ml36, mr36, al42, ar42, ml42, mr42, al48, ar48, ml48, mr48, al55, ar55, ml55, mr55, al60, ar60, ml60, mr60, al65, ar65, ml65, mr65, al77, ar77, ml77, mr77, al83, ar83, ml83, mr83, al119, ar119, ml119, mr119, al159, ar159, ml159, mr159, al160, ar160, ml160, mr160, al400, ar400, ml400, mr400, true_and]
theorem kG_fold {cl cs : Nat → Int32} : jwr (jwr (jwr g (m + 4) cl) (m + 5) cs) (m + 7) f = kG g m cl cs f := rfl
theorem c164h (X : pX g m T L) (ht : jI g m 11 = nI t) (ht6 : t < 6) (hn : nx ≤ L) {cl cs : Nat → Int32} {k : Nat} (hK : k < 12) (hcs : cs t = nI k) (hQ : jC (d + 9) 165 [.ref m] (pH (rG (kG g m (upd cl (48 * t + 4 * k) (nI c.length)) cs f) m t c) m (lnd T L nx) 0 nb md dp li od) (fun r h => jW (d + 9) 164 43 [some (.ref m), some (.int (nI (48 * t + 4 * k)))] (r.toList ++ []) h Q)) : jC (d + 10) 164 [.ref m] (pH (rG (kG g m cl cs f) m t c) m nx 0 nb md dp li od) Q := by
  rw [e164]
  have H := X.1
  have hm : jK g m = (32, 43) := H.1
  obtain ⟨r0, k0⟩ := H.at 2 rfl
  obtain ⟨r1, k1⟩ := H.at 3 rfl
  obtain ⟨r2, k2⟩ := H.at 4 rfl
  have htr : ∀ cl cs f c, jI (rG (kG g m cl cs f) m t c) m 11 = nI t := fun cl cs f c => by rw [rG_m]; exact kt ht
  have cq := fun Q => @c155 (rG (kG g m cl cs f) m t c) m (d + 7) Q T L nx 0 nb md dp li od (rG_X (kX X)) hn
  simp (config := { decide := true }) (disch := (first | assumption | omega | (simp (config := { decide := true }) only [hm, jK_pH, jK_rG, jK_kG, jK_wI, jK_wJ, jK_wR, jK_wr, jR_wr, jR_wI, jR_wJ]; done) | (simp only [hm, jK_pH, jK_rG, jK_kG, jK_wI, jK_wJ, jK_wR, jK_wr, jR_wr, jR_wI, jR_wJ]; refine jinb_nI ?_ ?_ <;> omega) | (refine jinb_nI ?_ ?_ <;> omega))) only [s164_0, s164_1, cq, va_rf_some, va_rf_none, jK_wI, jR_wI, jJ_wI, jK_wJ, jR_wJ, jI_wJ, jK_wR, jI_wR, jJ_wR, jK_wr, jR_wr, jJ_wr, jcl1_i, jcl1_r, jcl1_z, jcl1_n, jcl1_l, jwI_row, jwr_jwr, jwr_cm, jwr_cc, upd_upd, jI_wr_s, jI_wr_a, jI_wr_b, jI_wr_c, mInv_wr, upd_s, upd_n, Option.toList, List.cons_append, List.nil_append, true_or, or_true, eq_self, and_self, ite_true, ite_false, if_true, if_false, jinb_nI, nI_clamp, tc0, tc1, tc2, tc3, tc4, tc5, tc6, tc7, tc8, tc9, tc10, tc11, tc12, tc13, tc14, tc15, tc16, tc17, tc18, tc19, tc20, tc21, tc22, tc23, tc24, tc25, tc26, tc27, tc28, tc29, tc30, tc31, tc32, tc33, tc34, tc35, tc36, tc37, tc38, tc39, tc40, tc41, tc42, tc43, tc44, tc45, tc46, tc47, tc48, tc49, tc50, tc51, tc52, tc53, tc54, tc55, tc56, tc57, tc58, tc59, tc60, tc61, tc62, tc63, tc64, tc65, tc66, tc67, tc68, tc69, tc77, tc83, tc119, tc159, tc160, nI_add, al0, ar0, ml0, mr0, al1, ar1, ml1, mr1, al2, ar2, ml2, mr2, al3, ar3, ml3, mr3, al4, ar4, ml4, mr4, al5, ar5, ml5, mr5, al6, ar6, ml6, mr6, al8, ar8, ml8, mr8, al10, ar10, ml10, mr10, al11, ar11, ml11, mr11, al12, ar12, ml12, mr12, al13, ar13, ml13, mr13, al16, ar16, ml16, mr16, al20, ar20, ml20, mr20, al24, ar24, ml24, mr24, al29, ar29, ml29, mr29, al36, ar36, ml36, mr36, al42, ar42, ml42, mr42, al48, ar48, ml48, mr48, al55, ar55, ml55, mr55, al60, ar60, ml60, mr60, al65, ar65, ml65, mr65, al77, ar77, ml77, mr77, al83, ar83, ml83, mr83, al119, ar119, ml119, mr119, al159, ar159, ml159, mr159, al160, ar160, ml160, mr160, al400, ar400, ml400, mr400, hm, jK_pH, jK_rG, jK_kG]
  simp (config := { decide := true }) (disch := (first | assumption | omega | (simp (config := { decide := true }) only [hm, r0, k0, r1, k1, r2, k2, jK_pH, jK_rG, jK_kG, jK_wI, jK_wJ, jK_wR, jK_wr, jR_wr, jR_wI, jR_wJ]; done) | (simp only [hm, r0, k0, r1, k1, r2, k2, jK_pH, jK_rG, jK_kG, jK_wI, jK_wJ, jK_wR, jK_wr, jR_wr, jR_wI, jR_wJ]; refine jinb_nI ?_ ?_ <;> omega) | (refine jinb_nI ?_ ?_ <;> omega))) only [s164_4, s164_6, s164_7, s164_10, s164_11, s164_12, s164_13, s164_16, s164_17, s164_20, s164_21, s164_22, s164_23, s164_24, s164_25, s164_28, s164_29, s164_30, s164_33, s164_34, s164_37, s164_38, s164_39, s164_40, jK_pH, jR_pH, pH_m, pH_c, pF_1, pF_2, pF_8, pF_9, pF_10, pF_11, pF_12, pF_13, pF_14, pF_16, pF_w8, pF_w9, pF_w10, pF_w12, pF_w13, pF_w14, pF_w16, pH_wm, htr, hcs, rG_3, rG_c, kG_4, kG_5, pH_wc, rG_we, kG_w4, jK_rG, jR_rG, jK_kG, jR_kG, va_rf_some, va_rf_none, jK_wI, jR_wI, jJ_wI, jK_wJ, jR_wJ, jI_wJ, jK_wR, jI_wR, jJ_wR, jK_wr, jR_wr, jJ_wr, jcl1_i, jcl1_r, jcl1_z, jcl1_n, jcl1_l, jwI_row, jwr_jwr, jwr_cm, jwr_cc, upd_upd, jI_wr_s, jI_wr_a, jI_wr_b, jI_wr_c, mInv_wr, upd_s, upd_n, Option.toList, List.cons_append, List.nil_append, true_or, or_true, eq_self, and_self, ite_true, ite_false, if_true, if_false, jinb_nI, nI_clamp, tc0, tc1, tc2, tc3, tc4, tc5, tc6, tc7, tc8, tc9, tc10, tc11, tc12, tc13, tc14, tc15, tc16, tc17, tc18, tc19, tc20, tc21, tc22, tc23, tc24, tc25, tc26, tc27, tc28, tc29, tc30, tc31, tc32, tc33, tc34, tc35, tc36, tc37, tc38, tc39, tc40, tc41, tc42, tc43, tc44, tc45, tc46, tc47, tc48, tc49, tc50, tc51, tc52, tc53, tc54, tc55, tc56, tc57, tc58, tc59, tc60, tc61, tc62, tc63, tc64, tc65, tc66, tc67, tc68, tc69, tc77, tc83, tc119, tc159, tc160, nI_add, al0, ar0, ml0, mr0, al1, ar1, ml1, mr1, al2, ar2, ml2, mr2, al3, ar3, ml3, mr3, al4, ar4, ml4, mr4, al5, ar5, ml5, mr5, al6, ar6, ml6, mr6, al8, ar8, ml8, mr8, al10, ar10, ml10, mr10, al11, ar11, ml11, mr11, al12, ar12, ml12, mr12, al13, ar13, ml13, mr13, al16, ar16, ml16, mr16, al20, ar20, ml20, mr20, al24, ar24, ml24, mr24, al29, ar29, ml29, mr29, al36, ar36, ml36, mr36, al42, ar42, ml42, mr42, al48, ar48, ml48, mr48, al55, ar55, ml55, mr55, al60, ar60, ml60, mr60, al65, ar65, ml65, mr65, al77, ar77, ml77, mr77, al83, ar83, ml83, mr83, al119, ar119, ml119, mr119, al159, ar159, ml159, mr159, al160, ar160, ml160, mr160, al400, ar400, ml400, mr400, hm, r0, k0, r1, k1, r2, k2, jK_pH, jK_rG, jK_kG]
  exact hQ
/-- isTryHere -/
theorem c164 (X : pX g m T L) (ht : jI g m 11 = nI t) (ht6 : t < 6) (hn : nx ≤ L) (hd : md ≤ 60) (hl : c.length ≤ lnd T L nx) {cl0 cl cs : Nat → Int32} {K : List (Nat × Nat × Option (Nat × Nat))} (hK : K.length < 12) (R : clR cl0 cl t K) (hcs : cs t = nI K.length) (hQ : yOut Q g m t li cl0 cs K (aTry T L (lnd T L nx) md c)) : jC (d + 10) 164 [.ref m] (pH (rG (kG g m cl cs f) m t c) m nx 0 nb md dp li od) Q := by
  have b3 := lnd_le (T := T) hn
  have fr : ∀ i, i < 48 * t ∨ 48 * t + 48 ≤ i → cl i = cl0 i := R.1
  refine c164h X ht ht6 hn hK hcs ?_
  generalize lnd T L nx = p at *
  refine @c165 _ m (d + 3) _ T L p nb md dp li od t c (kX X) (kt ht) ht6 b3 hd hl ?_
  unfold aTry at hQ
  cases hv : aSum T L p md c with
  | error w =>
    rw [hv] at hQ
    intro nx nb md c
    show jW (d + 9) 164 43 _ [.int 0] _ Q
    rw [c164i]
    refine hQ _ _ _ _ _ _ _ _ ?_
    intro i hi
    rw [upd_n (by omega)]
    exact fr i hi
  | ok r =>
    rw [hv] at hQ
    obtain ⟨a1, a2, a3, a4⟩ := aSum_gd _ _ _ _ b3 hd hv
    intro nb
    show jW (d + 9) 164 43 _ [.int 1] _ Q
    replace hQ : yOut Q g m t li cl0 cs K (if isW T L (skp T L r.1) 26982 then (match ats T L (L + 1) (lnd T L (skp T L r.1)) r.2.1 r.2.2 [] with | .error w => .error w | .ok w2 => .ok (w2, (c.length, r.2.2.length, some (r.2.2.length, w2.2.2.length)))) else .ok ((skp T L r.1, r.2.1, r.2.2), (c.length, r.2.2.length, none))) := hQ
    generalize hp1 : r.1 = p1 at *
    generalize hm1 : r.2.1 = md1 at *
    generalize hc1 : r.2.2 = c1 at *
    clear hv hp1 hm1 hc1
    have hp0 := skp_le (T := T) a2
    have hp1 := skp_ge (T := T) (L := L) (p := p1)
    have b4 := lnd_le (T := T) hp0
    refine c164s X ht ht6 hK a2 ?_
    cases g1 : isW T L (skp T L p1) 26982 with
    | false =>
      rw [g1, if_neg (by decide)] at hQ
      rw [if_neg (by decide), c164l]
      refine c164e X ht ht6 hK hcs ?_
      refine hQ _ _ _ _ _ (clR_push R hK ?_ ?_)
      · intro i hi
        rw [upd_n (by omega), upd_n (by omega), upd_n (by omega), upd_n (by omega)]
      · refine ⟨⟨?_, ?_⟩, ?_⟩
        · rw [upd_n (by omega), upd_n (by omega), upd_n (by omega), upd_s]
        · rw [upd_n (by omega), upd_n (by omega), upd_s]
        · show upd _ _ _ _ = _
          rw [upd_n (by omega), upd_s]
    | true =>
      rw [g1, if_pos rfl] at hQ
      rw [if_pos rfl]
      have b5 := isW_lt g1
      refine c164t X ht ht6 hK hcs b4 a3 (by omega) ?_
      cases hw : ats T L (L + 1) (lnd T L (skp T L p1)) md1 c1 [] with
      | error w =>
        rw [hw] at hQ
        intro nx nb md c f dp od
        show jW (d + 9) 164 105 _ [.int 0] _ Q
        rw [c164j, kG_fold]
        refine hQ _ _ _ _ _ _ _ _ ?_
        intro i hi
        rw [upd_n (by omega), upd_n (by omega), upd_n (by omega), upd_n (by omega)]
        exact fr i hi
      | ok w2 =>
        rw [hw] at hQ
        intro nb f dp od
        show jW (d + 9) 164 105 _ [.int 1] _ Q
        rw [c164k, kG_fold]
        refine c164e X ht ht6 hK hcs ?_
        refine hQ _ _ _ _ _ (clR_push R hK ?_ ?_)
        · intro i hi
          rw [upd_n (by omega), upd_n (by omega), upd_n (by omega), upd_n (by omega), upd_n (by omega)]
        · refine ⟨⟨?_, ?_⟩, ?_, ?_⟩
          · rw [upd_n (by omega), upd_n (by omega), upd_n (by omega), upd_n (by omega), upd_s]
          · rw [upd_n (by omega), upd_n (by omega), upd_n (by omega), upd_s]
          · show upd _ _ _ _ = _
            rw [upd_n (by omega), upd_s]
          · show upd _ _ _ _ = _
            rw [upd_s]
end
