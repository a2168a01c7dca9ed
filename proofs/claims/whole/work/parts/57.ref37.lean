/-! THE REFERENCE READS: what is wrong is a number -/
def eB (L : Nat) (sub : Nat → Nat → List Nat → Except Nat (Nat × Nat × List Nat)) : Prop := ∀ p md c w, p ≤ L → md ≤ 60 → sub p md c = .error w → 0 < w ∧ w ≤ 8 * L + 5
theorem fW_b {k a L : Nat} (ha : a ≤ L) (hk : k ≤ 4) : 0 < fW 0 k a ∧ fW 0 k a ≤ 8 * L + 5 := by
  unfold fW
  rw [if_pos rfl]
  omega
theorem aVal_eb {T : Nat → Nat} {L : Nat} : eB L (aVal T L) := by
  intro p md c w hp hd h
  have h1 := skp_le (T := T) hp
  unfold aVal at h
  split at h
  · split at h
    · split at h
      · cases h; exact fW_b h1 (by omega)
      · cases h
    · cases h; exact fW_b h1 (by omega)
  · split at h
    · cases h; exact fW_b h1 (by omega)
    · split at h
      · cases h; exact fW_b h1 (by omega)
      · cases h
theorem aLp_eb {T : Nat → Nat} {L : Nat} {op : Nat → Option Nat} {sub : Nat → Nat → List Nat → Except Nat (Nat × Nat × List Nat)} (S : aGd L sub) (E : eB L sub) : ∀ (n p md : Nat) (c : List Nat) (w : Nat), p ≤ L → md ≤ 60 → aLp T L op sub n p md c = .error w → 0 < w ∧ w ≤ 8 * L + 5 := by
  intro n
  induction n with
  | zero => intro p md c w hp hd h; unfold aLp at h; cases h
  | succ n ih =>
    intro p md c w hp hd h
    have h1 := skp_le (T := T) hp
    unfold aLp at h
    split at h
    · cases h
    · next s hs =>
      have h3 := chr_lt hs
      split at h
      · next w' hw => cases h; exact E _ _ _ _ (by omega) hd hw
      · next r' hr =>
        obtain ⟨a1, a2, a3, a4⟩ := S _ _ _ _ (by omega) hd hr
        exact ih _ _ _ _ a2 a3 h
theorem aBin_eb {T : Nat → Nat} {L : Nat} {op : Nat → Option Nat} {sub : Nat → Nat → List Nat → Except Nat (Nat × Nat × List Nat)} (S : aGd L sub) (E : eB L sub) : eB L (aBin T L op sub) := by
  intro p md c w hp hd h
  unfold aBin at h
  split at h
  · next w' hw => cases h; exact E _ _ _ _ hp hd hw
  · next r' hr =>
    obtain ⟨a1, a2, a3, a4⟩ := S _ _ _ _ hp hd hr
    exact aLp_eb S E _ _ _ _ _ a2 a3 h
theorem aTer_eb {T : Nat → Nat} {L : Nat} : eB L (aTer T L) := aBin_eb aVal_gd aVal_eb
theorem aSum_eb {T : Nat → Nat} {L : Nat} : eB L (aSum T L) := aBin_eb aTer_gd aTer_eb
theorem aCmp_eb {T : Nat → Nat} {L : Nat} : eB L (aCmp T L) := by
  intro p md c w hp hd h
  unfold aCmp at h
  split at h
  · next w' hw => cases h; exact aSum_eb _ _ _ _ hp hd hw
  · next r1 h1 =>
    obtain ⟨a1, a2, a3, a4⟩ := aSum_gd _ _ _ _ hp hd h1
    have g1 := skp_le (T := T) a2
    split at h
    · cases h; exact fW_b g1 (by omega)
    · next x hx =>
      have g2 := chr_lt hx
      have g3 := aAl_lt (T := T) (x := x) g2
      split at h
      · cases h; exact fW_b g1 (by omega)
      · split at h
        · next w' hw => cases h; exact aSum_eb _ _ _ _ g3 (show r1.2.1 + 1 ≤ 60 by omega) hw
        · cases h
theorem afc_eb {T : Nat → Nat} {L : Nat} : ∀ (n p md : Nat) (c st : List Nat) (w : Nat), p ≤ L → md ≤ 60 → afc T L n p md c st = .error w → 0 < w ∧ w ≤ 8 * L + 5 := by
  intro n
  induction n with
  | zero => intro p md c st w _ _ h; unfold afc at h; cases h; omega
  | succ n ih =>
    intro p md c st w hp hd h
    have h1 := skp_le (T := T) hp
    unfold afc at h
    split at h
    · split at h
      · cases h; exact fW_b h1 (by omega)
      · exact ih _ _ _ _ _ (lnd_le h1) hd h
    · split at h
      · next g =>
        have hq : skp T L p < L := by
          unfold chr at g
          split at g
          · assumption
          · cases g
        split at h
        · cases h; exact fW_b h1 (by omega)
        · exact ih _ _ _ _ _ (show skp T L p + 1 ≤ L by omega) hd h
      · split at h
        · next w' hw => cases h; exact aCmp_eb _ _ _ _ h1 hd hw
        · cases h
theorem ats_eb {T : Nat → Nat} {L : Nat} : ∀ (n p md : Nat) (c st : List Nat) (w : Nat), p ≤ L → md ≤ 60 → okS st → dpt st ≤ 10 → c.length + st.length ≤ p → ats T L n p md c st = .error w → 0 < w ∧ w ≤ 8 * L + 5 := by
  intro n
  induction n with
  | zero => intro p md c st w _ _ _ _ _ h; unfold ats at h; cases h; omega
  | succ n ih =>
    intro p md c st w hp hd hs hdp hl h
    unfold ats at h
    split at h
    · next w' hw => cases h; exact afc_eb _ _ _ _ _ _ hp hd hw
    · next r1 hv =>
      obtain ⟨⟨a1, a2, a3⟩, a4, a5, a6⟩ := afc_gd _ _ _ _ _ _ hp hd hs hdp hl hv
      obtain ⟨⟨u1, u2, u3⟩, u4, u5, u6⟩ := acls_gd (T := T) a2 a5 a4
      generalize (acls T L r1.1.1 r1.1.2.2 r1.2).1 = q at *
      generalize (acls T L r1.1.1 r1.1.2.2 r1.2).2.1 = c1 at *
      generalize (acls T L r1.1.1 r1.1.2.2 r1.2).2.2 = st1 at *
      have b3 := lnd_le (T := T) u2
      split at h
      · next g1 =>
        have b4 := isW_lt g1
        have l2 := ly_len (k := 2) st1
        have d2 := dpt_ly (k := 2) (st := st1)
        exact ih _ _ _ _ _ b3 a3 (show okS (12 :: lyR 2 st1) from ⟨Or.inr (Or.inl rfl), okS_ly u5⟩) (show dpt (lyR 2 st1) + 0 ≤ 10 by omega) (by rw [List.length_cons, List.length_append]; omega) h
      · split at h
        · next g1 =>
          have b4 := isW_lt g1
          have l2 := ly_len (k := 1) st1
          have d2 := dpt_ly (k := 1) (st := st1)
          exact ih _ _ _ _ _ b3 a3 (show okS (13 :: lyR 1 st1) from ⟨Or.inr (Or.inr (Or.inl rfl)), okS_ly u5⟩) (show dpt (lyR 1 st1) + 0 ≤ 10 by omega) (by rw [List.length_cons, List.length_append]; omega) h
        · split at h
          · cases h; exact fW_b u2 (by omega)
          · cases h
theorem aTry_eb {T : Nat → Nat} {L p md w : Nat} {c : List Nat} (hp : p ≤ L) (hd : md ≤ 60) (hl : c.length ≤ p) (h : aTry T L p md c = .error w) : 0 < w ∧ w ≤ 8 * L + 5 := by
  unfold aTry at h
  split at h
  · next w' hw => cases h; exact aSum_eb _ _ _ _ hp hd hw
  · next r hr =>
    obtain ⟨a1, a2, a3, a4⟩ := aSum_gd _ _ _ _ hp hd hr
    have h1 := skp_le (T := T) a2
    have h2 := skp_ge (T := T) (L := L) (p := r.1)
    split at h
    · next g1 =>
      have b4 := isW_lt g1
      split at h
      · next w' hw =>
        cases h
        exact ats_eb _ _ _ _ _ _ (lnd_le h1) a3 (show okS [] from trivial) (show dpt [] ≤ 10 from Nat.zero_le _) (by rw [List.length_nil]; omega) hw
      · cases h
    · cases h
theorem aTry_gd {T : Nat → Nat} {L p md : Nat} {c : List Nat} {r : (Nat × Nat × List Nat) × (Nat × Nat × Option (Nat × Nat))} (hp : p ≤ L) (hd : md ≤ 60) (hl : c.length ≤ p) (h : aTry T L p md c = .ok r) : p < r.1.1 ∧ r.1.1 ≤ L ∧ r.1.2.1 ≤ 60 ∧ r.1.2.2.length ≤ r.1.1 := by
  unfold aTry at h
  split at h
  · cases h
  · next r1 hr =>
    obtain ⟨a1, a2, a3, a4⟩ := aSum_gd _ _ _ _ hp hd hr
    have h1 := skp_le (T := T) a2
    have h2 := skp_ge (T := T) (L := L) (p := r1.1)
    split at h
    · next g1 =>
      have b4 := isW_lt g1
      split at h
      · cases h
      · next r2 hw =>
        obtain ⟨c1, c2, c3, c4⟩ := ats_gd _ _ _ _ _ _ (lnd_le h1) a3 (show okS [] from trivial) (show dpt [] ≤ 10 from Nat.zero_le _) (by rw [List.length_nil]; omega) hw
        cases h
        exact ⟨show p < r2.1 by omega, c2, c3, c4⟩
    · cases h
      exact ⟨show p < skp T L r1.1 by omega, h1, a3, show r1.2.2.length ≤ skp T L r1.1 by omega⟩
/-- a clause of a rule, from its word on; k: how many there are -/
def aCls (T : Nat → Nat) (L p md : Nat) (c : List Nat) (k : Nat) : Except Nat ((Nat × Nat × List Nat) × (Nat × Nat × Option (Nat × Nat))) := if isW T L (skp T L p) 7631481 then (if k = 12 then .error (fW 0 4 (skp T L p)) else aTry T L (lnd T L (skp T L p)) md c) else .error (fW 0 0 (skp T L p))
def zOut (Q : Option Value → jH → Prop) (g : jH) (m t : Nat) (cl0 cs : Nat → Int32) (K : List (Nat × Nat × Option (Nat × Nat))) : Except Nat ((Nat × Nat × List Nat) × (Nat × Nat × Option (Nat × Nat))) → Prop
  | .ok r => ∀ nb f dp od cl, clR cl0 cl t (K ++ [r.2]) → Q (some (.int 1)) (pH (rG (kG g m cl (upd cs t (nI (K.length + 1))) f) m t r.1.2.2) m r.1.1 0 nb r.1.2.1 dp (K.length + 1) od)
  | .error w => ∀ nx nb md c f dp li od cl, (∀ i, i < 48 * t ∨ 48 * t + 48 ≤ i → cl i = cl0 i) → Q (some (.int 0)) (pH (rG (kG g m cl cs f) m t c) m nx w nb md dp li od)
theorem t_ne6 : ∀ t, t < 6 → ¬ nI t = (6 : Int32) := by decide
section
variable {g : jH} {m : Nat} {d : Nat} {Q : Option Value → jH → Prop} {T : Nat → Nat} {L nx wr nb md dp li od t : Nat} {c : List Nat} {f : Nat → Int32}
theorem c147j {l1 l2 : Option Value} {v : Int32} {h : jH} (hv : v = 0 ∨ v = 1) : jW d 147 107 [some (.ref m), l1, l2] [.int v] h Q ↔ Q (some (.int v)) h := s147_107 hv
/-- clauseHere, of a rule -/
theorem c147r (X : pX g m T L) (ht : jI g m 11 = nI t) (ht6 : t < 6) (hn : nx ≤ L) (hd : md ≤ 60) (hl : c.length ≤ nx) {cl0 cl cs : Nat → Int32} {K : List (Nat × Nat × Option (Nat × Nat))} (hK : K.length ≤ 12) (R : clR cl0 cl t K) (hcs : cs t = nI K.length) (hQ : zOut Q g m t cl0 cs K (aCls T L nx md c K.length)) : jC (d + 11) 147 [.ref m] (pH (rG (kG g m cl cs f) m t c) m nx 0 nb md dp K.length od) Q := by
  rw [e147]
  have H := X.1
  have hm : jK g m = (32, 43) := H.1
  have X' : pX (rG (kG g m cl cs f) m t c) m T L := rG_X (kX X)
  have hp0 := skp_le (T := T) hn
  have hp1 := skp_ge (T := T) (L := L) (p := nx)
  have hid := skp_id (T := T) hn
  have htr : jI (rG (kG g m cl cs f) m t c) m 11 = nI t := by rw [rG_m]; exact kt ht
  have cs1 := fun Q => @c148 (rG (kG g m cl cs f) m t c) m (d + 9) Q T L nx 0 nb md dp K.length od X' hn
  have cw := fun Q => @c150 (rG (kG g m cl cs f) m t c) m (d + 8) Q T L (skp T L nx) 0 nb md dp K.length od X' hp0 7631481
  rw [hid] at cw
  unfold aCls at hQ
  simp (config := { decide := true }) (disch := (first | assumption | omega | (simp (config := { decide := true }) only [hm, jK_pH, jK_rG, jK_kG, jK_wI, jK_wJ, jK_wR, jK_wr, jR_wr, jR_wI, jR_wJ]; done) | (simp only [hm, jK_pH, jK_rG, jK_kG, jK_wI, jK_wJ, jK_wR, jK_wr, jR_wr, jR_wI, jR_wJ]; refine jinb_nI ?_ ?_ <;> omega) | (refine jinb_nI ?_ ?_ <;> omega))) only [s147_0, s147_1, s147_4, s147_5, s147_6, s147_9, jK_pH, jR_pH, pH_m, pH_c, pF_1, pF_2, pF_8, pF_9, pF_10, pF_11, pF_12, pF_13, pF_14, pF_16, pF_w8, pF_w9, pF_w10, pF_w12, pF_w13, pF_w14, pF_w16, pH_wm, cs1, va_rf_some, va_rf_none, jK_wI, jR_wI, jJ_wI, jK_wJ, jR_wJ, jI_wJ, jK_wR, jI_wR, jJ_wR, jK_wr, jR_wr, jJ_wr, jcl1_i, jcl1_r, jcl1_z, jcl1_n, jcl1_l, jwI_row, jwr_jwr, jwr_cm, jwr_cc, upd_upd, jI_wr_s, jI_wr_a, jI_wr_b, jI_wr_c, mInv_wr, upd_s, upd_n, Option.toList, List.cons_append, List.nil_append, true_or, or_true, eq_self, and_self, ite_true, ite_false, if_true, if_false, jinb_nI, nI_clamp, tc0, tc1, tc2, tc3, tc4, tc5, tc6, tc7, tc8, tc9, tc10, tc11, tc12, tc13, tc14, tc15, tc16, tc17, tc18, tc19, tc20, tc21, tc22, tc23, tc24, tc25, tc26, tc27, tc28, tc29, tc30, tc31, tc32, tc33, tc34, tc35, tc36, tc37, tc38, tc39, tc40, tc41, tc42, tc43, tc44, tc45, tc46, tc47, tc48, tc49, tc50, tc51, tc52, tc53, tc54, tc55, tc56, tc57, tc58, tc59, tc60, tc61, tc62, tc63, tc64, tc65, tc66, tc67, tc68, tc69, tc77, tc83, tc119, tc159, tc160, nI_add, al0, ar0, ml0, mr0, al1, ar1, ml1, mr1, al2, ar2, ml2, mr2, al3, ar3, ml3, mr3, al4, ar4, ml4, mr4, al5, ar5, ml5, mr5, al6, ar6, ml6, mr6, al8, ar8, ml8, mr8, al10, ar10, ml10, mr10, al11, ar11, ml11, mr11, al12, ar12, ml12, mr12, al13, ar13, ml13, mr13, al16, ar16, ml16, mr16, al20, ar20, ml20, mr20, al24, ar24, ml24, mr24, al29, ar29, ml29, mr29, al36, ar36, ml36, mr36, al42, ar42, ml42, mr42, al48, ar48, ml48, mr48, al55, ar55, ml55, mr55, al60, ar60, ml60, mr60, al65, ar65, ml65, mr65, al77, ar77, ml77, mr77, al83, ar83, ml83, mr83, al119, ar119, ml119, mr119, al159, ar159, ml159, mr159, al160, ar160, ml160, mr160, al400, ar400, ml400, mr400, hm, jK_pH, jK_rG, jK_kG]
  generalize skp T L nx = q at *
  have n6 := t_ne6 t ht6
  cases g1 : isW T L q 7631481 with
  | false =>
    rw [g1, if_neg (by decide)] at hQ
    rw [g1] at cw
    have cf := fun Q => @c152 (rG (kG g m cl cs f) m t c) m (d + 9) Q q 0 nb md dp K.length od H 0 q (by omega)
    rw [nI_0] at cf
    simp (config := { decide := true }) (disch := (first | assumption | omega | (simp (config := { decide := true }) only [hm, jK_pH, jK_rG, jK_kG, jK_wI, jK_wJ, jK_wR, jK_wr, jR_wr, jR_wI, jR_wJ]; done) | (simp only [hm, jK_pH, jK_rG, jK_kG, jK_wI, jK_wJ, jK_wR, jK_wr, jR_wr, jR_wI, jR_wJ]; refine jinb_nI ?_ ?_ <;> omega) | (refine jinb_nI ?_ ?_ <;> omega))) only [s147_10, s147_11, s147_14, s147_16, s147_23, s147_24, s147_25, s147_26, s147_39, s147_40, s147_43, s147_46, s147_49, s147_50, s147_51, s147_52, s147_55, jK_pH, jR_pH, pH_m, pH_c, pF_1, pF_2, pF_8, pF_9, pF_10, pF_11, pF_12, pF_13, pF_14, pF_16, pF_w8, pF_w9, pF_w10, pF_w12, pF_w13, pF_w14, pF_w16, pH_wm, htr, n6, cw, cf, va_rf_some, va_rf_none, jK_wI, jR_wI, jJ_wI, jK_wJ, jR_wJ, jI_wJ, jK_wR, jI_wR, jJ_wR, jK_wr, jR_wr, jJ_wr, jcl1_i, jcl1_r, jcl1_z, jcl1_n, jcl1_l, jwI_row, jwr_jwr, jwr_cm, jwr_cc, upd_upd, jI_wr_s, jI_wr_a, jI_wr_b, jI_wr_c, mInv_wr, upd_s, upd_n, Option.toList, List.cons_append, List.nil_append, true_or, or_true, eq_self, and_self, ite_true, ite_false, if_true, if_false, jinb_nI, nI_clamp, tc0, tc1, tc2, tc3, tc4, tc5, tc6, tc7, tc8, tc9, tc10, tc11, tc12, tc13, tc14, tc15, tc16, tc17, tc18, tc19, tc20, tc21, tc22, tc23, tc24, tc25, tc26, tc27, tc28, tc29, tc30, tc31, tc32, tc33, tc34, tc35, tc36, tc37, tc38, tc39, tc40, tc41, tc42, tc43, tc44, tc45, tc46, tc47, tc48, tc49, tc50, tc51, tc52, tc53, tc54, tc55, tc56, tc57, tc58, tc59, tc60, tc61, tc62, tc63, tc64, tc65, tc66, tc67, tc68, tc69, tc77, tc83, tc119, tc159, tc160, nI_add, al0, ar0, ml0, mr0, al1, ar1, ml1, mr1, al2, ar2, ml2, mr2, al3, ar3, ml3, mr3, al4, ar4, ml4, mr4, al5, ar5, ml5, mr5, al6, ar6, ml6, mr6, al8, ar8, ml8, mr8, al10, ar10, ml10, mr10, al11, ar11, ml11, mr11, al12, ar12, ml12, mr12, al13, ar13, ml13, mr13, al16, ar16, ml16, mr16, al20, ar20, ml20, mr20, al24, ar24, ml24, mr24, al29, ar29, ml29, mr29, al36, ar36, ml36, mr36, al42, ar42, ml42, mr42, al48, ar48, ml48, mr48, al55, ar55, ml55, mr55, al60, ar60, ml60, mr60, al65, ar65, ml65, mr65, al77, ar77, ml77, mr77, al83, ar83, ml83, mr83, al119, ar119, ml119, mr119, al159, ar159, ml159, mr159, al160, ar160, ml160, mr160, al400, ar400, ml400, mr400, hm, jK_pH, jK_rG, jK_kG]
    exact hQ _ _ _ _ _ _ _ _ _ R.1
  | true =>
    rw [g1, if_pos rfl] at hQ
    rw [g1] at cw
    have b4 := isW_lt g1
    by_cases e12 : K.length = 12
    · rw [if_pos e12] at hQ
      have cf := fun Q => @c152 (rG (kG g m cl cs f) m t c) m (d + 9) Q q 0 nb md dp K.length od H 4 q (by omega)
      rw [show nI 4 = 4 from rfl] at cf
      have e' : ¬ ¬ nI K.length = (12 : Int32) := by rw [e12]; decide
      simp (config := { decide := true }) (disch := (first | assumption | omega | (simp (config := { decide := true }) only [hm, jK_pH, jK_rG, jK_kG, jK_wI, jK_wJ, jK_wR, jK_wr, jR_wr, jR_wI, jR_wJ]; done) | (simp only [hm, jK_pH, jK_rG, jK_kG, jK_wI, jK_wJ, jK_wR, jK_wr, jR_wr, jR_wI, jR_wJ]; refine jinb_nI ?_ ?_ <;> omega) | (refine jinb_nI ?_ ?_ <;> omega))) only [s147_10, s147_11, s147_14, s147_16, s147_23, s147_24, s147_25, s147_26, s147_39, s147_40, s147_43, s147_46, s147_56, s147_57, s147_60, s147_61, s147_69, s147_71, s147_74, s147_75, s147_76, s147_77, s147_80, jK_pH, jR_pH, pH_m, pH_c, pF_1, pF_2, pF_8, pF_9, pF_10, pF_11, pF_12, pF_13, pF_14, pF_16, pF_w8, pF_w9, pF_w10, pF_w12, pF_w13, pF_w14, pF_w16, pH_wm, htr, n6, cw, if_neg e', cf, va_rf_some, va_rf_none, jK_wI, jR_wI, jJ_wI, jK_wJ, jR_wJ, jI_wJ, jK_wR, jI_wR, jJ_wR, jK_wr, jR_wr, jJ_wr, jcl1_i, jcl1_r, jcl1_z, jcl1_n, jcl1_l, jwI_row, jwr_jwr, jwr_cm, jwr_cc, upd_upd, jI_wr_s, jI_wr_a, jI_wr_b, jI_wr_c, mInv_wr, upd_s, upd_n, Option.toList, List.cons_append, List.nil_append, true_or, or_true, eq_self, and_self, ite_true, ite_false, if_true, if_false, jinb_nI, nI_clamp, tc0, tc1, tc2, tc3, tc4, tc5, tc6, tc7, tc8, tc9, tc10, tc11, tc12, tc13, tc14, tc15, tc16, tc17, tc18, tc19, tc20, tc21, tc22, tc23, tc24, tc25, tc26, tc27, tc28, tc29, tc30, tc31, tc32, tc33, tc34, tc35, tc36, tc37, tc38, tc39, tc40, tc41, tc42, tc43, tc44, tc45, tc46, tc47, tc48, tc49, tc50, tc51, tc52, tc53, tc54, tc55, tc56, tc57, tc58, tc59, tc60, tc61, tc62, tc63, tc64, tc65, tc66, tc67, tc68, tc69, tc77, tc83, tc119, tc159, tc160, nI_add, al0, ar0, ml0, mr0, al1, ar1, ml1, mr1, al2, ar2, ml2, mr2, al3, ar3, ml3, mr3, al4, ar4, ml4, mr4, al5, ar5, ml5, mr5, al6, ar6, ml6, mr6, al8, ar8, ml8, mr8, al10, ar10, ml10, mr10, al11, ar11, ml11, mr11, al12, ar12, ml12, mr12, al13, ar13, ml13, mr13, al16, ar16, ml16, mr16, al20, ar20, ml20, mr20, al24, ar24, ml24, mr24, al29, ar29, ml29, mr29, al36, ar36, ml36, mr36, al42, ar42, ml42, mr42, al48, ar48, ml48, mr48, al55, ar55, ml55, mr55, al60, ar60, ml60, mr60, al65, ar65, ml65, mr65, al77, ar77, ml77, mr77, al83, ar83, ml83, mr83, al119, ar119, ml119, mr119, al159, ar159, ml159, mr159, al160, ar160, ml160, mr160, al400, ar400, ml400, mr400, hm, jK_pH, jK_rG, jK_kG]
      exact hQ _ _ _ _ _ _ _ _ _ R.1
    · rw [if_neg e12] at hQ
      have e' : ¬ nI K.length = (12 : Int32) := fun z => e12 ((nI_eq (b := 12) (by omega) (by omega)).mp z)
      simp (config := { decide := true }) (disch := (first | assumption | omega | (simp (config := { decide := true }) only [hm, jK_pH, jK_rG, jK_kG, jK_wI, jK_wJ, jK_wR, jK_wr, jR_wr, jR_wI, jR_wJ]; done) | (simp only [hm, jK_pH, jK_rG, jK_kG, jK_wI, jK_wJ, jK_wR, jK_wr, jR_wr, jR_wI, jR_wJ]; refine jinb_nI ?_ ?_ <;> omega) | (refine jinb_nI ?_ ?_ <;> omega))) only [s147_10, s147_11, s147_14, s147_16, s147_23, s147_24, s147_25, s147_26, s147_39, s147_40, s147_43, s147_46, s147_56, s147_57, s147_60, s147_61, s147_69, s147_71, s147_81, s147_82, s147_83, s147_86, s147_87, s147_88, s147_91, s147_92, s147_103, s147_104, jK_pH, jR_pH, pH_m, pH_c, pF_1, pF_2, pF_8, pF_9, pF_10, pF_11, pF_12, pF_13, pF_14, pF_16, pF_w8, pF_w9, pF_w10, pF_w12, pF_w13, pF_w14, pF_w16, pH_wm, htr, n6, cw, e', va_rf_some, va_rf_none, jK_wI, jR_wI, jJ_wI, jK_wJ, jR_wJ, jI_wJ, jK_wR, jI_wR, jJ_wR, jK_wr, jR_wr, jJ_wr, jcl1_i, jcl1_r, jcl1_z, jcl1_n, jcl1_l, jwI_row, jwr_jwr, jwr_cm, jwr_cc, upd_upd, jI_wr_s, jI_wr_a, jI_wr_b, jI_wr_c, mInv_wr, upd_s, upd_n, Option.toList, List.cons_append, List.nil_append, true_or, or_true, eq_self, and_self, ite_true, ite_false, if_true, if_false, jinb_nI, nI_clamp, tc0, tc1, tc2, tc3, tc4, tc5, tc6, tc7, tc8, tc9, tc10, tc11, tc12, tc13, tc14, tc15, tc16, tc17, tc18, tc19, tc20, tc21, tc22, tc23, tc24, tc25, tc26, tc27, tc28, tc29, tc30, tc31, tc32, tc33, tc34, tc35, tc36, tc37, tc38, tc39, tc40, tc41, tc42, tc43, tc44, tc45, tc46, tc47, tc48, tc49, tc50, tc51, tc52, tc53, tc54, tc55, tc56, tc57, tc58, tc59, tc60, tc61, tc62, tc63, tc64, tc65, tc66, tc67, tc68, tc69, tc77, tc83, tc119, tc159, tc160, nI_add, al0, ar0, ml0, mr0, al1, ar1, ml1, mr1, al2, ar2, ml2, mr2, al3, ar3, ml3, mr3, al4, ar4, ml4, mr4, al5, ar5, ml5, mr5, al6, ar6, ml6, mr6, al8, ar8, ml8, mr8, al10, ar10, ml10, mr10, al11, ar11, ml11, mr11, al12, ar12, ml12, mr12, al13, ar13, ml13, mr13, al16, ar16, ml16, mr16, al20, ar20, ml20, mr20, al24, ar24, ml24, mr24, al29, ar29, ml29, mr29, al36, ar36, ml36, mr36, al42, ar42, ml42, mr42, al48, ar48, ml48, mr48, al55, ar55, ml55, mr55, al60, ar60, ml60, mr60, al65, ar65, ml65, mr65, al77, ar77, ml77, mr77, al83, ar83, ml83, mr83, al119, ar119, ml119, mr119, al159, ar159, ml159, mr159, al160, ar160, ml160, mr160, al400, ar400, ml400, mr400, hm, jK_pH, jK_rG, jK_kG]
      refine @c164 g m d _ T L q nb md dp (K.length + 1) od t c f X ht ht6 hp0 hd (by omega) cl0 cl cs K (by omega) R hcs ?_
      cases hv : aTry T L (lnd T L q) md c with
      | error w =>
        rw [hv] at hQ
        intro nx nb md c f dp od cl hfr
        show jW (d + 10) 147 107 _ [.int 0] _ Q
        rw [c147j (Or.inl rfl)]
        exact hQ _ _ _ _ _ _ _ _ _ hfr
      | ok r =>
        rw [hv] at hQ
        intro nb f dp od cl hR
        show jW (d + 10) 147 107 _ [.int 1] _ Q
        rw [c147j (Or.inr rfl)]
        exact hQ _ _ _ _ _ hR
end
