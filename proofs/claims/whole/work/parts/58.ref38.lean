/-! THE REFERENCE READS: a rule's text -/
def aRul (T : Nat → Nat) (L : Nat) : Nat → Nat → Nat → List Nat → List (Nat × Nat × Option (Nat × Nat)) → Except Nat (List Nat × List (Nat × Nat × Option (Nat × Nat)))
  | 0, _, _, _, _ => .error 1
  | n + 1, p, md, c, K => match aCls T L p md c K.length with
    | .error w => .error w
    | .ok r => if chr T L (skp T L r.1.1) = some 59 then aRul T L n (skp T L r.1.1 + 1) r.1.2.1 r.1.2.2 (K ++ [r.2]) else if chr T L (skp T L r.1.1) = none then .ok (r.1.2.2, K ++ [r.2]) else .error (fW 0 0 (skp T L r.1.1))
def bz (g : jH) (m j : Nat) (v : Int32) : jH := jwr g m (upd (jI g m) j v)
section
variable {g : jH} {m j : Nat} {v : Int32} {a b c e f k l : Nat}
theorem pF_bz {F : Nat → Int32} (hj : j ≠ 8 ∧ j ≠ 9 ∧ j ≠ 10 ∧ j ≠ 12 ∧ j ≠ 13 ∧ j ≠ 14 ∧ j ≠ 16) : upd (pF F a b c e f k l) j v = pF (upd F j v) a b c e f k l := by
  funext i
  unfold upd pF
  by_cases h : i = j
  · subst h
    rw [if_pos rfl, if_neg hj.1, if_neg hj.2.1, if_neg hj.2.2.1, if_neg hj.2.2.2.1, if_neg hj.2.2.2.2.1, if_neg hj.2.2.2.2.2.1, if_neg hj.2.2.2.2.2.2]
    exact (if_pos rfl).symm
  · rw [if_neg h]
    dsimp only
    rw [if_neg h]
theorem pH_bz (hj : j ≠ 8 ∧ j ≠ 9 ∧ j ≠ 10 ∧ j ≠ 12 ∧ j ≠ 13 ∧ j ≠ 14 ∧ j ≠ 16) : bz (pH g m a b c e f k l) m j v = pH (bz g m j v) m a b c e f k l := by
  unfold bz
  rw [pH_m, pF_bz hj]
  unfold pH
  rw [jwr_jwr, jwr_jwr, jI_wr_s]
theorem rG_bz {t : Nat} {c : List Nat} : bz (rG g m t c) m j v = rG (bz g m j v) m t c := by
  unfold bz
  rw [rG_m]
  unfold rG
  rw [jwr_com (show m + 3 ≠ m by omega), jwr_com (show m + 2 ≠ m by omega), jI_wr_b (by omega), jI_wr_b (by omega)]
theorem kG_bz {cl cs x : Nat → Int32} : bz (kG g m cl cs x) m j v = kG (bz g m j v) m cl cs x := by
  unfold bz
  rw [kG_m]
  unfold kG
  rw [jwr_com (show m + 7 ≠ m by omega), jwr_com (show m + 5 ≠ m by omega), jwr_com (show m + 4 ≠ m by omega)]
theorem bz_w : jwI g m j v = bz g m j v := jwI_row
theorem rG_nil {t : Nat} : rG g m t [] = jwr g (m + 3) (upd (jI g (m + 3)) t 0) := by
  have e : pSg (jI g (m + 2)) t [] = jI g (m + 2) := jput_0 _ _ _
  unfold rG
  rw [e, jwr_self]
  rfl
theorem kG_self : kG g m (jI g (m + 4)) (jI g (m + 5)) (jI g (m + 7)) = g := by
  unfold kG
  rw [jwr_self, jwr_self, jwr_self]
end
theorem oI_none {o : Option Nat} (ho : ∀ x, o = some x → x < 256) : oI o = -1 ↔ o = none := by
  cases o with
  | none => exact ⟨fun _ => rfl, fun _ => rfl⟩
  | some x =>
    have := ho x rfl
    refine ⟨fun q => ?_, fun q => by cases q⟩
    have n : ∀ x, x < 256 → ¬ nI x = (-1 : Int32) := by decide +kernel
    exact absurd q (n x this)
def uOut (Q : Option Value → jH → Prop) (g : jH) (m t : Nat) (cl0 cs : Nat → Int32) : Except Nat (List Nat × List (Nat × Nat × Option (Nat × Nat))) → Prop
  | .ok r => ∀ nx nb md dp li od f cl, clR cl0 cl t r.2 → Q (some (.int 1)) (pH (rG (kG (bz g m 1 0) m cl (upd cs t (nI r.2.length)) f) m t r.1) m nx 0 nb md dp li od)
  | .error w => ∀ nx nb md c dp li od f cl n, (∀ i, i < 48 * t ∨ 48 * t + 48 ≤ i → cl i = cl0 i) → Q (some (.int 0)) (pH (rG (kG (bz g m 1 0) m cl (upd cs t (nI n)) f) m t c) m nx w nb md dp li od)
section
variable {g : jH} {m : Nat} {d : Nat} {Q : Option Value → jH → Prop} {T : Nat → Nat} {L nx wr nb md dp li od t : Nat} {c : List Nat} {f : Nat → Int32}
/-- the end of reading -/
theorem c146e (H : mInv g m) {cl cs : Nat → Int32} {w : Nat} (hw : w < 10000) {x1 : Option Value} (hQ : Q (some (.int (if w = 0 then 1 else 0))) (pH (rG (kG (bz g m 1 0) m cl cs f) m t c) m nx w nb md dp li od)) : jW d 146 88 [some (.ref m), x1] [] (pH (rG (kG g m cl cs f) m t c) m nx w nb md dp li od) Q := by
  have hm : jK g m = (32, 43) := H.1
  rw [s146_88, s146_89, s146_90 (by rw [jK_pH, jK_rG, jK_kG, hm]), bz_w, pH_bz (by decide), rG_bz, kG_bz]
  have hm' : jK (bz g m 1 0) m = (32, 43) := H.1
  by_cases z : w = 0
  · subst z
    rw [if_pos rfl] at hQ
    simp (config := { decide := true }) (disch := (first | assumption | omega | (simp (config := { decide := true }) only [hm', jK_pH, jK_rG, jK_kG, jK_wI, jK_wJ, jK_wR, jK_wr, jR_wr, jR_wI, jR_wJ]; done) | (simp only [hm', jK_pH, jK_rG, jK_kG, jK_wI, jK_wJ, jK_wR, jK_wr, jR_wr, jR_wI, jR_wJ]; refine jinb_nI ?_ ?_ <;> omega) | (refine jinb_nI ?_ ?_ <;> omega))) only [s146_93, s146_94, s146_97, s146_100, s146_101, s146_105, jK_pH, jR_pH, pH_m, pH_c, pF_1, pF_2, pF_8, pF_9, pF_10, pF_11, pF_12, pF_13, pF_14, pF_16, pF_w8, pF_w9, pF_w10, pF_w12, pF_w13, pF_w14, pF_w16, pH_wm, nI_0, va_rf_some, va_rf_none, jK_wI, jR_wI, jJ_wI, jK_wJ, jR_wJ, jI_wJ, jK_wR, jI_wR, jJ_wR, jK_wr, jR_wr, jJ_wr, jcl1_i, jcl1_r, jcl1_z, jcl1_n, jcl1_l, jwI_row, jwr_jwr, jwr_cm, jwr_cc, upd_upd, jI_wr_s, jI_wr_a, jI_wr_b, jI_wr_c, mInv_wr, upd_s, upd_n, Option.toList, List.cons_append, List.nil_append, true_or, or_true, eq_self, and_self, ite_true, ite_false, if_true, if_false, jinb_nI, nI_clamp, tc0, tc1, tc2, tc3, tc4, tc5, tc6, tc7, tc8, tc9, tc10, tc11, tc12, tc13, tc14, tc15, tc16, tc17, tc18, tc19, tc20, tc21, tc22, tc23, tc24, tc25, tc26, tc27, tc28, tc29, tc30, tc31, tc32, tc33, tc34, tc35, tc36, tc37, tc38, tc39, tc40, tc41, tc42, tc43, tc44, tc45, tc46, tc47, tc48, tc49, tc50, tc51, tc52, tc53, tc54, tc55, tc56, tc57, tc58, tc59, tc60, tc61, tc62, tc63, tc64, tc65, tc66, tc67, tc68, tc69, tc77, tc83, tc119, tc159, tc160, nI_add, al0, ar0, ml0, mr0, al1, ar1, ml1, mr1, al2, ar2, ml2, mr2, al3, ar3, ml3, mr3, al4, ar4, ml4, mr4, al5, ar5, ml5, mr5, al6, ar6, ml6, mr6, al8, ar8, ml8, mr8, al10, ar10, ml10, mr10, al11, ar11, ml11, mr11, al12, ar12, ml12, mr12, al13, ar13, ml13, mr13, al16, ar16, ml16, mr16, al20, ar20, ml20, mr20, al24, ar24, ml24, mr24, al29, ar29, ml29, mr29, al36, ar36, ml36, mr36, al42, ar42, ml42, mr42, al48, ar48, ml48, mr48, al55, ar55, ml55, mr55, al60, ar60, ml60, mr60, al65, ar65, ml65, mr65, al77, ar77, ml77, mr77, al83, ar83, ml83, mr83, al119, ar119, ml119, mr119, al159, ar159, ml159, mr159, al160, ar160, ml160, mr160, al400, ar400, ml400, mr400, hm', jK_pH, jK_rG, jK_kG]
    exact hQ
  · have z' : ¬ nI w = 0 := nI_ne0 (by omega) (by omega)
    rw [if_neg z] at hQ
    simp (config := { decide := true }) (disch := (first | assumption | omega | (simp (config := { decide := true }) only [hm', jK_pH, jK_rG, jK_kG, jK_wI, jK_wJ, jK_wR, jK_wr, jR_wr, jR_wI, jR_wJ]; done) | (simp only [hm', jK_pH, jK_rG, jK_kG, jK_wI, jK_wJ, jK_wR, jK_wr, jR_wr, jR_wI, jR_wJ]; refine jinb_nI ?_ ?_ <;> omega) | (refine jinb_nI ?_ ?_ <;> omega))) only [s146_93, s146_94, s146_97, s146_104, s146_105, jK_pH, jR_pH, pH_m, pH_c, pF_1, pF_2, pF_8, pF_9, pF_10, pF_11, pF_12, pF_13, pF_14, pF_16, pF_w8, pF_w9, pF_w10, pF_w12, pF_w13, pF_w14, pF_w16, pH_wm, z', va_rf_some, va_rf_none, jK_wI, jR_wI, jJ_wI, jK_wJ, jR_wJ, jI_wJ, jK_wR, jI_wR, jJ_wR, jK_wr, jR_wr, jJ_wr, jcl1_i, jcl1_r, jcl1_z, jcl1_n, jcl1_l, jwI_row, jwr_jwr, jwr_cm, jwr_cc, upd_upd, jI_wr_s, jI_wr_a, jI_wr_b, jI_wr_c, mInv_wr, upd_s, upd_n, Option.toList, List.cons_append, List.nil_append, true_or, or_true, eq_self, and_self, ite_true, ite_false, if_true, if_false, jinb_nI, nI_clamp, tc0, tc1, tc2, tc3, tc4, tc5, tc6, tc7, tc8, tc9, tc10, tc11, tc12, tc13, tc14, tc15, tc16, tc17, tc18, tc19, tc20, tc21, tc22, tc23, tc24, tc25, tc26, tc27, tc28, tc29, tc30, tc31, tc32, tc33, tc34, tc35, tc36, tc37, tc38, tc39, tc40, tc41, tc42, tc43, tc44, tc45, tc46, tc47, tc48, tc49, tc50, tc51, tc52, tc53, tc54, tc55, tc56, tc57, tc58, tc59, tc60, tc61, tc62, tc63, tc64, tc65, tc66, tc67, tc68, tc69, tc77, tc83, tc119, tc159, tc160, nI_add, al0, ar0, ml0, mr0, al1, ar1, ml1, mr1, al2, ar2, ml2, mr2, al3, ar3, ml3, mr3, al4, ar4, ml4, mr4, al5, ar5, ml5, mr5, al6, ar6, ml6, mr6, al8, ar8, ml8, mr8, al10, ar10, ml10, mr10, al11, ar11, ml11, mr11, al12, ar12, ml12, mr12, al13, ar13, ml13, mr13, al16, ar16, ml16, mr16, al20, ar20, ml20, mr20, al24, ar24, ml24, mr24, al29, ar29, ml29, mr29, al36, ar36, ml36, mr36, al42, ar42, ml42, mr42, al48, ar48, ml48, mr48, al55, ar55, ml55, mr55, al60, ar60, ml60, mr60, al65, ar65, ml65, mr65, al77, ar77, ml77, mr77, al83, ar83, ml83, mr83, al119, ar119, ml119, mr119, al159, ar159, ml159, mr159, al160, ar160, ml160, mr160, al400, ar400, ml400, mr400, hm', jK_pH, jK_rG, jK_kG]
    exact hQ
def q35 (d m : Nat) (Q : Option Value → jH → Prop) : Option Value → jH → Prop
  | some (.int v), h => jW d 146 35 [some (.ref m), some (.int v)] [] h Q
  | _, _ => False
theorem aCls_eb {T : Nat → Nat} {L p md k w : Nat} {c : List Nat} (hp : p ≤ L) (hd : md ≤ 60) (hl : c.length ≤ p) (h : aCls T L p md c k = .error w) : 0 < w ∧ w ≤ 8 * L + 5 := by
  have h1 := skp_le (T := T) hp
  have h2 := skp_ge (T := T) (L := L) (p := p)
  unfold aCls at h
  split at h
  · next g =>
    have b4 := isW_lt g
    split at h
    · cases h; exact fW_b h1 (by omega)
    · exact aTry_eb (lnd_le h1) hd (by omega) h
  · cases h; exact fW_b h1 (by omega)
theorem aCls_gd {T : Nat → Nat} {L p md k : Nat} {c : List Nat} {r : (Nat × Nat × List Nat) × (Nat × Nat × Option (Nat × Nat))} (hp : p ≤ L) (hd : md ≤ 60) (hl : c.length ≤ p) (h : aCls T L p md c k = .ok r) : p < r.1.1 ∧ r.1.1 ≤ L ∧ r.1.2.1 ≤ 60 ∧ r.1.2.2.length ≤ r.1.1 ∧ k ≠ 12 := by
  have h1 := skp_le (T := T) hp
  have h2 := skp_ge (T := T) (L := L) (p := p)
  unfold aCls at h
  split at h
  · next g =>
    have b4 := isW_lt g
    split at h
    · cases h
    · next hk =>
      obtain ⟨a1, a2, a3, a4⟩ := aTry_gd (lnd_le h1) hd (by omega) h
      exact ⟨by omega, a2, a3, a4, hk⟩
  · cases h
theorem c146l (X : pX g m T L) (ht : jI g m 11 = nI t) (ht6 : t < 6) {cl0 cs0 : Nat → Int32} : ∀ (n p nb md : Nat) (c : List Nat) (K : List (Nat × Nat × Option (Nat × Nat))) (cl f : Nat → Int32) (dp od : Nat), L + 1 - p ≤ n → p ≤ L → md ≤ 60 → c.length ≤ p → K.length ≤ 12 → clR cl0 cl t K → uOut Q g m t cl0 cs0 (aRul T L n p md c K) → jC (d + 11) 147 [.ref m] (pH (rG (kG g m cl (upd cs0 t (nI K.length)) f) m t c) m p 0 nb md dp K.length od) (q35 (d + 11) m Q) := by
  have H := X.1
  have hL4 := X.2.1.2
  have hm : jK g m = (32, 43) := H.1
  intro n
  induction n with
  | zero => intro p nb md c K cl f dp od h1 h2; omega
  | succ n ih =>
    intro p nb md c K cl f dp od hnp hp hd hl hK R hq
    unfold aRul at hq
    refine c147r X ht ht6 hp hd hl hK R upd_s ?_
    cases hv : aCls T L p md c K.length with
    | error w =>
      rw [hv] at hq
      obtain ⟨w1, w2⟩ := aCls_eb hp hd hl hv
      intro nx nb md c f dp li od cl hfr
      show jW (d + 11) 146 35 [some (.ref m), some (.int 0)] [] _ Q
      simp (config := { decide := true }) (disch := (first | assumption | omega | (simp (config := { decide := true }) only [hm, jK_wI, jK_wJ, jK_wR, jK_wr, jR_wr, jR_wI, jR_wJ]; done) | (simp only [hm, jK_wI, jK_wJ, jK_wR, jK_wr, jR_wr, jR_wI, jR_wJ]; refine jinb_nI ?_ ?_ <;> omega) | (refine jinb_nI ?_ ?_ <;> omega))) only [s146_35, s146_36, s146_66, s146_67, va_rf_some, va_rf_none, jK_wI, jR_wI, jJ_wI, jK_wJ, jR_wJ, jI_wJ, jK_wR, jI_wR, jJ_wR, jK_wr, jR_wr, jJ_wr, jcl1_i, jcl1_r, jcl1_z, jcl1_n, jcl1_l, jwI_row, jwr_jwr, jwr_cm, jwr_cc, upd_upd, jI_wr_s, jI_wr_a, jI_wr_b, jI_wr_c, mInv_wr, upd_s, upd_n, Option.toList, List.cons_append, List.nil_append, true_or, or_true, eq_self, and_self, ite_true, ite_false, if_true, if_false, jinb_nI, nI_clamp, tc0, tc1, tc2, tc3, tc4, tc5, tc6, tc7, tc8, tc9, tc10, tc11, tc12, tc13, tc14, tc15, tc16, tc17, tc18, tc19, tc20, tc21, tc22, tc23, tc24, tc25, tc26, tc27, tc28, tc29, tc30, tc31, tc32, tc33, tc34, tc35, tc36, tc37, tc38, tc39, tc40, tc41, tc42, tc43, tc44, tc45, tc46, tc47, tc48, tc49, tc50, tc51, tc52, tc53, tc54, tc55, tc56, tc57, tc58, tc59, tc60, tc61, tc62, tc63, tc64, tc65, tc66, tc67, tc68, tc69, tc77, tc83, tc119, tc159, tc160, nI_add, al0, ar0, ml0, mr0, al1, ar1, ml1, mr1, al2, ar2, ml2, mr2, al3, ar3, ml3, mr3, al4, ar4, ml4, mr4, al5, ar5, ml5, mr5, al6, ar6, ml6, mr6, al8, ar8, ml8, mr8, al10, ar10, ml10, mr10, al11, ar11, ml11, mr11, al12, ar12, ml12, mr12, al13, ar13, ml13, mr13, al16, ar16, ml16, mr16, al20, ar20, ml20, mr20, al24, ar24, ml24, mr24, al29, ar29, ml29, mr29, al36, ar36, ml36, mr36, al42, ar42, ml42, mr42, al48, ar48, ml48, mr48, al55, ar55, ml55, mr55, al60, ar60, ml60, mr60, al65, ar65, ml65, mr65, al77, ar77, ml77, mr77, al83, ar83, ml83, mr83, al119, ar119, ml119, mr119, al159, ar159, ml159, mr159, al160, ar160, ml160, mr160, al400, ar400, ml400, mr400, hm]
      refine c146e H (by omega) ?_
      rw [if_neg (by omega)]
      exact hq _ _ _ _ _ _ _ _ _ _ hfr
    | ok r =>
      rw [hv] at hq
      obtain ⟨a1, a2, a3, a4, a5⟩ := aCls_gd hp hd hl hv
      intro nb f dp od cl hR
      show jW (d + 11) 146 35 [some (.ref m), some (.int 1)] [] _ Q
      replace hq : uOut Q g m t cl0 cs0 (if chr T L (skp T L r.1.1) = some 59 then aRul T L n (skp T L r.1.1 + 1) r.1.2.1 r.1.2.2 (K ++ [r.2]) else if chr T L (skp T L r.1.1) = none then .ok (r.1.2.2, K ++ [r.2]) else .error (fW 0 0 (skp T L r.1.1))) := hq
      rw [upd_upd]
      clear hv
      generalize hp1 : r.1.1 = p1 at *
      generalize hm1 : r.1.2.1 = md1 at *
      generalize hc1 : r.1.2.2 = c1 at *
      generalize hk1 : r.2 = k1 at *
      clear hp1 hm1 hc1 hk1
      have hp0 := skp_le (T := T) a2
      have hp1 := skp_ge (T := T) (L := L) (p := p1)
      have hid := skp_id (T := T) a2
      have X' : pX (rG (kG g m cl (upd cs0 t (nI (K.length + 1))) f) m t c1) m T L := rG_X (kX X)
      have cs1 := fun Q => @c148 _ m (d + 10) Q T L p1 0 nb md1 dp (K.length + 1) od X' a2
      have cs2 := fun Q => @c148 _ m (d + 10) Q T L (skp T L p1) 0 nb md1 dp (K.length + 1) od X' hp0
      rw [hid] at cs2
      generalize skp T L p1 = q at *
      have hbd := fun x hx => (chr_bd X (p := q) (x := x) hx).1
      have i59 : oI (chr T L q) = 59 ↔ chr T L q = some 59 := oI_op (k := 59) hbd (by omega)
      have ino := oI_none (o := chr T L q) hbd
      have eK : (K ++ [k1]).length = K.length + 1 := by rw [List.length_append, List.length_singleton]
      by_cases e59 : chr T L q = some 59
      · have e' := i59.mpr e59
        have hq2 := (chr_bd X e59).2.1
        rw [if_pos e59] at hq
        simp (config := { decide := true }) (disch := (first | assumption | omega | (simp (config := { decide := true }) only [hm, jK_pH, jK_rG, jK_kG, jK_wI, jK_wJ, jK_wR, jK_wr, jR_wr, jR_wI, jR_wJ]; done) | (simp only [hm, jK_pH, jK_rG, jK_kG, jK_wI, jK_wJ, jK_wR, jK_wr, jR_wr, jR_wI, jR_wJ]; refine jinb_nI ?_ ?_ <;> omega) | (refine jinb_nI ?_ ?_ <;> omega))) only [s146_35, s146_36, s146_39, s146_40, s146_43, s146_45, s146_48, s146_49, s146_50, s146_53, s146_54, s146_55, s146_58, s146_59, jK_pH, jR_pH, pH_m, pH_c, pF_1, pF_2, pF_8, pF_9, pF_10, pF_11, pF_12, pF_13, pF_14, pF_16, pF_w8, pF_w9, pF_w10, pF_w12, pF_w13, pF_w14, pF_w16, pH_wm, cs1, e', va_rf_some, va_rf_none, jK_wI, jR_wI, jJ_wI, jK_wJ, jR_wJ, jI_wJ, jK_wR, jI_wR, jJ_wR, jK_wr, jR_wr, jJ_wr, jcl1_i, jcl1_r, jcl1_z, jcl1_n, jcl1_l, jwI_row, jwr_jwr, jwr_cm, jwr_cc, upd_upd, jI_wr_s, jI_wr_a, jI_wr_b, jI_wr_c, mInv_wr, upd_s, upd_n, Option.toList, List.cons_append, List.nil_append, true_or, or_true, eq_self, and_self, ite_true, ite_false, if_true, if_false, jinb_nI, nI_clamp, tc0, tc1, tc2, tc3, tc4, tc5, tc6, tc7, tc8, tc9, tc10, tc11, tc12, tc13, tc14, tc15, tc16, tc17, tc18, tc19, tc20, tc21, tc22, tc23, tc24, tc25, tc26, tc27, tc28, tc29, tc30, tc31, tc32, tc33, tc34, tc35, tc36, tc37, tc38, tc39, tc40, tc41, tc42, tc43, tc44, tc45, tc46, tc47, tc48, tc49, tc50, tc51, tc52, tc53, tc54, tc55, tc56, tc57, tc58, tc59, tc60, tc61, tc62, tc63, tc64, tc65, tc66, tc67, tc68, tc69, tc77, tc83, tc119, tc159, tc160, nI_add, al0, ar0, ml0, mr0, al1, ar1, ml1, mr1, al2, ar2, ml2, mr2, al3, ar3, ml3, mr3, al4, ar4, ml4, mr4, al5, ar5, ml5, mr5, al6, ar6, ml6, mr6, al8, ar8, ml8, mr8, al10, ar10, ml10, mr10, al11, ar11, ml11, mr11, al12, ar12, ml12, mr12, al13, ar13, ml13, mr13, al16, ar16, ml16, mr16, al20, ar20, ml20, mr20, al24, ar24, ml24, mr24, al29, ar29, ml29, mr29, al36, ar36, ml36, mr36, al42, ar42, ml42, mr42, al48, ar48, ml48, mr48, al55, ar55, ml55, mr55, al60, ar60, ml60, mr60, al65, ar65, ml65, mr65, al77, ar77, ml77, mr77, al83, ar83, ml83, mr83, al119, ar119, ml119, mr119, al159, ar159, ml159, mr159, al160, ar160, ml160, mr160, al400, ar400, ml400, mr400, hm, jK_pH, jK_rG, jK_kG]
        have ih' := ih (q + 1) nb md1 c1 (K ++ [k1]) cl f dp od (by omega) (by omega) a3 (by omega) (by rw [eK]; omega) hR hq
        rw [eK] at ih'
        refine jC_mono ih' ?_
        intro r h hr
        cases r with
        | none => exact hr.elim
        | some v =>
          cases v with
          | int v =>
            show jW (d + 11) 146 62 _ [.int v] h Q
            rw [s146_62]
            simp (config := { decide := true }) (disch := (first | assumption | omega | (simp (config := { decide := true }) only [hm, jK_wI, jK_wJ, jK_wR, jK_wr, jR_wr, jR_wI, jR_wJ]; done) | (simp only [hm, jK_wI, jK_wJ, jK_wR, jK_wr, jR_wr, jR_wI, jR_wJ]; refine jinb_nI ?_ ?_ <;> omega) | (refine jinb_nI ?_ ?_ <;> omega))) only [s146_63, jcl1_r, va_rf_some, va_rf_none, jK_wI, jR_wI, jJ_wI, jK_wJ, jR_wJ, jI_wJ, jK_wR, jI_wR, jJ_wR, jK_wr, jR_wr, jJ_wr, jcl1_i, jcl1_r, jcl1_z, jcl1_n, jcl1_l, jwI_row, jwr_jwr, jwr_cm, jwr_cc, upd_upd, jI_wr_s, jI_wr_a, jI_wr_b, jI_wr_c, mInv_wr, upd_s, upd_n, Option.toList, List.cons_append, List.nil_append, true_or, or_true, eq_self, and_self, ite_true, ite_false, if_true, if_false, jinb_nI, nI_clamp, tc0, tc1, tc2, tc3, tc4, tc5, tc6, tc7, tc8, tc9, tc10, tc11, tc12, tc13, tc14, tc15, tc16, tc17, tc18, tc19, tc20, tc21, tc22, tc23, tc24, tc25, tc26, tc27, tc28, tc29, tc30, tc31, tc32, tc33, tc34, tc35, tc36, tc37, tc38, tc39, tc40, tc41, tc42, tc43, tc44, tc45, tc46, tc47, tc48, tc49, tc50, tc51, tc52, tc53, tc54, tc55, tc56, tc57, tc58, tc59, tc60, tc61, tc62, tc63, tc64, tc65, tc66, tc67, tc68, tc69, tc77, tc83, tc119, tc159, tc160, nI_add, al0, ar0, ml0, mr0, al1, ar1, ml1, mr1, al2, ar2, ml2, mr2, al3, ar3, ml3, mr3, al4, ar4, ml4, mr4, al5, ar5, ml5, mr5, al6, ar6, ml6, mr6, al8, ar8, ml8, mr8, al10, ar10, ml10, mr10, al11, ar11, ml11, mr11, al12, ar12, ml12, mr12, al13, ar13, ml13, mr13, al16, ar16, ml16, mr16, al20, ar20, ml20, mr20, al24, ar24, ml24, mr24, al29, ar29, ml29, mr29, al36, ar36, ml36, mr36, al42, ar42, ml42, mr42, al48, ar48, ml48, mr48, al55, ar55, ml55, mr55, al60, ar60, ml60, mr60, al65, ar65, ml65, mr65, al77, ar77, ml77, mr77, al83, ar83, ml83, mr83, al119, ar119, ml119, mr119, al159, ar159, ml159, mr159, al160, ar160, ml160, mr160, al400, ar400, ml400, mr400, hm]
            exact hr
          | long v => exact hr.elim
          | ref v => exact hr.elim
          | null => exact hr.elim
          | _ => exact hr.elim
      · have e' : ¬ oI (chr T L q) = 59 := fun z => e59 (i59.mp z)
        rw [if_neg e59] at hq
        by_cases en : chr T L q = none
        · have en' := ino.mpr en
          rw [if_pos en] at hq
          simp (config := { decide := true }) (disch := (first | assumption | omega | (simp (config := { decide := true }) only [hm, jK_pH, jK_rG, jK_kG, jK_wI, jK_wJ, jK_wR, jK_wr, jR_wr, jR_wI, jR_wJ]; done) | (simp only [hm, jK_pH, jK_rG, jK_kG, jK_wI, jK_wJ, jK_wR, jK_wr, jR_wr, jR_wI, jR_wJ]; refine jinb_nI ?_ ?_ <;> omega) | (refine jinb_nI ?_ ?_ <;> omega))) only [s146_35, s146_36, s146_39, s146_40, s146_43, s146_45, s146_66, s146_67, s146_70, s146_71, s146_74, s146_75, jK_pH, jR_pH, pH_m, pH_c, pF_1, pF_2, pF_8, pF_9, pF_10, pF_11, pF_12, pF_13, pF_14, pF_16, pF_w8, pF_w9, pF_w10, pF_w12, pF_w13, pF_w14, pF_w16, pH_wm, cs1, cs2, e', en', va_rf_some, va_rf_none, jK_wI, jR_wI, jJ_wI, jK_wJ, jR_wJ, jI_wJ, jK_wR, jI_wR, jJ_wR, jK_wr, jR_wr, jJ_wr, jcl1_i, jcl1_r, jcl1_z, jcl1_n, jcl1_l, jwI_row, jwr_jwr, jwr_cm, jwr_cc, upd_upd, jI_wr_s, jI_wr_a, jI_wr_b, jI_wr_c, mInv_wr, upd_s, upd_n, Option.toList, List.cons_append, List.nil_append, true_or, or_true, eq_self, and_self, ite_true, ite_false, if_true, if_false, jinb_nI, nI_clamp, tc0, tc1, tc2, tc3, tc4, tc5, tc6, tc7, tc8, tc9, tc10, tc11, tc12, tc13, tc14, tc15, tc16, tc17, tc18, tc19, tc20, tc21, tc22, tc23, tc24, tc25, tc26, tc27, tc28, tc29, tc30, tc31, tc32, tc33, tc34, tc35, tc36, tc37, tc38, tc39, tc40, tc41, tc42, tc43, tc44, tc45, tc46, tc47, tc48, tc49, tc50, tc51, tc52, tc53, tc54, tc55, tc56, tc57, tc58, tc59, tc60, tc61, tc62, tc63, tc64, tc65, tc66, tc67, tc68, tc69, tc77, tc83, tc119, tc159, tc160, nI_add, al0, ar0, ml0, mr0, al1, ar1, ml1, mr1, al2, ar2, ml2, mr2, al3, ar3, ml3, mr3, al4, ar4, ml4, mr4, al5, ar5, ml5, mr5, al6, ar6, ml6, mr6, al8, ar8, ml8, mr8, al10, ar10, ml10, mr10, al11, ar11, ml11, mr11, al12, ar12, ml12, mr12, al13, ar13, ml13, mr13, al16, ar16, ml16, mr16, al20, ar20, ml20, mr20, al24, ar24, ml24, mr24, al29, ar29, ml29, mr29, al36, ar36, ml36, mr36, al42, ar42, ml42, mr42, al48, ar48, ml48, mr48, al55, ar55, ml55, mr55, al60, ar60, ml60, mr60, al65, ar65, ml65, mr65, al77, ar77, ml77, mr77, al83, ar83, ml83, mr83, al119, ar119, ml119, mr119, al159, ar159, ml159, mr159, al160, ar160, ml160, mr160, al400, ar400, ml400, mr400, hm, jK_pH, jK_rG, jK_kG]
          refine c146e H (by omega) ?_
          rw [if_pos rfl, ← eK]
          exact hq _ _ _ _ _ _ _ _ hR
        · have en' : ¬ oI (chr T L q) = -1 := fun z => en (ino.mp z)
          rw [if_neg en] at hq
          obtain ⟨w1, w2⟩ := fW_b (k := 0) hp0 (by omega)
          have cf := fun Q => @c152 (rG (kG g m cl (upd cs0 t (nI (K.length + 1))) f) m t c1) m (d + 10) Q q 0 nb md1 dp (K.length + 1) od H 0 q (by omega)
          rw [nI_0] at cf
          simp (config := { decide := true }) (disch := (first | assumption | omega | (simp (config := { decide := true }) only [hm, jK_pH, jK_rG, jK_kG, jK_wI, jK_wJ, jK_wR, jK_wr, jR_wr, jR_wI, jR_wJ]; done) | (simp only [hm, jK_pH, jK_rG, jK_kG, jK_wI, jK_wJ, jK_wR, jK_wr, jR_wr, jR_wI, jR_wJ]; refine jinb_nI ?_ ?_ <;> omega) | (refine jinb_nI ?_ ?_ <;> omega))) only [s146_35, s146_36, s146_39, s146_40, s146_43, s146_45, s146_66, s146_67, s146_70, s146_71, s146_74, s146_75, s146_78, s146_79, s146_80, s146_81, s146_84, s146_87, jK_pH, jR_pH, pH_m, pH_c, pF_1, pF_2, pF_8, pF_9, pF_10, pF_11, pF_12, pF_13, pF_14, pF_16, pF_w8, pF_w9, pF_w10, pF_w12, pF_w13, pF_w14, pF_w16, pH_wm, cs1, cs2, e', en', cf, va_rf_some, va_rf_none, jK_wI, jR_wI, jJ_wI, jK_wJ, jR_wJ, jI_wJ, jK_wR, jI_wR, jJ_wR, jK_wr, jR_wr, jJ_wr, jcl1_i, jcl1_r, jcl1_z, jcl1_n, jcl1_l, jwI_row, jwr_jwr, jwr_cm, jwr_cc, upd_upd, jI_wr_s, jI_wr_a, jI_wr_b, jI_wr_c, mInv_wr, upd_s, upd_n, Option.toList, List.cons_append, List.nil_append, true_or, or_true, eq_self, and_self, ite_true, ite_false, if_true, if_false, jinb_nI, nI_clamp, tc0, tc1, tc2, tc3, tc4, tc5, tc6, tc7, tc8, tc9, tc10, tc11, tc12, tc13, tc14, tc15, tc16, tc17, tc18, tc19, tc20, tc21, tc22, tc23, tc24, tc25, tc26, tc27, tc28, tc29, tc30, tc31, tc32, tc33, tc34, tc35, tc36, tc37, tc38, tc39, tc40, tc41, tc42, tc43, tc44, tc45, tc46, tc47, tc48, tc49, tc50, tc51, tc52, tc53, tc54, tc55, tc56, tc57, tc58, tc59, tc60, tc61, tc62, tc63, tc64, tc65, tc66, tc67, tc68, tc69, tc77, tc83, tc119, tc159, tc160, nI_add, al0, ar0, ml0, mr0, al1, ar1, ml1, mr1, al2, ar2, ml2, mr2, al3, ar3, ml3, mr3, al4, ar4, ml4, mr4, al5, ar5, ml5, mr5, al6, ar6, ml6, mr6, al8, ar8, ml8, mr8, al10, ar10, ml10, mr10, al11, ar11, ml11, mr11, al12, ar12, ml12, mr12, al13, ar13, ml13, mr13, al16, ar16, ml16, mr16, al20, ar20, ml20, mr20, al24, ar24, ml24, mr24, al29, ar29, ml29, mr29, al36, ar36, ml36, mr36, al42, ar42, ml42, mr42, al48, ar48, ml48, mr48, al55, ar55, ml55, mr55, al60, ar60, ml60, mr60, al65, ar65, ml65, mr65, al77, ar77, ml77, mr77, al83, ar83, ml83, mr83, al119, ar119, ml119, mr119, al159, ar159, ml159, mr159, al160, ar160, ml160, mr160, al400, ar400, ml400, mr400, hm, jK_pH, jK_rG, jK_kG]
          refine c146e H (by omega) ?_
          rw [if_neg (by omega)]
          exact hq _ _ _ _ _ _ _ _ _ _ hR.1
end
