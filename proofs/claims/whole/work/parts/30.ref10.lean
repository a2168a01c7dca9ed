/-! THE REFERENCE: a row of signs reckoned out -/
theorem fa_and (a b : Nat) : nI a &&& nI b = nI (a &&& b) := by
  apply Int32.toBitVec_inj.1
  show BitVec.ofNat 32 a &&& BitVec.ofNat 32 b = BitVec.ofNat 32 (a &&& b)
  apply BitVec.eq_of_getLsbD_eq
  intro i hi
  simp [hi]
theorem nI_m15 (n : Nat) : nI n &&& 15 = nI (n % 16) := by
  have : nI n &&& nI (2 ^ 4 - 1) = nI (n % 2 ^ 4) := by rw [fa_and, Nat.and_two_pow_sub_one_eq_mod]
  exact this
theorem nI_d16 {n : Nat} (h : n < 2 ^ 31) : nI n >>> ((4 : Int32) &&& 31) = nI (n / 16) := pk_shrN h _ 4 (by decide)
/-- the stack as a list, the top first -/
def sA (st : Nat → Int64) : List Int64 → Prop
  | [] => True
  | x :: r => st r.length = x ∧ sA st r
theorem sA_upd {st : Nat → Int64} {x : Int64} {t : Nat} : ∀ {l : List Int64}, l.length ≤ t → sA st l → sA (vp_updL st t x) l
  | [], _, _ => trivial
  | y :: r, hl, hs => by
    have hl' : r.length + 1 ≤ t := hl
    refine ⟨?_, sA_upd (by omega) hs.2⟩
    unfold vp_updL
    rw [if_neg (by omega)]
    exact hs.1
theorem sA_push {st : Nat → Int64} {x : Int64} {l : List Int64} (hs : sA st l) : sA (vp_updL st l.length x) (x :: l) := ⟨by unfold vp_updL; rw [if_pos rfl], sA_upd (Nat.le_refl _) hs⟩
/-- a sign done -/
def mstp (c : Nat) (wd : Nat → Int64) (l : List Int64) : Option (List Int64) :=
  if c % 16 = 0 then some (lN (c / 16) :: l)
  else if c % 16 = 1 then (if c / 16 < 12 then some (wd (c / 16) :: l) else none)
  else if c % 16 = 11 then (match l with
    | x :: r => some ((1 - x) :: r)
    | [] => none)
  else if c % 16 = 15 then none
  else match l with
    | y :: x :: r => some (mone (nI (c % 16)) x y :: r)
    | _ => none
/-- a row of signs done -/
def mrn (cd : Nat → Nat) (wd : Nat → Int64) : Nat → Nat → List Int64 → Option Int64
  | 0, _, [] => none
  | 0, _, r :: _ => some r
  | n + 1, i, l => if l.length < 64 then (match mstp (cd i) wd l with
    | some l' => mrn cd wd n (i + 1) l'
    | none => none) else none
section
variable {h : jH} {m : Nat} {d : Nat} {Q : Option Value → jH → Prop} {wd : Nat → Int64}
theorem l206 (H : mInv h m) {t e : Nat} (ht : t < 6) (he : e ≤ 400) {cd : Nat → Nat} (hcd : ∀ i, i < e → jI h (m + 2) (400 * t + i) = nI (cd i) ∧ cd i < 2 ^ 31) {r : Int64} (hQ : ∀ tp st, Q (some (.long r)) (mSc m h tp st wd)) : ∀ (n i : Nat) (l : List Int64) (st : Nat → Int64) (l2 l5 l6 l7 l8 l9 l10 : Option Value), i + n = e → l.length ≤ 64 → sA st l → mrn cd wd n i l = some r → jW (d + 1) 206 8 [some (.ref m), some (.int (nI t)), l2, some (.int (nI e)), some (.int (nI i)), l5, l6, l7, l8, l9, l10] [] (mSc m h (nI l.length) st wd) Q := by
  have hm : jK h m = (32, 43) := H.1
  obtain ⟨r0, k0⟩ := H.at 1 rfl
  obtain ⟨r1, k1⟩ := H.at 8 rfl
  intro n
  induction n with
  | zero =>
    intro i l st l2 l5 l6 l7 l8 l9 l10 hi hl hs hr
    have e1 : i = e := by omega
    subst e1
    have hle : nI i ≤ nI i := nI_le (Nat.le_refl _) (by omega)
    match l, hr, hs, hl with
    | x :: r', hr, hs, hl =>
      have hr : x = r := Option.some.inj hr
      have hl : r'.length + 1 ≤ 64 := hl
      have c8 := fun Q => @c208 h m d Q st wd H r'.length (by omega)
      simp (config := { decide := true }) (disch := (first | assumption | omega | (simp (config := { decide := true }) only [hm, r0, k0, jK_sc, jK_wI, jK_wJ, jK_wR, jK_wr, jR_wr, jR_wI, jR_wJ]; done) | (simp only [hm, r0, k0, jK_sc, jK_wI, jK_wJ, jK_wR, jK_wr, jR_wr, jR_wI, jR_wJ]; refine jinb_nI ?_ ?_ <;> omega) | (refine jinb_nI ?_ ?_ <;> omega))) only [s206_8, s206_10, s206_11, s206_135, s206_136, s206_139, if_pos hle, List.length_cons, c8, va_rf_some, va_rf_none, jK_wI, jR_wI, jJ_wI, jK_wJ, jR_wJ, jI_wJ, jK_wR, jI_wR, jJ_wR, jK_wr, jR_wr, jJ_wr, jcl1_i, jcl1_r, jcl1_z, jcl1_n, jcl1_l, jwI_row, jwr_jwr, jwr_cm, jwr_cc, upd_upd, jI_wr_s, jI_wr_a, jI_wr_b, jI_wr_c, mInv_wr, upd_s, upd_n, Option.toList, List.cons_append, List.nil_append, true_or, or_true, eq_self, and_self, ite_true, ite_false, if_true, if_false, jinb_nI, nI_clamp, tc0, tc1, tc2, tc3, tc4, tc5, tc6, tc7, tc8, tc9, tc10, tc11, tc12, tc13, tc14, tc15, tc16, tc17, tc18, tc19, tc20, tc21, tc22, tc23, tc24, tc25, tc26, tc27, tc28, tc29, tc30, tc31, tc32, tc33, tc34, tc35, tc36, tc37, tc38, tc39, tc40, tc41, tc42, tc43, tc44, tc45, tc46, tc47, tc48, tc49, tc50, tc51, tc52, tc53, tc54, tc55, tc56, tc57, tc58, tc59, tc60, tc61, tc62, tc63, tc64, tc65, tc66, tc67, tc68, tc69, tc77, tc83, tc119, tc159, tc160, nI_add, al0, ar0, ml0, mr0, al1, ar1, ml1, mr1, al2, ar2, ml2, mr2, al3, ar3, ml3, mr3, al4, ar4, ml4, mr4, al5, ar5, ml5, mr5, al6, ar6, ml6, mr6, al8, ar8, ml8, mr8, al10, ar10, ml10, mr10, al11, ar11, ml11, mr11, al12, ar12, ml12, mr12, al13, ar13, ml13, mr13, al16, ar16, ml16, mr16, al20, ar20, ml20, mr20, al24, ar24, ml24, mr24, al29, ar29, ml29, mr29, al36, ar36, ml36, mr36, al42, ar42, ml42, mr42, al48, ar48, ml48, mr48, al55, ar55, ml55, mr55, al60, ar60, ml60, mr60, al65, ar65, ml65, mr65, al77, ar77, ml77, mr77, al83, ar83, ml83, mr83, al119, ar119, ml119, mr119, al159, ar159, ml159, mr159, al160, ar160, ml160, mr160, al400, ar400, ml400, mr400, hm, r0, k0, jK_sc]
      rw [hs.1, hr]
      exact hQ _ _
  | succ n ih =>
    intro i l st l2 l5 l6 l7 l8 l9 l10 hi hl hs hr
    have hle : ¬ nI e ≤ nI i := nI_ge (by omega) (by omega)
    obtain ⟨hc1, hc2⟩ := hcd i (by omega)
    unfold mrn at hr
    split at hr
    · next hl64 =>
      split at hr
      · next l' hst =>
        simp (config := { decide := true }) (disch := (first | assumption | omega | (simp (config := { decide := true }) only [hm, r0, k0, jK_sc, jK_wI, jK_wJ, jK_wR, jK_wr, jR_wr, jR_wI, jR_wJ]; done) | (simp only [hm, r0, k0, jK_sc, jK_wI, jK_wJ, jK_wR, jK_wr, jR_wr, jR_wI, jR_wJ]; refine jinb_nI ?_ ?_ <;> omega) | (refine jinb_nI ?_ ?_ <;> omega))) only [s206_8, s206_10, s206_11, if_neg hle, va_rf_some, va_rf_none, jK_wI, jR_wI, jJ_wI, jK_wJ, jR_wJ, jI_wJ, jK_wR, jI_wR, jJ_wR, jK_wr, jR_wr, jJ_wr, jcl1_i, jcl1_r, jcl1_z, jcl1_n, jcl1_l, jwI_row, jwr_jwr, jwr_cm, jwr_cc, upd_upd, jI_wr_s, jI_wr_a, jI_wr_b, jI_wr_c, mInv_wr, upd_s, upd_n, Option.toList, List.cons_append, List.nil_append, true_or, or_true, eq_self, and_self, ite_true, ite_false, if_true, if_false, jinb_nI, nI_clamp, tc0, tc1, tc2, tc3, tc4, tc5, tc6, tc7, tc8, tc9, tc10, tc11, tc12, tc13, tc14, tc15, tc16, tc17, tc18, tc19, tc20, tc21, tc22, tc23, tc24, tc25, tc26, tc27, tc28, tc29, tc30, tc31, tc32, tc33, tc34, tc35, tc36, tc37, tc38, tc39, tc40, tc41, tc42, tc43, tc44, tc45, tc46, tc47, tc48, tc49, tc50, tc51, tc52, tc53, tc54, tc55, tc56, tc57, tc58, tc59, tc60, tc61, tc62, tc63, tc64, tc65, tc66, tc67, tc68, tc69, tc77, tc83, tc119, tc159, tc160, nI_add, al0, ar0, ml0, mr0, al1, ar1, ml1, mr1, al2, ar2, ml2, mr2, al3, ar3, ml3, mr3, al4, ar4, ml4, mr4, al5, ar5, ml5, mr5, al6, ar6, ml6, mr6, al8, ar8, ml8, mr8, al10, ar10, ml10, mr10, al11, ar11, ml11, mr11, al12, ar12, ml12, mr12, al13, ar13, ml13, mr13, al16, ar16, ml16, mr16, al20, ar20, ml20, mr20, al24, ar24, ml24, mr24, al29, ar29, ml29, mr29, al36, ar36, ml36, mr36, al42, ar42, ml42, mr42, al48, ar48, ml48, mr48, al55, ar55, ml55, mr55, al60, ar60, ml60, mr60, al65, ar65, ml65, mr65, al77, ar77, ml77, mr77, al83, ar83, ml83, mr83, al119, ar119, ml119, mr119, al159, ar159, ml159, mr159, al160, ar160, ml160, mr160, al400, ar400, ml400, mr400, hm, r0, k0, jK_sc]
        simp (config := { decide := true }) (disch := (first | assumption | omega | (simp (config := { decide := true }) only [hm, r0, k0, jK_sc, jK_wI, jK_wJ, jK_wR, jK_wr, jR_wr, jR_wI, jR_wJ]; done) | (simp only [hm, r0, k0, jK_sc, jK_wI, jK_wJ, jK_wR, jK_wr, jR_wr, jR_wI, jR_wJ]; refine jinb_nI ?_ ?_ <;> omega) | (refine jinb_nI ?_ ?_ <;> omega))) only [s206_14, s206_15, s206_18, s206_21, s206_22, s206_23, s206_25, s206_26, s206_27, s206_29, s206_30, s206_32, s206_33, s206_36, s206_39, s206_40, s206_41, s206_43, s206_44, s206_45, s206_46, s206_47, jI_sc_a, hc1, nI_m15, nI_d16, jR_sc, jK_sc, va_rf_some, va_rf_none, jK_wI, jR_wI, jJ_wI, jK_wJ, jR_wJ, jI_wJ, jK_wR, jI_wR, jJ_wR, jK_wr, jR_wr, jJ_wr, jcl1_i, jcl1_r, jcl1_z, jcl1_n, jcl1_l, jwI_row, jwr_jwr, jwr_cm, jwr_cc, upd_upd, jI_wr_s, jI_wr_a, jI_wr_b, jI_wr_c, mInv_wr, upd_s, upd_n, Option.toList, List.cons_append, List.nil_append, true_or, or_true, eq_self, and_self, ite_true, ite_false, if_true, if_false, jinb_nI, nI_clamp, tc0, tc1, tc2, tc3, tc4, tc5, tc6, tc7, tc8, tc9, tc10, tc11, tc12, tc13, tc14, tc15, tc16, tc17, tc18, tc19, tc20, tc21, tc22, tc23, tc24, tc25, tc26, tc27, tc28, tc29, tc30, tc31, tc32, tc33, tc34, tc35, tc36, tc37, tc38, tc39, tc40, tc41, tc42, tc43, tc44, tc45, tc46, tc47, tc48, tc49, tc50, tc51, tc52, tc53, tc54, tc55, tc56, tc57, tc58, tc59, tc60, tc61, tc62, tc63, tc64, tc65, tc66, tc67, tc68, tc69, tc77, tc83, tc119, tc159, tc160, nI_add, al0, ar0, ml0, mr0, al1, ar1, ml1, mr1, al2, ar2, ml2, mr2, al3, ar3, ml3, mr3, al4, ar4, ml4, mr4, al5, ar5, ml5, mr5, al6, ar6, ml6, mr6, al8, ar8, ml8, mr8, al10, ar10, ml10, mr10, al11, ar11, ml11, mr11, al12, ar12, ml12, mr12, al13, ar13, ml13, mr13, al16, ar16, ml16, mr16, al20, ar20, ml20, mr20, al24, ar24, ml24, mr24, al29, ar29, ml29, mr29, al36, ar36, ml36, mr36, al42, ar42, ml42, mr42, al48, ar48, ml48, mr48, al55, ar55, ml55, mr55, al60, ar60, ml60, mr60, al65, ar65, ml65, mr65, al77, ar77, ml77, mr77, al83, ar83, ml83, mr83, al119, ar119, ml119, mr119, al159, ar159, ml159, mr159, al160, ar160, ml160, mr160, al400, ar400, ml400, mr400, hm, r0, k0, jK_sc]
        unfold mstp at hst
        split at hst
        · next h0 =>
          cases hst
          have c7 := fun Q => @c207 h m d Q st wd H l.length (by omega) (lN (cd i / 16))
          have z : nI 0 = 0 := rfl
          rw [h0, z]
          simp (config := { decide := true }) (disch := (first | assumption | omega | (simp (config := { decide := true }) only [hm, r0, k0, jK_sc, jK_wI, jK_wJ, jK_wR, jK_wr, jR_wr, jR_wI, jR_wJ]; done) | (simp only [hm, r0, k0, jK_sc, jK_wI, jK_wJ, jK_wR, jK_wr, jR_wr, jR_wI, jR_wJ]; refine jinb_nI ?_ ?_ <;> omega) | (refine jinb_nI ?_ ?_ <;> omega))) only [s206_49, s206_51, s206_54, s206_55, s206_57, s206_58, s206_61, s206_64, s206_66, s206_67, s206_70, s206_71, s206_72, s206_75, s206_77, s206_78, s206_81, s206_84, s206_86, s206_88, s206_91, s206_92, s206_93, s206_94, s206_97, s206_98, s206_101, s206_104, s206_105, s206_108, s206_110, s206_111, s206_114, s206_116, s206_117, s206_119, s206_121, s206_123, s206_126, s206_129, s206_132, nI_l, c7, jK_sc, va_rf_some, va_rf_none, jK_wI, jR_wI, jJ_wI, jK_wJ, jR_wJ, jI_wJ, jK_wR, jI_wR, jJ_wR, jK_wr, jR_wr, jJ_wr, jcl1_i, jcl1_r, jcl1_z, jcl1_n, jcl1_l, jwI_row, jwr_jwr, jwr_cm, jwr_cc, upd_upd, jI_wr_s, jI_wr_a, jI_wr_b, jI_wr_c, mInv_wr, upd_s, upd_n, Option.toList, List.cons_append, List.nil_append, true_or, or_true, eq_self, and_self, ite_true, ite_false, if_true, if_false, jinb_nI, nI_clamp, tc0, tc1, tc2, tc3, tc4, tc5, tc6, tc7, tc8, tc9, tc10, tc11, tc12, tc13, tc14, tc15, tc16, tc17, tc18, tc19, tc20, tc21, tc22, tc23, tc24, tc25, tc26, tc27, tc28, tc29, tc30, tc31, tc32, tc33, tc34, tc35, tc36, tc37, tc38, tc39, tc40, tc41, tc42, tc43, tc44, tc45, tc46, tc47, tc48, tc49, tc50, tc51, tc52, tc53, tc54, tc55, tc56, tc57, tc58, tc59, tc60, tc61, tc62, tc63, tc64, tc65, tc66, tc67, tc68, tc69, tc77, tc83, tc119, tc159, tc160, nI_add, al0, ar0, ml0, mr0, al1, ar1, ml1, mr1, al2, ar2, ml2, mr2, al3, ar3, ml3, mr3, al4, ar4, ml4, mr4, al5, ar5, ml5, mr5, al6, ar6, ml6, mr6, al8, ar8, ml8, mr8, al10, ar10, ml10, mr10, al11, ar11, ml11, mr11, al12, ar12, ml12, mr12, al13, ar13, ml13, mr13, al16, ar16, ml16, mr16, al20, ar20, ml20, mr20, al24, ar24, ml24, mr24, al29, ar29, ml29, mr29, al36, ar36, ml36, mr36, al42, ar42, ml42, mr42, al48, ar48, ml48, mr48, al55, ar55, ml55, mr55, al60, ar60, ml60, mr60, al65, ar65, ml65, mr65, al77, ar77, ml77, mr77, al83, ar83, ml83, mr83, al119, ar119, ml119, mr119, al159, ar159, ml159, mr159, al160, ar160, ml160, mr160, al400, ar400, ml400, mr400, hm, r0, k0, jK_sc]
          exact ih (i + 1) (lN (cd i / 16) :: l) _ _ _ _ _ _ _ _ (by omega) (by show l.length + 1 ≤ 64; omega) (sA_push hs) hr
        · next h0 =>
          split at hst
          · next h1 =>
            split at hst
            · next hv =>
              cases hst
              have c7 := fun Q => @c207 h m d Q st wd H l.length (by omega) (wd (cd i / 16))
              have z : nI 1 = 1 := rfl
              have z0 : ¬ (1 : Int32) = 0 := by decide
              rw [h1, z]
              simp (config := { decide := true }) (disch := (first | assumption | omega | (simp (config := { decide := true }) only [hm, r0, k0, r1, k1, jK_sc, jK_wI, jK_wJ, jK_wR, jK_wr, jR_wr, jR_wI, jR_wJ]; done) | (simp only [hm, r0, k0, r1, k1, jK_sc, jK_wI, jK_wJ, jK_wR, jK_wr, jR_wr, jR_wI, jR_wJ]; refine jinb_nI ?_ ?_ <;> omega) | (refine jinb_nI ?_ ?_ <;> omega))) only [s206_49, s206_51, s206_54, s206_55, s206_57, s206_58, s206_61, s206_64, s206_66, s206_67, s206_70, s206_71, s206_72, s206_75, s206_77, s206_78, s206_81, s206_84, s206_86, s206_88, s206_91, s206_92, s206_93, s206_94, s206_97, s206_98, s206_101, s206_104, s206_105, s206_108, s206_110, s206_111, s206_114, s206_116, s206_117, s206_119, s206_121, s206_123, s206_126, s206_129, s206_132, c7, jR_sc, jK_sc, jJ_sc_9, z0, va_rf_some, va_rf_none, jK_wI, jR_wI, jJ_wI, jK_wJ, jR_wJ, jI_wJ, jK_wR, jI_wR, jJ_wR, jK_wr, jR_wr, jJ_wr, jcl1_i, jcl1_r, jcl1_z, jcl1_n, jcl1_l, jwI_row, jwr_jwr, jwr_cm, jwr_cc, upd_upd, jI_wr_s, jI_wr_a, jI_wr_b, jI_wr_c, mInv_wr, upd_s, upd_n, Option.toList, List.cons_append, List.nil_append, true_or, or_true, eq_self, and_self, ite_true, ite_false, if_true, if_false, jinb_nI, nI_clamp, tc0, tc1, tc2, tc3, tc4, tc5, tc6, tc7, tc8, tc9, tc10, tc11, tc12, tc13, tc14, tc15, tc16, tc17, tc18, tc19, tc20, tc21, tc22, tc23, tc24, tc25, tc26, tc27, tc28, tc29, tc30, tc31, tc32, tc33, tc34, tc35, tc36, tc37, tc38, tc39, tc40, tc41, tc42, tc43, tc44, tc45, tc46, tc47, tc48, tc49, tc50, tc51, tc52, tc53, tc54, tc55, tc56, tc57, tc58, tc59, tc60, tc61, tc62, tc63, tc64, tc65, tc66, tc67, tc68, tc69, tc77, tc83, tc119, tc159, tc160, nI_add, al0, ar0, ml0, mr0, al1, ar1, ml1, mr1, al2, ar2, ml2, mr2, al3, ar3, ml3, mr3, al4, ar4, ml4, mr4, al5, ar5, ml5, mr5, al6, ar6, ml6, mr6, al8, ar8, ml8, mr8, al10, ar10, ml10, mr10, al11, ar11, ml11, mr11, al12, ar12, ml12, mr12, al13, ar13, ml13, mr13, al16, ar16, ml16, mr16, al20, ar20, ml20, mr20, al24, ar24, ml24, mr24, al29, ar29, ml29, mr29, al36, ar36, ml36, mr36, al42, ar42, ml42, mr42, al48, ar48, ml48, mr48, al55, ar55, ml55, mr55, al60, ar60, ml60, mr60, al65, ar65, ml65, mr65, al77, ar77, ml77, mr77, al83, ar83, ml83, mr83, al119, ar119, ml119, mr119, al159, ar159, ml159, mr159, al160, ar160, ml160, mr160, al400, ar400, ml400, mr400, hm, r0, k0, r1, k1, jK_sc]
              exact ih (i + 1) (wd (cd i / 16) :: l) _ _ _ _ _ _ _ _ (by omega) (by show l.length + 1 ≤ 64; omega) (sA_push hs) hr
            · cases hst
          · next h1 =>
            split at hst
            · next h11 =>
              match l, hst, hs, hl, hl64 with
              | x :: r', hst, hs, hl, hl64 =>
                cases hst
                have hl' : r'.length + 1 ≤ 64 := hl
                have c8 := fun Q => @c208 h m d Q st wd H r'.length (by omega)
                have c7 := fun Q => @c207 h m d Q st wd H r'.length (by omega) (1 - x)
                have z : nI 11 = 11 := rfl
                have z0 : ¬ (11 : Int32) = 0 := by decide
                have z1 : ¬ (11 : Int32) = 1 := by decide
                rw [h11, z]
                simp (config := { decide := true }) (disch := (first | assumption | omega | (simp (config := { decide := true }) only [hm, r0, k0, r1, k1, jK_sc, jK_wI, jK_wJ, jK_wR, jK_wr, jR_wr, jR_wI, jR_wJ]; done) | (simp only [hm, r0, k0, r1, k1, jK_sc, jK_wI, jK_wJ, jK_wR, jK_wr, jR_wr, jR_wI, jR_wJ]; refine jinb_nI ?_ ?_ <;> omega) | (refine jinb_nI ?_ ?_ <;> omega))) only [s206_49, s206_51, s206_64, s206_66, s206_67, s206_84, s206_86, s206_88, s206_91, s206_92, s206_93, s206_94, s206_97, s206_98, s206_101, s206_129, s206_132, c7, c8, jR_sc, jK_sc, z0, z1, List.length_cons, hs.1, va_rf_some, va_rf_none, jK_wI, jR_wI, jJ_wI, jK_wJ, jR_wJ, jI_wJ, jK_wR, jI_wR, jJ_wR, jK_wr, jR_wr, jJ_wr, jcl1_i, jcl1_r, jcl1_z, jcl1_n, jcl1_l, jwI_row, jwr_jwr, jwr_cm, jwr_cc, upd_upd, jI_wr_s, jI_wr_a, jI_wr_b, jI_wr_c, mInv_wr, upd_s, upd_n, Option.toList, List.cons_append, List.nil_append, true_or, or_true, eq_self, and_self, ite_true, ite_false, if_true, if_false, jinb_nI, nI_clamp, tc0, tc1, tc2, tc3, tc4, tc5, tc6, tc7, tc8, tc9, tc10, tc11, tc12, tc13, tc14, tc15, tc16, tc17, tc18, tc19, tc20, tc21, tc22, tc23, tc24, tc25, tc26, tc27, tc28, tc29, tc30, tc31, tc32, tc33, tc34, tc35, tc36, tc37, tc38, tc39, tc40, tc41, tc42, tc43, tc44, tc45, tc46, tc47, tc48, tc49, tc50, tc51, tc52, tc53, tc54, tc55, tc56, tc57, tc58, tc59, tc60, tc61, tc62, tc63, tc64, tc65, tc66, tc67, tc68, tc69, tc77, tc83, tc119, tc159, tc160, nI_add, al0, ar0, ml0, mr0, al1, ar1, ml1, mr1, al2, ar2, ml2, mr2, al3, ar3, ml3, mr3, al4, ar4, ml4, mr4, al5, ar5, ml5, mr5, al6, ar6, ml6, mr6, al8, ar8, ml8, mr8, al10, ar10, ml10, mr10, al11, ar11, ml11, mr11, al12, ar12, ml12, mr12, al13, ar13, ml13, mr13, al16, ar16, ml16, mr16, al20, ar20, ml20, mr20, al24, ar24, ml24, mr24, al29, ar29, ml29, mr29, al36, ar36, ml36, mr36, al42, ar42, ml42, mr42, al48, ar48, ml48, mr48, al55, ar55, ml55, mr55, al60, ar60, ml60, mr60, al65, ar65, ml65, mr65, al77, ar77, ml77, mr77, al83, ar83, ml83, mr83, al119, ar119, ml119, mr119, al159, ar159, ml159, mr159, al160, ar160, ml160, mr160, al400, ar400, ml400, mr400, hm, r0, k0, r1, k1, jK_sc]
                exact ih (i + 1) ((1 - x) :: r') _ _ _ _ _ _ _ _ (by omega) hl (sA_push hs.2) hr
            · next h11 =>
              split at hst
              · cases hst
              · next h15 =>
                match l, hst, hs, hl, hl64 with
                | y :: x :: r', hst, hs, hl, hl64 =>
                  cases hst
                  have hl' : r'.length + 1 + 1 ≤ 64 := hl
                  have hlt := Nat.mod_lt (cd i) (show 16 > 0 by decide)
                  have c8 := fun Q => @c208 h m d Q st wd H (r'.length + 1) (by omega)
                  have c8' := fun Q => @c208 h m d Q st wd H r'.length (by omega)
                  have c9 := fun h Q => @c209 h d Q (cd i % 16) (by omega) (by omega) x y
                  have c7 := fun Q => @c207 h m d Q st wd H r'.length (by omega) (mone (nI (cd i % 16)) x y)
                  have z0 : ¬ nI (cd i % 16) = 0 := fun q => h0 ((nI_eq (b := 0) (by omega) (by omega)).mp q)
                  have z1 : ¬ nI (cd i % 16) = 1 := fun q => h1 ((nI_eq (b := 1) (by omega) (by omega)).mp q)
                  have z11 : ¬ nI (cd i % 16) = 11 := fun q => h11 ((nI_eq (b := 11) (by omega) (by omega)).mp q)
                  have y1 : st (r'.length + 1) = y := hs.1
                  have y2 : st r'.length = x := hs.2.1
                  simp (config := { decide := true }) (disch := (first | assumption | omega | (simp (config := { decide := true }) only [hm, r0, k0, r1, k1, jK_sc, jK_wI, jK_wJ, jK_wR, jK_wr, jR_wr, jR_wI, jR_wJ]; done) | (simp only [hm, r0, k0, r1, k1, jK_sc, jK_wI, jK_wJ, jK_wR, jK_wr, jR_wr, jR_wI, jR_wJ]; refine jinb_nI ?_ ?_ <;> omega) | (refine jinb_nI ?_ ?_ <;> omega))) only [s206_49, s206_51, s206_64, s206_66, s206_67, s206_84, s206_86, s206_88, s206_104, s206_105, s206_108, s206_110, s206_111, s206_114, s206_116, s206_117, s206_119, s206_121, s206_123, s206_126, s206_129, s206_132, c7, c8, c8', c9, jR_sc, jK_sc, z0, z1, z11, List.length_cons, y1, y2, va_rf_some, va_rf_none, jK_wI, jR_wI, jJ_wI, jK_wJ, jR_wJ, jI_wJ, jK_wR, jI_wR, jJ_wR, jK_wr, jR_wr, jJ_wr, jcl1_i, jcl1_r, jcl1_z, jcl1_n, jcl1_l, jwI_row, jwr_jwr, jwr_cm, jwr_cc, upd_upd, jI_wr_s, jI_wr_a, jI_wr_b, jI_wr_c, mInv_wr, upd_s, upd_n, Option.toList, List.cons_append, List.nil_append, true_or, or_true, eq_self, and_self, ite_true, ite_false, if_true, if_false, jinb_nI, nI_clamp, tc0, tc1, tc2, tc3, tc4, tc5, tc6, tc7, tc8, tc9, tc10, tc11, tc12, tc13, tc14, tc15, tc16, tc17, tc18, tc19, tc20, tc21, tc22, tc23, tc24, tc25, tc26, tc27, tc28, tc29, tc30, tc31, tc32, tc33, tc34, tc35, tc36, tc37, tc38, tc39, tc40, tc41, tc42, tc43, tc44, tc45, tc46, tc47, tc48, tc49, tc50, tc51, tc52, tc53, tc54, tc55, tc56, tc57, tc58, tc59, tc60, tc61, tc62, tc63, tc64, tc65, tc66, tc67, tc68, tc69, tc77, tc83, tc119, tc159, tc160, nI_add, al0, ar0, ml0, mr0, al1, ar1, ml1, mr1, al2, ar2, ml2, mr2, al3, ar3, ml3, mr3, al4, ar4, ml4, mr4, al5, ar5, ml5, mr5, al6, ar6, ml6, mr6, al8, ar8, ml8, mr8, al10, ar10, ml10, mr10, al11, ar11, ml11, mr11, al12, ar12, ml12, mr12, al13, ar13, ml13, mr13, al16, ar16, ml16, mr16, al20, ar20, ml20, mr20, al24, ar24, ml24, mr24, al29, ar29, ml29, mr29, al36, ar36, ml36, mr36, al42, ar42, ml42, mr42, al48, ar48, ml48, mr48, al55, ar55, ml55, mr55, al60, ar60, ml60, mr60, al65, ar65, ml65, mr65, al77, ar77, ml77, mr77, al83, ar83, ml83, mr83, al119, ar119, ml119, mr119, al159, ar159, ml159, mr159, al160, ar160, ml160, mr160, al400, ar400, ml400, mr400, hm, r0, k0, r1, k1, jK_sc]
                  exact ih (i + 1) (mone (nI (cd i % 16)) x y :: r') _ _ _ _ _ _ _ _ (by omega) (by show r'.length + 1 ≤ 64; omega) (sA_push hs.2.2) hr
      · cases hr
    · cases hr
/-- reckons -/
theorem c206 (H : mInv h m) {t b e : Nat} (ht : t < 6) (hbe : b ≤ e) (he : e ≤ 400) {cd : Nat → Nat} (hcd : ∀ i, i < e → jI h (m + 2) (400 * t + i) = nI (cd i) ∧ cd i < 2 ^ 31) {r : Int64} (hr : mrn cd wd (e - b) b [] = some r) (hQ : ∀ tp st, Q (some (.long r)) (mSc m h tp st wd)) {tp : Int32} {st : Nat → Int64} : jC (d + 2) 206 [.ref m, .int (nI t), .int (nI b), .int (nI e)] (mSc m h tp st wd) Q := by
  rw [e206]
  have hm : jK h m = (32, 43) := H.1
  simp (config := { decide := true }) (disch := (first | assumption | omega | (simp (config := { decide := true }) only [hm, jK_sc, jK_wI, jK_wJ, jK_wR, jK_wr, jR_wr, jR_wI, jR_wJ]; done) | (simp only [hm, jK_sc, jK_wI, jK_wJ, jK_wR, jK_wr, jR_wr, jR_wI, jR_wJ]; refine jinb_nI ?_ ?_ <;> omega) | (refine jinb_nI ?_ ?_ <;> omega))) only [s206_0, s206_1, s206_2, s206_5, s206_6, jI_sc_f, jwr_sc, jK_sc, va_rf_some, va_rf_none, jK_wI, jR_wI, jJ_wI, jK_wJ, jR_wJ, jI_wJ, jK_wR, jI_wR, jJ_wR, jK_wr, jR_wr, jJ_wr, jcl1_i, jcl1_r, jcl1_z, jcl1_n, jcl1_l, jwI_row, jwr_jwr, jwr_cm, jwr_cc, upd_upd, jI_wr_s, jI_wr_a, jI_wr_b, jI_wr_c, mInv_wr, upd_s, upd_n, Option.toList, List.cons_append, List.nil_append, true_or, or_true, eq_self, and_self, ite_true, ite_false, if_true, if_false, jinb_nI, nI_clamp, tc0, tc1, tc2, tc3, tc4, tc5, tc6, tc7, tc8, tc9, tc10, tc11, tc12, tc13, tc14, tc15, tc16, tc17, tc18, tc19, tc20, tc21, tc22, tc23, tc24, tc25, tc26, tc27, tc28, tc29, tc30, tc31, tc32, tc33, tc34, tc35, tc36, tc37, tc38, tc39, tc40, tc41, tc42, tc43, tc44, tc45, tc46, tc47, tc48, tc49, tc50, tc51, tc52, tc53, tc54, tc55, tc56, tc57, tc58, tc59, tc60, tc61, tc62, tc63, tc64, tc65, tc66, tc67, tc68, tc69, tc77, tc83, tc119, tc159, tc160, nI_add, al0, ar0, ml0, mr0, al1, ar1, ml1, mr1, al2, ar2, ml2, mr2, al3, ar3, ml3, mr3, al4, ar4, ml4, mr4, al5, ar5, ml5, mr5, al6, ar6, ml6, mr6, al8, ar8, ml8, mr8, al10, ar10, ml10, mr10, al11, ar11, ml11, mr11, al12, ar12, ml12, mr12, al13, ar13, ml13, mr13, al16, ar16, ml16, mr16, al20, ar20, ml20, mr20, al24, ar24, ml24, mr24, al29, ar29, ml29, mr29, al36, ar36, ml36, mr36, al42, ar42, ml42, mr42, al48, ar48, ml48, mr48, al55, ar55, ml55, mr55, al60, ar60, ml60, mr60, al65, ar65, ml65, mr65, al77, ar77, ml77, mr77, al83, ar83, ml83, mr83, al119, ar119, ml119, mr119, al159, ar159, ml159, mr159, al160, ar160, ml160, mr160, al400, ar400, ml400, mr400, hm, jK_sc]
  exact l206 H ht he hcd hQ (e - b) b [] st _ _ _ _ _ _ _ (by omega) (by simp) trivial hr
/-- what a rule's clauses are: from, to, and of the test from, to -/
def mcl (cd : Nat → Nat) (cl : Nat → Nat × Nat × Option (Nat × Nat)) (wd : Nat → Int64) : Nat → Nat → Option Int64
  | 0, _ => some 0
  | n + 1, c => match (cl c).2.2 with
    | none => mrn cd wd ((cl c).2.1 - (cl c).1) (cl c).1 []
    | some q => match mrn cd wd (q.2 - q.1) q.1 [] with
      | none => none
      | some v => if v = 1 then mrn cd wd ((cl c).2.1 - (cl c).1) (cl c).1 [] else mcl cd cl wd n (c + 1)
/-- a rule as the reference keeps it, number t -/
def mRul (h : jH) (m t : Nat) (n : Nat) (cd : Nat → Nat) (cl : Nat → Nat × Nat × Option (Nat × Nat)) : Prop := (jI h (m + 5) t = nI n ∧ n ≤ 12) ∧ ∃ M, M ≤ 400 ∧ (∀ i, i < M → jI h (m + 2) (400 * t + i) = nI (cd i) ∧ cd i < 2 ^ 31) ∧ ∀ c, c < n → (jI h (m + 4) (48 * t + 4 * c) = nI (cl c).1 ∧ jI h (m + 4) (48 * t + 4 * c + 1) = nI (cl c).2.1 ∧ (cl c).1 ≤ (cl c).2.1 ∧ (cl c).2.1 ≤ M) ∧ match (cl c).2.2 with
  | none => jI h (m + 4) (48 * t + 4 * c + 2) = -1
  | some q => jI h (m + 4) (48 * t + 4 * c + 2) = nI q.1 ∧ jI h (m + 4) (48 * t + 4 * c + 3) = nI q.2 ∧ q.1 ≤ q.2 ∧ q.2 ≤ M
end
