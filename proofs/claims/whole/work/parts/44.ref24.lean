/-! THE REFERENCE: by which rule, notes held against courses -/
def mBeg (S : Nat → Int32) : Nat → Int32 := jput (jput (upd S 10 0) (fun _ => 0) 11 18) (fun j => S (83 + j)) 29 36
theorem mBeg_lo {S : Nat → Int32} {j : Nat} (h : j < 10 ∨ 65 ≤ j) : mBeg S j = S j := by
  unfold mBeg
  rw [jput_out (by omega), jput_out (by omega), upd_n (by omega)]
theorem mBeg_10 {S : Nat → Int32} : mBeg S 10 = 0 := by
  unfold mBeg
  rw [jput_out (by omega), jput_out (by omega), upd_s]
theorem mBeg_b {S : Nat → Int32} {j : Nat} (h1 : 11 ≤ j) (h2 : j < 29) : mBeg S j = 0 := by
  unfold mBeg
  rw [jput_out (by omega), jput_in (by omega) (by omega)]
theorem mBeg_eqG {S : Nat → Int32} : eqG S (mBeg S) := fun j h => mBeg_lo h
theorem mBeg_of {S T : Nat → Int32} (e : eqG S T) : mBeg T = mBeg S := by
  funext j
  by_cases h : j < 10 ∨ 65 ≤ j
  · rw [mBeg_lo h, mBeg_lo h, e j h]
  · by_cases h10 : j = 10
    · subst h10
      rw [mBeg_10, mBeg_10]
    · by_cases hb : j < 29
      · rw [mBeg_b (by omega) hb, mBeg_b (by omega) hb]
      · unfold mBeg
        rw [jput_in (by omega) (by omega), jput_in (by omega) (by omega)]
        exact e _ (by omega)
theorem eqG_tr {S T U : Nat → Int32} (e1 : eqG S T) (e2 : eqG T U) : eqG S U := fun j h => by rw [e2 j h, e1 j h]
theorem mBeg_W {S : Nat → Int32} (W : mW S) : mW (mBeg S) := by
  unfold mW sC sK sN sD at *
  rw [mBeg_lo (by omega), mBeg_lo (by omega), mBeg_lo (by omega), mBeg_10]
  exact ⟨W.1, W.2.1, W.2.2.1, by decide⟩
theorem mBeg_B {S : Nat → Int32} : mB (mBeg S) := by
  intro s hs
  unfold sB
  rw [mBeg_b (by omega) (by omega)]
  exact ⟨by decide, by decide⟩
theorem mBeg_D {S : Nat → Int32} : sD (mBeg S) = 0 := by
  unfold sD
  rw [mBeg_10]
  rfl
/-- the rules kept -/
def mRs (h : jH) (m R : Nat) (fs : Nat → (Nat → Int64) → Int64) : Prop := (jI h m 2 = nI R ∧ R ≤ 6) ∧ ∀ t, t < R → mRl h m t (fs t)
def rvs (fs : Nat → (Nat → Int64) → Int64) : Nat → Option ((Nat → Int64) → Int64)
  | 0 => none
  | t + 1 => some (fs t)
def ftS (fs : Nat → (Nat → Int64) → Int64) (S : Nat → Int32) (r n : Nat) : Nat → Int32 := mdays (rvs fs r) 0 noP (mBeg S) n
def nbad (T : Nat → Int32) (n i : Nat) : Bool := decide (T (119 + 4 * i) = nI n) && decide (T (11 + 3 * (T (119 + 4 * i + 1)).toNatClampNeg) >>> (T (119 + 4 * i + 2) &&& 31) &&& 1 ≠ T (119 + 4 * i + 3))
def nts (T : Nat → Int32) (n : Nat) : Bool := (fst1 (nbad T n) (sQ T) 0).isNone
def allB (q : Nat → Bool) : Nat → Bool
  | 0 => true
  | n + 1 => allB q n && q n
def fit (fs : Nat → (Nat → Int64) → Int64) (S : Nat → Int32) (r : Nat) : Bool := allB (fun n => nts (ftS fs S r (n + 1)) n) 61
def thn (fs : Nat → (Nat → Int64) → Int64) (S : Nat → Int32) (t r s : Nat) : Int32 := ftS fs S r (t + 1) (11 + 3 * s)
def nOk (S : Nat → Int32) : Prop := mQ S ∧ ∀ i, i < sQ S → ∃ s, s < 6 ∧ S (119 + 4 * i + 1) = nI s
theorem nOk_of {S T : Nat → Int32} (e : eqG S T) (N : nOk S) : nOk T := by
  have e1 : sQ T = sQ S := by unfold sQ; rw [e 159 (by omega)]
  refine ⟨?_, ?_⟩
  · obtain ⟨a, b⟩ := N.1
    unfold mQ
    rw [e1, e 159 (by omega)]
    exact ⟨a, b⟩
  · intro i hi
    rw [e1] at hi
    obtain ⟨s, h1, h2⟩ := N.2 i hi
    exact ⟨s, h1, by rw [e _ (by omega), h2]⟩
theorem ftS_inv {fs : Nat → (Nat → Int64) → Int64} {S : Nat → Int32} (W : mW S) (r n : Nat) (hn : n ≤ 100) : eqG S (ftS fs S r n) ∧ mB (ftS fs S r n) ∧ mW (ftS fs S r n) := by
  have P : pdOk noP := fun s k h => by cases h
  obtain ⟨a, b, c, -⟩ := mdays_inv (rv := rvs fs r) (lf := 0) (pd := noP) P (mBeg_W W) mBeg_B n (by rw [mBeg_D]; omega)
  exact ⟨eqG_tr mBeg_eqG a, b, c⟩
def fG (h : jH) (m : Nat) (F Y X : Nat → Int32) : jH := jwr (jwr (jwr h m F) (m + 19) Y) (m + 20) X
def fH (h : jH) (m : Nat) (F Y X T : Nat → Int32) : jH := jwr (fG h m F Y X) (m + 10) T
section
variable {h : jH} {m : Nat} {F Y X T : Nat → Int32}
theorem jK_fH : jK (fH h m F Y X T) = jK h := rfl
theorem jR_fH : jR (fH h m F Y X T) = jR h := rfl
theorem fG_c {c : Nat} (h0 : c ≠ 0) (h1 : c ≠ 19) (h2 : c ≠ 20) : jI (fG h m F Y X) (m + c) = jI h (m + c) := by
  unfold fG; rw [jI_wr_a h2, jI_wr_a h1, jI_wr_b h0]
theorem fG_m : jI (fG h m F Y X) m = F := by unfold fG; rw [jI_wr_c (by omega), jI_wr_c (by omega), jI_wr_s]
theorem fH_m : jI (fH h m F Y X T) m = F := by unfold fH; rw [jI_wr_c (by omega), fG_m]
theorem fH_10 : jI (fH h m F Y X T) (m + 10) = T := by unfold fH; rw [jI_wr_s]
theorem fH_19 : jI (fH h m F Y X T) (m + 19) = Y := by unfold fH fG; rw [jI_wr_a (by omega), jI_wr_a (by omega), jI_wr_s]
theorem fH_20 : jI (fH h m F Y X T) (m + 20) = X := by unfold fH fG; rw [jI_wr_a (by omega), jI_wr_s]
theorem fH_wm {F' : Nat → Int32} : jwr (fH h m F Y X T) m F' = fH h m F' Y X T := by
  unfold fH fG
  rw [jwr_com (show m + 10 ≠ m by omega), jwr_com (show m + 20 ≠ m by omega), jwr_com (show m + 19 ≠ m by omega), jwr_jwr]
theorem fH_w10 {T' : Nat → Int32} : jwr (fH h m F Y X T) (m + 10) T' = fH h m F Y X T' := by unfold fH; rw [jwr_jwr]
theorem fH_w19 {Y' : Nat → Int32} : jwr (fH h m F Y X T) (m + 19) Y' = fH h m F Y' X T := by
  unfold fH fG
  rw [jwr_com (show m + 10 ≠ m + 19 by omega), jwr_com (show m + 20 ≠ m + 19 by omega), jwr_jwr]
theorem fH_w20 {X' : Nat → Int32} : jwr (fH h m F Y X T) (m + 20) X' = fH h m F Y X' T := by
  unfold fH fG
  rw [jwr_com (show m + 10 ≠ m + 20 by omega), jwr_jwr]
end
theorem fG_base {h : jH} {m : Nat} {rv : Option ((Nat → Int64) → Int64)} {R : Nat} {fs : Nat → (Nat → Int64) → Int64} {Y X : Nat → Int32} (b : mBase h m rv 0 noP) (Rs : mRs h m R fs) {r : Nat} (hr : r ≤ R) : mBase (fG h m (upd (jI h m) 21 (nI r - 1)) Y X) m (rvs fs r) 0 noP := by
  obtain ⟨H, -, P, P6, d3, d4⟩ := b
  have ec : ∀ c, c ≠ 0 → c ≠ 19 → c ≠ 20 → jI (fG h m (upd (jI h m) 21 (nI r - 1)) Y X) (m + c) = jI h (m + c) := fun c => fG_c
  refine ⟨H, ?_, mPl_of (by rw [fG_m, upd_n (by omega)]) (ec 11 (by omega) (by omega) (by omega)) P, P6, by rw [fG_m, upd_n (by omega)]; exact d3, by rw [fG_m, upd_n (by omega)]; exact d4⟩
  cases r with
  | zero =>
    show jI _ m 21 = -1
    rw [fG_m, upd_s]
    decide
  | succ t =>
    obtain ⟨n, cd, cl, q, hq⟩ := Rs.2 t (by omega)
    refine ⟨t, by have := Rs.1.2; omega, by rw [fG_m, upd_s, nI_pred], n, cd, cl, ?_, hq⟩
    unfold mRul at q ⊢
    rw [ec 2 (by omega) (by omega) (by omega), ec 4 (by omega) (by omega) (by omega), ec 5 (by omega) (by omega) (by omega)]
    exact q
section
variable {h : jH} {m : Nat} {d : Nat} {Q : Option Value → jH → Prop} {tp : Int32} {st wd : Nat → Int64}
/-- areNotesSo -/
theorem c246 {T : Nat → Int32} (H : mInv h m) (hT : jI h (m + 10) = T) (N : nOk T) {n : Nat} : jC (d + 2) 246 [.ref m, .int (nI n)] h Q ↔ Q (some (.int (if nts T n then 1 else 0))) h := by
  rw [e246]
  have hm : jK h m = (32, 43) := H.1
  obtain ⟨r0, k0⟩ := H.at 9 rfl
  obtain ⟨⟨n1, n2⟩, n3⟩ := N
  have c1 := fun s hs Q => @c191 h m d Q H s hs
  rw [hT] at c1
  simp only [s246_0, s246_1, va_rf_some, va_rf_none, jK_wI, jR_wI, jJ_wI, jK_wJ, jR_wJ, jI_wJ, jK_wR, jI_wR, jJ_wR, jK_wr, jR_wr, jJ_wr, jcl1_i, jcl1_r, jcl1_z, jcl1_n, jcl1_l, jwI_row, jwr_jwr, jwr_cm, jwr_cc, upd_upd, jI_wr_s, jI_wr_a, jI_wr_b, jI_wr_c, mInv_wr, upd_s, upd_n, Option.toList, List.cons_append, List.nil_append, true_or, or_true, eq_self, and_self, ite_true, ite_false, if_true, if_false]
  have hl : ∀ (r i : Nat), i + r = sQ T → (jW (d + 1) 246 2 [some (.ref m), some (.int (nI n)), some (.int (nI (4 * i)))] [] h Q ↔ Q (some (.int (if (fst1 (nbad T n) r i).isNone then 1 else 0))) h) := by
    intro r
    induction r with
    | zero =>
      intro i hi
      have e : i = sQ T := by omega
      subst e
      have hle : nI (4 * sQ T) ≤ nI (4 * sQ T) := nI_le (by omega) (by omega)
      show _ ↔ Q (some (.int 1)) h
      simp (config := { decide := true }) (disch := (first | assumption | omega | (simp (config := { decide := true }) only [hm, r0, k0, jK_wI, jK_wJ, jK_wR, jK_wr, jR_wr, jR_wI, jR_wJ]; done) | (simp only [hm, r0, k0, jK_wI, jK_wJ, jK_wR, jK_wr, jR_wr, jR_wI, jR_wJ]; refine jinb_nI ?_ ?_ <;> omega) | (refine jinb_nI ?_ ?_ <;> omega))) only [s246_2, s246_3, s246_4, s246_5, s246_8, s246_11, s246_12, s246_13, s246_80, s246_81, hT, n1, if_pos hle, va_rf_some, va_rf_none, jK_wI, jR_wI, jJ_wI, jK_wJ, jR_wJ, jI_wJ, jK_wR, jI_wR, jJ_wR, jK_wr, jR_wr, jJ_wr, jcl1_i, jcl1_r, jcl1_z, jcl1_n, jcl1_l, jwI_row, jwr_jwr, jwr_cm, jwr_cc, upd_upd, jI_wr_s, jI_wr_a, jI_wr_b, jI_wr_c, mInv_wr, upd_s, upd_n, Option.toList, List.cons_append, List.nil_append, true_or, or_true, eq_self, and_self, ite_true, ite_false, if_true, if_false, jinb_nI, nI_clamp, tc0, tc1, tc2, tc3, tc4, tc5, tc6, tc7, tc8, tc9, tc10, tc11, tc12, tc13, tc14, tc15, tc16, tc17, tc18, tc19, tc20, tc21, tc22, tc23, tc24, tc25, tc26, tc27, tc28, tc29, tc30, tc31, tc32, tc33, tc34, tc35, tc36, tc37, tc38, tc39, tc40, tc41, tc42, tc43, tc44, tc45, tc46, tc47, tc48, tc49, tc50, tc51, tc52, tc53, tc54, tc55, tc56, tc57, tc58, tc59, tc60, tc61, tc62, tc63, tc64, tc65, tc66, tc67, tc68, tc69, tc77, tc83, tc119, tc159, tc160, nI_add, al0, ar0, ml0, mr0, al1, ar1, ml1, mr1, al2, ar2, ml2, mr2, al3, ar3, ml3, mr3, al4, ar4, ml4, mr4, al5, ar5, ml5, mr5, al6, ar6, ml6, mr6, al8, ar8, ml8, mr8, al10, ar10, ml10, mr10, al11, ar11, ml11, mr11, al12, ar12, ml12, mr12, al13, ar13, ml13, mr13, al16, ar16, ml16, mr16, al20, ar20, ml20, mr20, al24, ar24, ml24, mr24, al29, ar29, ml29, mr29, al36, ar36, ml36, mr36, al42, ar42, ml42, mr42, al48, ar48, ml48, mr48, al55, ar55, ml55, mr55, al60, ar60, ml60, mr60, al65, ar65, ml65, mr65, al77, ar77, ml77, mr77, al83, ar83, ml83, mr83, al119, ar119, ml119, mr119, al159, ar159, ml159, mr159, al160, ar160, ml160, mr160, al400, ar400, ml400, mr400, hm, r0, k0]
    | succ r ih =>
      intro i hi
      have hle : ¬ nI (4 * sQ T) ≤ nI (4 * i) := nI_ge (by omega) (by omega)
      obtain ⟨s, s6, hs⟩ := n3 i (by omega)
      have ih' : jW (d + 1) 246 2 [some (.ref m), some (.int (nI n)), some (.int (nI (4 * i + 4)))] [] h Q ↔ _ := ih (i + 1) (by omega)
      unfold fst1 nbad
      rw [hs, nI_clamp (by omega)]
      by_cases e1 : T (119 + 4 * i) = nI n
      · by_cases e2 : T (11 + 3 * s) >>> (T (119 + 4 * i + 2) &&& 31) &&& 1 = T (119 + 4 * i + 3)
        · have e2' : ¬ (T (11 + 3 * s) >>> (T (119 + 4 * i + 2) &&& 31) &&& 1 ≠ T (119 + 4 * i + 3)) := fun q => q e2
          simp (config := { decide := true }) only [decide_eq_true e1, decide_eq_false e2', Bool.true_and, if_false]
          simp (config := { decide := true }) (disch := (first | assumption | omega | (simp (config := { decide := true }) only [hm, r0, k0, jK_wI, jK_wJ, jK_wR, jK_wr, jR_wr, jR_wI, jR_wJ]; done) | (simp only [hm, r0, k0, jK_wI, jK_wJ, jK_wR, jK_wr, jR_wr, jR_wI, jR_wJ]; refine jinb_nI ?_ ?_ <;> omega) | (refine jinb_nI ?_ ?_ <;> omega))) only [s246_2, s246_3, s246_4, s246_5, s246_8, s246_11, s246_12, s246_13, hT, n1, if_neg hle, va_rf_some, va_rf_none, jK_wI, jR_wI, jJ_wI, jK_wJ, jR_wJ, jI_wJ, jK_wR, jI_wR, jJ_wR, jK_wr, jR_wr, jJ_wr, jcl1_i, jcl1_r, jcl1_z, jcl1_n, jcl1_l, jwI_row, jwr_jwr, jwr_cm, jwr_cc, upd_upd, jI_wr_s, jI_wr_a, jI_wr_b, jI_wr_c, mInv_wr, upd_s, upd_n, Option.toList, List.cons_append, List.nil_append, true_or, or_true, eq_self, and_self, ite_true, ite_false, if_true, if_false, jinb_nI, nI_clamp, tc0, tc1, tc2, tc3, tc4, tc5, tc6, tc7, tc8, tc9, tc10, tc11, tc12, tc13, tc14, tc15, tc16, tc17, tc18, tc19, tc20, tc21, tc22, tc23, tc24, tc25, tc26, tc27, tc28, tc29, tc30, tc31, tc32, tc33, tc34, tc35, tc36, tc37, tc38, tc39, tc40, tc41, tc42, tc43, tc44, tc45, tc46, tc47, tc48, tc49, tc50, tc51, tc52, tc53, tc54, tc55, tc56, tc57, tc58, tc59, tc60, tc61, tc62, tc63, tc64, tc65, tc66, tc67, tc68, tc69, tc77, tc83, tc119, tc159, tc160, nI_add, al0, ar0, ml0, mr0, al1, ar1, ml1, mr1, al2, ar2, ml2, mr2, al3, ar3, ml3, mr3, al4, ar4, ml4, mr4, al5, ar5, ml5, mr5, al6, ar6, ml6, mr6, al8, ar8, ml8, mr8, al10, ar10, ml10, mr10, al11, ar11, ml11, mr11, al12, ar12, ml12, mr12, al13, ar13, ml13, mr13, al16, ar16, ml16, mr16, al20, ar20, ml20, mr20, al24, ar24, ml24, mr24, al29, ar29, ml29, mr29, al36, ar36, ml36, mr36, al42, ar42, ml42, mr42, al48, ar48, ml48, mr48, al55, ar55, ml55, mr55, al60, ar60, ml60, mr60, al65, ar65, ml65, mr65, al77, ar77, ml77, mr77, al83, ar83, ml83, mr83, al119, ar119, ml119, mr119, al159, ar159, ml159, mr159, al160, ar160, ml160, mr160, al400, ar400, ml400, mr400, hm, r0, k0]
          simp (config := { decide := true }) (disch := (first | assumption | omega | (simp (config := { decide := true }) only [hm, r0, k0, jK_wI, jK_wJ, jK_wR, jK_wr, jR_wr, jR_wI, jR_wJ]; done) | (simp only [hm, r0, k0, jK_wI, jK_wJ, jK_wR, jK_wr, jR_wr, jR_wI, jR_wJ]; refine jinb_nI ?_ ?_ <;> omega) | (refine jinb_nI ?_ ?_ <;> omega))) only [s246_16, s246_17, s246_20, s246_22, s246_23, s246_24, s246_25, s246_26, s246_29, s246_30, s246_31, s246_34, s246_36, s246_37, s246_38, s246_39, s246_40, s246_41, s246_44, s246_45, s246_48, s246_50, s246_51, s246_52, s246_53, s246_54, s246_55, s246_56, s246_57, s246_58, s246_59, s246_62, s246_64, s246_65, s246_66, s246_67, s246_68, s246_69, s246_74, s246_77, hT, e1, hs, c1 s s6, e2, va_rf_some, va_rf_none, jK_wI, jR_wI, jJ_wI, jK_wJ, jR_wJ, jI_wJ, jK_wR, jI_wR, jJ_wR, jK_wr, jR_wr, jJ_wr, jcl1_i, jcl1_r, jcl1_z, jcl1_n, jcl1_l, jwI_row, jwr_jwr, jwr_cm, jwr_cc, upd_upd, jI_wr_s, jI_wr_a, jI_wr_b, jI_wr_c, mInv_wr, upd_s, upd_n, Option.toList, List.cons_append, List.nil_append, true_or, or_true, eq_self, and_self, ite_true, ite_false, if_true, if_false, jinb_nI, nI_clamp, tc0, tc1, tc2, tc3, tc4, tc5, tc6, tc7, tc8, tc9, tc10, tc11, tc12, tc13, tc14, tc15, tc16, tc17, tc18, tc19, tc20, tc21, tc22, tc23, tc24, tc25, tc26, tc27, tc28, tc29, tc30, tc31, tc32, tc33, tc34, tc35, tc36, tc37, tc38, tc39, tc40, tc41, tc42, tc43, tc44, tc45, tc46, tc47, tc48, tc49, tc50, tc51, tc52, tc53, tc54, tc55, tc56, tc57, tc58, tc59, tc60, tc61, tc62, tc63, tc64, tc65, tc66, tc67, tc68, tc69, tc77, tc83, tc119, tc159, tc160, nI_add, al0, ar0, ml0, mr0, al1, ar1, ml1, mr1, al2, ar2, ml2, mr2, al3, ar3, ml3, mr3, al4, ar4, ml4, mr4, al5, ar5, ml5, mr5, al6, ar6, ml6, mr6, al8, ar8, ml8, mr8, al10, ar10, ml10, mr10, al11, ar11, ml11, mr11, al12, ar12, ml12, mr12, al13, ar13, ml13, mr13, al16, ar16, ml16, mr16, al20, ar20, ml20, mr20, al24, ar24, ml24, mr24, al29, ar29, ml29, mr29, al36, ar36, ml36, mr36, al42, ar42, ml42, mr42, al48, ar48, ml48, mr48, al55, ar55, ml55, mr55, al60, ar60, ml60, mr60, al65, ar65, ml65, mr65, al77, ar77, ml77, mr77, al83, ar83, ml83, mr83, al119, ar119, ml119, mr119, al159, ar159, ml159, mr159, al160, ar160, ml160, mr160, al400, ar400, ml400, mr400, hm, r0, k0]
          exact ih'
        · have e2' : T (11 + 3 * s) >>> (T (119 + 4 * i + 2) &&& 31) &&& 1 ≠ T (119 + 4 * i + 3) := e2
          simp (config := { decide := true }) only [decide_eq_true e1, decide_eq_true e2', Bool.true_and, if_true, Option.isNone, if_false]
          simp (config := { decide := true }) (disch := (first | assumption | omega | (simp (config := { decide := true }) only [hm, r0, k0, jK_wI, jK_wJ, jK_wR, jK_wr, jR_wr, jR_wI, jR_wJ]; done) | (simp only [hm, r0, k0, jK_wI, jK_wJ, jK_wR, jK_wr, jR_wr, jR_wI, jR_wJ]; refine jinb_nI ?_ ?_ <;> omega) | (refine jinb_nI ?_ ?_ <;> omega))) only [s246_2, s246_3, s246_4, s246_5, s246_8, s246_11, s246_12, s246_13, s246_16, s246_17, s246_20, s246_22, s246_23, s246_24, s246_25, s246_26, s246_29, s246_30, s246_31, s246_34, s246_36, s246_37, s246_38, s246_39, s246_40, s246_41, s246_44, s246_45, s246_48, s246_50, s246_51, s246_52, s246_53, s246_54, s246_55, s246_56, s246_57, s246_58, s246_59, s246_62, s246_64, s246_65, s246_66, s246_67, s246_68, s246_69, s246_72, s246_73, hT, n1, if_neg hle, e1, hs, c1 s s6, e2, va_rf_some, va_rf_none, jK_wI, jR_wI, jJ_wI, jK_wJ, jR_wJ, jI_wJ, jK_wR, jI_wR, jJ_wR, jK_wr, jR_wr, jJ_wr, jcl1_i, jcl1_r, jcl1_z, jcl1_n, jcl1_l, jwI_row, jwr_jwr, jwr_cm, jwr_cc, upd_upd, jI_wr_s, jI_wr_a, jI_wr_b, jI_wr_c, mInv_wr, upd_s, upd_n, Option.toList, List.cons_append, List.nil_append, true_or, or_true, eq_self, and_self, ite_true, ite_false, if_true, if_false, jinb_nI, nI_clamp, tc0, tc1, tc2, tc3, tc4, tc5, tc6, tc7, tc8, tc9, tc10, tc11, tc12, tc13, tc14, tc15, tc16, tc17, tc18, tc19, tc20, tc21, tc22, tc23, tc24, tc25, tc26, tc27, tc28, tc29, tc30, tc31, tc32, tc33, tc34, tc35, tc36, tc37, tc38, tc39, tc40, tc41, tc42, tc43, tc44, tc45, tc46, tc47, tc48, tc49, tc50, tc51, tc52, tc53, tc54, tc55, tc56, tc57, tc58, tc59, tc60, tc61, tc62, tc63, tc64, tc65, tc66, tc67, tc68, tc69, tc77, tc83, tc119, tc159, tc160, nI_add, al0, ar0, ml0, mr0, al1, ar1, ml1, mr1, al2, ar2, ml2, mr2, al3, ar3, ml3, mr3, al4, ar4, ml4, mr4, al5, ar5, ml5, mr5, al6, ar6, ml6, mr6, al8, ar8, ml8, mr8, al10, ar10, ml10, mr10, al11, ar11, ml11, mr11, al12, ar12, ml12, mr12, al13, ar13, ml13, mr13, al16, ar16, ml16, mr16, al20, ar20, ml20, mr20, al24, ar24, ml24, mr24, al29, ar29, ml29, mr29, al36, ar36, ml36, mr36, al42, ar42, ml42, mr42, al48, ar48, ml48, mr48, al55, ar55, ml55, mr55, al60, ar60, ml60, mr60, al65, ar65, ml65, mr65, al77, ar77, ml77, mr77, al83, ar83, ml83, mr83, al119, ar119, ml119, mr119, al159, ar159, ml159, mr159, al160, ar160, ml160, mr160, al400, ar400, ml400, mr400, hm, r0, k0]
      · simp (config := { decide := true }) only [decide_eq_false e1, Bool.false_and, if_false]
        simp (config := { decide := true }) (disch := (first | assumption | omega | (simp (config := { decide := true }) only [hm, r0, k0, jK_wI, jK_wJ, jK_wR, jK_wr, jR_wr, jR_wI, jR_wJ]; done) | (simp only [hm, r0, k0, jK_wI, jK_wJ, jK_wR, jK_wr, jR_wr, jR_wI, jR_wJ]; refine jinb_nI ?_ ?_ <;> omega) | (refine jinb_nI ?_ ?_ <;> omega))) only [s246_2, s246_3, s246_4, s246_5, s246_8, s246_11, s246_12, s246_13, hT, n1, if_neg hle, va_rf_some, va_rf_none, jK_wI, jR_wI, jJ_wI, jK_wJ, jR_wJ, jI_wJ, jK_wR, jI_wR, jJ_wR, jK_wr, jR_wr, jJ_wr, jcl1_i, jcl1_r, jcl1_z, jcl1_n, jcl1_l, jwI_row, jwr_jwr, jwr_cm, jwr_cc, upd_upd, jI_wr_s, jI_wr_a, jI_wr_b, jI_wr_c, mInv_wr, upd_s, upd_n, Option.toList, List.cons_append, List.nil_append, true_or, or_true, eq_self, and_self, ite_true, ite_false, if_true, if_false, jinb_nI, nI_clamp, tc0, tc1, tc2, tc3, tc4, tc5, tc6, tc7, tc8, tc9, tc10, tc11, tc12, tc13, tc14, tc15, tc16, tc17, tc18, tc19, tc20, tc21, tc22, tc23, tc24, tc25, tc26, tc27, tc28, tc29, tc30, tc31, tc32, tc33, tc34, tc35, tc36, tc37, tc38, tc39, tc40, tc41, tc42, tc43, tc44, tc45, tc46, tc47, tc48, tc49, tc50, tc51, tc52, tc53, tc54, tc55, tc56, tc57, tc58, tc59, tc60, tc61, tc62, tc63, tc64, tc65, tc66, tc67, tc68, tc69, tc77, tc83, tc119, tc159, tc160, nI_add, al0, ar0, ml0, mr0, al1, ar1, ml1, mr1, al2, ar2, ml2, mr2, al3, ar3, ml3, mr3, al4, ar4, ml4, mr4, al5, ar5, ml5, mr5, al6, ar6, ml6, mr6, al8, ar8, ml8, mr8, al10, ar10, ml10, mr10, al11, ar11, ml11, mr11, al12, ar12, ml12, mr12, al13, ar13, ml13, mr13, al16, ar16, ml16, mr16, al20, ar20, ml20, mr20, al24, ar24, ml24, mr24, al29, ar29, ml29, mr29, al36, ar36, ml36, mr36, al42, ar42, ml42, mr42, al48, ar48, ml48, mr48, al55, ar55, ml55, mr55, al60, ar60, ml60, mr60, al65, ar65, ml65, mr65, al77, ar77, ml77, mr77, al83, ar83, ml83, mr83, al119, ar119, ml119, mr119, al159, ar159, ml159, mr159, al160, ar160, ml160, mr160, al400, ar400, ml400, mr400, hm, r0, k0]
        simp (config := { decide := true }) (disch := (first | assumption | omega | (simp (config := { decide := true }) only [hm, r0, k0, jK_wI, jK_wJ, jK_wR, jK_wr, jR_wr, jR_wI, jR_wJ]; done) | (simp only [hm, r0, k0, jK_wI, jK_wJ, jK_wR, jK_wr, jR_wr, jR_wI, jR_wJ]; refine jinb_nI ?_ ?_ <;> omega) | (refine jinb_nI ?_ ?_ <;> omega))) only [s246_16, s246_17, s246_20, s246_22, s246_23, s246_24, s246_25, s246_26, s246_74, s246_77, hT, e1, va_rf_some, va_rf_none, jK_wI, jR_wI, jJ_wI, jK_wJ, jR_wJ, jI_wJ, jK_wR, jI_wR, jJ_wR, jK_wr, jR_wr, jJ_wr, jcl1_i, jcl1_r, jcl1_z, jcl1_n, jcl1_l, jwI_row, jwr_jwr, jwr_cm, jwr_cc, upd_upd, jI_wr_s, jI_wr_a, jI_wr_b, jI_wr_c, mInv_wr, upd_s, upd_n, Option.toList, List.cons_append, List.nil_append, true_or, or_true, eq_self, and_self, ite_true, ite_false, if_true, if_false, jinb_nI, nI_clamp, tc0, tc1, tc2, tc3, tc4, tc5, tc6, tc7, tc8, tc9, tc10, tc11, tc12, tc13, tc14, tc15, tc16, tc17, tc18, tc19, tc20, tc21, tc22, tc23, tc24, tc25, tc26, tc27, tc28, tc29, tc30, tc31, tc32, tc33, tc34, tc35, tc36, tc37, tc38, tc39, tc40, tc41, tc42, tc43, tc44, tc45, tc46, tc47, tc48, tc49, tc50, tc51, tc52, tc53, tc54, tc55, tc56, tc57, tc58, tc59, tc60, tc61, tc62, tc63, tc64, tc65, tc66, tc67, tc68, tc69, tc77, tc83, tc119, tc159, tc160, nI_add, al0, ar0, ml0, mr0, al1, ar1, ml1, mr1, al2, ar2, ml2, mr2, al3, ar3, ml3, mr3, al4, ar4, ml4, mr4, al5, ar5, ml5, mr5, al6, ar6, ml6, mr6, al8, ar8, ml8, mr8, al10, ar10, ml10, mr10, al11, ar11, ml11, mr11, al12, ar12, ml12, mr12, al13, ar13, ml13, mr13, al16, ar16, ml16, mr16, al20, ar20, ml20, mr20, al24, ar24, ml24, mr24, al29, ar29, ml29, mr29, al36, ar36, ml36, mr36, al42, ar42, ml42, mr42, al48, ar48, ml48, mr48, al55, ar55, ml55, mr55, al60, ar60, ml60, mr60, al65, ar65, ml65, mr65, al77, ar77, ml77, mr77, al83, ar83, ml83, mr83, al119, ar119, ml119, mr119, al159, ar159, ml159, mr159, al160, ar160, ml160, mr160, al400, ar400, ml400, mr400, hm, r0, k0]
        exact ih'
  exact hl (sQ T) 0 (by omega)
theorem c181s {g : jH} {T : Nat → Int32} (H : mInv g m) : jC (d + 1) 181 [.ref m] (mSc m (jwr g (m + 10) T) tp st wd) Q ↔ Q none (mSc m (jwr g (m + 10) (mBeg T)) tp st wd) := by
  rw [c181 (h := mSc m (jwr g (m + 10) T) tp st wd) (m := m) H, jI_sc_a (by omega), jI_wr_s, jwr_scc (by omega), jwr_jwr]
  rfl
def tnQ (u : Nat → Nat → Int32) (X : Nat → Int32) (r : Nat) (c : Nat → Prop) : Prop := ∀ r' s, s < 6 → (r' < r ∨ r' = r ∧ c s) → X (6 * r' + s) = u r' s
/-- fillsFits -/
theorem c245 {rv : Option ((Nat → Int64) → Int64)} {S : Nat → Int32} {R : Nat} {fs : Nat → (Nat → Int64) → Int64} (b : mBase h m rv 0 noP) (Rs : mRs h m R fs) (hS : jI h (m + 10) = S) (W : mW S) (N : nOk S) {t : Nat} (ht : t ≤ 60) (hQ : ∀ K Y X tp st wd, (∀ r, r ≤ R → Y r = if fit fs S r then 1 else 0) → tnQ (thn fs S t) X (R + 1) (fun _ => False) → Q none (mSc m (jwr (jwr (jwr h (m + 13) K) (m + 19) Y) (m + 20) X) tp st wd)) : jC (d + 9) 245 [.ref m, .int (nI t)] (mSc m h tp st wd) Q := by
  rw [e245]
  have H := b.1
  have hm : jK h m = (32, 43) := H.1
  have g21 : jI (mSc m h tp st wd) m 21 = jI h m 21 := jI_sc_g (by omega)
  simp (config := { decide := true }) (disch := (first | assumption | omega | (simp (config := { decide := true }) only [hm, jK_sc, jK_wI, jK_wJ, jK_wR, jK_wr, jR_wr, jR_wI, jR_wJ]; done) | (simp only [hm, jK_sc, jK_wI, jK_wJ, jK_wR, jK_wr, jR_wr, jR_wI, jR_wJ]; refine jinb_nI ?_ ?_ <;> omega) | (refine jinb_nI ?_ ?_ <;> omega))) only [s245_0, s245_1, s245_4, s245_5, s245_6, s245_9, s245_10, c216s H, jK_sc, hS, g21, va_rf_some, va_rf_none, jK_wI, jR_wI, jJ_wI, jK_wJ, jR_wJ, jI_wJ, jK_wR, jI_wR, jJ_wR, jK_wr, jR_wr, jJ_wr, jcl1_i, jcl1_r, jcl1_z, jcl1_n, jcl1_l, jwI_row, jwr_jwr, jwr_cm, jwr_cc, upd_upd, jI_wr_s, jI_wr_a, jI_wr_b, jI_wr_c, mInv_wr, upd_s, upd_n, Option.toList, List.cons_append, List.nil_append, true_or, or_true, eq_self, and_self, ite_true, ite_false, if_true, if_false, jinb_nI, nI_clamp, tc0, tc1, tc2, tc3, tc4, tc5, tc6, tc7, tc8, tc9, tc10, tc11, tc12, tc13, tc14, tc15, tc16, tc17, tc18, tc19, tc20, tc21, tc22, tc23, tc24, tc25, tc26, tc27, tc28, tc29, tc30, tc31, tc32, tc33, tc34, tc35, tc36, tc37, tc38, tc39, tc40, tc41, tc42, tc43, tc44, tc45, tc46, tc47, tc48, tc49, tc50, tc51, tc52, tc53, tc54, tc55, tc56, tc57, tc58, tc59, tc60, tc61, tc62, tc63, tc64, tc65, tc66, tc67, tc68, tc69, tc77, tc83, tc119, tc159, tc160, nI_add, al0, ar0, ml0, mr0, al1, ar1, ml1, mr1, al2, ar2, ml2, mr2, al3, ar3, ml3, mr3, al4, ar4, ml4, mr4, al5, ar5, ml5, mr5, al6, ar6, ml6, mr6, al8, ar8, ml8, mr8, al10, ar10, ml10, mr10, al11, ar11, ml11, mr11, al12, ar12, ml12, mr12, al13, ar13, ml13, mr13, al16, ar16, ml16, mr16, al20, ar20, ml20, mr20, al24, ar24, ml24, mr24, al29, ar29, ml29, mr29, al36, ar36, ml36, mr36, al42, ar42, ml42, mr42, al48, ar48, ml48, mr48, al55, ar55, ml55, mr55, al60, ar60, ml60, mr60, al65, ar65, ml65, mr65, al77, ar77, ml77, mr77, al83, ar83, ml83, mr83, al119, ar119, ml119, mr119, al159, ar159, ml159, mr159, al160, ar160, ml160, mr160, al400, ar400, ml400, mr400, hm, jK_sc]
  obtain ⟨h1, he, b1, q1, q2, q3, q4⟩ := mKept b
  rw [hS] at he q1 q2 q3
  rw [he]
  have hQ' : ∀ Y X tp st wd, (∀ r, r ≤ R → Y r = if fit fs S r then 1 else 0) → tnQ (thn fs S t) X (R + 1) (fun _ => False) → Q none (mSc m (fG h1 m (jI h1 m) Y X) tp st wd) := fun Y X tp st wd y x => by
    have := hQ (kpt (jI h (m + 13)) S) Y X tp st wd y x
    rw [he] at this
    unfold fG
    rw [jwr_self]
    exact this
  clear hQ
  have Rs1 : mRs h1 m R fs := by
    have ec : ∀ c, c ≠ 13 → c ≠ 0 → jI h1 (m + c) = jI h (m + c) := fun c a _ => by rw [← he, jI_wr_a a]
    refine ⟨by rw [q4]; exact Rs.1, fun t ht => ?_⟩
    obtain ⟨n, cd, cl, q, hq⟩ := Rs.2 t ht
    refine ⟨n, cd, cl, ?_, hq⟩
    unfold mRul at q ⊢
    rw [ec 2 (by omega) (by omega), ec 4 (by omega) (by omega), ec 5 (by omega) (by omega)]
    exact q
  rw [← q4]
  obtain ⟨hR, hR6⟩ := Rs1.1
  have H1 := b1.1
  have hm1 : jK h1 m = (32, 43) := H1.1
  obtain ⟨r0, k0⟩ := H1.at 9 rfl
  obtain ⟨r1, k1⟩ := H1.at 18 rfl
  obtain ⟨r2, k2⟩ := H1.at 19 rfl
  have ft := fun r n hn => ftS_inv (fs := fs) W r n hn
  have thnE : ∀ r s, thn fs S t r s = ftS fs S r (t + 1) (11 + 3 * s) := fun r s => rfl
  have fitE : ∀ r, fit fs S r = allB (fun n => nts (ftS fs S r (n + 1)) n) 61 := fun r => rfl
  generalize thn fs S t = u at *
  generalize hwas : jI h1 m 21 = was at *
  -- the six rows of badges
  have hl3 : ∀ (r : Nat) (v is : Int32) (Y : Nat → Int32) (tp : Int32) (st wd : Nat → Int64), r ≤ R → (∀ X x6, tnQ u X r (fun _ => True) → jW (d + 8) 245 109 [some (.ref m), some (.int (nI t)), some (.int was), some (.int (nI r)), some (.int is), some (.int (nI t)), x6] [] (mSc m (fH h1 m (upd (jI h1 m) 21 v) Y X (ftS fs S r (t + 1))) tp st wd) Q) → ∀ (q j : Nat) (X : Nat → Int32), j + q = 6 → tnQ u X r (fun s => s < j) → jW (d + 8) 245 72 [some (.ref m), some (.int (nI t)), some (.int was), some (.int (nI r)), some (.int is), some (.int (nI t)), some (.int (nI j))] [] (mSc m (fH h1 m (upd (jI h1 m) 21 v) Y X (ftS fs S r (t + 1))) tp st wd) Q := by
    intro r v is Y tp st wd hr hnext q
    induction q with
    | zero =>
      intro j X hj F
      have e : j = 6 := by omega
      subst e
      have hle : (6 : Int32) ≤ nI 6 := by decide
      simp (config := { decide := true }) (disch := (first | assumption | omega | (simp (config := { decide := true }) only [hm1, jK_sc, jK_fH, jK_wI, jK_wJ, jK_wR, jK_wr, jR_wr, jR_wI, jR_wJ]; done) | (simp only [hm1, jK_sc, jK_fH, jK_wI, jK_wJ, jK_wR, jK_wr, jR_wr, jR_wI, jR_wJ]; refine jinb_nI ?_ ?_ <;> omega) | (refine jinb_nI ?_ ?_ <;> omega))) only [s245_72, s245_74, s245_76, if_pos hle, va_rf_some, va_rf_none, jK_wI, jR_wI, jJ_wI, jK_wJ, jR_wJ, jI_wJ, jK_wR, jI_wR, jJ_wR, jK_wr, jR_wr, jJ_wr, jcl1_i, jcl1_r, jcl1_z, jcl1_n, jcl1_l, jwI_row, jwr_jwr, jwr_cm, jwr_cc, upd_upd, jI_wr_s, jI_wr_a, jI_wr_b, jI_wr_c, mInv_wr, upd_s, upd_n, Option.toList, List.cons_append, List.nil_append, true_or, or_true, eq_self, and_self, ite_true, ite_false, if_true, if_false, jinb_nI, nI_clamp, tc0, tc1, tc2, tc3, tc4, tc5, tc6, tc7, tc8, tc9, tc10, tc11, tc12, tc13, tc14, tc15, tc16, tc17, tc18, tc19, tc20, tc21, tc22, tc23, tc24, tc25, tc26, tc27, tc28, tc29, tc30, tc31, tc32, tc33, tc34, tc35, tc36, tc37, tc38, tc39, tc40, tc41, tc42, tc43, tc44, tc45, tc46, tc47, tc48, tc49, tc50, tc51, tc52, tc53, tc54, tc55, tc56, tc57, tc58, tc59, tc60, tc61, tc62, tc63, tc64, tc65, tc66, tc67, tc68, tc69, tc77, tc83, tc119, tc159, tc160, nI_add, al0, ar0, ml0, mr0, al1, ar1, ml1, mr1, al2, ar2, ml2, mr2, al3, ar3, ml3, mr3, al4, ar4, ml4, mr4, al5, ar5, ml5, mr5, al6, ar6, ml6, mr6, al8, ar8, ml8, mr8, al10, ar10, ml10, mr10, al11, ar11, ml11, mr11, al12, ar12, ml12, mr12, al13, ar13, ml13, mr13, al16, ar16, ml16, mr16, al20, ar20, ml20, mr20, al24, ar24, ml24, mr24, al29, ar29, ml29, mr29, al36, ar36, ml36, mr36, al42, ar42, ml42, mr42, al48, ar48, ml48, mr48, al55, ar55, ml55, mr55, al60, ar60, ml60, mr60, al65, ar65, ml65, mr65, al77, ar77, ml77, mr77, al83, ar83, ml83, mr83, al119, ar119, ml119, mr119, al159, ar159, ml159, mr159, al160, ar160, ml160, mr160, al400, ar400, ml400, mr400, hm1, jK_sc, jK_fH]
      exact hnext X _ (fun r' s hs h => F r' s hs (by omega))
    | succ q ih =>
      intro j X hj F
      have hle : ¬ (6 : Int32) ≤ nI j := nI_ge (b := 6) (by omega) (by omega)
      have ca := fun Q => @c191s (fH h1 m (upd (jI h1 m) 21 v) Y X (ftS fs S r (t + 1))) m (d + 7) Q tp st wd H1 j (by omega)
      rw [fH_10] at ca
      simp (config := { decide := true }) (disch := (first | assumption | omega | (simp (config := { decide := true }) only [hm1, r2, k2, jK_sc, jK_fH, jK_wI, jK_wJ, jK_wR, jK_wr, jR_wr, jR_wI, jR_wJ]; done) | (simp only [hm1, r2, k2, jK_sc, jK_fH, jK_wI, jK_wJ, jK_wR, jK_wr, jR_wr, jR_wI, jR_wJ]; refine jinb_nI ?_ ?_ <;> omega) | (refine jinb_nI ?_ ?_ <;> omega))) only [s245_72, s245_74, s245_76, if_neg hle, va_rf_some, va_rf_none, jK_wI, jR_wI, jJ_wI, jK_wJ, jR_wJ, jI_wJ, jK_wR, jI_wR, jJ_wR, jK_wr, jR_wr, jJ_wr, jcl1_i, jcl1_r, jcl1_z, jcl1_n, jcl1_l, jwI_row, jwr_jwr, jwr_cm, jwr_cc, upd_upd, jI_wr_s, jI_wr_a, jI_wr_b, jI_wr_c, mInv_wr, upd_s, upd_n, Option.toList, List.cons_append, List.nil_append, true_or, or_true, eq_self, and_self, ite_true, ite_false, if_true, if_false, jinb_nI, nI_clamp, tc0, tc1, tc2, tc3, tc4, tc5, tc6, tc7, tc8, tc9, tc10, tc11, tc12, tc13, tc14, tc15, tc16, tc17, tc18, tc19, tc20, tc21, tc22, tc23, tc24, tc25, tc26, tc27, tc28, tc29, tc30, tc31, tc32, tc33, tc34, tc35, tc36, tc37, tc38, tc39, tc40, tc41, tc42, tc43, tc44, tc45, tc46, tc47, tc48, tc49, tc50, tc51, tc52, tc53, tc54, tc55, tc56, tc57, tc58, tc59, tc60, tc61, tc62, tc63, tc64, tc65, tc66, tc67, tc68, tc69, tc77, tc83, tc119, tc159, tc160, nI_add, al0, ar0, ml0, mr0, al1, ar1, ml1, mr1, al2, ar2, ml2, mr2, al3, ar3, ml3, mr3, al4, ar4, ml4, mr4, al5, ar5, ml5, mr5, al6, ar6, ml6, mr6, al8, ar8, ml8, mr8, al10, ar10, ml10, mr10, al11, ar11, ml11, mr11, al12, ar12, ml12, mr12, al13, ar13, ml13, mr13, al16, ar16, ml16, mr16, al20, ar20, ml20, mr20, al24, ar24, ml24, mr24, al29, ar29, ml29, mr29, al36, ar36, ml36, mr36, al42, ar42, ml42, mr42, al48, ar48, ml48, mr48, al55, ar55, ml55, mr55, al60, ar60, ml60, mr60, al65, ar65, ml65, mr65, al77, ar77, ml77, mr77, al83, ar83, ml83, mr83, al119, ar119, ml119, mr119, al159, ar159, ml159, mr159, al160, ar160, ml160, mr160, al400, ar400, ml400, mr400, hm1, r2, k2, jK_sc, jK_fH]
      simp (config := { decide := true }) (disch := (first | assumption | omega | (simp (config := { decide := true }) only [hm1, r2, k2, jK_sc, jK_fH, jK_wI, jK_wJ, jK_wR, jK_wr, jR_wr, jR_wI, jR_wJ]; done) | (simp only [hm1, r2, k2, jK_sc, jK_fH, jK_wI, jK_wJ, jK_wR, jK_wr, jR_wr, jR_wI, jR_wJ]; refine jinb_nI ?_ ?_ <;> omega) | (refine jinb_nI ?_ ?_ <;> omega))) only [s245_79, s245_81, s245_82, s245_85, s245_86, s245_89, s245_91, s245_92, s245_93, s245_95, s245_96, s245_97, s245_99, s245_102, s245_103, s245_106, ca, jR_sc, jK_sc, jI_sc_a, jK_fH, jR_fH, fH_20, jwr_scc, fH_w20, va_rf_some, va_rf_none, jK_wI, jR_wI, jJ_wI, jK_wJ, jR_wJ, jI_wJ, jK_wR, jI_wR, jJ_wR, jK_wr, jR_wr, jJ_wr, jcl1_i, jcl1_r, jcl1_z, jcl1_n, jcl1_l, jwI_row, jwr_jwr, jwr_cm, jwr_cc, upd_upd, jI_wr_s, jI_wr_a, jI_wr_b, jI_wr_c, mInv_wr, upd_s, upd_n, Option.toList, List.cons_append, List.nil_append, true_or, or_true, eq_self, and_self, ite_true, ite_false, if_true, if_false, jinb_nI, nI_clamp, tc0, tc1, tc2, tc3, tc4, tc5, tc6, tc7, tc8, tc9, tc10, tc11, tc12, tc13, tc14, tc15, tc16, tc17, tc18, tc19, tc20, tc21, tc22, tc23, tc24, tc25, tc26, tc27, tc28, tc29, tc30, tc31, tc32, tc33, tc34, tc35, tc36, tc37, tc38, tc39, tc40, tc41, tc42, tc43, tc44, tc45, tc46, tc47, tc48, tc49, tc50, tc51, tc52, tc53, tc54, tc55, tc56, tc57, tc58, tc59, tc60, tc61, tc62, tc63, tc64, tc65, tc66, tc67, tc68, tc69, tc77, tc83, tc119, tc159, tc160, nI_add, al0, ar0, ml0, mr0, al1, ar1, ml1, mr1, al2, ar2, ml2, mr2, al3, ar3, ml3, mr3, al4, ar4, ml4, mr4, al5, ar5, ml5, mr5, al6, ar6, ml6, mr6, al8, ar8, ml8, mr8, al10, ar10, ml10, mr10, al11, ar11, ml11, mr11, al12, ar12, ml12, mr12, al13, ar13, ml13, mr13, al16, ar16, ml16, mr16, al20, ar20, ml20, mr20, al24, ar24, ml24, mr24, al29, ar29, ml29, mr29, al36, ar36, ml36, mr36, al42, ar42, ml42, mr42, al48, ar48, ml48, mr48, al55, ar55, ml55, mr55, al60, ar60, ml60, mr60, al65, ar65, ml65, mr65, al77, ar77, ml77, mr77, al83, ar83, ml83, mr83, al119, ar119, ml119, mr119, al159, ar159, ml159, mr159, al160, ar160, ml160, mr160, al400, ar400, ml400, mr400, hm1, r2, k2, jK_sc, jK_fH]
      refine ih (j + 1) _ (by omega) ?_
      intro r' s hs hc
      by_cases e : r' = r ∧ s = j
      · obtain ⟨rfl, rfl⟩ := e
        rw [upd_s, thnE]
      · rw [upd_n (by omega)]
        exact F r' s hs (by omega)
  -- the days of a rule
  have hl2 : ∀ (r : Nat), r ≤ R → (∀ Y' X' tp st wd x4 x5 x6, (∀ r', r' ≤ r → Y' r' = if fit fs S r' then 1 else 0) → tnQ u X' (r + 1) (fun _ => False) → jW (d + 8) 245 11 [some (.ref m), some (.int (nI t)), some (.int was), some (.int (nI (r + 1))), x4, x5, x6] [] (mSc m (fH h1 m (upd (jI h1 m) 21 (nI r - 1)) Y' X' (ftS fs S r 61)) tp st wd) Q) → ∀ (Y : Nat → Int32), (∀ r', r' < r → Y r' = if fit fs S r' then 1 else 0) → ∀ (q n : Nat) (X : Nat → Int32) (tp : Int32) (st wd : Nat → Int64) (x6 : Option Value), n + q = 61 → tnQ u X r (fun _ => t < n) → jW (d + 8) 245 36 [some (.ref m), some (.int (nI t)), some (.int was), some (.int (nI r)), some (.int (if allB (fun n => nts (ftS fs S r (n + 1)) n) n then 1 else 0)), some (.int (nI n)), x6] [] (mSc m (fH h1 m (upd (jI h1 m) 21 (nI r - 1)) Y X (ftS fs S r n)) tp st wd) Q := by
    intro r hr hnext Y hY q
    induction q with
    | zero =>
      intro n X tp st wd x6 hn F
      have e : n = 61 := by omega
      subst e
      have hlt : (60 : Int32) < nI 61 := by decide
      have fe := fitE r
      have F2 : tnQ u X (r + 1) (fun _ => False) := fun r' s hs h => F r' s hs (h.elim (fun q => show r' < r ∨ r' = r ∧ t < 61 by omega) (fun q => q.2.elim))
      have hY2 : ∀ v, v = (if fit fs S r then 1 else 0) → ∀ r', r' ≤ r → upd Y r v r' = if fit fs S r' then 1 else 0 := by
        intro v hv r' hr'
        by_cases e : r' = r
        · subst e
          rw [upd_s, hv]
        · rw [upd_n e]
          exact hY r' (by omega)
      rw [← fe]
      cases hf : fit fs S r with
      | false =>
        rw [hf] at hY2
        have nb : vp_nar .boolean 0 = 0 := by decide
        simp (config := { decide := true }) (disch := (first | assumption | omega | (simp (config := { decide := true }) only [hm1, r1, k1, jK_sc, jK_fH, jK_wI, jK_wJ, jK_wR, jK_wr, jR_wr, jR_wI, jR_wJ]; done) | (simp only [hm1, r1, k1, jK_sc, jK_fH, jK_wI, jK_wJ, jK_wR, jK_wr, jR_wr, jR_wI, jR_wJ]; refine jinb_nI ?_ ?_ <;> omega) | (refine jinb_nI ?_ ?_ <;> omega))) only [s245_36, s245_38, s245_40, s245_115, s245_116, s245_119, s245_120, s245_122, s245_122B, s245_123, s245_126, if_pos hlt, jR_sc, jK_sc, jI_sc_a, jK_fH, jR_fH, fH_19, jwr_scc, fH_w19, nb, va_rf_some, va_rf_none, jK_wI, jR_wI, jJ_wI, jK_wJ, jR_wJ, jI_wJ, jK_wR, jI_wR, jJ_wR, jK_wr, jR_wr, jJ_wr, jcl1_i, jcl1_r, jcl1_z, jcl1_n, jcl1_l, jwI_row, jwr_jwr, jwr_cm, jwr_cc, upd_upd, jI_wr_s, jI_wr_a, jI_wr_b, jI_wr_c, mInv_wr, upd_s, upd_n, Option.toList, List.cons_append, List.nil_append, true_or, or_true, eq_self, and_self, ite_true, ite_false, if_true, if_false, jinb_nI, nI_clamp, tc0, tc1, tc2, tc3, tc4, tc5, tc6, tc7, tc8, tc9, tc10, tc11, tc12, tc13, tc14, tc15, tc16, tc17, tc18, tc19, tc20, tc21, tc22, tc23, tc24, tc25, tc26, tc27, tc28, tc29, tc30, tc31, tc32, tc33, tc34, tc35, tc36, tc37, tc38, tc39, tc40, tc41, tc42, tc43, tc44, tc45, tc46, tc47, tc48, tc49, tc50, tc51, tc52, tc53, tc54, tc55, tc56, tc57, tc58, tc59, tc60, tc61, tc62, tc63, tc64, tc65, tc66, tc67, tc68, tc69, tc77, tc83, tc119, tc159, tc160, nI_add, al0, ar0, ml0, mr0, al1, ar1, ml1, mr1, al2, ar2, ml2, mr2, al3, ar3, ml3, mr3, al4, ar4, ml4, mr4, al5, ar5, ml5, mr5, al6, ar6, ml6, mr6, al8, ar8, ml8, mr8, al10, ar10, ml10, mr10, al11, ar11, ml11, mr11, al12, ar12, ml12, mr12, al13, ar13, ml13, mr13, al16, ar16, ml16, mr16, al20, ar20, ml20, mr20, al24, ar24, ml24, mr24, al29, ar29, ml29, mr29, al36, ar36, ml36, mr36, al42, ar42, ml42, mr42, al48, ar48, ml48, mr48, al55, ar55, ml55, mr55, al60, ar60, ml60, mr60, al65, ar65, ml65, mr65, al77, ar77, ml77, mr77, al83, ar83, ml83, mr83, al119, ar119, ml119, mr119, al159, ar159, ml159, mr159, al160, ar160, ml160, mr160, al400, ar400, ml400, mr400, hm1, r1, k1, jK_sc, jK_fH]
        exact hnext _ _ _ _ _ _ _ _ (hY2 0 rfl) F2
      | true =>
        rw [hf] at hY2
        have nb : vp_nar .boolean 1 = 1 := by decide
        simp (config := { decide := true }) (disch := (first | assumption | omega | (simp (config := { decide := true }) only [hm1, r1, k1, jK_sc, jK_fH, jK_wI, jK_wJ, jK_wR, jK_wr, jR_wr, jR_wI, jR_wJ]; done) | (simp only [hm1, r1, k1, jK_sc, jK_fH, jK_wI, jK_wJ, jK_wR, jK_wr, jR_wr, jR_wI, jR_wJ]; refine jinb_nI ?_ ?_ <;> omega) | (refine jinb_nI ?_ ?_ <;> omega))) only [s245_36, s245_38, s245_40, s245_115, s245_116, s245_119, s245_120, s245_122, s245_122B, s245_123, s245_126, if_pos hlt, jR_sc, jK_sc, jI_sc_a, jK_fH, jR_fH, fH_19, jwr_scc, fH_w19, nb, va_rf_some, va_rf_none, jK_wI, jR_wI, jJ_wI, jK_wJ, jR_wJ, jI_wJ, jK_wR, jI_wR, jJ_wR, jK_wr, jR_wr, jJ_wr, jcl1_i, jcl1_r, jcl1_z, jcl1_n, jcl1_l, jwI_row, jwr_jwr, jwr_cm, jwr_cc, upd_upd, jI_wr_s, jI_wr_a, jI_wr_b, jI_wr_c, mInv_wr, upd_s, upd_n, Option.toList, List.cons_append, List.nil_append, true_or, or_true, eq_self, and_self, ite_true, ite_false, if_true, if_false, jinb_nI, nI_clamp, tc0, tc1, tc2, tc3, tc4, tc5, tc6, tc7, tc8, tc9, tc10, tc11, tc12, tc13, tc14, tc15, tc16, tc17, tc18, tc19, tc20, tc21, tc22, tc23, tc24, tc25, tc26, tc27, tc28, tc29, tc30, tc31, tc32, tc33, tc34, tc35, tc36, tc37, tc38, tc39, tc40, tc41, tc42, tc43, tc44, tc45, tc46, tc47, tc48, tc49, tc50, tc51, tc52, tc53, tc54, tc55, tc56, tc57, tc58, tc59, tc60, tc61, tc62, tc63, tc64, tc65, tc66, tc67, tc68, tc69, tc77, tc83, tc119, tc159, tc160, nI_add, al0, ar0, ml0, mr0, al1, ar1, ml1, mr1, al2, ar2, ml2, mr2, al3, ar3, ml3, mr3, al4, ar4, ml4, mr4, al5, ar5, ml5, mr5, al6, ar6, ml6, mr6, al8, ar8, ml8, mr8, al10, ar10, ml10, mr10, al11, ar11, ml11, mr11, al12, ar12, ml12, mr12, al13, ar13, ml13, mr13, al16, ar16, ml16, mr16, al20, ar20, ml20, mr20, al24, ar24, ml24, mr24, al29, ar29, ml29, mr29, al36, ar36, ml36, mr36, al42, ar42, ml42, mr42, al48, ar48, ml48, mr48, al55, ar55, ml55, mr55, al60, ar60, ml60, mr60, al65, ar65, ml65, mr65, al77, ar77, ml77, mr77, al83, ar83, ml83, mr83, al119, ar119, ml119, mr119, al159, ar159, ml159, mr159, al160, ar160, ml160, mr160, al400, ar400, ml400, mr400, hm1, r1, k1, jK_sc, jK_fH]
        exact hnext _ _ _ _ _ _ _ _ (hY2 1 rfl) F2
    | succ q ih =>
      intro n X tp st wd x6 hn F
      have hlt : ¬ (60 : Int32) < nI n := nI_nlt (a := 60) (by omega) (by omega)
      obtain ⟨e1, bb, w1⟩ := ft r n (by omega)
      obtain ⟨e2, -, -⟩ := ft r (n + 1) (by omega)
      simp (config := { decide := true }) (disch := (first | assumption | omega | (simp (config := { decide := true }) only [hm1, jK_sc, jK_fH, jK_wI, jK_wJ, jK_wR, jK_wr, jR_wr, jR_wI, jR_wJ]; done) | (simp only [hm1, jK_sc, jK_fH, jK_wI, jK_wJ, jK_wR, jK_wr, jR_wr, jR_wI, jR_wJ]; refine jinb_nI ?_ ?_ <;> omega) | (refine jinb_nI ?_ ?_ <;> omega))) only [s245_36, s245_38, s245_40, s245_43, s245_44, if_neg hlt, va_rf_some, va_rf_none, jK_wI, jR_wI, jJ_wI, jK_wJ, jR_wJ, jI_wJ, jK_wR, jI_wR, jJ_wR, jK_wr, jR_wr, jJ_wr, jcl1_i, jcl1_r, jcl1_z, jcl1_n, jcl1_l, jwI_row, jwr_jwr, jwr_cm, jwr_cc, upd_upd, jI_wr_s, jI_wr_a, jI_wr_b, jI_wr_c, mInv_wr, upd_s, upd_n, Option.toList, List.cons_append, List.nil_append, true_or, or_true, eq_self, and_self, ite_true, ite_false, if_true, if_false, jinb_nI, nI_clamp, tc0, tc1, tc2, tc3, tc4, tc5, tc6, tc7, tc8, tc9, tc10, tc11, tc12, tc13, tc14, tc15, tc16, tc17, tc18, tc19, tc20, tc21, tc22, tc23, tc24, tc25, tc26, tc27, tc28, tc29, tc30, tc31, tc32, tc33, tc34, tc35, tc36, tc37, tc38, tc39, tc40, tc41, tc42, tc43, tc44, tc45, tc46, tc47, tc48, tc49, tc50, tc51, tc52, tc53, tc54, tc55, tc56, tc57, tc58, tc59, tc60, tc61, tc62, tc63, tc64, tc65, tc66, tc67, tc68, tc69, tc77, tc83, tc119, tc159, tc160, nI_add, al0, ar0, ml0, mr0, al1, ar1, ml1, mr1, al2, ar2, ml2, mr2, al3, ar3, ml3, mr3, al4, ar4, ml4, mr4, al5, ar5, ml5, mr5, al6, ar6, ml6, mr6, al8, ar8, ml8, mr8, al10, ar10, ml10, mr10, al11, ar11, ml11, mr11, al12, ar12, ml12, mr12, al13, ar13, ml13, mr13, al16, ar16, ml16, mr16, al20, ar20, ml20, mr20, al24, ar24, ml24, mr24, al29, ar29, ml29, mr29, al36, ar36, ml36, mr36, al42, ar42, ml42, mr42, al48, ar48, ml48, mr48, al55, ar55, ml55, mr55, al60, ar60, ml60, mr60, al65, ar65, ml65, mr65, al77, ar77, ml77, mr77, al83, ar83, ml83, mr83, al119, ar119, ml119, mr119, al159, ar159, ml159, mr159, al160, ar160, ml160, mr160, al400, ar400, ml400, mr400, hm1, jK_sc, jK_fH]
      refine @c199n (fG h1 m (upd (jI h1 m) 21 (nI r - 1)) Y X) m (d + 2) _ tp st wd (ftS fs S r n) (rvs fs r) 0 noP (fG_base b1 Rs1 hr) w1 bb ?_
      intro tp' st' wd'
      have hnx : mnxt (rvs fs r) 0 noP (-1) (ftS fs S r n) = ftS fs S r (n + 1) := rfl
      rw [hnx]
      have hfold : jwr (fG h1 m (upd (jI h1 m) 21 (nI r - 1)) Y X) (m + 10) (ftS fs S r (n + 1)) = fH h1 m (upd (jI h1 m) 21 (nI r - 1)) Y X (ftS fs S r (n + 1)) := rfl
      rw [hfold]
      have c6 := fun Q => @c246 (mSc m (fH h1 m (upd (jI h1 m) 21 (nI r - 1)) Y X (ftS fs S r (n + 1))) tp' st' wd') m (d + 6) Q (ftS fs S r (n + 1)) H1 (by rw [jI_sc_a (by omega), fH_10]) (nOk_of e2 N) n
      have stp : ∀ (x6 : Option Value), jW (d + 8) 245 69 [some (.ref m), some (.int (nI t)), some (.int was), some (.int (nI r)), some (.int (if allB (fun n => nts (ftS fs S r (n + 1)) n) (n + 1) then 1 else 0)), some (.int (nI n)), x6] [] (mSc m (fH h1 m (upd (jI h1 m) 21 (nI r - 1)) Y X (ftS fs S r (n + 1))) tp' st' wd') Q := by
        intro x6
        by_cases e : n = t
        · subst e
          simp (config := { decide := true }) (disch := (first | assumption | omega | (simp (config := { decide := true }) only [hm1, jK_wI, jK_wJ, jK_wR, jK_wr, jR_wr, jR_wI, jR_wJ]; done) | (simp only [hm1, jK_wI, jK_wJ, jK_wR, jK_wr, jR_wr, jR_wI, jR_wJ]; refine jinb_nI ?_ ?_ <;> omega) | (refine jinb_nI ?_ ?_ <;> omega))) only [s245_69, s245_70, va_rf_some, va_rf_none, jK_wI, jR_wI, jJ_wI, jK_wJ, jR_wJ, jI_wJ, jK_wR, jI_wR, jJ_wR, jK_wr, jR_wr, jJ_wr, jcl1_i, jcl1_r, jcl1_z, jcl1_n, jcl1_l, jwI_row, jwr_jwr, jwr_cm, jwr_cc, upd_upd, jI_wr_s, jI_wr_a, jI_wr_b, jI_wr_c, mInv_wr, upd_s, upd_n, Option.toList, List.cons_append, List.nil_append, true_or, or_true, eq_self, and_self, ite_true, ite_false, if_true, if_false, jinb_nI, nI_clamp, tc0, tc1, tc2, tc3, tc4, tc5, tc6, tc7, tc8, tc9, tc10, tc11, tc12, tc13, tc14, tc15, tc16, tc17, tc18, tc19, tc20, tc21, tc22, tc23, tc24, tc25, tc26, tc27, tc28, tc29, tc30, tc31, tc32, tc33, tc34, tc35, tc36, tc37, tc38, tc39, tc40, tc41, tc42, tc43, tc44, tc45, tc46, tc47, tc48, tc49, tc50, tc51, tc52, tc53, tc54, tc55, tc56, tc57, tc58, tc59, tc60, tc61, tc62, tc63, tc64, tc65, tc66, tc67, tc68, tc69, tc77, tc83, tc119, tc159, tc160, nI_add, al0, ar0, ml0, mr0, al1, ar1, ml1, mr1, al2, ar2, ml2, mr2, al3, ar3, ml3, mr3, al4, ar4, ml4, mr4, al5, ar5, ml5, mr5, al6, ar6, ml6, mr6, al8, ar8, ml8, mr8, al10, ar10, ml10, mr10, al11, ar11, ml11, mr11, al12, ar12, ml12, mr12, al13, ar13, ml13, mr13, al16, ar16, ml16, mr16, al20, ar20, ml20, mr20, al24, ar24, ml24, mr24, al29, ar29, ml29, mr29, al36, ar36, ml36, mr36, al42, ar42, ml42, mr42, al48, ar48, ml48, mr48, al55, ar55, ml55, mr55, al60, ar60, ml60, mr60, al65, ar65, ml65, mr65, al77, ar77, ml77, mr77, al83, ar83, ml83, mr83, al119, ar119, ml119, mr119, al159, ar159, ml159, mr159, al160, ar160, ml160, mr160, al400, ar400, ml400, mr400, hm1]
          refine hl3 r _ _ Y tp' st' wd' hr ?_ 6 0 X (by omega) (fun r' s hs h => F r' s hs (by omega))
          intro X2 x6 F3
          simp (config := { decide := true }) (disch := (first | assumption | omega | (simp (config := { decide := true }) only [hm1, jK_wI, jK_wJ, jK_wR, jK_wr, jR_wr, jR_wI, jR_wJ]; done) | (simp only [hm1, jK_wI, jK_wJ, jK_wR, jK_wr, jR_wr, jR_wI, jR_wJ]; refine jinb_nI ?_ ?_ <;> omega) | (refine jinb_nI ?_ ?_ <;> omega))) only [s245_109, s245_112, va_rf_some, va_rf_none, jK_wI, jR_wI, jJ_wI, jK_wJ, jR_wJ, jI_wJ, jK_wR, jI_wR, jJ_wR, jK_wr, jR_wr, jJ_wr, jcl1_i, jcl1_r, jcl1_z, jcl1_n, jcl1_l, jwI_row, jwr_jwr, jwr_cm, jwr_cc, upd_upd, jI_wr_s, jI_wr_a, jI_wr_b, jI_wr_c, mInv_wr, upd_s, upd_n, Option.toList, List.cons_append, List.nil_append, true_or, or_true, eq_self, and_self, ite_true, ite_false, if_true, if_false, jinb_nI, nI_clamp, tc0, tc1, tc2, tc3, tc4, tc5, tc6, tc7, tc8, tc9, tc10, tc11, tc12, tc13, tc14, tc15, tc16, tc17, tc18, tc19, tc20, tc21, tc22, tc23, tc24, tc25, tc26, tc27, tc28, tc29, tc30, tc31, tc32, tc33, tc34, tc35, tc36, tc37, tc38, tc39, tc40, tc41, tc42, tc43, tc44, tc45, tc46, tc47, tc48, tc49, tc50, tc51, tc52, tc53, tc54, tc55, tc56, tc57, tc58, tc59, tc60, tc61, tc62, tc63, tc64, tc65, tc66, tc67, tc68, tc69, tc77, tc83, tc119, tc159, tc160, nI_add, al0, ar0, ml0, mr0, al1, ar1, ml1, mr1, al2, ar2, ml2, mr2, al3, ar3, ml3, mr3, al4, ar4, ml4, mr4, al5, ar5, ml5, mr5, al6, ar6, ml6, mr6, al8, ar8, ml8, mr8, al10, ar10, ml10, mr10, al11, ar11, ml11, mr11, al12, ar12, ml12, mr12, al13, ar13, ml13, mr13, al16, ar16, ml16, mr16, al20, ar20, ml20, mr20, al24, ar24, ml24, mr24, al29, ar29, ml29, mr29, al36, ar36, ml36, mr36, al42, ar42, ml42, mr42, al48, ar48, ml48, mr48, al55, ar55, ml55, mr55, al60, ar60, ml60, mr60, al65, ar65, ml65, mr65, al77, ar77, ml77, mr77, al83, ar83, ml83, mr83, al119, ar119, ml119, mr119, al159, ar159, ml159, mr159, al160, ar160, ml160, mr160, al400, ar400, ml400, mr400, hm1]
          exact ih (n + 1) X2 tp' st' wd' x6 (by omega) (fun r' s hs h => F3 r' s hs (h.imp id (fun q => ⟨q.1, trivial⟩)))
        · have e' : ¬ nI n = nI t := fun q => e ((nI_eq (by omega) (by omega)).mp q)
          have h06 : ¬ (6 : Int32) ≤ 0 := by decide
          simp (config := { decide := true }) (disch := (first | assumption | omega | (simp (config := { decide := true }) only [hm1, jK_wI, jK_wJ, jK_wR, jK_wr, jR_wr, jR_wI, jR_wJ]; done) | (simp only [hm1, jK_wI, jK_wJ, jK_wR, jK_wr, jR_wr, jR_wI, jR_wJ]; refine jinb_nI ?_ ?_ <;> omega) | (refine jinb_nI ?_ ?_ <;> omega))) only [s245_69, s245_70, s245_72, s245_74, s245_76, s245_79, s245_81, s245_82, s245_109, s245_112, e', h06, va_rf_some, va_rf_none, jK_wI, jR_wI, jJ_wI, jK_wJ, jR_wJ, jI_wJ, jK_wR, jI_wR, jJ_wR, jK_wr, jR_wr, jJ_wr, jcl1_i, jcl1_r, jcl1_z, jcl1_n, jcl1_l, jwI_row, jwr_jwr, jwr_cm, jwr_cc, upd_upd, jI_wr_s, jI_wr_a, jI_wr_b, jI_wr_c, mInv_wr, upd_s, upd_n, Option.toList, List.cons_append, List.nil_append, true_or, or_true, eq_self, and_self, ite_true, ite_false, if_true, if_false, jinb_nI, nI_clamp, tc0, tc1, tc2, tc3, tc4, tc5, tc6, tc7, tc8, tc9, tc10, tc11, tc12, tc13, tc14, tc15, tc16, tc17, tc18, tc19, tc20, tc21, tc22, tc23, tc24, tc25, tc26, tc27, tc28, tc29, tc30, tc31, tc32, tc33, tc34, tc35, tc36, tc37, tc38, tc39, tc40, tc41, tc42, tc43, tc44, tc45, tc46, tc47, tc48, tc49, tc50, tc51, tc52, tc53, tc54, tc55, tc56, tc57, tc58, tc59, tc60, tc61, tc62, tc63, tc64, tc65, tc66, tc67, tc68, tc69, tc77, tc83, tc119, tc159, tc160, nI_add, al0, ar0, ml0, mr0, al1, ar1, ml1, mr1, al2, ar2, ml2, mr2, al3, ar3, ml3, mr3, al4, ar4, ml4, mr4, al5, ar5, ml5, mr5, al6, ar6, ml6, mr6, al8, ar8, ml8, mr8, al10, ar10, ml10, mr10, al11, ar11, ml11, mr11, al12, ar12, ml12, mr12, al13, ar13, ml13, mr13, al16, ar16, ml16, mr16, al20, ar20, ml20, mr20, al24, ar24, ml24, mr24, al29, ar29, ml29, mr29, al36, ar36, ml36, mr36, al42, ar42, ml42, mr42, al48, ar48, ml48, mr48, al55, ar55, ml55, mr55, al60, ar60, ml60, mr60, al65, ar65, ml65, mr65, al77, ar77, ml77, mr77, al83, ar83, ml83, mr83, al119, ar119, ml119, mr119, al159, ar159, ml159, mr159, al160, ar160, ml160, mr160, al400, ar400, ml400, mr400, hm1]
          exact ih (n + 1) X tp' st' wd' _ (by omega) (fun r' s hs h => F r' s hs (by omega))
      have hal : allB (fun n => nts (ftS fs S r (n + 1)) n) (n + 1) = (allB (fun n => nts (ftS fs S r (n + 1)) n) n && nts (ftS fs S r (n + 1)) n) := rfl
      rw [hal] at stp
      generalize allB (fun n => nts (ftS fs S r (n + 1)) n) n = isb at *
      cases isb with
      | false =>
        simp (config := { decide := true }) (disch := (first | assumption | omega | (simp (config := { decide := true }) only [hm1, jK_wI, jK_wJ, jK_wR, jK_wr, jR_wr, jR_wI, jR_wJ]; done) | (simp only [hm1, jK_wI, jK_wJ, jK_wR, jK_wr, jR_wr, jR_wI, jR_wJ]; refine jinb_nI ?_ ?_ <;> omega) | (refine jinb_nI ?_ ?_ <;> omega))) only [s245_47, s245_48, s245_50, s245_66, s245_67, va_rf_some, va_rf_none, jK_wI, jR_wI, jJ_wI, jK_wJ, jR_wJ, jI_wJ, jK_wR, jI_wR, jJ_wR, jK_wr, jR_wr, jJ_wr, jcl1_i, jcl1_r, jcl1_z, jcl1_n, jcl1_l, jwI_row, jwr_jwr, jwr_cm, jwr_cc, upd_upd, jI_wr_s, jI_wr_a, jI_wr_b, jI_wr_c, mInv_wr, upd_s, upd_n, Option.toList, List.cons_append, List.nil_append, true_or, or_true, eq_self, and_self, ite_true, ite_false, if_true, if_false, jinb_nI, nI_clamp, tc0, tc1, tc2, tc3, tc4, tc5, tc6, tc7, tc8, tc9, tc10, tc11, tc12, tc13, tc14, tc15, tc16, tc17, tc18, tc19, tc20, tc21, tc22, tc23, tc24, tc25, tc26, tc27, tc28, tc29, tc30, tc31, tc32, tc33, tc34, tc35, tc36, tc37, tc38, tc39, tc40, tc41, tc42, tc43, tc44, tc45, tc46, tc47, tc48, tc49, tc50, tc51, tc52, tc53, tc54, tc55, tc56, tc57, tc58, tc59, tc60, tc61, tc62, tc63, tc64, tc65, tc66, tc67, tc68, tc69, tc77, tc83, tc119, tc159, tc160, nI_add, al0, ar0, ml0, mr0, al1, ar1, ml1, mr1, al2, ar2, ml2, mr2, al3, ar3, ml3, mr3, al4, ar4, ml4, mr4, al5, ar5, ml5, mr5, al6, ar6, ml6, mr6, al8, ar8, ml8, mr8, al10, ar10, ml10, mr10, al11, ar11, ml11, mr11, al12, ar12, ml12, mr12, al13, ar13, ml13, mr13, al16, ar16, ml16, mr16, al20, ar20, ml20, mr20, al24, ar24, ml24, mr24, al29, ar29, ml29, mr29, al36, ar36, ml36, mr36, al42, ar42, ml42, mr42, al48, ar48, ml48, mr48, al55, ar55, ml55, mr55, al60, ar60, ml60, mr60, al65, ar65, ml65, mr65, al77, ar77, ml77, mr77, al83, ar83, ml83, mr83, al119, ar119, ml119, mr119, al159, ar159, ml159, mr159, al160, ar160, ml160, mr160, al400, ar400, ml400, mr400, hm1]
        exact stp _
      | true =>
        simp (config := { decide := true }) (disch := (first | assumption | omega | (simp (config := { decide := true }) only [hm1, jK_sc, jK_fH, jK_wI, jK_wJ, jK_wR, jK_wr, jR_wr, jR_wI, jR_wJ]; done) | (simp only [hm1, jK_sc, jK_fH, jK_wI, jK_wJ, jK_wR, jK_wr, jR_wr, jR_wI, jR_wJ]; refine jinb_nI ?_ ?_ <;> omega) | (refine jinb_nI ?_ ?_ <;> omega))) only [s245_47, s245_48, s245_50, s245_53, s245_54, s245_56, c6, va_rf_some, va_rf_none, jK_wI, jR_wI, jJ_wI, jK_wJ, jR_wJ, jI_wJ, jK_wR, jI_wR, jJ_wR, jK_wr, jR_wr, jJ_wr, jcl1_i, jcl1_r, jcl1_z, jcl1_n, jcl1_l, jwI_row, jwr_jwr, jwr_cm, jwr_cc, upd_upd, jI_wr_s, jI_wr_a, jI_wr_b, jI_wr_c, mInv_wr, upd_s, upd_n, Option.toList, List.cons_append, List.nil_append, true_or, or_true, eq_self, and_self, ite_true, ite_false, if_true, if_false, jinb_nI, nI_clamp, tc0, tc1, tc2, tc3, tc4, tc5, tc6, tc7, tc8, tc9, tc10, tc11, tc12, tc13, tc14, tc15, tc16, tc17, tc18, tc19, tc20, tc21, tc22, tc23, tc24, tc25, tc26, tc27, tc28, tc29, tc30, tc31, tc32, tc33, tc34, tc35, tc36, tc37, tc38, tc39, tc40, tc41, tc42, tc43, tc44, tc45, tc46, tc47, tc48, tc49, tc50, tc51, tc52, tc53, tc54, tc55, tc56, tc57, tc58, tc59, tc60, tc61, tc62, tc63, tc64, tc65, tc66, tc67, tc68, tc69, tc77, tc83, tc119, tc159, tc160, nI_add, al0, ar0, ml0, mr0, al1, ar1, ml1, mr1, al2, ar2, ml2, mr2, al3, ar3, ml3, mr3, al4, ar4, ml4, mr4, al5, ar5, ml5, mr5, al6, ar6, ml6, mr6, al8, ar8, ml8, mr8, al10, ar10, ml10, mr10, al11, ar11, ml11, mr11, al12, ar12, ml12, mr12, al13, ar13, ml13, mr13, al16, ar16, ml16, mr16, al20, ar20, ml20, mr20, al24, ar24, ml24, mr24, al29, ar29, ml29, mr29, al36, ar36, ml36, mr36, al42, ar42, ml42, mr42, al48, ar48, ml48, mr48, al55, ar55, ml55, mr55, al60, ar60, ml60, mr60, al65, ar65, ml65, mr65, al77, ar77, ml77, mr77, al83, ar83, ml83, mr83, al119, ar119, ml119, mr119, al159, ar159, ml159, mr159, al160, ar160, ml160, mr160, al400, ar400, ml400, mr400, hm1, jK_sc, jK_fH]
        generalize nts (ftS fs S r (n + 1)) n = nb at *
        cases nb with
        | false =>
          simp (config := { decide := true }) (disch := (first | assumption | omega | (simp (config := { decide := true }) only [hm1, jK_wI, jK_wJ, jK_wR, jK_wr, jR_wr, jR_wI, jR_wJ]; done) | (simp only [hm1, jK_wI, jK_wJ, jK_wR, jK_wr, jR_wr, jR_wI, jR_wJ]; refine jinb_nI ?_ ?_ <;> omega) | (refine jinb_nI ?_ ?_ <;> omega))) only [s245_59, s245_66, s245_67, va_rf_some, va_rf_none, jK_wI, jR_wI, jJ_wI, jK_wJ, jR_wJ, jI_wJ, jK_wR, jI_wR, jJ_wR, jK_wr, jR_wr, jJ_wr, jcl1_i, jcl1_r, jcl1_z, jcl1_n, jcl1_l, jwI_row, jwr_jwr, jwr_cm, jwr_cc, upd_upd, jI_wr_s, jI_wr_a, jI_wr_b, jI_wr_c, mInv_wr, upd_s, upd_n, Option.toList, List.cons_append, List.nil_append, true_or, or_true, eq_self, and_self, ite_true, ite_false, if_true, if_false, jinb_nI, nI_clamp, tc0, tc1, tc2, tc3, tc4, tc5, tc6, tc7, tc8, tc9, tc10, tc11, tc12, tc13, tc14, tc15, tc16, tc17, tc18, tc19, tc20, tc21, tc22, tc23, tc24, tc25, tc26, tc27, tc28, tc29, tc30, tc31, tc32, tc33, tc34, tc35, tc36, tc37, tc38, tc39, tc40, tc41, tc42, tc43, tc44, tc45, tc46, tc47, tc48, tc49, tc50, tc51, tc52, tc53, tc54, tc55, tc56, tc57, tc58, tc59, tc60, tc61, tc62, tc63, tc64, tc65, tc66, tc67, tc68, tc69, tc77, tc83, tc119, tc159, tc160, nI_add, al0, ar0, ml0, mr0, al1, ar1, ml1, mr1, al2, ar2, ml2, mr2, al3, ar3, ml3, mr3, al4, ar4, ml4, mr4, al5, ar5, ml5, mr5, al6, ar6, ml6, mr6, al8, ar8, ml8, mr8, al10, ar10, ml10, mr10, al11, ar11, ml11, mr11, al12, ar12, ml12, mr12, al13, ar13, ml13, mr13, al16, ar16, ml16, mr16, al20, ar20, ml20, mr20, al24, ar24, ml24, mr24, al29, ar29, ml29, mr29, al36, ar36, ml36, mr36, al42, ar42, ml42, mr42, al48, ar48, ml48, mr48, al55, ar55, ml55, mr55, al60, ar60, ml60, mr60, al65, ar65, ml65, mr65, al77, ar77, ml77, mr77, al83, ar83, ml83, mr83, al119, ar119, ml119, mr119, al159, ar159, ml159, mr159, al160, ar160, ml160, mr160, al400, ar400, ml400, mr400, hm1]
          exact stp _
        | true =>
          simp (config := { decide := true }) (disch := (first | assumption | omega | (simp (config := { decide := true }) only [hm1, jK_wI, jK_wJ, jK_wR, jK_wr, jR_wr, jR_wI, jR_wJ]; done) | (simp only [hm1, jK_wI, jK_wJ, jK_wR, jK_wr, jR_wr, jR_wI, jR_wJ]; refine jinb_nI ?_ ?_ <;> omega) | (refine jinb_nI ?_ ?_ <;> omega))) only [s245_59, s245_62, s245_63, s245_67, va_rf_some, va_rf_none, jK_wI, jR_wI, jJ_wI, jK_wJ, jR_wJ, jI_wJ, jK_wR, jI_wR, jJ_wR, jK_wr, jR_wr, jJ_wr, jcl1_i, jcl1_r, jcl1_z, jcl1_n, jcl1_l, jwI_row, jwr_jwr, jwr_cm, jwr_cc, upd_upd, jI_wr_s, jI_wr_a, jI_wr_b, jI_wr_c, mInv_wr, upd_s, upd_n, Option.toList, List.cons_append, List.nil_append, true_or, or_true, eq_self, and_self, ite_true, ite_false, if_true, if_false, jinb_nI, nI_clamp, tc0, tc1, tc2, tc3, tc4, tc5, tc6, tc7, tc8, tc9, tc10, tc11, tc12, tc13, tc14, tc15, tc16, tc17, tc18, tc19, tc20, tc21, tc22, tc23, tc24, tc25, tc26, tc27, tc28, tc29, tc30, tc31, tc32, tc33, tc34, tc35, tc36, tc37, tc38, tc39, tc40, tc41, tc42, tc43, tc44, tc45, tc46, tc47, tc48, tc49, tc50, tc51, tc52, tc53, tc54, tc55, tc56, tc57, tc58, tc59, tc60, tc61, tc62, tc63, tc64, tc65, tc66, tc67, tc68, tc69, tc77, tc83, tc119, tc159, tc160, nI_add, al0, ar0, ml0, mr0, al1, ar1, ml1, mr1, al2, ar2, ml2, mr2, al3, ar3, ml3, mr3, al4, ar4, ml4, mr4, al5, ar5, ml5, mr5, al6, ar6, ml6, mr6, al8, ar8, ml8, mr8, al10, ar10, ml10, mr10, al11, ar11, ml11, mr11, al12, ar12, ml12, mr12, al13, ar13, ml13, mr13, al16, ar16, ml16, mr16, al20, ar20, ml20, mr20, al24, ar24, ml24, mr24, al29, ar29, ml29, mr29, al36, ar36, ml36, mr36, al42, ar42, ml42, mr42, al48, ar48, ml48, mr48, al55, ar55, ml55, mr55, al60, ar60, ml60, mr60, al65, ar65, ml65, mr65, al77, ar77, ml77, mr77, al83, ar83, ml83, mr83, al119, ar119, ml119, mr119, al159, ar159, ml159, mr159, al160, ar160, ml160, mr160, al400, ar400, ml400, mr400, hm1]
          exact stp _
  -- the rules
  have hl1 : ∀ (q r : Nat) (T Y X : Nat → Int32) (v : Int32) (tp : Int32) (st wd : Nat → Int64) (x4 x5 x6 : Option Value), r + q = R + 1 → eqG S T → (∀ r', r' < r → Y r' = if fit fs S r' then 1 else 0) → tnQ u X r (fun _ => False) → jW (d + 8) 245 11 [some (.ref m), some (.int (nI t)), some (.int was), some (.int (nI r)), x4, x5, x6] [] (mSc m (fH h1 m (upd (jI h1 m) 21 v) Y X T) tp st wd) Q := by
    intro q
    induction q with
    | zero =>
      intro r T Y X v tp st wd x4 x5 x6 hr eT hY F
      have e : r = R + 1 := by omega
      subst e
      have hlt : nI R < nI (R + 1) := nI_lt (by omega) (by omega)
      have eR : upd (jI h1 m) 21 v 2 = nI R := by rw [upd_n (by omega), hR]
      have ew : upd (jI h1 m) 21 was = jI h1 m := by rw [← hwas, upd_self]
      have c9 : ∀ Q, jC (d + 8) 219 [.ref m] (mSc m (fH h1 m (jI h1 m) Y X T) tp st wd) Q ↔ Q none (mSc m (fG h1 m (jI h1 m) Y X) tp st wd) := fun Q => @c219s (fG h1 m (jI h1 m) Y X) m (d + 7) Q tp st wd S T (jI h (m + 13)) H1 (by rw [fG_c (by omega) (by omega) (by omega)]; exact q1) eT (by rw [fG_c (by omega) (by omega) (by omega)]; exact q3)
      simp (config := { decide := true }) (disch := (first | assumption | omega | (simp (config := { decide := true }) only [hm1, jK_sc, jK_fH, jK_wI, jK_wJ, jK_wR, jK_wr, jR_wr, jR_wI, jR_wJ]; done) | (simp only [hm1, jK_sc, jK_fH, jK_wI, jK_wJ, jK_wR, jK_wr, jR_wr, jR_wI, jR_wJ]; refine jinb_nI ?_ ?_ <;> omega) | (refine jinb_nI ?_ ?_ <;> omega))) only [s245_11, s245_12, s245_13, s245_16, s245_129, s245_130, s245_131, s245_134, s245_135, s245_138, if_pos hlt, jK_sc, jI_sc_f, jK_fH, fH_m, eR, hR, jwr_scM, fH_wm, ew, c9, va_rf_some, va_rf_none, jK_wI, jR_wI, jJ_wI, jK_wJ, jR_wJ, jI_wJ, jK_wR, jI_wR, jJ_wR, jK_wr, jR_wr, jJ_wr, jcl1_i, jcl1_r, jcl1_z, jcl1_n, jcl1_l, jwI_row, jwr_jwr, jwr_cm, jwr_cc, upd_upd, jI_wr_s, jI_wr_a, jI_wr_b, jI_wr_c, mInv_wr, upd_s, upd_n, Option.toList, List.cons_append, List.nil_append, true_or, or_true, eq_self, and_self, ite_true, ite_false, if_true, if_false, jinb_nI, nI_clamp, tc0, tc1, tc2, tc3, tc4, tc5, tc6, tc7, tc8, tc9, tc10, tc11, tc12, tc13, tc14, tc15, tc16, tc17, tc18, tc19, tc20, tc21, tc22, tc23, tc24, tc25, tc26, tc27, tc28, tc29, tc30, tc31, tc32, tc33, tc34, tc35, tc36, tc37, tc38, tc39, tc40, tc41, tc42, tc43, tc44, tc45, tc46, tc47, tc48, tc49, tc50, tc51, tc52, tc53, tc54, tc55, tc56, tc57, tc58, tc59, tc60, tc61, tc62, tc63, tc64, tc65, tc66, tc67, tc68, tc69, tc77, tc83, tc119, tc159, tc160, nI_add, al0, ar0, ml0, mr0, al1, ar1, ml1, mr1, al2, ar2, ml2, mr2, al3, ar3, ml3, mr3, al4, ar4, ml4, mr4, al5, ar5, ml5, mr5, al6, ar6, ml6, mr6, al8, ar8, ml8, mr8, al10, ar10, ml10, mr10, al11, ar11, ml11, mr11, al12, ar12, ml12, mr12, al13, ar13, ml13, mr13, al16, ar16, ml16, mr16, al20, ar20, ml20, mr20, al24, ar24, ml24, mr24, al29, ar29, ml29, mr29, al36, ar36, ml36, mr36, al42, ar42, ml42, mr42, al48, ar48, ml48, mr48, al55, ar55, ml55, mr55, al60, ar60, ml60, mr60, al65, ar65, ml65, mr65, al77, ar77, ml77, mr77, al83, ar83, ml83, mr83, al119, ar119, ml119, mr119, al159, ar159, ml159, mr159, al160, ar160, ml160, mr160, al400, ar400, ml400, mr400, hm1, jK_sc, jK_fH]
      exact hQ' Y X tp st wd (fun r hr => hY r (by omega)) F
    | succ q ih =>
      intro r T Y X v tp st wd x4 x5 x6 hr eT hY F
      have hlt : ¬ nI R < nI r := nI_nlt (by omega) (by omega)
      have eR : upd (jI h1 m) 21 v 2 = nI R := by rw [upd_n (by omega), hR]
      have c8 : ∀ Q, jC (d + 8) 181 [.ref m] (mSc m (fH h1 m (upd (jI h1 m) 21 (nI r - 1)) Y X T) tp st wd) Q ↔ Q none (mSc m (fH h1 m (upd (jI h1 m) 21 (nI r - 1)) Y X (mBeg S)) tp st wd) := fun Q => by
        rw [← mBeg_of eT]
        exact @c181s m (d + 7) Q tp st wd (fG h1 m (upd (jI h1 m) 21 (nI r - 1)) Y X) T H1
      simp (config := { decide := true }) (disch := (first | assumption | omega | (simp (config := { decide := true }) only [hm1, jK_sc, jK_fH, jK_wI, jK_wJ, jK_wR, jK_wr, jR_wr, jR_wI, jR_wJ]; done) | (simp only [hm1, jK_sc, jK_fH, jK_wI, jK_wJ, jK_wR, jK_wr, jR_wr, jR_wI, jR_wJ]; refine jinb_nI ?_ ?_ <;> omega) | (refine jinb_nI ?_ ?_ <;> omega))) only [s245_11, s245_12, s245_13, s245_16, s245_19, s245_20, s245_21, s245_22, s245_23, s245_26, s245_27, s245_30, s245_31, s245_33, s245_34, if_neg hlt, jK_sc, jI_sc_f, jK_fH, fH_m, eR, hR, jwr_scM, fH_wm, c8, va_rf_some, va_rf_none, jK_wI, jR_wI, jJ_wI, jK_wJ, jR_wJ, jI_wJ, jK_wR, jI_wR, jJ_wR, jK_wr, jR_wr, jJ_wr, jcl1_i, jcl1_r, jcl1_z, jcl1_n, jcl1_l, jwI_row, jwr_jwr, jwr_cm, jwr_cc, upd_upd, jI_wr_s, jI_wr_a, jI_wr_b, jI_wr_c, mInv_wr, upd_s, upd_n, Option.toList, List.cons_append, List.nil_append, true_or, or_true, eq_self, and_self, ite_true, ite_false, if_true, if_false, jinb_nI, nI_clamp, tc0, tc1, tc2, tc3, tc4, tc5, tc6, tc7, tc8, tc9, tc10, tc11, tc12, tc13, tc14, tc15, tc16, tc17, tc18, tc19, tc20, tc21, tc22, tc23, tc24, tc25, tc26, tc27, tc28, tc29, tc30, tc31, tc32, tc33, tc34, tc35, tc36, tc37, tc38, tc39, tc40, tc41, tc42, tc43, tc44, tc45, tc46, tc47, tc48, tc49, tc50, tc51, tc52, tc53, tc54, tc55, tc56, tc57, tc58, tc59, tc60, tc61, tc62, tc63, tc64, tc65, tc66, tc67, tc68, tc69, tc77, tc83, tc119, tc159, tc160, nI_add, al0, ar0, ml0, mr0, al1, ar1, ml1, mr1, al2, ar2, ml2, mr2, al3, ar3, ml3, mr3, al4, ar4, ml4, mr4, al5, ar5, ml5, mr5, al6, ar6, ml6, mr6, al8, ar8, ml8, mr8, al10, ar10, ml10, mr10, al11, ar11, ml11, mr11, al12, ar12, ml12, mr12, al13, ar13, ml13, mr13, al16, ar16, ml16, mr16, al20, ar20, ml20, mr20, al24, ar24, ml24, mr24, al29, ar29, ml29, mr29, al36, ar36, ml36, mr36, al42, ar42, ml42, mr42, al48, ar48, ml48, mr48, al55, ar55, ml55, mr55, al60, ar60, ml60, mr60, al65, ar65, ml65, mr65, al77, ar77, ml77, mr77, al83, ar83, ml83, mr83, al119, ar119, ml119, mr119, al159, ar159, ml159, mr159, al160, ar160, ml160, mr160, al400, ar400, ml400, mr400, hm1, jK_sc, jK_fH]
      refine hl2 r (by omega) ?_ Y hY 61 0 X tp st wd _ (by omega) (fun r' s hs h => F r' s hs (by omega))
      intro Y' X' tp st wd x4 x5 x6 y x
      exact ih (r + 1) _ Y' X' _ tp st wd x4 x5 x6 (by omega) (ft r 61 (by omega)).1 (fun r' h => y r' (by omega)) x
  have e0 : h1 = fH h1 m (upd (jI h1 m) 21 (jI h1 m 21)) (jI h1 (m + 19)) (jI h1 (m + 20)) S := by
    unfold fH fG
    rw [upd_self, jwr_self, jwr_self, jwr_self, q2]
  rw [e0]
  exact hl1 (R + 1) 0 S _ _ _ tp st wd _ _ _ (by omega) (fun j _ => rfl) (fun r' h => absurd h (by omega)) (fun r' s _ h => h.elim (fun q => absurd q (by omega)) (fun q => q.2.elim))
end
