/-! THE REFERENCE: the best row of tries -/
def dgt (x : Nat) : Option Nat := if x = 0 then none else some (x - 1)
theorem dgt_oI (x : Nat) : nI x - 1 = oI (dgt x) := by
  unfold dgt
  by_cases h : x = 0
  · subst h; rw [if_pos rfl]; decide
  · rw [if_neg h]
    obtain ⟨y, rfl⟩ : ∃ y, x = y + 1 := ⟨x - 1, by omega⟩
    rw [nI_pred]
    rfl
theorem dgt_lt {x q k : Nat} (h : dgt x = some k) (hx : x < q) : k + 1 < q := by
  unfold dgt at h
  split at h
  · cases h
  · cases h; omega
/-- a row of digits, the highest first -/
def frow (q : Nat) : Nat → Nat → (Nat → Int32) → Nat → Int32
  | 0, _, R => R
  | k + 1, rest, R => frow q k (rest / q) (upd R k (oI (dgt (rest % q))))
/-- the digit at a place, of n -/
def cdg (q n code k : Nat) : Option Nat := dgt (code / q ^ (n - 1 - k) % q)
theorem frow_get {q : Nat} : ∀ {n code k : Nat} {R : Nat → Int32}, k < n → frow q n code R k = oI (cdg q n code k) := by
  have out : ∀ {n code k : Nat} {R : Nat → Int32}, n ≤ k → frow q n code R k = R k := by
    intro n
    induction n with
    | zero => intros; rfl
    | succ n ih =>
      intro code k R hk
      unfold frow
      rw [ih (by omega), upd_n (by omega)]
  intro n
  induction n with
  | zero => intro code k R hk; omega
  | succ n ih =>
    intro code k R hk
    unfold frow
    by_cases e : k = n
    · subst e
      rw [out (by omega), upd_s]
      unfold cdg
      rw [show k + 1 - 1 - k = 0 by omega, Nat.pow_zero, Nat.div_one]
    · rw [ih (by omega)]
      unfold cdg
      rw [show n + 1 - 1 - k = (n - 1 - k) + 1 by omega, Nat.pow_succ, Nat.mul_comm, Nat.div_div_eq_div_mul]
def pl1 (s : Nat) (c : Option Nat) : Nat → Option (Option Nat) := fun x => if x = s then some c else none
/-- days on which one scout does what is planned -/
def mdaysP (rv : Option ((Nat → Int64) → Int64)) (S : Nat → Int32) (s : Nat) (cs : Nat → Option Nat) : Nat → Nat → Int32
  | 0 => S
  | k + 1 => mnxt rv 0 (pl1 s (cs k)) (-1) (mdaysP rv S s cs k)
theorem pl1_ok {s : Nat} {c : Option Nat} (h : ∀ k, c = some k → k < 6) : pdOk (pl1 s c) := by
  intro x k e
  unfold pl1 at e
  split at e
  · exact h k (Option.some.inj e)
  · cases e
theorem mdaysP_inv {rv : Option ((Nat → Int64) → Int64)} {S : Nat → Int32} {s : Nat} {cs : Nat → Option Nat} (h : ∀ i k, cs i = some k → k < 6) (W : mW S) (B : mB S) : ∀ n, sD S + n ≤ 3000 → eqG S (mdaysP rv S s cs n) ∧ mB (mdaysP rv S s cs n) ∧ mW (mdaysP rv S s cs n) ∧ sD (mdaysP rv S s cs n) = sD S + n := by
  intro n
  induction n with
  | zero => intro _; exact ⟨fun _ _ => rfl, B, W, rfl⟩
  | succ n ih =>
    intro hn
    obtain ⟨e, b, w, dd⟩ := ih (by omega)
    obtain ⟨e', b', w', d'⟩ := mnxt_inv (rv := rv) (lf := 0) (dr := -1) (pl1_ok (h n)) w b (by omega)
    exact ⟨e.trans e', b', w', by show sD (mnxt rv 0 (pl1 s (cs n)) (-1) (mdaysP rv S s cs n)) = _; rw [d', dd]; omega⟩
theorem mdaysP_congr {rv : Option ((Nat → Int64) → Int64)} {S : Nat → Int32} {s : Nat} {cs cs' : Nat → Option Nat} : ∀ {n}, (∀ i, i < n → cs i = cs' i) → mdaysP rv S s cs n = mdaysP rv S s cs' n := by
  intro n
  induction n with
  | zero => intro _; rfl
  | succ n ih =>
    intro hc
    unfold mdaysP
    rw [ih (fun i hi => hc i (by omega)), hc n (by omega)]
theorem bit_1 : ∀ s, s < 6 → ∀ x, x < 6 → (((1 : Int32) <<< (nI s &&& 31)) >>> (nI x &&& 31) &&& 1 = 1 ↔ x = s) := by decide +kernel
def rowV (rv : Option ((Nat → Int64) → Int64)) (S : Nat → Int32) (s n : Nat) : Nat → Nat := fun code => mbN (sB (mdaysP rv S s (cdg (sK S + 1) n code) n) s)
/-- the first of the greatest: which, how much -/
def mrw (v : Nat → Nat) : Nat → Option (Nat × Nat)
  | 0 => none
  | n + 1 => match mrw v n with
    | none => some (n, v n)
    | some b => if b.2 < v n then some (n, v n) else some b
theorem mrw_some {v : Nat → Nat} : ∀ n, ∃ b, mrw v (n + 1) = some b ∧ b.1 ≤ n ∧ b.2 = v b.1 := by
  intro n
  induction n with
  | zero => exact ⟨(0, v 0), rfl, by omega, rfl⟩
  | succ n ih =>
    obtain ⟨b, e, h1, h2⟩ := ih
    have : mrw v (n + 1 + 1) = if b.2 < v (n + 1) then some (n + 1, v (n + 1)) else some b := by
      show (match mrw v (n + 1) with
        | none => some (n + 1, v (n + 1))
        | some b => if b.2 < v (n + 1) then some (n + 1, v (n + 1)) else some b) = _
      rw [e]
    rw [this]
    by_cases g : b.2 < v (n + 1)
    · exact ⟨_, if_pos g, Nat.le_refl _, rfl⟩
    · exact ⟨b, if_neg g, by omega, h2⟩
def rowA (rv : Option ((Nat → Int64) → Int64)) (S : Nat → Int32) (s n w : Nat) : Int32 := match mrw (rowV rv S s n) ((sK S + 1) ^ n) with
  | none => -2
  | some b => if w = 0 then nI b.2 else if w ≤ n then oI (cdg (sK S + 1) n b.1 (w - 1)) else -2
section
variable {h : jH} {m : Nat} {d : Nat} {Q : Option Value → jH → Prop} {tp : Int32} {st wd : Nat → Int64}
/-- power -/
theorem c230 {q n : Nat} (hq : q ≤ 7) (hn : n ≤ 4) : jC (d + 1) 230 [.int (nI q), .int (nI n)] h Q ↔ Q (some (.int (nI (q ^ n)))) h := by
  rw [e230]
  simp only [s230_0, s230_1, s230_2, s230_3, va_rf_some, va_rf_none, jK_wI, jR_wI, jJ_wI, jK_wJ, jR_wJ, jI_wJ, jK_wR, jI_wR, jJ_wR, jK_wr, jR_wr, jJ_wr, jcl1_i, jcl1_r, jcl1_z, jcl1_n, jcl1_l, jwI_row, jwr_jwr, jwr_cm, jwr_cc, upd_upd, jI_wr_s, jI_wr_a, jI_wr_b, jI_wr_c, mInv_wr, upd_s, upd_n, Option.toList, List.cons_append, List.nil_append, true_or, or_true, eq_self, and_self, ite_true, ite_false, if_true, if_false]
  refine jfor (N := n) (X := fun k => jW d 230 4 [some (.int (nI q)), some (.int (nI n)), some (.int (nI (q ^ k))), some (.int (nI k))] [] h Q) ?_ ?_
  · have hle : nI n ≤ nI n := nI_le (Nat.le_refl _) (by omega)
    simp (config := { decide := true }) (disch := (first | assumption | omega | (simp (config := { decide := true }) only [true_and, jK_wI, jK_wJ, jK_wR, jK_wr, jR_wr, jR_wI, jR_wJ]; done) | (simp only [true_and, jK_wI, jK_wJ, jK_wR, jK_wr, jR_wr, jR_wI, jR_wJ]; refine jinb_nI ?_ ?_ <;> omega) | (refine jinb_nI ?_ ?_ <;> omega))) only [s230_4, s230_5, s230_6, s230_19, s230_20, if_pos hle, va_rf_some, va_rf_none, jK_wI, jR_wI, jJ_wI, jK_wJ, jR_wJ, jI_wJ, jK_wR, jI_wR, jJ_wR, jK_wr, jR_wr, jJ_wr, jcl1_i, jcl1_r, jcl1_z, jcl1_n, jcl1_l, jwI_row, jwr_jwr, jwr_cm, jwr_cc, upd_upd, jI_wr_s, jI_wr_a, jI_wr_b, jI_wr_c, mInv_wr, upd_s, upd_n, Option.toList, List.cons_append, List.nil_append, true_or, or_true, eq_self, and_self, ite_true, ite_false, if_true, if_false, jinb_nI, nI_clamp, tc0, tc1, tc2, tc3, tc4, tc5, tc6, tc7, tc8, tc9, tc10, tc11, tc12, tc13, tc14, tc15, tc16, tc17, tc18, tc19, tc20, tc21, tc22, tc23, tc24, tc25, tc26, tc27, tc28, tc29, tc30, tc31, tc32, tc33, tc34, tc35, tc36, tc37, tc38, tc39, tc40, tc41, tc42, tc43, tc44, tc45, tc46, tc47, tc48, tc49, tc50, tc51, tc52, tc53, tc54, tc55, tc56, tc57, tc58, tc59, tc60, tc61, tc62, tc63, tc64, tc65, tc66, tc67, tc68, tc69, tc77, tc83, tc119, tc159, tc160, nI_add, al0, ar0, ml0, mr0, al1, ar1, ml1, mr1, al2, ar2, ml2, mr2, al3, ar3, ml3, mr3, al4, ar4, ml4, mr4, al5, ar5, ml5, mr5, al6, ar6, ml6, mr6, al8, ar8, ml8, mr8, al10, ar10, ml10, mr10, al11, ar11, ml11, mr11, al12, ar12, ml12, mr12, al13, ar13, ml13, mr13, al16, ar16, ml16, mr16, al20, ar20, ml20, mr20, al24, ar24, ml24, mr24, al29, ar29, ml29, mr29, al36, ar36, ml36, mr36, al42, ar42, ml42, mr42, al48, ar48, ml48, mr48, al55, ar55, ml55, mr55, al60, ar60, ml60, mr60, al65, ar65, ml65, mr65, al77, ar77, ml77, mr77, al83, ar83, ml83, mr83, al119, ar119, ml119, mr119, al159, ar159, ml159, mr159, al160, ar160, ml160, mr160, al400, ar400, ml400, mr400, true_and]
  · intro k hk ih
    have hle : ¬ nI n ≤ nI k := nI_ge hk (by omega)
    simp (config := { decide := true }) (disch := (first | assumption | omega | (simp (config := { decide := true }) only [true_and, jK_wI, jK_wJ, jK_wR, jK_wr, jR_wr, jR_wI, jR_wJ]; done) | (simp only [true_and, jK_wI, jK_wJ, jK_wR, jK_wr, jR_wr, jR_wI, jR_wJ]; refine jinb_nI ?_ ?_ <;> omega) | (refine jinb_nI ?_ ?_ <;> omega))) only [s230_4, s230_5, s230_6, if_neg hle, va_rf_some, va_rf_none, jK_wI, jR_wI, jJ_wI, jK_wJ, jR_wJ, jI_wJ, jK_wR, jI_wR, jJ_wR, jK_wr, jR_wr, jJ_wr, jcl1_i, jcl1_r, jcl1_z, jcl1_n, jcl1_l, jwI_row, jwr_jwr, jwr_cm, jwr_cc, upd_upd, jI_wr_s, jI_wr_a, jI_wr_b, jI_wr_c, mInv_wr, upd_s, upd_n, Option.toList, List.cons_append, List.nil_append, true_or, or_true, eq_self, and_self, ite_true, ite_false, if_true, if_false, jinb_nI, nI_clamp, tc0, tc1, tc2, tc3, tc4, tc5, tc6, tc7, tc8, tc9, tc10, tc11, tc12, tc13, tc14, tc15, tc16, tc17, tc18, tc19, tc20, tc21, tc22, tc23, tc24, tc25, tc26, tc27, tc28, tc29, tc30, tc31, tc32, tc33, tc34, tc35, tc36, tc37, tc38, tc39, tc40, tc41, tc42, tc43, tc44, tc45, tc46, tc47, tc48, tc49, tc50, tc51, tc52, tc53, tc54, tc55, tc56, tc57, tc58, tc59, tc60, tc61, tc62, tc63, tc64, tc65, tc66, tc67, tc68, tc69, tc77, tc83, tc119, tc159, tc160, nI_add, al0, ar0, ml0, mr0, al1, ar1, ml1, mr1, al2, ar2, ml2, mr2, al3, ar3, ml3, mr3, al4, ar4, ml4, mr4, al5, ar5, ml5, mr5, al6, ar6, ml6, mr6, al8, ar8, ml8, mr8, al10, ar10, ml10, mr10, al11, ar11, ml11, mr11, al12, ar12, ml12, mr12, al13, ar13, ml13, mr13, al16, ar16, ml16, mr16, al20, ar20, ml20, mr20, al24, ar24, ml24, mr24, al29, ar29, ml29, mr29, al36, ar36, ml36, mr36, al42, ar42, ml42, mr42, al48, ar48, ml48, mr48, al55, ar55, ml55, mr55, al60, ar60, ml60, mr60, al65, ar65, ml65, mr65, al77, ar77, ml77, mr77, al83, ar83, ml83, mr83, al119, ar119, ml119, mr119, al159, ar159, ml159, mr159, al160, ar160, ml160, mr160, al400, ar400, ml400, mr400, true_and]
    simp (config := { decide := true }) (disch := (first | assumption | omega | (simp (config := { decide := true }) only [true_and, jK_wI, jK_wJ, jK_wR, jK_wr, jR_wr, jR_wI, jR_wJ]; done) | (simp only [true_and, jK_wI, jK_wJ, jK_wR, jK_wr, jR_wr, jR_wI, jR_wJ]; refine jinb_nI ?_ ?_ <;> omega) | (refine jinb_nI ?_ ?_ <;> omega))) only [s230_9, s230_10, s230_11, s230_12, s230_13, s230_16, nI_mul, va_rf_some, va_rf_none, jK_wI, jR_wI, jJ_wI, jK_wJ, jR_wJ, jI_wJ, jK_wR, jI_wR, jJ_wR, jK_wr, jR_wr, jJ_wr, jcl1_i, jcl1_r, jcl1_z, jcl1_n, jcl1_l, jwI_row, jwr_jwr, jwr_cm, jwr_cc, upd_upd, jI_wr_s, jI_wr_a, jI_wr_b, jI_wr_c, mInv_wr, upd_s, upd_n, Option.toList, List.cons_append, List.nil_append, true_or, or_true, eq_self, and_self, ite_true, ite_false, if_true, if_false, jinb_nI, nI_clamp, tc0, tc1, tc2, tc3, tc4, tc5, tc6, tc7, tc8, tc9, tc10, tc11, tc12, tc13, tc14, tc15, tc16, tc17, tc18, tc19, tc20, tc21, tc22, tc23, tc24, tc25, tc26, tc27, tc28, tc29, tc30, tc31, tc32, tc33, tc34, tc35, tc36, tc37, tc38, tc39, tc40, tc41, tc42, tc43, tc44, tc45, tc46, tc47, tc48, tc49, tc50, tc51, tc52, tc53, tc54, tc55, tc56, tc57, tc58, tc59, tc60, tc61, tc62, tc63, tc64, tc65, tc66, tc67, tc68, tc69, tc77, tc83, tc119, tc159, tc160, nI_add, al0, ar0, ml0, mr0, al1, ar1, ml1, mr1, al2, ar2, ml2, mr2, al3, ar3, ml3, mr3, al4, ar4, ml4, mr4, al5, ar5, ml5, mr5, al6, ar6, ml6, mr6, al8, ar8, ml8, mr8, al10, ar10, ml10, mr10, al11, ar11, ml11, mr11, al12, ar12, ml12, mr12, al13, ar13, ml13, mr13, al16, ar16, ml16, mr16, al20, ar20, ml20, mr20, al24, ar24, ml24, mr24, al29, ar29, ml29, mr29, al36, ar36, ml36, mr36, al42, ar42, ml42, mr42, al48, ar48, ml48, mr48, al55, ar55, ml55, mr55, al60, ar60, ml60, mr60, al65, ar65, ml65, mr65, al77, ar77, ml77, mr77, al83, ar83, ml83, mr83, al119, ar119, ml119, mr119, al159, ar159, ml159, mr159, al160, ar160, ml160, mr160, al400, ar400, ml400, mr400, true_and]
    rw [← Nat.pow_succ]
    exact ih
/-- fillsRow -/
theorem c231 (H : mInv h m) (W : mW (jI h (m + 10))) {code n : Nat} (hc : code < 2 ^ 31) (hn : n ≤ 4) : jC (d + 1) 231 [.ref m, .int (nI code), .int (nI n)] (mSc m h tp st wd) Q ↔ Q none (mSc m (jwr h (m + 16) (frow (sK (jI h (m + 10)) + 1) n code (jI h (m + 16)))) tp st wd) := by
  rw [e231]
  have hm : jK h m = (32, 43) := H.1
  obtain ⟨r0, k0⟩ := H.at 9 rfl
  obtain ⟨r1, k1⟩ := H.at 15 rfl
  obtain ⟨hK, hK2⟩ := W.2.1
  have hz : ¬ nI (sK (jI h (m + 10)) + 1) = 0 := nI_ne0 (by omega) (by omega)
  have hl : ∀ (k rest : Nat) (R : Nat → Int32), k ≤ 4 → rest < 2 ^ 31 → (jW d 231 7 [some (.ref m), some (.int (nI code)), some (.int (nI n)), some (.int (nI rest)), some (.int (nI k + (-1)))] [] (mSc m (jwr h (m + 16) R) tp st wd) Q ↔ Q none (mSc m (jwr h (m + 16) (frow (sK (jI h (m + 10)) + 1) k rest R)) tp st wd)) := by
    intro k
    induction k with
    | zero =>
      intro rest R hk hr
      have z : nI 0 + (-1) < 0 := by decide
      rw [s231_7, s231_9, if_pos z, s231_48]
      rfl
    | succ k ih =>
      intro rest R hk hr
      have z : ¬ nI k < 0 := nI_pos (by omega)
      rw [nI_dec]
      have e1 := pk_rem (a := rest) (d := sK (jI h (m + 10)) + 1) hr (by omega) (by omega)
      have e2 := pk_div (a := rest) (d := sK (jI h (m + 10)) + 1) hr (by omega) (by omega)
      simp (config := { decide := true }) (disch := (first | assumption | omega | (simp (config := { decide := true }) only [hm, r0, k0, r1, k1, jK_sc, hz, jK_wI, jK_wJ, jK_wR, jK_wr, jR_wr, jR_wI, jR_wJ]; done) | (simp only [hm, r0, k0, r1, k1, jK_sc, hz, jK_wI, jK_wJ, jK_wR, jK_wr, jR_wr, jR_wI, jR_wJ]; refine jinb_nI ?_ ?_ <;> omega) | (refine jinb_nI ?_ ?_ <;> omega))) only [s231_7, s231_9, s231_12, s231_13, s231_16, s231_18, s231_19, s231_20, s231_23, s231_24, s231_25, s231_26, s231_27, s231_28, s231_29, s231_30, if_neg z, jR_sc, jK_sc, jI_sc_a, hK, e1, dgt_oI, jwr_scc, va_rf_some, va_rf_none, jK_wI, jR_wI, jJ_wI, jK_wJ, jR_wJ, jI_wJ, jK_wR, jI_wR, jJ_wR, jK_wr, jR_wr, jJ_wr, jcl1_i, jcl1_r, jcl1_z, jcl1_n, jcl1_l, jwI_row, jwr_jwr, jwr_cm, jwr_cc, upd_upd, jI_wr_s, jI_wr_a, jI_wr_b, jI_wr_c, mInv_wr, upd_s, upd_n, Option.toList, List.cons_append, List.nil_append, true_or, or_true, eq_self, and_self, ite_true, ite_false, if_true, if_false, jinb_nI, nI_clamp, tc0, tc1, tc2, tc3, tc4, tc5, tc6, tc7, tc8, tc9, tc10, tc11, tc12, tc13, tc14, tc15, tc16, tc17, tc18, tc19, tc20, tc21, tc22, tc23, tc24, tc25, tc26, tc27, tc28, tc29, tc30, tc31, tc32, tc33, tc34, tc35, tc36, tc37, tc38, tc39, tc40, tc41, tc42, tc43, tc44, tc45, tc46, tc47, tc48, tc49, tc50, tc51, tc52, tc53, tc54, tc55, tc56, tc57, tc58, tc59, tc60, tc61, tc62, tc63, tc64, tc65, tc66, tc67, tc68, tc69, tc77, tc83, tc119, tc159, tc160, nI_add, al0, ar0, ml0, mr0, al1, ar1, ml1, mr1, al2, ar2, ml2, mr2, al3, ar3, ml3, mr3, al4, ar4, ml4, mr4, al5, ar5, ml5, mr5, al6, ar6, ml6, mr6, al8, ar8, ml8, mr8, al10, ar10, ml10, mr10, al11, ar11, ml11, mr11, al12, ar12, ml12, mr12, al13, ar13, ml13, mr13, al16, ar16, ml16, mr16, al20, ar20, ml20, mr20, al24, ar24, ml24, mr24, al29, ar29, ml29, mr29, al36, ar36, ml36, mr36, al42, ar42, ml42, mr42, al48, ar48, ml48, mr48, al55, ar55, ml55, mr55, al60, ar60, ml60, mr60, al65, ar65, ml65, mr65, al77, ar77, ml77, mr77, al83, ar83, ml83, mr83, al119, ar119, ml119, mr119, al159, ar159, ml159, mr159, al160, ar160, ml160, mr160, al400, ar400, ml400, mr400, hm, r0, k0, r1, k1, jK_sc, hz]
      simp (config := { decide := true }) (disch := (first | assumption | omega | (simp (config := { decide := true }) only [hm, r0, k0, r1, k1, jK_sc, hz, jK_wI, jK_wJ, jK_wR, jK_wr, jR_wr, jR_wI, jR_wJ]; done) | (simp only [hm, r0, k0, r1, k1, jK_sc, hz, jK_wI, jK_wJ, jK_wR, jK_wr, jR_wr, jR_wI, jR_wJ]; refine jinb_nI ?_ ?_ <;> omega) | (refine jinb_nI ?_ ?_ <;> omega))) only [s231_31, s231_32, s231_33, s231_36, s231_37, s231_38, s231_39, s231_40, s231_41, s231_42, s231_45, jR_sc, jK_sc, jI_sc_a, hK, e2, va_rf_some, va_rf_none, jK_wI, jR_wI, jJ_wI, jK_wJ, jR_wJ, jI_wJ, jK_wR, jI_wR, jJ_wR, jK_wr, jR_wr, jJ_wr, jcl1_i, jcl1_r, jcl1_z, jcl1_n, jcl1_l, jwI_row, jwr_jwr, jwr_cm, jwr_cc, upd_upd, jI_wr_s, jI_wr_a, jI_wr_b, jI_wr_c, mInv_wr, upd_s, upd_n, Option.toList, List.cons_append, List.nil_append, true_or, or_true, eq_self, and_self, ite_true, ite_false, if_true, if_false, jinb_nI, nI_clamp, tc0, tc1, tc2, tc3, tc4, tc5, tc6, tc7, tc8, tc9, tc10, tc11, tc12, tc13, tc14, tc15, tc16, tc17, tc18, tc19, tc20, tc21, tc22, tc23, tc24, tc25, tc26, tc27, tc28, tc29, tc30, tc31, tc32, tc33, tc34, tc35, tc36, tc37, tc38, tc39, tc40, tc41, tc42, tc43, tc44, tc45, tc46, tc47, tc48, tc49, tc50, tc51, tc52, tc53, tc54, tc55, tc56, tc57, tc58, tc59, tc60, tc61, tc62, tc63, tc64, tc65, tc66, tc67, tc68, tc69, tc77, tc83, tc119, tc159, tc160, nI_add, al0, ar0, ml0, mr0, al1, ar1, ml1, mr1, al2, ar2, ml2, mr2, al3, ar3, ml3, mr3, al4, ar4, ml4, mr4, al5, ar5, ml5, mr5, al6, ar6, ml6, mr6, al8, ar8, ml8, mr8, al10, ar10, ml10, mr10, al11, ar11, ml11, mr11, al12, ar12, ml12, mr12, al13, ar13, ml13, mr13, al16, ar16, ml16, mr16, al20, ar20, ml20, mr20, al24, ar24, ml24, mr24, al29, ar29, ml29, mr29, al36, ar36, ml36, mr36, al42, ar42, ml42, mr42, al48, ar48, ml48, mr48, al55, ar55, ml55, mr55, al60, ar60, ml60, mr60, al65, ar65, ml65, mr65, al77, ar77, ml77, mr77, al83, ar83, ml83, mr83, al119, ar119, ml119, mr119, al159, ar159, ml159, mr159, al160, ar160, ml160, mr160, al400, ar400, ml400, mr400, hm, r0, k0, r1, k1, jK_sc, hz]
      rw [ih (rest / (sK (jI h (m + 10)) + 1)) _ (by omega) (Nat.lt_of_le_of_lt (Nat.div_le_self _ _) hr)]
      rfl
  have e : nI n - 1 = nI n + (-1) := by
    cases n with
    | zero => decide
    | succ n => rw [nI_pred, nI_dec]
  simp (config := { decide := true }) (disch := (first | assumption | omega | (simp (config := { decide := true }) only [hm, jK_wI, jK_wJ, jK_wR, jK_wr, jR_wr, jR_wI, jR_wJ]; done) | (simp only [hm, jK_wI, jK_wJ, jK_wR, jK_wr, jR_wr, jR_wI, jR_wJ]; refine jinb_nI ?_ ?_ <;> omega) | (refine jinb_nI ?_ ?_ <;> omega))) only [s231_0, s231_1, s231_2, s231_3, s231_4, s231_5, e, va_rf_some, va_rf_none, jK_wI, jR_wI, jJ_wI, jK_wJ, jR_wJ, jI_wJ, jK_wR, jI_wR, jJ_wR, jK_wr, jR_wr, jJ_wr, jcl1_i, jcl1_r, jcl1_z, jcl1_n, jcl1_l, jwI_row, jwr_jwr, jwr_cm, jwr_cc, upd_upd, jI_wr_s, jI_wr_a, jI_wr_b, jI_wr_c, mInv_wr, upd_s, upd_n, Option.toList, List.cons_append, List.nil_append, true_or, or_true, eq_self, and_self, ite_true, ite_false, if_true, if_false, jinb_nI, nI_clamp, tc0, tc1, tc2, tc3, tc4, tc5, tc6, tc7, tc8, tc9, tc10, tc11, tc12, tc13, tc14, tc15, tc16, tc17, tc18, tc19, tc20, tc21, tc22, tc23, tc24, tc25, tc26, tc27, tc28, tc29, tc30, tc31, tc32, tc33, tc34, tc35, tc36, tc37, tc38, tc39, tc40, tc41, tc42, tc43, tc44, tc45, tc46, tc47, tc48, tc49, tc50, tc51, tc52, tc53, tc54, tc55, tc56, tc57, tc58, tc59, tc60, tc61, tc62, tc63, tc64, tc65, tc66, tc67, tc68, tc69, tc77, tc83, tc119, tc159, tc160, nI_add, al0, ar0, ml0, mr0, al1, ar1, ml1, mr1, al2, ar2, ml2, mr2, al3, ar3, ml3, mr3, al4, ar4, ml4, mr4, al5, ar5, ml5, mr5, al6, ar6, ml6, mr6, al8, ar8, ml8, mr8, al10, ar10, ml10, mr10, al11, ar11, ml11, mr11, al12, ar12, ml12, mr12, al13, ar13, ml13, mr13, al16, ar16, ml16, mr16, al20, ar20, ml20, mr20, al24, ar24, ml24, mr24, al29, ar29, ml29, mr29, al36, ar36, ml36, mr36, al42, ar42, ml42, mr42, al48, ar48, ml48, mr48, al55, ar55, ml55, mr55, al60, ar60, ml60, mr60, al65, ar65, ml65, mr65, al77, ar77, ml77, mr77, al83, ar83, ml83, mr83, al119, ar119, ml119, mr119, al159, ar159, ml159, mr159, al160, ar160, ml160, mr160, al400, ar400, ml400, mr400, hm]
  have := hl n code (jI h (m + 16)) hn hc
  rw [jwr_self] at this
  exact this
/-- badgesBy -/
theorem c232 {rv : Option ((Nat → Int64) → Int64)} {K S : Nat → Int32} (b : mBase h m rv 0 noP) (hS : jI h (m + 10) = S) (W : mW S) (B : mB S) (hD : sD S ≤ 1000) (h25 : jI h m 25 = 0) (h13 : jI h (m + 13) = kpt K S) {s n : Nat} (hs : s < sN S) (hn : n ≤ 4) {cs : Nat → Option Nat} (hcs : ∀ i k, cs i = some k → k < 6) (hR : ∀ i, i < n → jI h (m + 16) i = oI (cs i)) (hQ : ∀ P tp st wd, Q (some (.int (nI (mbN (sB (mdaysP rv S s cs n) s))))) (mSc m (jwr h (m + 11) P) tp st wd)) : jC (d + 7) 232 [.ref m, .int (nI s), .int (nI n)] (mSc m h tp st wd) Q := by
  rw [e232]
  have H := b.1
  have hm : jK h m = (32, 43) := H.1
  obtain ⟨r0, k0⟩ := H.at 9 rfl
  obtain ⟨r1, k1⟩ := H.at 15 rfl
  obtain ⟨r2, k2⟩ := H.at 10 rfl
  have hN2 := W.2.2.1.2
  have s6 : s < 6 := by omega
  simp (config := { decide := true }) (disch := (first | assumption | omega | (simp (config := { decide := true }) only [hm, jK_sc, jK_wI, jK_wJ, jK_wR, jK_wr, jR_wr, jR_wI, jR_wJ]; done) | (simp only [hm, jK_sc, jK_wI, jK_wJ, jK_wR, jK_wr, jR_wr, jR_wI, jR_wJ]; refine jinb_nI ?_ ?_ <;> omega) | (refine jinb_nI ?_ ?_ <;> omega))) only [s232_0, s232_1, s232_2, s232_3, s232_4, s232_7, s232_8, jK_sc, jI_sc_f, jwr_scM, va_rf_some, va_rf_none, jK_wI, jR_wI, jJ_wI, jK_wJ, jR_wJ, jI_wJ, jK_wR, jI_wR, jJ_wR, jK_wr, jR_wr, jJ_wr, jcl1_i, jcl1_r, jcl1_z, jcl1_n, jcl1_l, jwI_row, jwr_jwr, jwr_cm, jwr_cc, upd_upd, jI_wr_s, jI_wr_a, jI_wr_b, jI_wr_c, mInv_wr, upd_s, upd_n, Option.toList, List.cons_append, List.nil_append, true_or, or_true, eq_self, and_self, ite_true, ite_false, if_true, if_false, jinb_nI, nI_clamp, tc0, tc1, tc2, tc3, tc4, tc5, tc6, tc7, tc8, tc9, tc10, tc11, tc12, tc13, tc14, tc15, tc16, tc17, tc18, tc19, tc20, tc21, tc22, tc23, tc24, tc25, tc26, tc27, tc28, tc29, tc30, tc31, tc32, tc33, tc34, tc35, tc36, tc37, tc38, tc39, tc40, tc41, tc42, tc43, tc44, tc45, tc46, tc47, tc48, tc49, tc50, tc51, tc52, tc53, tc54, tc55, tc56, tc57, tc58, tc59, tc60, tc61, tc62, tc63, tc64, tc65, tc66, tc67, tc68, tc69, tc77, tc83, tc119, tc159, tc160, nI_add, al0, ar0, ml0, mr0, al1, ar1, ml1, mr1, al2, ar2, ml2, mr2, al3, ar3, ml3, mr3, al4, ar4, ml4, mr4, al5, ar5, ml5, mr5, al6, ar6, ml6, mr6, al8, ar8, ml8, mr8, al10, ar10, ml10, mr10, al11, ar11, ml11, mr11, al12, ar12, ml12, mr12, al13, ar13, ml13, mr13, al16, ar16, ml16, mr16, al20, ar20, ml20, mr20, al24, ar24, ml24, mr24, al29, ar29, ml29, mr29, al36, ar36, ml36, mr36, al42, ar42, ml42, mr42, al48, ar48, ml48, mr48, al55, ar55, ml55, mr55, al60, ar60, ml60, mr60, al65, ar65, ml65, mr65, al77, ar77, ml77, mr77, al83, ar83, ml83, mr83, al119, ar119, ml119, mr119, al159, ar159, ml159, mr159, al160, ar160, ml160, mr160, al400, ar400, ml400, mr400, hm, jK_sc]
  have nf : ∀ (P S' : Nat → Int32), jwr (jwr (jwr h (m + 11) P) m (upd (jI h m) 25 ((1 : Int32) <<< (nI s &&& 31)))) (m + 10) S' = jwr (jwr (jwr h (m + 10) S') (m + 11) P) m (upd (jI h m) 25 ((1 : Int32) <<< (nI s &&& 31))) := by
    intro P S'
    rw [jwr_cm (by omega), jwr_cc (by omega)]
  have base : ∀ (P : Nat → Int32) (c : Option Nat), (∀ k, c = some k → k < 6) → P s = oI c → mBase (jwr (jwr h (m + 11) P) m (upd (jI h m) 25 ((1 : Int32) <<< (nI s &&& 31)))) m rv 0 (pl1 s c) := by
    intro P c hc hP
    obtain ⟨H, R, -, -, d3, d4⟩ := b
    refine ⟨H, mFor_of ?_ ?_ ?_ ?_ R, ?_, pl1_ok hc, ?_, ?_⟩
    · rw [jI_wr_s, upd_n (by omega)]
    · rw [jI_wr_b (by omega), jI_wr_a (by omega)]
    · rw [jI_wr_b (by omega), jI_wr_a (by omega)]
    · rw [jI_wr_b (by omega), jI_wr_a (by omega)]
    · intro x hx
      rw [jI_wr_s, upd_s, jI_wr_b (by omega), jI_wr_s]
      have := bit_1 s s6 x hx
      unfold pl1
      by_cases e : x = s
      · subst e
        simp only [if_true]
        exact ⟨this.mpr rfl, hP, hc⟩
      · simp only [if_neg e]
        exact fun q => e (this.mp q)
    · rw [jI_wr_s, upd_n (by omega)]; exact d3
    · rw [jI_wr_s, upd_n (by omega)]; exact d4
  have hl : ∀ (r k : Nat) (P : Nat → Int32) (tp : Int32) (st wd : Nat → Int64), k + r = n → jW (d + 6) 232 9 [some (.ref m), some (.int (nI s)), some (.int (nI n)), some (.int (nI k))] [] (mSc m (jwr (jwr (jwr h (m + 10) (mdaysP rv S s cs k)) (m + 11) P) m (upd (jI h m) 25 ((1 : Int32) <<< (nI s &&& 31)))) tp st wd) Q := by
    intro r
    induction r with
    | zero =>
      intro k P tp st wd hk
      have e : k = n := by omega
      subst e
      have hle : nI k ≤ nI k := nI_le (by omega) (by omega)
      obtain ⟨e1, bb, w1, d1⟩ := mdaysP_inv (rv := rv) (s := s) hcs W B k (by omega)
      obtain ⟨x1, x2⟩ := bb s s6
      have e25 : upd (jI h m) 25 0 = jI h m := by rw [← h25, upd_self]
      have e4 : jwr (jwr (jwr h (m + 10) (mdaysP rv S s cs k)) (m + 11) P) m (jI h m) = jwr (jwr h (m + 11) P) (m + 10) (mdaysP rv S s cs k) := by
        rw [jwr_cc (show 10 < 11 by omega)]
        have : jI h m = jI (jwr (jwr h (m + 10) (mdaysP rv S s cs k)) (m + 11) P) m := by rw [jI_wr_c (by omega), jI_wr_c (by omega)]
        rw [this, jwr_self]
      have e5 : jI (jwr h (m + 11) P) (m + 10) = S := (jI_wr_a (by omega)).trans hS
      have e6 : jI (jwr h (m + 11) P) (m + 13) = kpt K S := (jI_wr_a (by omega)).trans h13
      have c9 := fun Q => @c219s (jwr h (m + 11) P) m (d + 5) Q tp st wd S _ K H e5 e1 e6
      have c1 := fun Q => @c191s (jwr (jwr h (m + 11) P) (m + 10) (mdaysP rv S s cs k)) m (d + 5) Q tp st wd H s s6
      rw [jI_wr_s] at c1
      simp (config := { decide := true }) (disch := (first | assumption | omega | (simp (config := { decide := true }) only [hm, jK_sc, jK_wI, jK_wJ, jK_wR, jK_wr, jR_wr, jR_wI, jR_wJ]; done) | (simp only [hm, jK_sc, jK_wI, jK_wJ, jK_wR, jK_wr, jR_wr, jR_wI, jR_wJ]; refine jinb_nI ?_ ?_ <;> omega) | (refine jinb_nI ?_ ?_ <;> omega))) only [s232_9, s232_10, s232_11, s232_37, s232_38, s232_39, if_pos hle, jK_sc, jI_sc_f, jwr_scM, e25, va_rf_some, va_rf_none, jK_wI, jR_wI, jJ_wI, jK_wJ, jR_wJ, jI_wJ, jK_wR, jI_wR, jJ_wR, jK_wr, jR_wr, jJ_wr, jcl1_i, jcl1_r, jcl1_z, jcl1_n, jcl1_l, jwI_row, jwr_jwr, jwr_cm, jwr_cc, upd_upd, jI_wr_s, jI_wr_a, jI_wr_b, jI_wr_c, mInv_wr, upd_s, upd_n, Option.toList, List.cons_append, List.nil_append, true_or, or_true, eq_self, and_self, ite_true, ite_false, if_true, if_false, jinb_nI, nI_clamp, tc0, tc1, tc2, tc3, tc4, tc5, tc6, tc7, tc8, tc9, tc10, tc11, tc12, tc13, tc14, tc15, tc16, tc17, tc18, tc19, tc20, tc21, tc22, tc23, tc24, tc25, tc26, tc27, tc28, tc29, tc30, tc31, tc32, tc33, tc34, tc35, tc36, tc37, tc38, tc39, tc40, tc41, tc42, tc43, tc44, tc45, tc46, tc47, tc48, tc49, tc50, tc51, tc52, tc53, tc54, tc55, tc56, tc57, tc58, tc59, tc60, tc61, tc62, tc63, tc64, tc65, tc66, tc67, tc68, tc69, tc77, tc83, tc119, tc159, tc160, nI_add, al0, ar0, ml0, mr0, al1, ar1, ml1, mr1, al2, ar2, ml2, mr2, al3, ar3, ml3, mr3, al4, ar4, ml4, mr4, al5, ar5, ml5, mr5, al6, ar6, ml6, mr6, al8, ar8, ml8, mr8, al10, ar10, ml10, mr10, al11, ar11, ml11, mr11, al12, ar12, ml12, mr12, al13, ar13, ml13, mr13, al16, ar16, ml16, mr16, al20, ar20, ml20, mr20, al24, ar24, ml24, mr24, al29, ar29, ml29, mr29, al36, ar36, ml36, mr36, al42, ar42, ml42, mr42, al48, ar48, ml48, mr48, al55, ar55, ml55, mr55, al60, ar60, ml60, mr60, al65, ar65, ml65, mr65, al77, ar77, ml77, mr77, al83, ar83, ml83, mr83, al119, ar119, ml119, mr119, al159, ar159, ml159, mr159, al160, ar160, ml160, mr160, al400, ar400, ml400, mr400, hm, jK_sc]
      rw [e4]
      rw [s232_42, s232_43, s232_44 (show (jK (mSc m (jwr (jwr h (m + 11) P) (m + 10) (mdaysP rv S s cs k)) tp st wd) m).1 = 32 from congrArg Prod.fst hm), c1, x1]
      simp only [Option.toList, List.cons_append, List.nil_append, s232_47, c203 x2, s232_50, s232_51, s232_52 (show (jK (mSc m (jwr (jwr h (m + 11) P) (m + 10) (mdaysP rv S s cs k)) tp st wd) m).1 = 32 from congrArg Prod.fst hm), c9, s232_55, s232_56]
      exact hQ P _ _ _
    | succ r ih =>
      intro k P tp st wd hk
      have hle : ¬ nI n ≤ nI k := nI_ge (by omega) (by omega)
      have hRk := hR k (by omega)
      obtain ⟨e1, bb, w1, d1⟩ := mdaysP_inv (rv := rv) (s := s) hcs W B k (by omega)
      simp (config := { decide := true }) (disch := (first | assumption | omega | (simp (config := { decide := true }) only [hm, r1, k1, r2, k2, jK_sc, jK_wI, jK_wJ, jK_wR, jK_wr, jR_wr, jR_wI, jR_wJ]; done) | (simp only [hm, r1, k1, r2, k2, jK_sc, jK_wI, jK_wJ, jK_wR, jK_wr, jR_wr, jR_wI, jR_wJ]; refine jinb_nI ?_ ?_ <;> omega) | (refine jinb_nI ?_ ?_ <;> omega))) only [s232_9, s232_10, s232_11, s232_14, s232_15, s232_18, s232_19, s232_20, s232_23, s232_24, s232_25, s232_26, s232_27, if_neg hle, jK_sc, jR_sc, jI_sc_a, hRk, jwr_scc, va_rf_some, va_rf_none, jK_wI, jR_wI, jJ_wI, jK_wJ, jR_wJ, jI_wJ, jK_wR, jI_wR, jJ_wR, jK_wr, jR_wr, jJ_wr, jcl1_i, jcl1_r, jcl1_z, jcl1_n, jcl1_l, jwI_row, jwr_jwr, jwr_cm, jwr_cc, upd_upd, jI_wr_s, jI_wr_a, jI_wr_b, jI_wr_c, mInv_wr, upd_s, upd_n, Option.toList, List.cons_append, List.nil_append, true_or, or_true, eq_self, and_self, ite_true, ite_false, if_true, if_false, jinb_nI, nI_clamp, tc0, tc1, tc2, tc3, tc4, tc5, tc6, tc7, tc8, tc9, tc10, tc11, tc12, tc13, tc14, tc15, tc16, tc17, tc18, tc19, tc20, tc21, tc22, tc23, tc24, tc25, tc26, tc27, tc28, tc29, tc30, tc31, tc32, tc33, tc34, tc35, tc36, tc37, tc38, tc39, tc40, tc41, tc42, tc43, tc44, tc45, tc46, tc47, tc48, tc49, tc50, tc51, tc52, tc53, tc54, tc55, tc56, tc57, tc58, tc59, tc60, tc61, tc62, tc63, tc64, tc65, tc66, tc67, tc68, tc69, tc77, tc83, tc119, tc159, tc160, nI_add, al0, ar0, ml0, mr0, al1, ar1, ml1, mr1, al2, ar2, ml2, mr2, al3, ar3, ml3, mr3, al4, ar4, ml4, mr4, al5, ar5, ml5, mr5, al6, ar6, ml6, mr6, al8, ar8, ml8, mr8, al10, ar10, ml10, mr10, al11, ar11, ml11, mr11, al12, ar12, ml12, mr12, al13, ar13, ml13, mr13, al16, ar16, ml16, mr16, al20, ar20, ml20, mr20, al24, ar24, ml24, mr24, al29, ar29, ml29, mr29, al36, ar36, ml36, mr36, al42, ar42, ml42, mr42, al48, ar48, ml48, mr48, al55, ar55, ml55, mr55, al60, ar60, ml60, mr60, al65, ar65, ml65, mr65, al77, ar77, ml77, mr77, al83, ar83, ml83, mr83, al119, ar119, ml119, mr119, al159, ar159, ml159, mr159, al160, ar160, ml160, mr160, al400, ar400, ml400, mr400, hm, r1, k1, r2, k2, jK_sc]
      rw [← nf]
      refine c199n (base _ (cs k) (hcs k) (by rw [upd_s])) w1 bb ?_
      intro tp' st' wd'
      have i2 := ih (k + 1) (upd P s (oI (cs k))) tp' st' wd' (by omega)
      rw [nf]
      rw [show mdaysP rv S s cs (k + 1) = mnxt rv 0 (pl1 s (cs k)) (-1) (mdaysP rv S s cs k) from rfl] at i2
      simp (config := { decide := true }) (disch := (first | assumption | omega | (simp (config := { decide := true }) only [hm, jK_sc, jK_wI, jK_wJ, jK_wR, jK_wr, jR_wr, jR_wI, jR_wJ]; done) | (simp only [hm, jK_sc, jK_wI, jK_wJ, jK_wR, jK_wr, jR_wr, jR_wI, jR_wJ]; refine jinb_nI ?_ ?_ <;> omega) | (refine jinb_nI ?_ ?_ <;> omega))) only [s232_30, s232_31, s232_34, va_rf_some, va_rf_none, jK_wI, jR_wI, jJ_wI, jK_wJ, jR_wJ, jI_wJ, jK_wR, jI_wR, jJ_wR, jK_wr, jR_wr, jJ_wr, jcl1_i, jcl1_r, jcl1_z, jcl1_n, jcl1_l, jwI_row, jwr_jwr, jwr_cm, jwr_cc, upd_upd, jI_wr_s, jI_wr_a, jI_wr_b, jI_wr_c, mInv_wr, upd_s, upd_n, Option.toList, List.cons_append, List.nil_append, true_or, or_true, eq_self, and_self, ite_true, ite_false, if_true, if_false, jinb_nI, nI_clamp, tc0, tc1, tc2, tc3, tc4, tc5, tc6, tc7, tc8, tc9, tc10, tc11, tc12, tc13, tc14, tc15, tc16, tc17, tc18, tc19, tc20, tc21, tc22, tc23, tc24, tc25, tc26, tc27, tc28, tc29, tc30, tc31, tc32, tc33, tc34, tc35, tc36, tc37, tc38, tc39, tc40, tc41, tc42, tc43, tc44, tc45, tc46, tc47, tc48, tc49, tc50, tc51, tc52, tc53, tc54, tc55, tc56, tc57, tc58, tc59, tc60, tc61, tc62, tc63, tc64, tc65, tc66, tc67, tc68, tc69, tc77, tc83, tc119, tc159, tc160, nI_add, al0, ar0, ml0, mr0, al1, ar1, ml1, mr1, al2, ar2, ml2, mr2, al3, ar3, ml3, mr3, al4, ar4, ml4, mr4, al5, ar5, ml5, mr5, al6, ar6, ml6, mr6, al8, ar8, ml8, mr8, al10, ar10, ml10, mr10, al11, ar11, ml11, mr11, al12, ar12, ml12, mr12, al13, ar13, ml13, mr13, al16, ar16, ml16, mr16, al20, ar20, ml20, mr20, al24, ar24, ml24, mr24, al29, ar29, ml29, mr29, al36, ar36, ml36, mr36, al42, ar42, ml42, mr42, al48, ar48, ml48, mr48, al55, ar55, ml55, mr55, al60, ar60, ml60, mr60, al65, ar65, ml65, mr65, al77, ar77, ml77, mr77, al83, ar83, ml83, mr83, al119, ar119, ml119, mr119, al159, ar159, ml159, mr159, al160, ar160, ml160, mr160, al400, ar400, ml400, mr400, hm, jK_sc]
      exact i2
  have := hl n 0 (jI h (m + 11)) tp st wd (by omega)
  unfold mdaysP at this
  rw [← hS, jwr_self, jwr_self] at this
  exact this
end
