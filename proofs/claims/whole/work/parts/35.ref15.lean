/-! THE REFERENCE: what is asked right; days ahead -/
def isS (S : Nat → Int32) (s : Int32) : Bool := !decide (s < 0) && !decide (S 5 ≤ s)
def isK (S : Nat → Int32) (k : Int32) : Bool := !decide (k < 0) && !decide (S 4 ≤ k)
def isC (S : Nat → Int32) : Bool := decide (S 0 = 1)
def inR (x lo hi : Int32) : Bool := !decide (x < lo) && !decide (hi < x)
theorem isS_nat {S : Nat → Int32} (W : mW S) {s : Int32} (h : isS S s = true) : ∃ n, n < sN S ∧ s = nI n := by
  unfold isS at h
  simp only [Bool.and_eq_true, Bool.not_eq_true', decide_eq_false_iff_not] at h
  obtain ⟨j, hj, e⟩ := nI_of h.1
  obtain ⟨hN, hN2⟩ := W.2.2.1
  refine ⟨j, ?_, e⟩
  have h2 := h.2
  rw [e, hN, nI_leI (by omega) hj] at h2
  omega
theorem isK_nat {S : Nat → Int32} (W : mW S) {s : Int32} (h : isK S s = true) : ∃ n, n < sK S ∧ s = nI n := by
  unfold isK at h
  simp only [Bool.and_eq_true, Bool.not_eq_true', decide_eq_false_iff_not] at h
  obtain ⟨j, hj, e⟩ := nI_of h.1
  obtain ⟨hN, hN2⟩ := W.2.1
  refine ⟨j, ?_, e⟩
  have h2 := h.2
  rw [e, hN, nI_leI (by omega) hj] at h2
  omega
theorem inR_nat {x : Int32} {lo hi : Nat} (hhi : hi < 2 ^ 31) (hlh : lo ≤ hi) (h : inR x (nI lo) (nI hi) = true) : ∃ n, lo ≤ n ∧ n ≤ hi ∧ x = nI n := by
  unfold inR at h
  simp only [Bool.and_eq_true, Bool.not_eq_true', decide_eq_false_iff_not] at h
  have h0 : ¬ x < 0 := by
    intro hx
    have := nI_pos' (n := lo) (by omega)
    exact h.1 (Int32.lt_of_lt_of_le hx this)
  obtain ⟨j, hj, e⟩ := nI_of h0
  rw [e, nI_ltI hj (by omega), nI_ltI hhi hj] at h
  exact ⟨j, by omega, by omega, e⟩
theorem isS_y {S : Nat → Int32} (W : mW S) {s : Nat} (h : s < sN S) : isS S (nI s) = true := by
  obtain ⟨hN, hN2⟩ := W.2.2.1
  unfold isS
  rw [hN, decide_eq_false (nI_pos (by omega)), decide_eq_false (nI_ge h (by omega))]
  rfl
theorem isK_y {S : Nat → Int32} (W : mW S) {s : Nat} (h : s < sK S) : isK S (nI s) = true := by
  obtain ⟨hN, hN2⟩ := W.2.1
  unfold isK
  rw [hN, decide_eq_false (nI_pos (by omega)), decide_eq_false (nI_ge h (by omega))]
  rfl
/-- the first from k on, of n -/
def fst1 (p : Nat → Bool) : Nat → Nat → Option Nat
  | 0, _ => none
  | n + 1, k => if p k then some k else fst1 p n (k + 1)
theorem fst1_lt {p : Nat → Bool} : ∀ {n k j : Nat}, fst1 p n k = some j → k ≤ j ∧ j < k + n ∧ p j = true := by
  intro n
  induction n with
  | zero => intro k j h; cases h
  | succ n ih =>
    intro k j h
    unfold fst1 at h
    split at h
    · next hp => cases h; exact ⟨by omega, by omega, hp⟩
    · obtain ⟨a, b, c⟩ := ih h
      exact ⟨by omega, by omega, c⟩
theorem fst1_congr {p q : Nat → Bool} : ∀ {n k : Nat}, (∀ j, k ≤ j → j < k + n → p j = q j) → fst1 p n k = fst1 q n k := by
  intro n
  induction n with
  | zero => intro k _; rfl
  | succ n ih =>
    intro k h
    unfold fst1
    rw [h k (by omega) (by omega), ih (fun j h1 h2 => h j (by omega) (by omega))]
/-- days one after another -/
def mdays (rv : Option ((Nat → Int64) → Int64)) (lf : Int32) (pd : Nat → Option (Option Nat)) (S : Nat → Int32) : Nat → Nat → Int32
  | 0 => S
  | n + 1 => mnxt rv lf pd (-1) (mdays rv lf pd S n)
theorem mdays_inv {rv : Option ((Nat → Int64) → Int64)} {lf : Int32} {pd : Nat → Option (Option Nat)} {S : Nat → Int32} (P : pdOk pd) (W : mW S) (B : mB S) : ∀ n, sD S + n ≤ 3000 → eqG S (mdays rv lf pd S n) ∧ mB (mdays rv lf pd S n) ∧ mW (mdays rv lf pd S n) ∧ sD (mdays rv lf pd S n) = sD S + n := by
  intro n
  induction n with
  | zero => intro _; exact ⟨fun _ _ => rfl, B, W, rfl⟩
  | succ n ih =>
    intro hn
    obtain ⟨e, b, w, dd⟩ := ih (by omega)
    obtain ⟨e', b', w', d'⟩ := mnxt_inv (rv := rv) (lf := lf) (dr := -1) P w b (by omega)
    exact ⟨e.trans e', b', w', by show sD (mnxt rv lf pd (-1) (mdays rv lf pd S n)) = _; rw [d', dd]; omega⟩
/-- what days need of the heap, the state aside -/
def mBase (h : jH) (m : Nat) (rv : Option ((Nat → Int64) → Int64)) (lf : Int32) (pd : Nat → Option (Option Nat)) : Prop := mInv h m ∧ mFor h m rv ∧ mPl h m pd ∧ pdOk pd ∧ jI h m 23 = -1 ∧ jI h m 24 = lf
theorem mBase_wr {h : jH} {m : Nat} {rv : Option ((Nat → Int64) → Int64)} {lf : Int32} {pd : Nat → Option (Option Nat)} (b : mBase h m rv lf pd) {c : Nat} {f : Nat → Int32} (hc : c ≠ 0 ∧ c ≠ 2 ∧ c ≠ 4 ∧ c ≠ 5 ∧ c ≠ 11) : mBase (jwr h (m + c) f) m rv lf pd := by
  obtain ⟨H, R, P, P6, d3, d4⟩ := b
  have e0 : jI (jwr h (m + c) f) m = jI h m := jI_wr_c (by omega)
  exact ⟨H, mFor_of (by rw [e0]) (jI_wr_a (by omega)) (jI_wr_a (by omega)) (jI_wr_a (by omega)) R, mPl_of (by rw [e0]) (jI_wr_a (by omega)) P, P6, by rw [e0]; exact d3, by rw [e0]; exact d4⟩
theorem mday0 {S : Nat → Int32} : mcalm (-1) S = calmS S (sD S) := if_pos (by decide)
def kpt (K S : Nat → Int32) : Nat → Int32 := jput K (fun j => S (10 + j)) 0 55
theorem kpt_back {K S S' : Nat → Int32} (e : eqG S S') : jput S' (kpt K S) 10 55 = S := by
  funext j
  by_cases hj : 10 ≤ j ∧ j < 10 + 55
  · rw [jput_in hj.1 hj.2]
    unfold kpt
    rw [jput_in (by omega) (by omega)]
    congr 1
    omega
  · rw [jput_out (by omega)]
    exact e j (by omega)
section
variable {h : jH} {m : Nat} {d : Nat} {Q : Option Value → jH → Prop} {tp : Int32} {st wd : Nat → Int64}
theorem c159b {x lo hi : Int32} {L H : Int64} (hL : L = lo.toInt64) (hH : H = hi.toInt64) : jC (d + 1) 159 [.long x.toInt64, .long L, .long H] h Q ↔ Q (some (.int (if inR x lo hi then 1 else 0))) h := by
  rw [c159, hL, hH]
  unfold inR
  simp only [Int32.toInt64_lt]
  by_cases h1 : x < lo <;> by_cases h2 : hi < x <;> simp [h1, h2]
theorem c185b (H : mInv h m) {s : Int32} : jC (d + 1) 185 [.ref m, .int s] h Q ↔ Q (some (.int (if isS (jI h (m + 10)) s then 1 else 0))) h := by
  rw [c185 H]
  unfold isS
  by_cases h1 : s < 0 <;> by_cases h2 : jI h (m + 10) 5 ≤ s <;> simp [h1, h2]
theorem c193b (H : mInv h m) {s : Int32} : jC (d + 1) 193 [.ref m, .int s] h Q ↔ Q (some (.int (if isK (jI h (m + 10)) s then 1 else 0))) h := by
  rw [c193 H]
  unfold isK
  by_cases h1 : s < 0 <;> by_cases h2 : jI h (m + 10) 4 ≤ s <;> simp [h1, h2]
theorem c197b (H : mInv h m) : jC (d + 1) 197 [.ref m] h Q ↔ Q (some (.int (if isC (jI h (m + 10)) then 1 else 0))) h := by
  rw [c197 H]
  unfold isC
  by_cases h1 : jI h (m + 10) 0 = 1 <;> simp [h1]
/-- a day in a heap whose state aside is h -/
theorem c199n {S : Nat → Int32} {rv : Option ((Nat → Int64) → Int64)} {lf : Int32} {pd : Nat → Option (Option Nat)} (b : mBase h m rv lf pd) (W : mW S) (B : mB S) (hQ : ∀ tp st wd, Q (some (.int (moff rv lf pd (-1) S))) (mSc m (jwr h (m + 10) (mnxt rv lf pd (-1) S)) tp st wd)) : jC (d + 6) 199 [.ref m] (mSc m (jwr h (m + 10) S) tp st wd) Q := by
  obtain ⟨H, R, P, P6, d3, d4⟩ := mBase_wr (c := 10) (f := S) b (by omega)
  refine c199 H (by rw [jI_wr_s]; exact W) (by rw [jI_wr_s]; exact B) R P P6 ?_
  rw [d3, d4, jI_wr_s, jwr_jwr]
  have e : upd (jI (jwr h (m + 10) S) m) 23 (-1) = jI h m := by
    rw [jI_wr_c (by omega), ← (jI_wr_c (f := S) (m := m) (h := h) (c := 10) (by omega))]
    funext j
    unfold upd
    split
    · next hj => rw [hj, d3]
    · rfl
  have e2 : jwr (jwr h (m + 10) (mnxt rv lf pd (-1) S)) m (jI h m) = jwr h (m + 10) (mnxt rv lf pd (-1) S) := by
    have : jI h m = jI (jwr h (m + 10) (mnxt rv lf pd (-1) S)) m := (jI_wr_c (by omega)).symm
    rw [this, jwr_self]
  rw [e, e2]
  exact hQ
/-- passesAll -/
theorem c217 {S : Nat → Int32} {rv : Option ((Nat → Int64) → Int64)} {lf : Int32} {pd : Nat → Option (Option Nat)} (b : mBase h m rv lf pd) (W : mW S) (B : mB S) {n : Nat} (hn : sD S + n ≤ 3000) (hQ : ∀ tp st wd, Q none (mSc m (jwr h (m + 10) (mdays rv lf pd S n)) tp st wd)) : jC (d + 7) 217 [.ref m, .int (nI n)] (mSc m (jwr h (m + 10) S) tp st wd) Q := by
  rw [e217]
  have hm : jK h m = (32, 43) := b.1.1
  have hl : ∀ (r k : Nat) (tp : Int32) (st wd : Nat → Int64), k + r = n → jW (d + 6) 217 2 [some (.ref m), some (.int (nI n)), some (.int (nI k))] [] (mSc m (jwr h (m + 10) (mdays rv lf pd S k)) tp st wd) Q := by
    intro r
    induction r with
    | zero =>
      intro k tp st wd hk
      have e : k = n := by omega
      subst e
      have hle : nI k ≤ nI k := nI_le (Nat.le_refl _) (by omega)
      simp (config := { decide := true }) (disch := (first | assumption | omega | (simp (config := { decide := true }) only [hm, jK_sc, jK_wI, jK_wJ, jK_wR, jK_wr, jR_wr, jR_wI, jR_wJ]; done) | (simp only [hm, jK_sc, jK_wI, jK_wJ, jK_wR, jK_wr, jR_wr, jR_wI, jR_wJ]; refine jinb_nI ?_ ?_ <;> omega) | (refine jinb_nI ?_ ?_ <;> omega))) only [s217_2, s217_3, s217_4, s217_18, if_pos hle, va_rf_some, va_rf_none, jK_wI, jR_wI, jJ_wI, jK_wJ, jR_wJ, jI_wJ, jK_wR, jI_wR, jJ_wR, jK_wr, jR_wr, jJ_wr, jcl1_i, jcl1_r, jcl1_z, jcl1_n, jcl1_l, jwI_row, jwr_jwr, jwr_cm, jwr_cc, upd_upd, jI_wr_s, jI_wr_a, jI_wr_b, jI_wr_c, mInv_wr, upd_s, upd_n, Option.toList, List.cons_append, List.nil_append, true_or, or_true, eq_self, and_self, ite_true, ite_false, if_true, if_false, jinb_nI, nI_clamp, tc0, tc1, tc2, tc3, tc4, tc5, tc6, tc7, tc8, tc9, tc10, tc11, tc12, tc13, tc14, tc15, tc16, tc17, tc18, tc19, tc20, tc21, tc22, tc23, tc24, tc25, tc26, tc27, tc28, tc29, tc30, tc31, tc32, tc33, tc34, tc35, tc36, tc37, tc38, tc39, tc40, tc41, tc42, tc43, tc44, tc45, tc46, tc47, tc48, tc49, tc50, tc51, tc52, tc53, tc54, tc55, tc56, tc57, tc58, tc59, tc60, tc61, tc62, tc63, tc64, tc65, tc66, tc67, tc68, tc69, tc77, tc83, tc119, tc159, tc160, nI_add, al0, ar0, ml0, mr0, al1, ar1, ml1, mr1, al2, ar2, ml2, mr2, al3, ar3, ml3, mr3, al4, ar4, ml4, mr4, al5, ar5, ml5, mr5, al6, ar6, ml6, mr6, al8, ar8, ml8, mr8, al10, ar10, ml10, mr10, al11, ar11, ml11, mr11, al12, ar12, ml12, mr12, al13, ar13, ml13, mr13, al16, ar16, ml16, mr16, al20, ar20, ml20, mr20, al24, ar24, ml24, mr24, al29, ar29, ml29, mr29, al36, ar36, ml36, mr36, al42, ar42, ml42, mr42, al48, ar48, ml48, mr48, al55, ar55, ml55, mr55, al60, ar60, ml60, mr60, al65, ar65, ml65, mr65, al77, ar77, ml77, mr77, al83, ar83, ml83, mr83, al119, ar119, ml119, mr119, al159, ar159, ml159, mr159, al160, ar160, ml160, mr160, al400, ar400, ml400, mr400, hm, jK_sc]
      exact hQ _ _ _
    | succ r ih =>
      intro k tp st wd hk
      have hle : ¬ nI n ≤ nI k := nI_ge (by omega) (by omega)
      simp (config := { decide := true }) (disch := (first | assumption | omega | (simp (config := { decide := true }) only [hm, jK_sc, jK_wI, jK_wJ, jK_wR, jK_wr, jR_wr, jR_wI, jR_wJ]; done) | (simp only [hm, jK_sc, jK_wI, jK_wJ, jK_wR, jK_wr, jR_wr, jR_wI, jR_wJ]; refine jinb_nI ?_ ?_ <;> omega) | (refine jinb_nI ?_ ?_ <;> omega))) only [s217_2, s217_3, s217_4, s217_7, s217_8, if_neg hle, jK_sc, va_rf_some, va_rf_none, jK_wI, jR_wI, jJ_wI, jK_wJ, jR_wJ, jI_wJ, jK_wR, jI_wR, jJ_wR, jK_wr, jR_wr, jJ_wr, jcl1_i, jcl1_r, jcl1_z, jcl1_n, jcl1_l, jwI_row, jwr_jwr, jwr_cm, jwr_cc, upd_upd, jI_wr_s, jI_wr_a, jI_wr_b, jI_wr_c, mInv_wr, upd_s, upd_n, Option.toList, List.cons_append, List.nil_append, true_or, or_true, eq_self, and_self, ite_true, ite_false, if_true, if_false, jinb_nI, nI_clamp, tc0, tc1, tc2, tc3, tc4, tc5, tc6, tc7, tc8, tc9, tc10, tc11, tc12, tc13, tc14, tc15, tc16, tc17, tc18, tc19, tc20, tc21, tc22, tc23, tc24, tc25, tc26, tc27, tc28, tc29, tc30, tc31, tc32, tc33, tc34, tc35, tc36, tc37, tc38, tc39, tc40, tc41, tc42, tc43, tc44, tc45, tc46, tc47, tc48, tc49, tc50, tc51, tc52, tc53, tc54, tc55, tc56, tc57, tc58, tc59, tc60, tc61, tc62, tc63, tc64, tc65, tc66, tc67, tc68, tc69, tc77, tc83, tc119, tc159, tc160, nI_add, al0, ar0, ml0, mr0, al1, ar1, ml1, mr1, al2, ar2, ml2, mr2, al3, ar3, ml3, mr3, al4, ar4, ml4, mr4, al5, ar5, ml5, mr5, al6, ar6, ml6, mr6, al8, ar8, ml8, mr8, al10, ar10, ml10, mr10, al11, ar11, ml11, mr11, al12, ar12, ml12, mr12, al13, ar13, ml13, mr13, al16, ar16, ml16, mr16, al20, ar20, ml20, mr20, al24, ar24, ml24, mr24, al29, ar29, ml29, mr29, al36, ar36, ml36, mr36, al42, ar42, ml42, mr42, al48, ar48, ml48, mr48, al55, ar55, ml55, mr55, al60, ar60, ml60, mr60, al65, ar65, ml65, mr65, al77, ar77, ml77, mr77, al83, ar83, ml83, mr83, al119, ar119, ml119, mr119, al159, ar159, ml159, mr159, al160, ar160, ml160, mr160, al400, ar400, ml400, mr400, hm, jK_sc]
      obtain ⟨e1, b1, w1, d1⟩ := mdays_inv (rv := rv) (lf := lf) b.2.2.2.1 W B k (by omega)
      refine c199n b w1 b1 ?_
      intro tp' st' wd'
      simp (config := { decide := true }) (disch := (first | assumption | omega | (simp (config := { decide := true }) only [hm, jK_sc, jK_wI, jK_wJ, jK_wR, jK_wr, jR_wr, jR_wI, jR_wJ]; done) | (simp only [hm, jK_sc, jK_wI, jK_wJ, jK_wR, jK_wr, jR_wr, jR_wI, jR_wJ]; refine jinb_nI ?_ ?_ <;> omega) | (refine jinb_nI ?_ ?_ <;> omega))) only [s217_11, s217_12, s217_15, va_rf_some, va_rf_none, jK_wI, jR_wI, jJ_wI, jK_wJ, jR_wJ, jI_wJ, jK_wR, jI_wR, jJ_wR, jK_wr, jR_wr, jJ_wr, jcl1_i, jcl1_r, jcl1_z, jcl1_n, jcl1_l, jwI_row, jwr_jwr, jwr_cm, jwr_cc, upd_upd, jI_wr_s, jI_wr_a, jI_wr_b, jI_wr_c, mInv_wr, upd_s, upd_n, Option.toList, List.cons_append, List.nil_append, true_or, or_true, eq_self, and_self, ite_true, ite_false, if_true, if_false, jinb_nI, nI_clamp, tc0, tc1, tc2, tc3, tc4, tc5, tc6, tc7, tc8, tc9, tc10, tc11, tc12, tc13, tc14, tc15, tc16, tc17, tc18, tc19, tc20, tc21, tc22, tc23, tc24, tc25, tc26, tc27, tc28, tc29, tc30, tc31, tc32, tc33, tc34, tc35, tc36, tc37, tc38, tc39, tc40, tc41, tc42, tc43, tc44, tc45, tc46, tc47, tc48, tc49, tc50, tc51, tc52, tc53, tc54, tc55, tc56, tc57, tc58, tc59, tc60, tc61, tc62, tc63, tc64, tc65, tc66, tc67, tc68, tc69, tc77, tc83, tc119, tc159, tc160, nI_add, al0, ar0, ml0, mr0, al1, ar1, ml1, mr1, al2, ar2, ml2, mr2, al3, ar3, ml3, mr3, al4, ar4, ml4, mr4, al5, ar5, ml5, mr5, al6, ar6, ml6, mr6, al8, ar8, ml8, mr8, al10, ar10, ml10, mr10, al11, ar11, ml11, mr11, al12, ar12, ml12, mr12, al13, ar13, ml13, mr13, al16, ar16, ml16, mr16, al20, ar20, ml20, mr20, al24, ar24, ml24, mr24, al29, ar29, ml29, mr29, al36, ar36, ml36, mr36, al42, ar42, ml42, mr42, al48, ar48, ml48, mr48, al55, ar55, ml55, mr55, al60, ar60, ml60, mr60, al65, ar65, ml65, mr65, al77, ar77, ml77, mr77, al83, ar83, ml83, mr83, al119, ar119, ml119, mr119, al159, ar159, ml159, mr159, al160, ar160, ml160, mr160, al400, ar400, ml400, mr400, hm, jK_sc]
      exact ih (k + 1) _ _ _ (by omega)
  simp only [s217_0, s217_1, va_rf_some, va_rf_none, jK_wI, jR_wI, jJ_wI, jK_wJ, jR_wJ, jI_wJ, jK_wR, jI_wR, jJ_wR, jK_wr, jR_wr, jJ_wr, jcl1_i, jcl1_r, jcl1_z, jcl1_n, jcl1_l, jwI_row, jwr_jwr, jwr_cm, jwr_cc, upd_upd, jI_wr_s, jI_wr_a, jI_wr_b, jI_wr_c, mInv_wr, upd_s, upd_n, Option.toList, List.cons_append, List.nil_append, true_or, or_true, eq_self, and_self, ite_true, ite_false, if_true, if_false]
  exact hl n 0 tp st wd (by omega)
theorem c216s (H : mInv h m) : jC (d + 1) 216 [.ref m] (mSc m h tp st wd) Q ↔ Q none (mSc m (jwr h (m + 13) (kpt (jI h (m + 13)) (jI h (m + 10)))) tp st wd) := by
  rw [c216 (h := mSc m h tp st wd) (m := m) H, jI_sc_a (by omega), jI_sc_a (by omega), jwr_scc (by omega)]
  rfl
theorem c219s {S S' K : Nat → Int32} (H : mInv h m) (hS : jI h (m + 10) = S) (e : eqG S S') (hK : jI h (m + 13) = kpt K S) : jC (d + 1) 219 [.ref m] (mSc m (jwr h (m + 10) S') tp st wd) Q ↔ Q none (mSc m h tp st wd) := by
  rw [c219 (h := mSc m (jwr h (m + 10) S') tp st wd) (m := m) H, jI_sc_a (by omega), jI_sc_a (by omega), jI_wr_s, jI_wr_a (by omega), jwr_scc (by omega), jwr_jwr, hK, kpt_back e, ← hS, jwr_self]
/-- ahead -/
def okAhead (S : Nat → Int32) (s n w : Int32) : Bool := isS S s && inR n 0 100 && inR w 0 2
theorem c215n (H : mInv h m) {s n w : Int32} (hn : okAhead (jI h (m + 10)) s n w = false) : jC (d + 2) 215 [.ref m, .int s, .int n, .int w] h Q ↔ Q (some (.int (-1))) h := by
  rw [e215]
  have hm : jK h m = (32, 43) := H.1
  unfold okAhead at hn
  simp (config := { decide := true }) (disch := (first | assumption | omega | (simp (config := { decide := true }) only [hm, jK_wI, jK_wJ, jK_wR, jK_wr, jR_wr, jR_wI, jR_wJ]; done) | (simp only [hm, jK_wI, jK_wJ, jK_wR, jK_wr, jR_wr, jR_wI, jR_wJ]; refine jinb_nI ?_ ?_ <;> omega) | (refine jinb_nI ?_ ?_ <;> omega))) only [s215_0, s215_1, s215_2, c185b H, va_rf_some, va_rf_none, jK_wI, jR_wI, jJ_wI, jK_wJ, jR_wJ, jI_wJ, jK_wR, jI_wR, jJ_wR, jK_wr, jR_wr, jJ_wr, jcl1_i, jcl1_r, jcl1_z, jcl1_n, jcl1_l, jwI_row, jwr_jwr, jwr_cm, jwr_cc, upd_upd, jI_wr_s, jI_wr_a, jI_wr_b, jI_wr_c, mInv_wr, upd_s, upd_n, Option.toList, List.cons_append, List.nil_append, true_or, or_true, eq_self, and_self, ite_true, ite_false, if_true, if_false, jinb_nI, nI_clamp, tc0, tc1, tc2, tc3, tc4, tc5, tc6, tc7, tc8, tc9, tc10, tc11, tc12, tc13, tc14, tc15, tc16, tc17, tc18, tc19, tc20, tc21, tc22, tc23, tc24, tc25, tc26, tc27, tc28, tc29, tc30, tc31, tc32, tc33, tc34, tc35, tc36, tc37, tc38, tc39, tc40, tc41, tc42, tc43, tc44, tc45, tc46, tc47, tc48, tc49, tc50, tc51, tc52, tc53, tc54, tc55, tc56, tc57, tc58, tc59, tc60, tc61, tc62, tc63, tc64, tc65, tc66, tc67, tc68, tc69, tc77, tc83, tc119, tc159, tc160, nI_add, al0, ar0, ml0, mr0, al1, ar1, ml1, mr1, al2, ar2, ml2, mr2, al3, ar3, ml3, mr3, al4, ar4, ml4, mr4, al5, ar5, ml5, mr5, al6, ar6, ml6, mr6, al8, ar8, ml8, mr8, al10, ar10, ml10, mr10, al11, ar11, ml11, mr11, al12, ar12, ml12, mr12, al13, ar13, ml13, mr13, al16, ar16, ml16, mr16, al20, ar20, ml20, mr20, al24, ar24, ml24, mr24, al29, ar29, ml29, mr29, al36, ar36, ml36, mr36, al42, ar42, ml42, mr42, al48, ar48, ml48, mr48, al55, ar55, ml55, mr55, al60, ar60, ml60, mr60, al65, ar65, ml65, mr65, al77, ar77, ml77, mr77, al83, ar83, ml83, mr83, al119, ar119, ml119, mr119, al159, ar159, ml159, mr159, al160, ar160, ml160, mr160, al400, ar400, ml400, mr400, hm]
  cases h1 : isS (jI h (m + 10)) s with
  | false => simp (config := { decide := true }) (disch := (first | assumption | omega | (simp (config := { decide := true }) only [hm, jK_wI, jK_wJ, jK_wR, jK_wr, jR_wr, jR_wI, jR_wJ]; done) | (simp only [hm, jK_wI, jK_wJ, jK_wR, jK_wr, jR_wr, jR_wI, jR_wJ]; refine jinb_nI ?_ ?_ <;> omega) | (refine jinb_nI ?_ ?_ <;> omega))) only [s215_5, s215_32, s215_33, va_rf_some, va_rf_none, jK_wI, jR_wI, jJ_wI, jK_wJ, jR_wJ, jI_wJ, jK_wR, jI_wR, jJ_wR, jK_wr, jR_wr, jJ_wr, jcl1_i, jcl1_r, jcl1_z, jcl1_n, jcl1_l, jwI_row, jwr_jwr, jwr_cm, jwr_cc, upd_upd, jI_wr_s, jI_wr_a, jI_wr_b, jI_wr_c, mInv_wr, upd_s, upd_n, Option.toList, List.cons_append, List.nil_append, true_or, or_true, eq_self, and_self, ite_true, ite_false, if_true, if_false, jinb_nI, nI_clamp, tc0, tc1, tc2, tc3, tc4, tc5, tc6, tc7, tc8, tc9, tc10, tc11, tc12, tc13, tc14, tc15, tc16, tc17, tc18, tc19, tc20, tc21, tc22, tc23, tc24, tc25, tc26, tc27, tc28, tc29, tc30, tc31, tc32, tc33, tc34, tc35, tc36, tc37, tc38, tc39, tc40, tc41, tc42, tc43, tc44, tc45, tc46, tc47, tc48, tc49, tc50, tc51, tc52, tc53, tc54, tc55, tc56, tc57, tc58, tc59, tc60, tc61, tc62, tc63, tc64, tc65, tc66, tc67, tc68, tc69, tc77, tc83, tc119, tc159, tc160, nI_add, al0, ar0, ml0, mr0, al1, ar1, ml1, mr1, al2, ar2, ml2, mr2, al3, ar3, ml3, mr3, al4, ar4, ml4, mr4, al5, ar5, ml5, mr5, al6, ar6, ml6, mr6, al8, ar8, ml8, mr8, al10, ar10, ml10, mr10, al11, ar11, ml11, mr11, al12, ar12, ml12, mr12, al13, ar13, ml13, mr13, al16, ar16, ml16, mr16, al20, ar20, ml20, mr20, al24, ar24, ml24, mr24, al29, ar29, ml29, mr29, al36, ar36, ml36, mr36, al42, ar42, ml42, mr42, al48, ar48, ml48, mr48, al55, ar55, ml55, mr55, al60, ar60, ml60, mr60, al65, ar65, ml65, mr65, al77, ar77, ml77, mr77, al83, ar83, ml83, mr83, al119, ar119, ml119, mr119, al159, ar159, ml159, mr159, al160, ar160, ml160, mr160, al400, ar400, ml400, mr400, hm]
  | true =>
    simp (config := { decide := true }) (disch := (first | assumption | omega | (simp (config := { decide := true }) only [hm, jK_wI, jK_wJ, jK_wR, jK_wr, jR_wr, jR_wI, jR_wJ]; done) | (simp only [hm, jK_wI, jK_wJ, jK_wR, jK_wr, jR_wr, jR_wI, jR_wJ]; refine jinb_nI ?_ ?_ <;> omega) | (refine jinb_nI ?_ ?_ <;> omega))) only [s215_5, s215_8, s215_9, s215_10, s215_11, s215_14, (c159b (lo := 0) (hi := 100) (L := 0) (H := 100) (by decide) (by decide)), va_rf_some, va_rf_none, jK_wI, jR_wI, jJ_wI, jK_wJ, jR_wJ, jI_wJ, jK_wR, jI_wR, jJ_wR, jK_wr, jR_wr, jJ_wr, jcl1_i, jcl1_r, jcl1_z, jcl1_n, jcl1_l, jwI_row, jwr_jwr, jwr_cm, jwr_cc, upd_upd, jI_wr_s, jI_wr_a, jI_wr_b, jI_wr_c, mInv_wr, upd_s, upd_n, Option.toList, List.cons_append, List.nil_append, true_or, or_true, eq_self, and_self, ite_true, ite_false, if_true, if_false, jinb_nI, nI_clamp, tc0, tc1, tc2, tc3, tc4, tc5, tc6, tc7, tc8, tc9, tc10, tc11, tc12, tc13, tc14, tc15, tc16, tc17, tc18, tc19, tc20, tc21, tc22, tc23, tc24, tc25, tc26, tc27, tc28, tc29, tc30, tc31, tc32, tc33, tc34, tc35, tc36, tc37, tc38, tc39, tc40, tc41, tc42, tc43, tc44, tc45, tc46, tc47, tc48, tc49, tc50, tc51, tc52, tc53, tc54, tc55, tc56, tc57, tc58, tc59, tc60, tc61, tc62, tc63, tc64, tc65, tc66, tc67, tc68, tc69, tc77, tc83, tc119, tc159, tc160, nI_add, al0, ar0, ml0, mr0, al1, ar1, ml1, mr1, al2, ar2, ml2, mr2, al3, ar3, ml3, mr3, al4, ar4, ml4, mr4, al5, ar5, ml5, mr5, al6, ar6, ml6, mr6, al8, ar8, ml8, mr8, al10, ar10, ml10, mr10, al11, ar11, ml11, mr11, al12, ar12, ml12, mr12, al13, ar13, ml13, mr13, al16, ar16, ml16, mr16, al20, ar20, ml20, mr20, al24, ar24, ml24, mr24, al29, ar29, ml29, mr29, al36, ar36, ml36, mr36, al42, ar42, ml42, mr42, al48, ar48, ml48, mr48, al55, ar55, ml55, mr55, al60, ar60, ml60, mr60, al65, ar65, ml65, mr65, al77, ar77, ml77, mr77, al83, ar83, ml83, mr83, al119, ar119, ml119, mr119, al159, ar159, ml159, mr159, al160, ar160, ml160, mr160, al400, ar400, ml400, mr400, hm]
    cases h2 : inR n 0 100 with
    | false => simp (config := { decide := true }) (disch := (first | assumption | omega | (simp (config := { decide := true }) only [hm, jK_wI, jK_wJ, jK_wR, jK_wr, jR_wr, jR_wI, jR_wJ]; done) | (simp only [hm, jK_wI, jK_wJ, jK_wR, jK_wr, jR_wr, jR_wI, jR_wJ]; refine jinb_nI ?_ ?_ <;> omega) | (refine jinb_nI ?_ ?_ <;> omega))) only [s215_17, s215_32, s215_33, va_rf_some, va_rf_none, jK_wI, jR_wI, jJ_wI, jK_wJ, jR_wJ, jI_wJ, jK_wR, jI_wR, jJ_wR, jK_wr, jR_wr, jJ_wr, jcl1_i, jcl1_r, jcl1_z, jcl1_n, jcl1_l, jwI_row, jwr_jwr, jwr_cm, jwr_cc, upd_upd, jI_wr_s, jI_wr_a, jI_wr_b, jI_wr_c, mInv_wr, upd_s, upd_n, Option.toList, List.cons_append, List.nil_append, true_or, or_true, eq_self, and_self, ite_true, ite_false, if_true, if_false, jinb_nI, nI_clamp, tc0, tc1, tc2, tc3, tc4, tc5, tc6, tc7, tc8, tc9, tc10, tc11, tc12, tc13, tc14, tc15, tc16, tc17, tc18, tc19, tc20, tc21, tc22, tc23, tc24, tc25, tc26, tc27, tc28, tc29, tc30, tc31, tc32, tc33, tc34, tc35, tc36, tc37, tc38, tc39, tc40, tc41, tc42, tc43, tc44, tc45, tc46, tc47, tc48, tc49, tc50, tc51, tc52, tc53, tc54, tc55, tc56, tc57, tc58, tc59, tc60, tc61, tc62, tc63, tc64, tc65, tc66, tc67, tc68, tc69, tc77, tc83, tc119, tc159, tc160, nI_add, al0, ar0, ml0, mr0, al1, ar1, ml1, mr1, al2, ar2, ml2, mr2, al3, ar3, ml3, mr3, al4, ar4, ml4, mr4, al5, ar5, ml5, mr5, al6, ar6, ml6, mr6, al8, ar8, ml8, mr8, al10, ar10, ml10, mr10, al11, ar11, ml11, mr11, al12, ar12, ml12, mr12, al13, ar13, ml13, mr13, al16, ar16, ml16, mr16, al20, ar20, ml20, mr20, al24, ar24, ml24, mr24, al29, ar29, ml29, mr29, al36, ar36, ml36, mr36, al42, ar42, ml42, mr42, al48, ar48, ml48, mr48, al55, ar55, ml55, mr55, al60, ar60, ml60, mr60, al65, ar65, ml65, mr65, al77, ar77, ml77, mr77, al83, ar83, ml83, mr83, al119, ar119, ml119, mr119, al159, ar159, ml159, mr159, al160, ar160, ml160, mr160, al400, ar400, ml400, mr400, hm]
    | true =>
      simp (config := { decide := true }) (disch := (first | assumption | omega | (simp (config := { decide := true }) only [hm, jK_wI, jK_wJ, jK_wR, jK_wr, jR_wr, jR_wI, jR_wJ]; done) | (simp only [hm, jK_wI, jK_wJ, jK_wR, jK_wr, jR_wr, jR_wI, jR_wJ]; refine jinb_nI ?_ ?_ <;> omega) | (refine jinb_nI ?_ ?_ <;> omega))) only [s215_17, s215_20, s215_21, s215_22, s215_23, s215_26, (c159b (lo := 0) (hi := 2) (L := 0) (H := 2) (by decide) (by decide)), va_rf_some, va_rf_none, jK_wI, jR_wI, jJ_wI, jK_wJ, jR_wJ, jI_wJ, jK_wR, jI_wR, jJ_wR, jK_wr, jR_wr, jJ_wr, jcl1_i, jcl1_r, jcl1_z, jcl1_n, jcl1_l, jwI_row, jwr_jwr, jwr_cm, jwr_cc, upd_upd, jI_wr_s, jI_wr_a, jI_wr_b, jI_wr_c, mInv_wr, upd_s, upd_n, Option.toList, List.cons_append, List.nil_append, true_or, or_true, eq_self, and_self, ite_true, ite_false, if_true, if_false, jinb_nI, nI_clamp, tc0, tc1, tc2, tc3, tc4, tc5, tc6, tc7, tc8, tc9, tc10, tc11, tc12, tc13, tc14, tc15, tc16, tc17, tc18, tc19, tc20, tc21, tc22, tc23, tc24, tc25, tc26, tc27, tc28, tc29, tc30, tc31, tc32, tc33, tc34, tc35, tc36, tc37, tc38, tc39, tc40, tc41, tc42, tc43, tc44, tc45, tc46, tc47, tc48, tc49, tc50, tc51, tc52, tc53, tc54, tc55, tc56, tc57, tc58, tc59, tc60, tc61, tc62, tc63, tc64, tc65, tc66, tc67, tc68, tc69, tc77, tc83, tc119, tc159, tc160, nI_add, al0, ar0, ml0, mr0, al1, ar1, ml1, mr1, al2, ar2, ml2, mr2, al3, ar3, ml3, mr3, al4, ar4, ml4, mr4, al5, ar5, ml5, mr5, al6, ar6, ml6, mr6, al8, ar8, ml8, mr8, al10, ar10, ml10, mr10, al11, ar11, ml11, mr11, al12, ar12, ml12, mr12, al13, ar13, ml13, mr13, al16, ar16, ml16, mr16, al20, ar20, ml20, mr20, al24, ar24, ml24, mr24, al29, ar29, ml29, mr29, al36, ar36, ml36, mr36, al42, ar42, ml42, mr42, al48, ar48, ml48, mr48, al55, ar55, ml55, mr55, al60, ar60, ml60, mr60, al65, ar65, ml65, mr65, al77, ar77, ml77, mr77, al83, ar83, ml83, mr83, al119, ar119, ml119, mr119, al159, ar159, ml159, mr159, al160, ar160, ml160, mr160, al400, ar400, ml400, mr400, hm]
      rw [h1, h2] at hn
      have h3 : inR w 0 2 = false := hn
      rw [h3]
      simp (config := { decide := true }) (disch := (first | assumption | omega | (simp (config := { decide := true }) only [hm, jK_wI, jK_wJ, jK_wR, jK_wr, jR_wr, jR_wI, jR_wJ]; done) | (simp only [hm, jK_wI, jK_wJ, jK_wR, jK_wr, jR_wr, jR_wI, jR_wJ]; refine jinb_nI ?_ ?_ <;> omega) | (refine jinb_nI ?_ ?_ <;> omega))) only [s215_29, s215_32, s215_33, va_rf_some, va_rf_none, jK_wI, jR_wI, jJ_wI, jK_wJ, jR_wJ, jI_wJ, jK_wR, jI_wR, jJ_wR, jK_wr, jR_wr, jJ_wr, jcl1_i, jcl1_r, jcl1_z, jcl1_n, jcl1_l, jwI_row, jwr_jwr, jwr_cm, jwr_cc, upd_upd, jI_wr_s, jI_wr_a, jI_wr_b, jI_wr_c, mInv_wr, upd_s, upd_n, Option.toList, List.cons_append, List.nil_append, true_or, or_true, eq_self, and_self, ite_true, ite_false, if_true, if_false, jinb_nI, nI_clamp, tc0, tc1, tc2, tc3, tc4, tc5, tc6, tc7, tc8, tc9, tc10, tc11, tc12, tc13, tc14, tc15, tc16, tc17, tc18, tc19, tc20, tc21, tc22, tc23, tc24, tc25, tc26, tc27, tc28, tc29, tc30, tc31, tc32, tc33, tc34, tc35, tc36, tc37, tc38, tc39, tc40, tc41, tc42, tc43, tc44, tc45, tc46, tc47, tc48, tc49, tc50, tc51, tc52, tc53, tc54, tc55, tc56, tc57, tc58, tc59, tc60, tc61, tc62, tc63, tc64, tc65, tc66, tc67, tc68, tc69, tc77, tc83, tc119, tc159, tc160, nI_add, al0, ar0, ml0, mr0, al1, ar1, ml1, mr1, al2, ar2, ml2, mr2, al3, ar3, ml3, mr3, al4, ar4, ml4, mr4, al5, ar5, ml5, mr5, al6, ar6, ml6, mr6, al8, ar8, ml8, mr8, al10, ar10, ml10, mr10, al11, ar11, ml11, mr11, al12, ar12, ml12, mr12, al13, ar13, ml13, mr13, al16, ar16, ml16, mr16, al20, ar20, ml20, mr20, al24, ar24, ml24, mr24, al29, ar29, ml29, mr29, al36, ar36, ml36, mr36, al42, ar42, ml42, mr42, al48, ar48, ml48, mr48, al55, ar55, ml55, mr55, al60, ar60, ml60, mr60, al65, ar65, ml65, mr65, al77, ar77, ml77, mr77, al83, ar83, ml83, mr83, al119, ar119, ml119, mr119, al159, ar159, ml159, mr159, al160, ar160, ml160, mr160, al400, ar400, ml400, mr400, hm]
theorem mBase.sc {rv : Option ((Nat → Int64) → Int64)} {lf : Int32} {pd : Nat → Option (Option Nat)} (b : mBase h m rv lf pd) : mInv (mSc m h tp st wd) m := b.1
def mahead (rv : Option ((Nat → Int64) → Int64)) (S : Nat → Int32) (s n w : Nat) : Int32 := if w = 0 then mdays rv 0 (fun _ => none) S n (11 + 3 * s) else if w = 1 then ksum (mdays rv 0 (fun _ => none) S n) s (sK S) else mdays rv 0 (fun _ => none) S n (11 + 3 * s + 1)
theorem c215y {rv : Option ((Nat → Int64) → Int64)} (b : mBase h m rv 0 (fun _ => none)) (W : mW (jI h (m + 10))) (B : mB (jI h (m + 10))) (hD : sD (jI h (m + 10)) ≤ 1000) {s n w : Nat} (hs : s < sN (jI h (m + 10))) (hn : n ≤ 100) (hw : w ≤ 2) (hQ : ∀ K tp st wd, Q (some (.int (mahead rv (jI h (m + 10)) s n w))) (mSc m (jwr h (m + 13) K) tp st wd)) : jC (d + 8) 215 [.ref m, .int (nI s), .int (nI n), .int (nI w)] (mSc m h tp st wd) Q := by
  rw [e215]
  have H := b.1
  have hm : jK h m = (32, 43) := H.1
  have hN2 := W.2.2.1.2
  have s6 : s < 6 := by omega
  have i1 : inR (nI n) 0 100 = true := by
    have := nI_nlt (a := n) (b := 0) (by omega) (by omega)
    have := nI_nlt (a := 100) (b := n) (by omega) (by omega)
    unfold inR
    rw [decide_eq_false (show ¬ nI n < 0 by assumption), decide_eq_false (show ¬ (100 : Int32) < nI n by assumption)]
    rfl
  have i2 : inR (nI w) 0 2 = true := by
    have := nI_nlt (a := w) (b := 0) (by omega) (by omega)
    have := nI_nlt (a := 2) (b := w) (by omega) (by omega)
    unfold inR
    rw [decide_eq_false (show ¬ nI w < 0 by assumption), decide_eq_false (show ¬ (2 : Int32) < nI w by assumption)]
    rfl
  have c5 := fun Q => @c185b (mSc m h tp st wd) m (d + 6) Q H (nI s)
  simp only [jI_sc_a (show 10 ≠ 0 by omega), isS_y W hs, if_true] at c5
  simp (config := { decide := true }) (disch := (first | assumption | omega | (simp (config := { decide := true }) only [hm, jK_sc, jK_wI, jK_wJ, jK_wR, jK_wr, jR_wr, jR_wI, jR_wJ]; done) | (simp only [hm, jK_sc, jK_wI, jK_wJ, jK_wR, jK_wr, jR_wr, jR_wI, jR_wJ]; refine jinb_nI ?_ ?_ <;> omega) | (refine jinb_nI ?_ ?_ <;> omega))) only [s215_0, s215_1, s215_2, s215_5, s215_8, s215_9, s215_10, s215_11, s215_14, s215_17, s215_20, s215_21, s215_22, s215_23, s215_26, s215_29, s215_32, s215_33, s215_34, s215_35, s215_38, s215_39, s215_40, c5, (c159b (lo := 0) (hi := 100) (L := 0) (H := 100) (by decide) (by decide)), (c159b (lo := 0) (hi := 2) (L := 0) (H := 2) (by decide) (by decide)), i1, i2, c216s H, jK_sc, va_rf_some, va_rf_none, jK_wI, jR_wI, jJ_wI, jK_wJ, jR_wJ, jI_wJ, jK_wR, jI_wR, jJ_wR, jK_wr, jR_wr, jJ_wr, jcl1_i, jcl1_r, jcl1_z, jcl1_n, jcl1_l, jwI_row, jwr_jwr, jwr_cm, jwr_cc, upd_upd, jI_wr_s, jI_wr_a, jI_wr_b, jI_wr_c, mInv_wr, upd_s, upd_n, Option.toList, List.cons_append, List.nil_append, true_or, or_true, eq_self, and_self, ite_true, ite_false, if_true, if_false, jinb_nI, nI_clamp, tc0, tc1, tc2, tc3, tc4, tc5, tc6, tc7, tc8, tc9, tc10, tc11, tc12, tc13, tc14, tc15, tc16, tc17, tc18, tc19, tc20, tc21, tc22, tc23, tc24, tc25, tc26, tc27, tc28, tc29, tc30, tc31, tc32, tc33, tc34, tc35, tc36, tc37, tc38, tc39, tc40, tc41, tc42, tc43, tc44, tc45, tc46, tc47, tc48, tc49, tc50, tc51, tc52, tc53, tc54, tc55, tc56, tc57, tc58, tc59, tc60, tc61, tc62, tc63, tc64, tc65, tc66, tc67, tc68, tc69, tc77, tc83, tc119, tc159, tc160, nI_add, al0, ar0, ml0, mr0, al1, ar1, ml1, mr1, al2, ar2, ml2, mr2, al3, ar3, ml3, mr3, al4, ar4, ml4, mr4, al5, ar5, ml5, mr5, al6, ar6, ml6, mr6, al8, ar8, ml8, mr8, al10, ar10, ml10, mr10, al11, ar11, ml11, mr11, al12, ar12, ml12, mr12, al13, ar13, ml13, mr13, al16, ar16, ml16, mr16, al20, ar20, ml20, mr20, al24, ar24, ml24, mr24, al29, ar29, ml29, mr29, al36, ar36, ml36, mr36, al42, ar42, ml42, mr42, al48, ar48, ml48, mr48, al55, ar55, ml55, mr55, al60, ar60, ml60, mr60, al65, ar65, ml65, mr65, al77, ar77, ml77, mr77, al83, ar83, ml83, mr83, al119, ar119, ml119, mr119, al159, ar159, ml159, mr159, al160, ar160, ml160, mr160, al400, ar400, ml400, mr400, hm, jK_sc]
  have b1 := mBase_wr (c := 13) (f := kpt (jI h (m + 13)) (jI h (m + 10))) b (by omega)
  have q1 : jI (jwr h (m + 13) (kpt (jI h (m + 13)) (jI h (m + 10)))) (m + 10) = jI h (m + 10) := jI_wr_a (by omega)
  have q2 : jwr (jwr h (m + 13) (kpt (jI h (m + 13)) (jI h (m + 10)))) (m + 10) (jI h (m + 10)) = jwr h (m + 13) (kpt (jI h (m + 13)) (jI h (m + 10))) := by
    have := jwr_self (h := jwr h (m + 13) (kpt (jI h (m + 13)) (jI h (m + 10)))) (a := m + 10)
    rw [q1] at this
    exact this
  have q3 : jI (jwr h (m + 13) (kpt (jI h (m + 13)) (jI h (m + 10)))) (m + 13) = kpt (jI h (m + 13)) (jI h (m + 10)) := jI_wr_s
  have hQ' := fun tp st wd => hQ (kpt (jI h (m + 13)) (jI h (m + 10))) tp st wd
  generalize jwr h (m + 13) (kpt (jI h (m + 13)) (jI h (m + 10))) = h1 at *
  have c7 := fun Q hQ => @c217 h1 m d Q tp st wd (jI h (m + 10)) rv 0 (fun _ => none) b1 W B n (by omega) hQ
  rw [q2] at c7
  refine c7 _ ?_
  intro tp' st' wd'
  have H1 := b1.1
  have hm1 : jK h1 m = (32, 43) := H1.1
  obtain ⟨e1, bb, w1, d1⟩ := mdays_inv (rv := rv) (lf := 0) (pd := fun _ => none) b.2.2.2.1 W B n (by omega)
  have t9 := fun Q => @c219s h1 m (d + 6) Q tp' st' wd' (jI h (m + 10)) (mdays rv 0 (fun _ => none) (jI h (m + 10)) n) (jI h (m + 13)) H1 q1 e1 q3
  unfold mahead at hQ'
  rcases (by omega : w = 0 ∨ w = 1 ∨ w = 2) with rfl | rfl | rfl
  · have t1 := fun Q => @c191s (jwr h1 (m + 10) (mdays rv 0 (fun _ => none) (jI h (m + 10)) n)) m (d + 6) Q tp' st' wd' H1 s s6
    simp only [jI_wr_s] at t1
    simp (config := { decide := true }) (disch := (first | assumption | omega | (simp (config := { decide := true }) only [hm1, jK_sc, jK_wI, jK_wJ, jK_wR, jK_wr, jR_wr, jR_wI, jR_wJ]; done) | (simp only [hm1, jK_sc, jK_wI, jK_wJ, jK_wR, jK_wr, jR_wr, jR_wI, jR_wJ]; refine jinb_nI ?_ ?_ <;> omega) | (refine jinb_nI ?_ ?_ <;> omega))) only [s215_43, s215_44, s215_47, s215_48, s215_49, s215_52, s215_73, s215_75, s215_76, s215_79, s215_81, t1, t9, nI_0, jK_sc, va_rf_some, va_rf_none, jK_wI, jR_wI, jJ_wI, jK_wJ, jR_wJ, jI_wJ, jK_wR, jI_wR, jJ_wR, jK_wr, jR_wr, jJ_wr, jcl1_i, jcl1_r, jcl1_z, jcl1_n, jcl1_l, jwI_row, jwr_jwr, jwr_cm, jwr_cc, upd_upd, jI_wr_s, jI_wr_a, jI_wr_b, jI_wr_c, mInv_wr, upd_s, upd_n, Option.toList, List.cons_append, List.nil_append, true_or, or_true, eq_self, and_self, ite_true, ite_false, if_true, if_false, jinb_nI, nI_clamp, tc0, tc1, tc2, tc3, tc4, tc5, tc6, tc7, tc8, tc9, tc10, tc11, tc12, tc13, tc14, tc15, tc16, tc17, tc18, tc19, tc20, tc21, tc22, tc23, tc24, tc25, tc26, tc27, tc28, tc29, tc30, tc31, tc32, tc33, tc34, tc35, tc36, tc37, tc38, tc39, tc40, tc41, tc42, tc43, tc44, tc45, tc46, tc47, tc48, tc49, tc50, tc51, tc52, tc53, tc54, tc55, tc56, tc57, tc58, tc59, tc60, tc61, tc62, tc63, tc64, tc65, tc66, tc67, tc68, tc69, tc77, tc83, tc119, tc159, tc160, nI_add, al0, ar0, ml0, mr0, al1, ar1, ml1, mr1, al2, ar2, ml2, mr2, al3, ar3, ml3, mr3, al4, ar4, ml4, mr4, al5, ar5, ml5, mr5, al6, ar6, ml6, mr6, al8, ar8, ml8, mr8, al10, ar10, ml10, mr10, al11, ar11, ml11, mr11, al12, ar12, ml12, mr12, al13, ar13, ml13, mr13, al16, ar16, ml16, mr16, al20, ar20, ml20, mr20, al24, ar24, ml24, mr24, al29, ar29, ml29, mr29, al36, ar36, ml36, mr36, al42, ar42, ml42, mr42, al48, ar48, ml48, mr48, al55, ar55, ml55, mr55, al60, ar60, ml60, mr60, al65, ar65, ml65, mr65, al77, ar77, ml77, mr77, al83, ar83, ml83, mr83, al119, ar119, ml119, mr119, al159, ar159, ml159, mr159, al160, ar160, ml160, mr160, al400, ar400, ml400, mr400, hm1, jK_sc]
    exact hQ' _ _ _
  · have t1 := fun Q => @c218 (mSc m (jwr h1 (m + 10) (mdays rv 0 (fun _ => none) (jI h (m + 10)) n)) tp' st' wd') m (d + 5) Q H1 (by rw [jI_sc_a (by omega), jI_wr_s]; exact w1) s s6
    simp only [jI_sc_a (show 10 ≠ 0 by omega), jI_wr_s, e1.K] at t1
    have z : nI 1 = 1 := rfl
    rw [z]
    simp (config := { decide := true }) (disch := (first | assumption | omega | (simp (config := { decide := true }) only [hm1, jK_sc, jK_wI, jK_wJ, jK_wR, jK_wr, jR_wr, jR_wI, jR_wJ]; done) | (simp only [hm1, jK_sc, jK_wI, jK_wJ, jK_wR, jK_wr, jR_wr, jR_wI, jR_wJ]; refine jinb_nI ?_ ?_ <;> omega) | (refine jinb_nI ?_ ?_ <;> omega))) only [s215_43, s215_44, s215_55, s215_56, s215_57, s215_60, s215_61, s215_62, s215_65, s215_73, s215_75, s215_76, s215_79, s215_81, t1, t9, jK_sc, va_rf_some, va_rf_none, jK_wI, jR_wI, jJ_wI, jK_wJ, jR_wJ, jI_wJ, jK_wR, jI_wR, jJ_wR, jK_wr, jR_wr, jJ_wr, jcl1_i, jcl1_r, jcl1_z, jcl1_n, jcl1_l, jwI_row, jwr_jwr, jwr_cm, jwr_cc, upd_upd, jI_wr_s, jI_wr_a, jI_wr_b, jI_wr_c, mInv_wr, upd_s, upd_n, Option.toList, List.cons_append, List.nil_append, true_or, or_true, eq_self, and_self, ite_true, ite_false, if_true, if_false, jinb_nI, nI_clamp, tc0, tc1, tc2, tc3, tc4, tc5, tc6, tc7, tc8, tc9, tc10, tc11, tc12, tc13, tc14, tc15, tc16, tc17, tc18, tc19, tc20, tc21, tc22, tc23, tc24, tc25, tc26, tc27, tc28, tc29, tc30, tc31, tc32, tc33, tc34, tc35, tc36, tc37, tc38, tc39, tc40, tc41, tc42, tc43, tc44, tc45, tc46, tc47, tc48, tc49, tc50, tc51, tc52, tc53, tc54, tc55, tc56, tc57, tc58, tc59, tc60, tc61, tc62, tc63, tc64, tc65, tc66, tc67, tc68, tc69, tc77, tc83, tc119, tc159, tc160, nI_add, al0, ar0, ml0, mr0, al1, ar1, ml1, mr1, al2, ar2, ml2, mr2, al3, ar3, ml3, mr3, al4, ar4, ml4, mr4, al5, ar5, ml5, mr5, al6, ar6, ml6, mr6, al8, ar8, ml8, mr8, al10, ar10, ml10, mr10, al11, ar11, ml11, mr11, al12, ar12, ml12, mr12, al13, ar13, ml13, mr13, al16, ar16, ml16, mr16, al20, ar20, ml20, mr20, al24, ar24, ml24, mr24, al29, ar29, ml29, mr29, al36, ar36, ml36, mr36, al42, ar42, ml42, mr42, al48, ar48, ml48, mr48, al55, ar55, ml55, mr55, al60, ar60, ml60, mr60, al65, ar65, ml65, mr65, al77, ar77, ml77, mr77, al83, ar83, ml83, mr83, al119, ar119, ml119, mr119, al159, ar159, ml159, mr159, al160, ar160, ml160, mr160, al400, ar400, ml400, mr400, hm1, jK_sc]
    exact hQ' _ _ _
  · have t1 := fun Q => @c204s (jwr h1 (m + 10) (mdays rv 0 (fun _ => none) (jI h (m + 10)) n)) m (d + 6) Q tp' st' wd' H1 s s6
    simp only [jI_wr_s] at t1
    have z : nI 2 = 2 := rfl
    rw [z]
    simp (config := { decide := true }) (disch := (first | assumption | omega | (simp (config := { decide := true }) only [hm1, jK_sc, jK_wI, jK_wJ, jK_wR, jK_wr, jR_wr, jR_wI, jR_wJ]; done) | (simp only [hm1, jK_sc, jK_wI, jK_wJ, jK_wR, jK_wr, jR_wr, jR_wI, jR_wJ]; refine jinb_nI ?_ ?_ <;> omega) | (refine jinb_nI ?_ ?_ <;> omega))) only [s215_43, s215_44, s215_55, s215_56, s215_57, s215_68, s215_69, s215_70, s215_73, s215_75, s215_76, s215_79, s215_81, t1, t9, jK_sc, va_rf_some, va_rf_none, jK_wI, jR_wI, jJ_wI, jK_wJ, jR_wJ, jI_wJ, jK_wR, jI_wR, jJ_wR, jK_wr, jR_wr, jJ_wr, jcl1_i, jcl1_r, jcl1_z, jcl1_n, jcl1_l, jwI_row, jwr_jwr, jwr_cm, jwr_cc, upd_upd, jI_wr_s, jI_wr_a, jI_wr_b, jI_wr_c, mInv_wr, upd_s, upd_n, Option.toList, List.cons_append, List.nil_append, true_or, or_true, eq_self, and_self, ite_true, ite_false, if_true, if_false, jinb_nI, nI_clamp, tc0, tc1, tc2, tc3, tc4, tc5, tc6, tc7, tc8, tc9, tc10, tc11, tc12, tc13, tc14, tc15, tc16, tc17, tc18, tc19, tc20, tc21, tc22, tc23, tc24, tc25, tc26, tc27, tc28, tc29, tc30, tc31, tc32, tc33, tc34, tc35, tc36, tc37, tc38, tc39, tc40, tc41, tc42, tc43, tc44, tc45, tc46, tc47, tc48, tc49, tc50, tc51, tc52, tc53, tc54, tc55, tc56, tc57, tc58, tc59, tc60, tc61, tc62, tc63, tc64, tc65, tc66, tc67, tc68, tc69, tc77, tc83, tc119, tc159, tc160, nI_add, al0, ar0, ml0, mr0, al1, ar1, ml1, mr1, al2, ar2, ml2, mr2, al3, ar3, ml3, mr3, al4, ar4, ml4, mr4, al5, ar5, ml5, mr5, al6, ar6, ml6, mr6, al8, ar8, ml8, mr8, al10, ar10, ml10, mr10, al11, ar11, ml11, mr11, al12, ar12, ml12, mr12, al13, ar13, ml13, mr13, al16, ar16, ml16, mr16, al20, ar20, ml20, mr20, al24, ar24, ml24, mr24, al29, ar29, ml29, mr29, al36, ar36, ml36, mr36, al42, ar42, ml42, mr42, al48, ar48, ml48, mr48, al55, ar55, ml55, mr55, al60, ar60, ml60, mr60, al65, ar65, ml65, mr65, al77, ar77, ml77, mr77, al83, ar83, ml83, mr83, al119, ar119, ml119, mr119, al159, ar159, ml159, mr159, al160, ar160, ml160, mr160, al400, ar400, ml400, mr400, hm1, jK_sc]
    exact hQ' _ _ _
end
