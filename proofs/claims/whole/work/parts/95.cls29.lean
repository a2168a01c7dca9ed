/-! THE CLASS: the tape: words as the reference packs them, numbers -/
def pkr : List Nat → Nat
  | [] => 0
  | c :: r => 256 * pkr r + c
def rvl (T : Nat → Nat) (q : Nat) : Nat → List Nat
  | 0 => []
  | n + 1 => T (q + n) :: rvl T q n
def fwl (T : Nat → Nat) : Nat → Nat → List Nat
  | _, 0 => []
  | q, n + 1 => T q :: fwl T (q + 1) n
theorem pkr_inj : ∀ (l r : List Nat), (∀ c, c ∈ l → 0 < c ∧ c < 256) → (∀ c, c ∈ r → 0 < c ∧ c < 256) → pkr l = pkr r → l = r := by
  intro l
  induction l with
  | nil =>
    intro r h1 h2 h
    cases r with
    | nil => rfl
    | cons c r =>
      have := (h2 c (List.mem_cons_self ..)).1
      have e : (0 : Nat) = 256 * pkr r + c := h
      omega
  | cons c l ih =>
    intro r h1 h2 h
    obtain ⟨c1, c2⟩ := h1 c (List.mem_cons_self ..)
    cases r with
    | nil =>
      have e : 256 * pkr l + c = (0 : Nat) := h
      omega
    | cons b r =>
      obtain ⟨b1, b2⟩ := h2 b (List.mem_cons_self ..)
      have e : 256 * pkr l + c = 256 * pkr r + b := h
      have e1 : c = b := by omega
      have e2 : pkr l = pkr r := by omega
      rw [e1, ih r (fun x hx => h1 x (List.mem_cons_of_mem _ hx)) (fun x hx => h2 x (List.mem_cons_of_mem _ hx)) e2]
theorem pkr_lt : ∀ (l : List Nat), (∀ c, c ∈ l → 0 < c ∧ c < 256) → pkr l < 256 ^ l.length := by
  intro l
  induction l with
  | nil => intro _; show (0 : Nat) < 1; omega
  | cons c l ih =>
    intro h
    have i1 := ih (fun x hx => h x (List.mem_cons_of_mem _ hx))
    have := (h c (List.mem_cons_self ..)).2
    show 256 * pkr l + c < 256 ^ (l.length + 1)
    rw [Nat.pow_succ]
    omega
theorem rvl_len {T : Nat → Nat} {q : Nat} : ∀ n, (rvl T q n).length = n := by
  intro n
  induction n with
  | zero => rfl
  | succ n ih => show (rvl T q n).length + 1 = n + 1; rw [ih]
theorem rvl_mem {T : Nat → Nat} {q : Nat} : ∀ n c, c ∈ rvl T q n → ∃ j, j < n ∧ c = T (q + j) := by
  intro n
  induction n with
  | zero => intro c h; cases h
  | succ n ih =>
    intro c h
    rcases List.mem_cons.mp h with w | w
    · exact ⟨n, by omega, w⟩
    · obtain ⟨j, h1, h2⟩ := ih c w
      exact ⟨j, by omega, h2⟩
theorem fwl_snoc {T : Nat → Nat} : ∀ n q, fwl T q (n + 1) = fwl T q n ++ [T (q + n)] := by
  intro n
  induction n with
  | zero => intro q; rfl
  | succ n ih =>
    intro q
    show T q :: fwl T (q + 1) (n + 1) = T q :: fwl T (q + 1) n ++ [T (q + (n + 1))]
    rw [ih (q + 1), List.cons_append, show q + 1 + n = q + (n + 1) by omega]
theorem rvl_fwl {T : Nat → Nat} {q : Nat} : ∀ n, rvl T q n = (fwl T q n).reverse := by
  intro n
  induction n with
  | zero => rfl
  | succ n ih =>
    rw [fwl_snoc, List.reverse_append, ← ih]
    rfl
theorem mtw_fwl {T : Nat → Nat} {e : Nat} : ∀ (w : List Nat) (q : Nat), q ≤ e → mtw T e q w = decide (fwl T q (e - q) = w) := by
  intro w
  induction w with
  | nil =>
    intro q hq
    unfold mtw mtp
    rw [Bool.true_and]
    by_cases h : q = e
    · subst h
      rw [Nat.sub_self]
      simp [fwl]
    · obtain ⟨n, hn⟩ : ∃ n, e - q = n + 1 := ⟨e - q - 1, by omega⟩
      rw [hn]
      simp [fwl]
      exact h
  | cons c w ih =>
    intro q hq
    by_cases h : q < e
    · have i1 := ih (q + 1) (by omega)
      obtain ⟨n, hn⟩ : ∃ n, e - q = n + 1 := ⟨e - q - 1, by omega⟩
      rw [show e - (q + 1) = n by omega] at i1
      rw [hn]
      have e1 : mtw T e q (c :: w) = (decide (T q = c) && mtw T e (q + 1) w) := by
        unfold mtw
        show ((decide (q < e) && (decide (T q = c) && mtp T e (q + 1) w)) && decide (q + (w.length + 1) = e)) = _
        rw [decide_eq_true h, Bool.true_and, Bool.and_assoc, show q + (w.length + 1) = q + 1 + w.length by omega]
      rw [e1, i1]
      show _ = decide (T q :: fwl T (q + 1) n = c :: w)
      by_cases g1 : T q = c
      · by_cases g2 : fwl T (q + 1) n = w
        · rw [decide_eq_true g1, decide_eq_true g2, decide_eq_true (by rw [g1, g2])]; rfl
        · rw [decide_eq_true g1, decide_eq_false g2, decide_eq_false (show ¬ (T q :: fwl T (q + 1) n = c :: w) from fun z => g2 (by injection z))]; rfl
      · rw [decide_eq_false g1, decide_eq_false (show ¬ (T q :: fwl T (q + 1) n = c :: w) from fun z => g1 (by injection z))]; rfl
    · have h0 : e - q = 0 := by omega
      rw [h0]
      unfold mtw
      show ((decide (q < e) && (decide (T q = c) && mtp T e (q + 1) w)) && decide (q + (w.length + 1) = e)) = decide (([] : List Nat) = c :: w)
      rw [decide_eq_false h, decide_eq_false (show ¬ ([] : List Nat) = c :: w from fun z => by cases z)]
      rfl
theorem i64_toNat {x : Nat} (h : x < 2 ^ 63) : (Int64.ofNat x).toBitVec.toNat = x := by
  rw [Int64.toBitVec_ofNat', BitVec.toNat_ofNat]
  exact Nat.mod_eq_of_lt (by omega)
theorem i64_inj {x y : Nat} (hx : x < 2 ^ 63) (hy : y < 2 ^ 63) (h : Int64.ofNat x = Int64.ofNat y) : x = y := by
  rw [← i64_toNat hx, h, i64_toNat hy]
theorem shl8 {x c : Nat} (hx : x < 256 ^ 6) (hc : c < 256) : (Int64.ofNat x) <<< ((8 : Int32).toInt64 &&& 63) ||| (nI c).toInt64 = Int64.ofNat (256 * x + c) := by
  have e1 : ((8 : Int32).toInt64 &&& 63) = 8 := by decide
  have e2 : (nI c).toInt64 = Int64.ofNat c := by
    have : ∀ c, c < 256 → (nI c).toInt64 = Int64.ofNat c := by decide +kernel
    exact this c hc
  have e3 : (8 : Int64).toBitVec.smod 64 = 8#64 := by decide
  rw [e1, e2]
  apply Int64.toBitVec.inj
  apply BitVec.eq_of_toNat_eq
  rw [Int64.toBitVec_or, Int64.toBitVec_shiftLeft, e3, BitVec.toNat_or, BitVec.shiftLeft_eq', BitVec.toNat_shiftLeft]
  have b7 : (256 : Nat) ^ 6 = 281474976710656 := by decide
  rw [i64_toNat (by omega), i64_toNat (by omega), i64_toNat (by omega)]
  have e4 : (8#64).toNat = 8 := rfl
  rw [e4, Nat.shiftLeft_eq, Nat.mod_eq_of_lt (by omega)]
  have := Nat.shiftLeft_add_eq_or_of_lt (show c < 2 ^ 8 by omega) x
  rw [Nat.shiftLeft_eq] at this
  rw [← this]
  omega
theorem wvl_pkr {T : Nat → Nat} {q : Nat} : ∀ n, n ≤ 7 → (∀ j, j < n → 0 < T (q + j) ∧ T (q + j) < 256) → wvl T q n = Int64.ofNat (pkr (rvl T q n)) := by
  intro n
  induction n with
  | zero => intro _ _; rfl
  | succ n ih =>
    intro hn h
    have i1 := ih (by omega) (fun j hj => h j (by omega))
    have hl := pkr_lt (rvl T q n) (fun c hc => by obtain ⟨j, h1, h2⟩ := rvl_mem n c hc; rw [h2]; exact h j (by omega))
    rw [rvl_len] at hl
    have hp : 256 ^ n ≤ 256 ^ 6 := Nat.pow_le_pow_right (by omega) (by omega)
    show (if n < 8 then wvl T q n <<< ((8 : Int32).toInt64 &&& 63) ||| (nI (T (q + n))).toInt64 else wvl T q n) = Int64.ofNat (256 * pkr (rvl T q n) + T (q + n))
    rw [if_pos (by omega), i1, shl8 (by omega) (h n (by omega)).2]
theorem lnd_all {T : Nat → Nat} {L q j : Nat} (h1 : q ≤ j) (h2 : j < lnd T L q) : 97 ≤ T j ∧ T j ≤ 122 := by
  have := whl_all (q := ltr T L) (n := L - q) (p := q) (i := j) h1 h2
  unfold ltr at this
  simp at this
  exact this.2
/-- the packed word is the word -/
theorem isW_mtw {T : Nat → Nat} {L q : Nat} {w : List Nat} {v : Int64} (hw : ∀ c, c ∈ w → 0 < c ∧ c < 256) (h0 : 0 < w.length) (h8 : w.length < 8) (hv : v = Int64.ofNat (pkr w.reverse)) : isW T L q v = (ltr T L q && mtw T (lnd T L q) q w) := by
  have g1 := lnd_ge (T := T) (L := L) (p := q)
  rw [mtw_fwl w q g1]
  cases hl : ltr T L q with
  | false =>
    have e : lnd T L q = q := whl_n hl
    unfold isW
    rw [e, Nat.sub_self]
    rfl
  | true =>
    have hq : q < lnd T L q := by
      rw [lnd_s hl]
      have := whl_ge (q := ltr T L) (n := L - (q + 1)) (p := q + 1)
      omega
    rw [Bool.true_and]
    generalize hn : lnd T L q - q = n
    have hb : ∀ j, j < n → 0 < T (q + j) ∧ T (q + j) < 256 := fun j hj => by
      have := lnd_all (T := T) (L := L) (q := q) (j := q + j) (by omega) (by omega)
      omega
    unfold isW
    rw [hn, decide_eq_true (by omega), Bool.true_and]
    by_cases e8 : n < 8
    · rw [decide_eq_true e8, Bool.true_and, wvl_pkr n (by omega) hb, hv]
      have hl1 := pkr_lt (rvl T q n) (fun c hc => by obtain ⟨j, h1, h2⟩ := rvl_mem n c hc; rw [h2]; exact hb j h1)
      have hl2 := pkr_lt w.reverse (fun c hc => hw c (List.mem_reverse.mp hc))
      rw [rvl_len] at hl1
      rw [List.length_reverse] at hl2
      have hp1 : 256 ^ n ≤ 256 ^ 7 := Nat.pow_le_pow_right (by omega) (by omega)
      have hp2 : 256 ^ w.length ≤ 256 ^ 7 := Nat.pow_le_pow_right (by omega) (by omega)
      have b7 : (256 : Nat) ^ 7 = 72057594037927936 := by decide
      by_cases e : fwl T q n = w
      · rw [decide_eq_true e, rvl_fwl, e]
        exact decide_eq_true rfl
      · rw [decide_eq_false e]
        refine decide_eq_false (fun z => e ?_)
        have z1 := i64_inj (by omega) (by omega) z
        have z2 := pkr_inj _ _ (fun c hc => by obtain ⟨j, h1, h2⟩ := rvl_mem n c hc; rw [h2]; exact hb j h1) (fun c hc => hw c (List.mem_reverse.mp hc)) z1
        rw [rvl_fwl] at z2
        have z3 := congrArg List.reverse z2
        rw [List.reverse_reverse, List.reverse_reverse] at z3
        exact z3
    · rw [decide_eq_false e8, Bool.false_and]
      refine (decide_eq_false (fun z => ?_)).symm
      have := congrArg List.length z
      have l1 : (fwl T q n).length = n := by
        have := rvl_len (T := T) (q := q) n
        rw [rvl_fwl, List.length_reverse] at this
        exact this
      omega
def txv : Nat → List Int64
  | 0 => [1667329392, 1667329133, 1802071652, 495589487988, 6513006]
  | 1 => [7631481]
  | 2 => [26982]
  | 3 => [6385252, 28530]
  | 4 => [7237492]
  | _ => wds
theorem txv_ok : ∀ i, i < 6 → (txv i).length = (txw i).length ∧ ∀ j, j < (txw i).length → (txv i).getD j 0 = Int64.ofNat (pkr ((txw i).getD j []).reverse) ∧ 0 < ((txw i).getD j []).length ∧ ((txw i).getD j []).length < 8 ∧ ∀ c, c ∈ (txw i).getD j [] → 0 < c ∧ c < 256 := by decide +kernel
theorem amI_fst {T : Nat → Nat} {q e : Nat} : ∀ (ws : List (List Nat)) (k : Nat) (p : Nat → Bool), (∀ j, j < ws.length → p (k + j) = mtw T e q (ws.getD j [])) → amI T q e ws k = oI (fst1 p ws.length k) := by
  intro ws
  induction ws with
  | nil => intro k p _; rfl
  | cons w r ih =>
    intro k p hp
    have h0 := hp 0 (by simp)
    have i1 := ih (k + 1) p (fun j hj => by
      have := hp (j + 1) (by simp; omega)
      rw [show k + (j + 1) = k + 1 + j by omega] at this
      exact this)
    show (if mtw T e q w then nI k else amI T q e r (k + 1)) = oI (if p k then some k else fst1 p r.length (k + 1))
    have h0' : p k = mtw T e q w := h0
    rw [h0', i1]
    cases mtw T e q w <;> rfl
/-- which of the words -/
def amW (T : Nat → Nat) (L q i : Nat) : Option Nat := fst1 (fun j => isW T L q ((txv i).getD j 0)) (txv i).length 0
theorem fst1_no {p : Nat → Bool} : ∀ n k, (∀ j, k ≤ j → j < k + n → p j = false) → fst1 p n k = none := by
  intro n
  induction n with
  | zero => intro k _; rfl
  | succ n ih =>
    intro k h
    show (if p k then some k else fst1 p n (k + 1)) = none
    rw [h k (by omega) (by omega), if_neg (by decide)]
    exact ih (k + 1) (fun j h1 h2 => h j (by omega) (by omega))
theorem am_eq {T : Nat → Nat} {L q i : Nat} (hi : i < 6) : (if ltr T L q then amI T q (lnd T L q) (txw i) 0 else -1) = oI (amW T L q i) := by
  obtain ⟨t1, t2⟩ := txv_ok i hi
  unfold amW
  cases hl : ltr T L q with
  | false =>
    rw [if_neg (by decide), fst1_no]
    · rfl
    · intro j h1 h2
      rw [t1] at h2
      obtain ⟨u1, u2, u3, u4⟩ := t2 j (by omega)
      rw [isW_mtw u4 u2 u3 u1, hl, Bool.false_and]
  | true =>
    rw [if_pos rfl, t1]
    refine amI_fst _ _ _ (fun j hj => ?_)
    obtain ⟨u1, u2, u3, u4⟩ := t2 j (by omega)
    show isW T L q ((txv i).getD (0 + j) 0) = _
    rw [Nat.zero_add, isW_mtw u4 u2 u3 u1, hl, Bool.true_and]
/-- what a reading leaves on the tape -/
def tE (L w : Nat) (F : Nat → Int32) : Prop := F 1 = nI L ∧ F 6 = nI w
def nTo (Q : Option Value → jH → Prop) (h : jH) (t : Nat) (T : Nat → Nat) (L : Nat) (o : Int32) : Except Nat (Nat × Nat) → Prop
  | .ok r => ∀ F, tkF T L (skp T L r.1) F → F 6 = o → Q (some (.int (nI r.2))) (jwr h t F)
  | .error w => ∀ F, tE L w F → Q (some (.int (-1))) (jwr h t F)
section
variable {h : jH} {t L : Nat} {T : Nat → Nat} {d : Nat} {Q : Option Value → jH → Prop} {tK tV : Nat → Nat}
/-- among -/
theorem am (X : tpI h t T L) (Y : txI h tK tV) {i q : Nat} (hi : i < 6) (F : tkF T L q (jI h t)) : jC (d + 5) 100 [.ref t, .ref (tK i)] h Q ↔ Q (some (.int (oI (amW T L q i)))) h := by
  rw [kk100 X Y hi F, am_eq hi]
/-- takeNumber -/
theorem k102 (X : tpI h t T L) {q : Nat} (F : tkF T L q (jI h t)) {hi : Int32} (hQ : nTo Q h t T L (jI h t 6) (numN T L q hi)) : jC (d + 2) 102 [.ref t, .int hi] h Q := by
  have X' := X
  obtain ⟨a1, a2, a3, a4, a5⟩ := X
  have F' := F
  obtain ⟨f1, f2, f3, f4, f5, f6, f7⟩ := F
  have hs := tsr_d (q := q) (fun p hp => (a5 p hp).2)
  unfold numN at hQ
  rw [f7] at hQ
  rw [e102]
  cases hd : dig T L q with
  | false =>
    rw [hd, if_neg (show ¬ false = true by decide)] at hQ
    have z : ¬ tsr T L q = -3 := fun w => by rw [hs.mp w] at hd; cases hd
    simp (config := { decide := true }) (disch := (first | assumption | omega | (simp (config := { decide := true }) only [a1, jK_wI, jK_wJ, jK_wR, jK_wr, jR_wr, jR_wI, jR_wJ, jK_wj, jR_wj, stI_wr, cmI_wr, stI_wj, cmI_wj]; done) | (simp only [a1, jK_wI, jK_wJ, jK_wR, jK_wr, jR_wr, jR_wI, jR_wJ, jK_wj, jR_wj, stI_wr, cmI_wr, stI_wj, cmI_wj]; refine jinb_nI ?_ ?_ <;> omega) | (refine jinb_nI ?_ ?_ <;> omega) | (simp only [stI_wr, cmI_wr, stI_wj, cmI_wj]; assumption))) only [s102_0, s102_1, s102_4, s102_6, s102_9, s102_10, s102_11, f4, if_neg z, va_rf_some, va_rf_none, jK_wI, jR_wI, jJ_wI, jK_wJ, jR_wJ, jI_wJ, jK_wR, jI_wR, jJ_wR, jK_wr, jR_wr, jJ_wr, jcl1_i, jcl1_r, jcl1_z, jcl1_n, jcl1_l, jwI_row, jwr_jwr, jwr_cm, jwr_cc, upd_upd, jI_wr_s, jI_wr_a, jI_wr_b, jI_wr_c, mInv_wr, upd_s, upd_n, Option.toList, List.cons_append, List.nil_append, true_or, or_true, eq_self, and_self, ite_true, ite_false, if_true, if_false, jK_wj, jR_wj, jI_wj, jwJ_row, jwj_jwj, jJ_wj_s, jJ_wj_n, jI_wr_n, jinb_nI, nI_clamp, tc0, tc1, tc2, tc3, tc4, tc5, tc6, tc7, tc8, tc9, tc10, tc11, tc12, tc13, tc14, tc15, tc16, tc17, tc18, tc19, tc20, tc21, tc22, tc23, tc24, tc25, tc26, tc27, tc28, tc29, tc30, tc31, tc32, tc33, tc34, tc35, tc36, tc37, tc38, tc39, tc40, tc41, tc42, tc43, tc44, tc45, tc46, tc47, tc48, tc49, tc50, tc51, tc52, tc53, tc54, tc55, tc56, tc57, tc58, tc59, tc60, tc61, tc62, tc63, tc64, tc65, tc66, tc67, tc68, tc69, tc77, tc83, tc119, tc159, tc160, nI_add, al0, ar0, ml0, mr0, al1, ar1, ml1, mr1, al2, ar2, ml2, mr2, al3, ar3, ml3, mr3, al4, ar4, ml4, mr4, al5, ar5, ml5, mr5, al6, ar6, ml6, mr6, al8, ar8, ml8, mr8, al10, ar10, ml10, mr10, al11, ar11, ml11, mr11, al12, ar12, ml12, mr12, al13, ar13, ml13, mr13, al16, ar16, ml16, mr16, al20, ar20, ml20, mr20, al24, ar24, ml24, mr24, al29, ar29, ml29, mr29, al36, ar36, ml36, mr36, al42, ar42, ml42, mr42, al48, ar48, ml48, mr48, al55, ar55, ml55, mr55, al60, ar60, ml60, mr60, al65, ar65, ml65, mr65, al77, ar77, ml77, mr77, al83, ar83, ml83, mr83, al119, ar119, ml119, mr119, al159, ar159, ml159, mr159, al160, ar160, ml160, mr160, al400, ar400, ml400, mr400, a1]
    have k := fun Q' => k101 (d := d) (h := h) (t := t) (q := q) (k := 0) (Q := Q') a1 f2
    rw [nI_0] at k
    rw [k]
    simp (config := { decide := true }) (disch := (first | assumption | omega | (simp (config := { decide := true }) only [a1, jK_wI, jK_wJ, jK_wR, jK_wr, jR_wr, jR_wI, jR_wJ, jK_wj, jR_wj, stI_wr, cmI_wr, stI_wj, cmI_wj]; done) | (simp only [a1, jK_wI, jK_wJ, jK_wR, jK_wr, jR_wr, jR_wI, jR_wJ, jK_wj, jR_wj, stI_wr, cmI_wr, stI_wj, cmI_wj]; refine jinb_nI ?_ ?_ <;> omega) | (refine jinb_nI ?_ ?_ <;> omega) | (simp only [stI_wr, cmI_wr, stI_wj, cmI_wj]; assumption))) only [s102_14, s102_15, s102_16, va_rf_some, va_rf_none, jK_wI, jR_wI, jJ_wI, jK_wJ, jR_wJ, jI_wJ, jK_wR, jI_wR, jJ_wR, jK_wr, jR_wr, jJ_wr, jcl1_i, jcl1_r, jcl1_z, jcl1_n, jcl1_l, jwI_row, jwr_jwr, jwr_cm, jwr_cc, upd_upd, jI_wr_s, jI_wr_a, jI_wr_b, jI_wr_c, mInv_wr, upd_s, upd_n, Option.toList, List.cons_append, List.nil_append, true_or, or_true, eq_self, and_self, ite_true, ite_false, if_true, if_false, jK_wj, jR_wj, jI_wj, jwJ_row, jwj_jwj, jJ_wj_s, jJ_wj_n, jI_wr_n, jinb_nI, nI_clamp, tc0, tc1, tc2, tc3, tc4, tc5, tc6, tc7, tc8, tc9, tc10, tc11, tc12, tc13, tc14, tc15, tc16, tc17, tc18, tc19, tc20, tc21, tc22, tc23, tc24, tc25, tc26, tc27, tc28, tc29, tc30, tc31, tc32, tc33, tc34, tc35, tc36, tc37, tc38, tc39, tc40, tc41, tc42, tc43, tc44, tc45, tc46, tc47, tc48, tc49, tc50, tc51, tc52, tc53, tc54, tc55, tc56, tc57, tc58, tc59, tc60, tc61, tc62, tc63, tc64, tc65, tc66, tc67, tc68, tc69, tc77, tc83, tc119, tc159, tc160, nI_add, al0, ar0, ml0, mr0, al1, ar1, ml1, mr1, al2, ar2, ml2, mr2, al3, ar3, ml3, mr3, al4, ar4, ml4, mr4, al5, ar5, ml5, mr5, al6, ar6, ml6, mr6, al8, ar8, ml8, mr8, al10, ar10, ml10, mr10, al11, ar11, ml11, mr11, al12, ar12, ml12, mr12, al13, ar13, ml13, mr13, al16, ar16, ml16, mr16, al20, ar20, ml20, mr20, al24, ar24, ml24, mr24, al29, ar29, ml29, mr29, al36, ar36, ml36, mr36, al42, ar42, ml42, mr42, al48, ar48, ml48, mr48, al55, ar55, ml55, mr55, al60, ar60, ml60, mr60, al65, ar65, ml65, mr65, al77, ar77, ml77, mr77, al83, ar83, ml83, mr83, al119, ar119, ml119, mr119, al159, ar159, ml159, mr159, al160, ar160, ml160, mr160, al400, ar400, ml400, mr400, a1]
    refine hQ _ ⟨?_, ?_⟩
    · rw [upd_n (by omega)]; exact f1
    · rw [upd_s]; rfl
  | true =>
    rw [hd, if_pos rfl] at hQ
    have z : tsr T L q = -3 := hs.mpr hd
    have f5' := f5 hd
    obtain ⟨d1, d2⟩ := dig_lt hd
    have d3 := dnd_le (T := T) (L := L) f6
    have et : tnd T L q = dnd T L q := by
      unfold tnd
      rw [if_pos d1]
      cases hl : ltr T L q with
      | true => have := tsr_l (q := q) (fun p hp => (a5 p hp).2); rw [this.mpr hl] at z; exact absurd z (by decide)
      | false => rw [if_neg (by decide), hd, if_pos rfl]
    rw [et] at f3
    simp (config := { decide := true }) (disch := (first | assumption | omega | (simp (config := { decide := true }) only [a1, jK_wI, jK_wJ, jK_wR, jK_wr, jR_wr, jR_wI, jR_wJ, jK_wj, jR_wj, stI_wr, cmI_wr, stI_wj, cmI_wj]; done) | (simp only [a1, jK_wI, jK_wJ, jK_wR, jK_wr, jR_wr, jR_wI, jR_wJ, jK_wj, jR_wj, stI_wr, cmI_wr, stI_wj, cmI_wj]; refine jinb_nI ?_ ?_ <;> omega) | (refine jinb_nI ?_ ?_ <;> omega) | (simp only [stI_wr, cmI_wr, stI_wj, cmI_wj]; assumption))) only [s102_0, s102_1, s102_4, s102_6, f4, if_pos z, va_rf_some, va_rf_none, jK_wI, jR_wI, jJ_wI, jK_wJ, jR_wJ, jI_wJ, jK_wR, jI_wR, jJ_wR, jK_wr, jR_wr, jJ_wr, jcl1_i, jcl1_r, jcl1_z, jcl1_n, jcl1_l, jwI_row, jwr_jwr, jwr_cm, jwr_cc, upd_upd, jI_wr_s, jI_wr_a, jI_wr_b, jI_wr_c, mInv_wr, upd_s, upd_n, Option.toList, List.cons_append, List.nil_append, true_or, or_true, eq_self, and_self, ite_true, ite_false, if_true, if_false, jK_wj, jR_wj, jI_wj, jwJ_row, jwj_jwj, jJ_wj_s, jJ_wj_n, jI_wr_n, jinb_nI, nI_clamp, tc0, tc1, tc2, tc3, tc4, tc5, tc6, tc7, tc8, tc9, tc10, tc11, tc12, tc13, tc14, tc15, tc16, tc17, tc18, tc19, tc20, tc21, tc22, tc23, tc24, tc25, tc26, tc27, tc28, tc29, tc30, tc31, tc32, tc33, tc34, tc35, tc36, tc37, tc38, tc39, tc40, tc41, tc42, tc43, tc44, tc45, tc46, tc47, tc48, tc49, tc50, tc51, tc52, tc53, tc54, tc55, tc56, tc57, tc58, tc59, tc60, tc61, tc62, tc63, tc64, tc65, tc66, tc67, tc68, tc69, tc77, tc83, tc119, tc159, tc160, nI_add, al0, ar0, ml0, mr0, al1, ar1, ml1, mr1, al2, ar2, ml2, mr2, al3, ar3, ml3, mr3, al4, ar4, ml4, mr4, al5, ar5, ml5, mr5, al6, ar6, ml6, mr6, al8, ar8, ml8, mr8, al10, ar10, ml10, mr10, al11, ar11, ml11, mr11, al12, ar12, ml12, mr12, al13, ar13, ml13, mr13, al16, ar16, ml16, mr16, al20, ar20, ml20, mr20, al24, ar24, ml24, mr24, al29, ar29, ml29, mr29, al36, ar36, ml36, mr36, al42, ar42, ml42, mr42, al48, ar48, ml48, mr48, al55, ar55, ml55, mr55, al60, ar60, ml60, mr60, al65, ar65, ml65, mr65, al77, ar77, ml77, mr77, al83, ar83, ml83, mr83, al119, ar119, ml119, mr119, al159, ar159, ml159, mr159, al160, ar160, ml160, mr160, al400, ar400, ml400, mr400, a1]
    have bad : nok T L q hi = false → jW (d + 1) 102 33 [some (.ref t), some (.int hi), none] [] h Q := fun hn => by
      rw [hn, if_neg (show ¬ false = true by decide)] at hQ
      simp (config := { decide := true }) (disch := (first | assumption | omega | (simp (config := { decide := true }) only [a1, jK_wI, jK_wJ, jK_wR, jK_wr, jR_wr, jR_wI, jR_wJ, jK_wj, jR_wj, stI_wr, cmI_wr, stI_wj, cmI_wj]; done) | (simp only [a1, jK_wI, jK_wJ, jK_wR, jK_wr, jR_wr, jR_wI, jR_wJ, jK_wj, jR_wj, stI_wr, cmI_wr, stI_wj, cmI_wj]; refine jinb_nI ?_ ?_ <;> omega) | (refine jinb_nI ?_ ?_ <;> omega) | (simp only [stI_wr, cmI_wr, stI_wj, cmI_wj]; assumption))) only [s102_33, s102_34, s102_35, va_rf_some, va_rf_none, jK_wI, jR_wI, jJ_wI, jK_wJ, jR_wJ, jI_wJ, jK_wR, jI_wR, jJ_wR, jK_wr, jR_wr, jJ_wr, jcl1_i, jcl1_r, jcl1_z, jcl1_n, jcl1_l, jwI_row, jwr_jwr, jwr_cm, jwr_cc, upd_upd, jI_wr_s, jI_wr_a, jI_wr_b, jI_wr_c, mInv_wr, upd_s, upd_n, Option.toList, List.cons_append, List.nil_append, true_or, or_true, eq_self, and_self, ite_true, ite_false, if_true, if_false, jK_wj, jR_wj, jI_wj, jwJ_row, jwj_jwj, jJ_wj_s, jJ_wj_n, jI_wr_n, jinb_nI, nI_clamp, tc0, tc1, tc2, tc3, tc4, tc5, tc6, tc7, tc8, tc9, tc10, tc11, tc12, tc13, tc14, tc15, tc16, tc17, tc18, tc19, tc20, tc21, tc22, tc23, tc24, tc25, tc26, tc27, tc28, tc29, tc30, tc31, tc32, tc33, tc34, tc35, tc36, tc37, tc38, tc39, tc40, tc41, tc42, tc43, tc44, tc45, tc46, tc47, tc48, tc49, tc50, tc51, tc52, tc53, tc54, tc55, tc56, tc57, tc58, tc59, tc60, tc61, tc62, tc63, tc64, tc65, tc66, tc67, tc68, tc69, tc77, tc83, tc119, tc159, tc160, nI_add, al0, ar0, ml0, mr0, al1, ar1, ml1, mr1, al2, ar2, ml2, mr2, al3, ar3, ml3, mr3, al4, ar4, ml4, mr4, al5, ar5, ml5, mr5, al6, ar6, ml6, mr6, al8, ar8, ml8, mr8, al10, ar10, ml10, mr10, al11, ar11, ml11, mr11, al12, ar12, ml12, mr12, al13, ar13, ml13, mr13, al16, ar16, ml16, mr16, al20, ar20, ml20, mr20, al24, ar24, ml24, mr24, al29, ar29, ml29, mr29, al36, ar36, ml36, mr36, al42, ar42, ml42, mr42, al48, ar48, ml48, mr48, al55, ar55, ml55, mr55, al60, ar60, ml60, mr60, al65, ar65, ml65, mr65, al77, ar77, ml77, mr77, al83, ar83, ml83, mr83, al119, ar119, ml119, mr119, al159, ar159, ml159, mr159, al160, ar160, ml160, mr160, al400, ar400, ml400, mr400, a1]
      have k := fun Q' => k101 (d := d) (h := h) (t := t) (q := q) (k := 1) (Q := Q') a1 f2
      rw [show nI 1 = (1 : Int32) from rfl] at k
      rw [k]
      simp (config := { decide := true }) (disch := (first | assumption | omega | (simp (config := { decide := true }) only [a1, jK_wI, jK_wJ, jK_wR, jK_wr, jR_wr, jR_wI, jR_wJ, jK_wj, jR_wj, stI_wr, cmI_wr, stI_wj, cmI_wj]; done) | (simp only [a1, jK_wI, jK_wJ, jK_wR, jK_wr, jR_wr, jR_wI, jR_wJ, jK_wj, jR_wj, stI_wr, cmI_wr, stI_wj, cmI_wj]; refine jinb_nI ?_ ?_ <;> omega) | (refine jinb_nI ?_ ?_ <;> omega) | (simp only [stI_wr, cmI_wr, stI_wj, cmI_wj]; assumption))) only [s102_38, s102_39, s102_40, va_rf_some, va_rf_none, jK_wI, jR_wI, jJ_wI, jK_wJ, jR_wJ, jI_wJ, jK_wR, jI_wR, jJ_wR, jK_wr, jR_wr, jJ_wr, jcl1_i, jcl1_r, jcl1_z, jcl1_n, jcl1_l, jwI_row, jwr_jwr, jwr_cm, jwr_cc, upd_upd, jI_wr_s, jI_wr_a, jI_wr_b, jI_wr_c, mInv_wr, upd_s, upd_n, Option.toList, List.cons_append, List.nil_append, true_or, or_true, eq_self, and_self, ite_true, ite_false, if_true, if_false, jK_wj, jR_wj, jI_wj, jwJ_row, jwj_jwj, jJ_wj_s, jJ_wj_n, jI_wr_n, jinb_nI, nI_clamp, tc0, tc1, tc2, tc3, tc4, tc5, tc6, tc7, tc8, tc9, tc10, tc11, tc12, tc13, tc14, tc15, tc16, tc17, tc18, tc19, tc20, tc21, tc22, tc23, tc24, tc25, tc26, tc27, tc28, tc29, tc30, tc31, tc32, tc33, tc34, tc35, tc36, tc37, tc38, tc39, tc40, tc41, tc42, tc43, tc44, tc45, tc46, tc47, tc48, tc49, tc50, tc51, tc52, tc53, tc54, tc55, tc56, tc57, tc58, tc59, tc60, tc61, tc62, tc63, tc64, tc65, tc66, tc67, tc68, tc69, tc77, tc83, tc119, tc159, tc160, nI_add, al0, ar0, ml0, mr0, al1, ar1, ml1, mr1, al2, ar2, ml2, mr2, al3, ar3, ml3, mr3, al4, ar4, ml4, mr4, al5, ar5, ml5, mr5, al6, ar6, ml6, mr6, al8, ar8, ml8, mr8, al10, ar10, ml10, mr10, al11, ar11, ml11, mr11, al12, ar12, ml12, mr12, al13, ar13, ml13, mr13, al16, ar16, ml16, mr16, al20, ar20, ml20, mr20, al24, ar24, ml24, mr24, al29, ar29, ml29, mr29, al36, ar36, ml36, mr36, al42, ar42, ml42, mr42, al48, ar48, ml48, mr48, al55, ar55, ml55, mr55, al60, ar60, ml60, mr60, al65, ar65, ml65, mr65, al77, ar77, ml77, mr77, al83, ar83, ml83, mr83, al119, ar119, ml119, mr119, al159, ar159, ml159, mr159, al160, ar160, ml160, mr160, al400, ar400, ml400, mr400, a1]
      refine hQ _ ⟨?_, ?_⟩
      · rw [upd_n (by omega)]; exact f1
      · rw [upd_s]; rfl
    by_cases e5 : dnd T L q - q ≤ 5
    · have ev : tnm T q (dnd T L q) = nI (nvl T q (dnd T L q - q)) := by unfold tnm; rw [if_pos e5]
      rw [ev] at f5'
      have hb := nvl_bd (T := T) (p := q) (dnd T L q - q) e5 (fun i hi => by
        have := whl_all (q := dig T L) (n := L - q) (p := q) (i := q + i) (by omega) (by show _ < dnd T L q; omega)
        unfold dig at this
        simp at this
        omega)
      have hb2 : 10 ^ (dnd T L q - q) ≤ 10 ^ 5 := Nat.pow_le_pow_right (by omega) (by omega)
      generalize hv : nvl T q (dnd T L q - q) = v at *
      have z1 : ¬ nI v = -1 := fun w => by
        have := nI_pos (n := v) (by omega)
        rw [w] at this
        exact this (by decide)
      have z0 : ¬ nI v < 0 := nI_pos (by omega)
      have en : nok T L q hi = !decide (hi < nI v) := by
        unfold nok inR
        rw [hv, decide_eq_true e5, decide_eq_false z0]
        rfl
      by_cases e6 : hi < nI v
      · have z2 : ¬ nI v ≤ hi := fun w => by rw [Int32.le_iff_toInt_le] at w; rw [Int32.lt_iff_toInt_lt] at e6; omega
        simp (config := { decide := true }) (disch := (first | assumption | omega | (simp (config := { decide := true }) only [a1, jK_wI, jK_wJ, jK_wR, jK_wr, jR_wr, jR_wI, jR_wJ, jK_wj, jR_wj, stI_wr, cmI_wr, stI_wj, cmI_wj]; done) | (simp only [a1, jK_wI, jK_wJ, jK_wR, jK_wr, jR_wr, jR_wI, jR_wJ, jK_wj, jR_wj, stI_wr, cmI_wr, stI_wj, cmI_wj]; refine jinb_nI ?_ ?_ <;> omega) | (refine jinb_nI ?_ ?_ <;> omega) | (simp only [stI_wr, cmI_wr, stI_wj, cmI_wj]; assumption))) only [s102_17, s102_18, s102_21, s102_22, s102_25, s102_26, s102_29, s102_30, f5', if_neg z1, if_neg z2, va_rf_some, va_rf_none, jK_wI, jR_wI, jJ_wI, jK_wJ, jR_wJ, jI_wJ, jK_wR, jI_wR, jJ_wR, jK_wr, jR_wr, jJ_wr, jcl1_i, jcl1_r, jcl1_z, jcl1_n, jcl1_l, jwI_row, jwr_jwr, jwr_cm, jwr_cc, upd_upd, jI_wr_s, jI_wr_a, jI_wr_b, jI_wr_c, mInv_wr, upd_s, upd_n, Option.toList, List.cons_append, List.nil_append, true_or, or_true, eq_self, and_self, ite_true, ite_false, if_true, if_false, jK_wj, jR_wj, jI_wj, jwJ_row, jwj_jwj, jJ_wj_s, jJ_wj_n, jI_wr_n, jinb_nI, nI_clamp, tc0, tc1, tc2, tc3, tc4, tc5, tc6, tc7, tc8, tc9, tc10, tc11, tc12, tc13, tc14, tc15, tc16, tc17, tc18, tc19, tc20, tc21, tc22, tc23, tc24, tc25, tc26, tc27, tc28, tc29, tc30, tc31, tc32, tc33, tc34, tc35, tc36, tc37, tc38, tc39, tc40, tc41, tc42, tc43, tc44, tc45, tc46, tc47, tc48, tc49, tc50, tc51, tc52, tc53, tc54, tc55, tc56, tc57, tc58, tc59, tc60, tc61, tc62, tc63, tc64, tc65, tc66, tc67, tc68, tc69, tc77, tc83, tc119, tc159, tc160, nI_add, al0, ar0, ml0, mr0, al1, ar1, ml1, mr1, al2, ar2, ml2, mr2, al3, ar3, ml3, mr3, al4, ar4, ml4, mr4, al5, ar5, ml5, mr5, al6, ar6, ml6, mr6, al8, ar8, ml8, mr8, al10, ar10, ml10, mr10, al11, ar11, ml11, mr11, al12, ar12, ml12, mr12, al13, ar13, ml13, mr13, al16, ar16, ml16, mr16, al20, ar20, ml20, mr20, al24, ar24, ml24, mr24, al29, ar29, ml29, mr29, al36, ar36, ml36, mr36, al42, ar42, ml42, mr42, al48, ar48, ml48, mr48, al55, ar55, ml55, mr55, al60, ar60, ml60, mr60, al65, ar65, ml65, mr65, al77, ar77, ml77, mr77, al83, ar83, ml83, mr83, al119, ar119, ml119, mr119, al159, ar159, ml159, mr159, al160, ar160, ml160, mr160, al400, ar400, ml400, mr400, a1]
        exact bad (by rw [en, decide_eq_true e6]; rfl)
      · have z2 : nI v ≤ hi := by rw [Int32.le_iff_toInt_le]; rw [Int32.lt_iff_toInt_lt] at e6; omega
        rw [en, decide_eq_false e6, if_pos (show (!false) = true by decide)] at hQ
        simp (config := { decide := true }) (disch := (first | assumption | omega | (simp (config := { decide := true }) only [a1, jK_wI, jK_wJ, jK_wR, jK_wr, jR_wr, jR_wI, jR_wJ, jK_wj, jR_wj, stI_wr, cmI_wr, stI_wj, cmI_wj]; done) | (simp only [a1, jK_wI, jK_wJ, jK_wR, jK_wr, jR_wr, jR_wI, jR_wJ, jK_wj, jR_wj, stI_wr, cmI_wr, stI_wj, cmI_wj]; refine jinb_nI ?_ ?_ <;> omega) | (refine jinb_nI ?_ ?_ <;> omega) | (simp only [stI_wr, cmI_wr, stI_wj, cmI_wj]; assumption))) only [s102_17, s102_18, s102_21, s102_22, s102_25, s102_26, s102_29, s102_30, s102_33, s102_34, s102_35, s102_38, s102_39, s102_40, s102_41, s102_42, s102_45, s102_46, s102_47, f5', if_neg z1, if_pos z2, va_rf_some, va_rf_none, jK_wI, jR_wI, jJ_wI, jK_wJ, jR_wJ, jI_wJ, jK_wR, jI_wR, jJ_wR, jK_wr, jR_wr, jJ_wr, jcl1_i, jcl1_r, jcl1_z, jcl1_n, jcl1_l, jwI_row, jwr_jwr, jwr_cm, jwr_cc, upd_upd, jI_wr_s, jI_wr_a, jI_wr_b, jI_wr_c, mInv_wr, upd_s, upd_n, Option.toList, List.cons_append, List.nil_append, true_or, or_true, eq_self, and_self, ite_true, ite_false, if_true, if_false, jK_wj, jR_wj, jI_wj, jwJ_row, jwj_jwj, jJ_wj_s, jJ_wj_n, jI_wr_n, jinb_nI, nI_clamp, tc0, tc1, tc2, tc3, tc4, tc5, tc6, tc7, tc8, tc9, tc10, tc11, tc12, tc13, tc14, tc15, tc16, tc17, tc18, tc19, tc20, tc21, tc22, tc23, tc24, tc25, tc26, tc27, tc28, tc29, tc30, tc31, tc32, tc33, tc34, tc35, tc36, tc37, tc38, tc39, tc40, tc41, tc42, tc43, tc44, tc45, tc46, tc47, tc48, tc49, tc50, tc51, tc52, tc53, tc54, tc55, tc56, tc57, tc58, tc59, tc60, tc61, tc62, tc63, tc64, tc65, tc66, tc67, tc68, tc69, tc77, tc83, tc119, tc159, tc160, nI_add, al0, ar0, ml0, mr0, al1, ar1, ml1, mr1, al2, ar2, ml2, mr2, al3, ar3, ml3, mr3, al4, ar4, ml4, mr4, al5, ar5, ml5, mr5, al6, ar6, ml6, mr6, al8, ar8, ml8, mr8, al10, ar10, ml10, mr10, al11, ar11, ml11, mr11, al12, ar12, ml12, mr12, al13, ar13, ml13, mr13, al16, ar16, ml16, mr16, al20, ar20, ml20, mr20, al24, ar24, ml24, mr24, al29, ar29, ml29, mr29, al36, ar36, ml36, mr36, al42, ar42, ml42, mr42, al48, ar48, ml48, mr48, al55, ar55, ml55, mr55, al60, ar60, ml60, mr60, al65, ar65, ml65, mr65, al77, ar77, ml77, mr77, al83, ar83, ml83, mr83, al119, ar119, ml119, mr119, al159, ar159, ml159, mr159, al160, ar160, ml160, mr160, al400, ar400, ml400, mr400, a1]
        refine k99 X' f1 f3 d3.1 (fun F g1 g6 => ?_)
        simp (config := { decide := true }) (disch := (first | assumption | omega | (simp (config := { decide := true }) only [a1, jK_wI, jK_wJ, jK_wR, jK_wr, jR_wr, jR_wI, jR_wJ, jK_wj, jR_wj, stI_wr, cmI_wr, stI_wj, cmI_wj]; done) | (simp only [a1, jK_wI, jK_wJ, jK_wR, jK_wr, jR_wr, jR_wI, jR_wJ, jK_wj, jR_wj, stI_wr, cmI_wr, stI_wj, cmI_wj]; refine jinb_nI ?_ ?_ <;> omega) | (refine jinb_nI ?_ ?_ <;> omega) | (simp only [stI_wr, cmI_wr, stI_wj, cmI_wj]; assumption))) only [s102_50, s102_51, va_rf_some, va_rf_none, jK_wI, jR_wI, jJ_wI, jK_wJ, jR_wJ, jI_wJ, jK_wR, jI_wR, jJ_wR, jK_wr, jR_wr, jJ_wr, jcl1_i, jcl1_r, jcl1_z, jcl1_n, jcl1_l, jwI_row, jwr_jwr, jwr_cm, jwr_cc, upd_upd, jI_wr_s, jI_wr_a, jI_wr_b, jI_wr_c, mInv_wr, upd_s, upd_n, Option.toList, List.cons_append, List.nil_append, true_or, or_true, eq_self, and_self, ite_true, ite_false, if_true, if_false, jK_wj, jR_wj, jI_wj, jwJ_row, jwj_jwj, jJ_wj_s, jJ_wj_n, jI_wr_n, jinb_nI, nI_clamp, tc0, tc1, tc2, tc3, tc4, tc5, tc6, tc7, tc8, tc9, tc10, tc11, tc12, tc13, tc14, tc15, tc16, tc17, tc18, tc19, tc20, tc21, tc22, tc23, tc24, tc25, tc26, tc27, tc28, tc29, tc30, tc31, tc32, tc33, tc34, tc35, tc36, tc37, tc38, tc39, tc40, tc41, tc42, tc43, tc44, tc45, tc46, tc47, tc48, tc49, tc50, tc51, tc52, tc53, tc54, tc55, tc56, tc57, tc58, tc59, tc60, tc61, tc62, tc63, tc64, tc65, tc66, tc67, tc68, tc69, tc77, tc83, tc119, tc159, tc160, nI_add, al0, ar0, ml0, mr0, al1, ar1, ml1, mr1, al2, ar2, ml2, mr2, al3, ar3, ml3, mr3, al4, ar4, ml4, mr4, al5, ar5, ml5, mr5, al6, ar6, ml6, mr6, al8, ar8, ml8, mr8, al10, ar10, ml10, mr10, al11, ar11, ml11, mr11, al12, ar12, ml12, mr12, al13, ar13, ml13, mr13, al16, ar16, ml16, mr16, al20, ar20, ml20, mr20, al24, ar24, ml24, mr24, al29, ar29, ml29, mr29, al36, ar36, ml36, mr36, al42, ar42, ml42, mr42, al48, ar48, ml48, mr48, al55, ar55, ml55, mr55, al60, ar60, ml60, mr60, al65, ar65, ml65, mr65, al77, ar77, ml77, mr77, al83, ar83, ml83, mr83, al119, ar119, ml119, mr119, al159, ar159, ml159, mr159, al160, ar160, ml160, mr160, al400, ar400, ml400, mr400, a1]
        exact hQ F g1 g6
    · have ev : tnm T q (dnd T L q) = -1 := by unfold tnm; rw [if_neg e5]
      rw [ev] at f5'
      have z1 : (-1 : Int32) = -1 := rfl
      simp (config := { decide := true }) (disch := (first | assumption | omega | (simp (config := { decide := true }) only [a1, jK_wI, jK_wJ, jK_wR, jK_wr, jR_wr, jR_wI, jR_wJ, jK_wj, jR_wj, stI_wr, cmI_wr, stI_wj, cmI_wj]; done) | (simp only [a1, jK_wI, jK_wJ, jK_wR, jK_wr, jR_wr, jR_wI, jR_wJ, jK_wj, jR_wj, stI_wr, cmI_wr, stI_wj, cmI_wj]; refine jinb_nI ?_ ?_ <;> omega) | (refine jinb_nI ?_ ?_ <;> omega) | (simp only [stI_wr, cmI_wr, stI_wj, cmI_wj]; assumption))) only [s102_17, s102_18, s102_21, s102_22, f5', if_pos z1, va_rf_some, va_rf_none, jK_wI, jR_wI, jJ_wI, jK_wJ, jR_wJ, jI_wJ, jK_wR, jI_wR, jJ_wR, jK_wr, jR_wr, jJ_wr, jcl1_i, jcl1_r, jcl1_z, jcl1_n, jcl1_l, jwI_row, jwr_jwr, jwr_cm, jwr_cc, upd_upd, jI_wr_s, jI_wr_a, jI_wr_b, jI_wr_c, mInv_wr, upd_s, upd_n, Option.toList, List.cons_append, List.nil_append, true_or, or_true, eq_self, and_self, ite_true, ite_false, if_true, if_false, jK_wj, jR_wj, jI_wj, jwJ_row, jwj_jwj, jJ_wj_s, jJ_wj_n, jI_wr_n, jinb_nI, nI_clamp, tc0, tc1, tc2, tc3, tc4, tc5, tc6, tc7, tc8, tc9, tc10, tc11, tc12, tc13, tc14, tc15, tc16, tc17, tc18, tc19, tc20, tc21, tc22, tc23, tc24, tc25, tc26, tc27, tc28, tc29, tc30, tc31, tc32, tc33, tc34, tc35, tc36, tc37, tc38, tc39, tc40, tc41, tc42, tc43, tc44, tc45, tc46, tc47, tc48, tc49, tc50, tc51, tc52, tc53, tc54, tc55, tc56, tc57, tc58, tc59, tc60, tc61, tc62, tc63, tc64, tc65, tc66, tc67, tc68, tc69, tc77, tc83, tc119, tc159, tc160, nI_add, al0, ar0, ml0, mr0, al1, ar1, ml1, mr1, al2, ar2, ml2, mr2, al3, ar3, ml3, mr3, al4, ar4, ml4, mr4, al5, ar5, ml5, mr5, al6, ar6, ml6, mr6, al8, ar8, ml8, mr8, al10, ar10, ml10, mr10, al11, ar11, ml11, mr11, al12, ar12, ml12, mr12, al13, ar13, ml13, mr13, al16, ar16, ml16, mr16, al20, ar20, ml20, mr20, al24, ar24, ml24, mr24, al29, ar29, ml29, mr29, al36, ar36, ml36, mr36, al42, ar42, ml42, mr42, al48, ar48, ml48, mr48, al55, ar55, ml55, mr55, al60, ar60, ml60, mr60, al65, ar65, ml65, mr65, al77, ar77, ml77, mr77, al83, ar83, ml83, mr83, al119, ar119, ml119, mr119, al159, ar159, ml159, mr159, al160, ar160, ml160, mr160, al400, ar400, ml400, mr400, a1]
      exact bad (by unfold nok; rw [decide_eq_false e5, Bool.false_and])
end
