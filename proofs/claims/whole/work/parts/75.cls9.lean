/-! THE CLASS: foresight: camps of drawn calm -/
theorem lN_div {a b : Nat} (ha : a < 2 ^ 63) (hb : 0 < b) (hb2 : b < 2 ^ 63) : lN a / lN b = lN (a / b) := by
  have e1 : (lN a).toInt = (a : Int) := lg_ofNat_toInt ha
  have e2 : (lN b).toInt = (b : Int) := lg_ofNat_toInt hb2
  have e3 : (lN (a / b)).toInt = ((a / b : Nat) : Int) := lg_ofNat_toInt (Nat.lt_of_le_of_lt (Nat.div_le_self a b) ha)
  have hne : lN b ≠ -1 := by
    intro h
    rw [h] at e2
    have : (-1 : Int64).toInt = -1 := by decide
    omega
  apply Int64.toInt_inj.1
  rw [Int64.toInt_div_of_ne_right _ _ hne, e1, e2, e3]
  rfl
theorem lN_sb {a b : Nat} (h : b ≤ a) : lN a - lN b = lN (a - b) := (Int64.ofNat_sub a b h).symm
def u31 (u : Int64) : Prop := ∃ v, v < 2 ^ 31 ∧ u = lN v
theorem dNx_31 {u : Int64} (h : u31 u) : u31 (dNx u) := by
  obtain ⟨v, hv, rfl⟩ := h
  refine ⟨(v * 1103515245 + 12345) % 2147483648, Nat.mod_lt _ (by omega), ?_⟩
  unfold dNx
  have e1 : (1103515245 : Int64) = lN 1103515245 := rfl
  have e2 : (12345 : Int64) = lN 12345 := rfl
  have e3 : (2147483648 : Int64) = lN 2147483648 := rfl
  rw [e1, e2, e3, lN_mul, lN_add, lN_div (by omega) (by omega) (by omega), lN_mul, lN_sb (Nat.div_mul_le_self _ _)]
  have key : ∀ A : Nat, A - A / 2147483648 * 2147483648 = A % 2147483648 := fun A => by omega
  rw [key]
theorem dVl_100 {v : Nat} (hv : v < 2 ^ 31) : dVl (lN v) 100 = nI (v / 65536 % 100) := by
  unfold dVl
  have e1 : (65536 : Int64) = lN 65536 := rfl
  have e2 : (100 : Int32).toInt64 = lN 100 := by decide
  rw [e1, e2, lN_div (by omega) (by omega) (by omega), lN_div (by omega) (by omega) (by omega), lN_mul, lN_sb (Nat.div_mul_le_self _ _), lN_i]
  congr 1
  omega
theorem dVl_10 {v : Nat} (hv : v < 2 ^ 31) : dVl (lN v) 10 = nI (v / 65536 % 10) := by
  unfold dVl
  have e1 : (65536 : Int64) = lN 65536 := rfl
  have e2 : (10 : Int32).toInt64 = lN 10 := by decide
  rw [e1, e2, lN_div (by omega) (by omega) (by omega), lN_div (by omega) (by omega) (by omega), lN_mul, lN_sb (Nat.div_mul_le_self _ _), lN_i]
  congr 1
  omega
theorem cls_100 {v : Nat} (hv : v < 2 ^ 31) : (lN v / 65536).toInt32 - (lN v / 65536).toInt32 / 100 * 100 = dVl (lN v) 100 := by
  rw [dVl_100 hv]
  have e1 : (65536 : Int64) = lN 65536 := rfl
  rw [e1, lN_div (by omega) (by omega) (by omega), lN_i]
  exact pk_rem (d := 100) (by omega) (by omega) (by omega)
theorem cls_10 {v : Nat} (hv : v < 2 ^ 31) : (lN v / 65536).toInt32 - (lN v / 65536).toInt32 / 10 * 10 = dVl (lN v) 10 := by
  rw [dVl_10 hv]
  have e1 : (65536 : Int64) = lN 65536 := rfl
  rw [e1, lN_div (by omega) (by omega) (by omega), lN_i]
  exact pk_rem (d := 10) (by omega) (by omega) (by omega)
section
variable {S : Nat → Int32} {rv : Option ((Nat → Int64) → Int64)} {lf : Int32}
theorem psum_one {T T' : Nat → Int32} {n : Nat} {e : Int32} (h1 : ∀ s, s ≠ n → s < 6 → T' (11 + 3 * s + 1) = T (11 + 3 * s + 1)) (h2 : T' (11 + 3 * n + 1) = T (11 + 3 * n + 1) + e) : ∀ N, N ≤ 6 → psum T' N = if n < N then psum T N + e else psum T N := by
  intro N
  induction N with
  | zero => intro _; rfl
  | succ N ih =>
    intro hN
    have ih := ih (by omega)
    simp only [psum]
    rw [ih]
    by_cases hn : N = n
    · subst hn
      rw [if_neg (by omega), if_pos (by omega), h2, Int32.add_assoc]
    · rw [h1 N hn (by omega)]
      by_cases hl : n < N
      · rw [if_pos hl, if_pos (by omega), Int32.add_assoc, Int32.add_assoc, Int32.add_comm e]
      · rw [if_neg hl, if_neg (by omega)]
theorem psum_c {T T' : Nat → Int32} : ∀ {N : Nat}, (∀ s, s < N → T' (11 + 3 * s + 1) = T (11 + 3 * s + 1)) → psum T' N = psum T N := by
  intro N
  induction N with
  | zero => intro _; rfl
  | succ N ih =>
    intro h
    simp only [psum]
    rw [ih (fun s hs => h s (by omega)), h N (by omega)]
theorem mbN_or : ∀ n, n < 6 → ∀ o, o < 64 → o < 2 ^ n → mbN (o ||| 2 ^ n) = mbN o + 1 := by decide +kernel
theorem mday_psum {c : Int32} (O : oS S) : ∀ n, n ≤ sN S → ∃ o, o < 2 ^ n ∧ (mday rv lf noP c S n).2 = nI o ∧ psum (mday rv lf noP c S n).1 (sN S) = psum S (sN S) + nI (mbN o) := by
  have hN6 := O.1.2.2.1.2
  intro n
  induction n with
  | zero =>
    intro _
    refine ⟨0, by decide, rfl, ?_⟩
    show psum S (sN S) = psum S (sN S) + nI 0
    rw [nI_0, Int32.add_zero]
  | succ n ih =>
    intro hn
    obtain ⟨o, ho, eo, ep⟩ := ih (by omega)
    obtain ⟨o1, e1⟩ := oS_day (rv := rv) (lf := lf) (c := c) O n (by omega)
    have h2 : 2 ^ n < 2 ^ (n + 1) := Nat.pow_lt_pow_right (by omega) (by omega)
    have h64 : 2 ^ n ≤ 64 := Nat.pow_le_pow_right (n := 2) (by omega) (show n ≤ 6 by omega)
    have em : mday rv lf noP c S (n + 1) = match mcho rv (mday rv lf noP c S n).1 c lf noP n with
      | none => mday rv lf noP c S n
      | some k => (mtry (mday rv lf noP c S n).1 n k c, if (mday rv lf noP c S n).1 (29 + 6 * n + k) + c < (mday rv lf noP c S n).1 (77 + k) then (mday rv lf noP c S n).2 else (mday rv lf noP c S n).2 ||| (1 : Int32) <<< (nI n &&& 31)) := rfl
    rw [em]
    cases hc : mcho rv (mday rv lf noP c S n).1 c lf noP n with
    | none => exact ⟨o, by omega, eo, ep⟩
    | some k =>
      have hk : k < sK (mday rv lf noP c S n).1 := mbest_lt (show (mbest (mval rv (mday rv lf noP c S n).1 c lf n) (sK (mday rv lf noP c S n).1)).1 = some k from hc)
      have hk6 : k < 6 := Nat.lt_of_lt_of_le hk o1.1.2.1.2
      generalize hT : (mday rv lf noP c S n).1 = T at *
      simp only
      have ot : ∀ s, s ≠ n → s < 6 → mtry T n k c (11 + 3 * s + 1) = T (11 + 3 * s + 1) := fun s hs h6 => (mtry_o (j := 0) (by omega) h6 hs hk6 (by omega)).2.2.1
      by_cases hq : T (29 + 6 * n + k) + c < T (77 + k)
      · rw [if_pos hq]
        refine ⟨o, by omega, eo, ?_⟩
        have := psum_one (T := T) (T' := mtry T n k c) (n := n) (e := 0) ot (by unfold mtry; rw [if_pos hq, upd_n (by omega), upd_n (by omega), upd_n (by omega), Int32.add_zero]) (sN S) hN6
        rw [this, if_pos (by omega), Int32.add_zero]
        exact ep
      · rw [if_neg hq, eo, (mb_or o (by omega) n (by omega)).1]
        refine ⟨o ||| 2 ^ n, Nat.or_lt_two_pow (by omega) h2, rfl, ?_⟩
        have := psum_one (T := T) (T' := mtry T n k c) (n := n) (e := 1) ot (by unfold mtry; rw [if_neg hq, upd_n (by omega), upd_s]) (sN S) hN6
        rw [this, if_pos (by omega), ep, mbN_or n (by omega) o (by omega) ho, Int32.add_assoc]
        congr 1
        exact nI_add (mbN o) 1
theorem mnxt_psum {dr : Int32} (O : oS S) : psum (mnxt rv lf noP dr S) (sN S) = psum S (sN S) + nI (mbN (sO (moff rv lf noP dr S))) := by
  obtain ⟨o, h1, h2, h3⟩ := mday_psum (rv := rv) (lf := lf) (c := mcalm dr S) O (sN S) (Nat.le_refl _)
  have h64 : 2 ^ sN S ≤ 64 := Nat.pow_le_pow_right (n := 2) (by omega) (show sN S ≤ 6 from O.1.2.2.1.2)
  have e1 : moff rv lf noP dr S = nI o := h2
  have e2 : sO (nI o) = o := nI_clamp (by omega)
  rw [e1, e2, ← h3]
  refine psum_c (fun s _ => ?_)
  unfold mnxt
  rw [upd_n (by omega)]
end
/-- how often anything comes off, by the class's count -/
def xof (rv : Option ((Nat → Int64) → Int64)) (p : Nat) (q : Int64 × (Nat → Int32)) : Nat → Int32
  | 0 => 0
  | k + 1 => xof rv p q k + nI (mbN (sO (moff rv 0 noP (dcC p (dDs rv p q k).1) (dDs rv p q k).2)))
section
variable {S : Nat → Int32} {rv : Option ((Nat → Int64) → Int64)} {p : Nat}
theorem xDs_inv {u : Int64} (hu : u31 u) (O : oS S) : ∀ k, sD S + k ≤ 3000 → u31 (dDs rv p (u, S) k).1 ∧ oS (dDs rv p (u, S) k).2 ∧ eqG S (dDs rv p (u, S) k).2 ∧ sD (dDs rv p (u, S) k).2 = sD S + k ∧ psum (dDs rv p (u, S) k).2 (sN S) = psum S (sN S) + xof rv p (u, S) k := by
  intro k
  induction k with
  | zero =>
    intro _
    refine ⟨hu, O, fun _ _ => rfl, rfl, ?_⟩
    show psum S (sN S) = psum S (sN S) + 0
    rw [Int32.add_zero]
  | succ k ih =>
    intro hk
    obtain ⟨i1, i2, i3, i4, i5⟩ := ih (by omega)
    obtain ⟨o1, o2, o3⟩ := oS_nxt (rv := rv) (lf := 0) (dr := dcC p (dDs rv p (u, S) k).1) i2 (by omega)
    refine ⟨?_, o1, fun j hj => (o2 j hj).trans (i3 j hj), ?_, ?_⟩
    · show u31 (dcU p (dDs rv p (u, S) k).1)
      unfold dcU
      split
      · exact dNx_31 i1
      · exact dNx_31 (dNx_31 i1)
    · show sD (mnxt rv 0 noP (dcC p (dDs rv p (u, S) k).1) (dDs rv p (u, S) k).2) = _
      rw [o3, i4]
      omega
    · have := mnxt_psum (rv := rv) (lf := 0) (dr := dcC p (dDs rv p (u, S) k).1) i2
      rw [sN_G i3, i5] at this
      show psum (mnxt rv 0 noP (dcC p (dDs rv p (u, S) k).1) (dDs rv p (u, S) k).2) (sN S) = psum S (sN S) + (xof rv p (u, S) k + _)
      rw [this, Int32.add_assoc]
theorem bsum_z {T : Nat → Int32} (O : oS T) : bsum T 6 = bsum T (sN T) := by
  have hN := O.1.2.2.1.2
  have : ∀ n, sN T + n ≤ 6 → bsum T (sN T + n) = bsum T (sN T) := by
    intro n
    induction n with
    | zero => intro _; rfl
    | succ n ih =>
      intro hn
      have z := (O.2.2.1.1 (sN T + n) (by omega) (by omega)).1
      have hb : sB T (sN T + n) = 0 := by unfold sB; rw [z]; rfl
      show bsum T (sN T + n) + mbN (sB T (sN T + n)) = _
      rw [ih (by omega), hb]
      rfl
  have h6 := this (6 - sN T) (by omega)
  rw [Nat.add_sub_cancel' hN] at h6
  exact h6
theorem psum_z {T : Nat → Int32} (O : oS T) : psum T 6 = psum T (sN T) := by
  have hN := O.1.2.2.1.2
  have : ∀ n, sN T + n ≤ 6 → psum T (sN T + n) = psum T (sN T) := by
    intro n
    induction n with
    | zero => intro _; rfl
    | succ n ih =>
      intro hn
      have z := (O.2.2.1.1 (sN T + n) (by omega) (by omega)).2
      show psum T (sN T + n) + T (11 + 3 * (sN T + n) + 1) = _
      rw [ih (by omega), z, Int32.add_zero]
  have h6 := this (6 - sN T) (by omega)
  rw [Nat.add_sub_cancel' hN] at h6
  exact h6
theorem dCm_s {n : Nat} {u : Int64} (O : oS S) (hn : sD S + n ≤ 3000) {i : Nat} (hu : u31 (dCm rv p n S u i).1) : dCm rv p n S u (i + 1) = ((dDs rv p ((dCm rv p n S u i).1, S) n).1, (dCm rv p n S u i).2.1 + xof rv p ((dCm rv p n S u i).1, S) n, (dCm rv p n S u i).2.2 + nI (bsum (dDs rv p ((dCm rv p n S u i).1, S) n).2 6)) := by
  obtain ⟨i1, i2, i3, i4, i5⟩ := xDs_inv (rv := rv) (p := p) hu O n hn
  rw [bsum_z i2, sN_G i3]
  have e : xof rv p ((dCm rv p n S u i).1, S) n = psum (dDs rv p ((dCm rv p n S u i).1, S) n).2 (sN S) - psum S (sN S) := by
    rw [i5, Int32.add_comm, Int32.add_sub_cancel]
  rw [e]
  rfl
end
section
variable {h : jH} {n c y : Nat} {d : Nat} {Q : Option Value → jH → Prop} {S : Nat → Int32} {rr : Option Nat} {rv : Option ((Nat → Int64) → Int64)}
/-- stepped -/
theorem k33 {u : Int64} : jC (d + 1) 33 [.long u] h Q ↔ Q (some (.long (dNx u))) h := by
  rw [e33]
  have z : ¬ (2147483648 : Int64) = 0 := by decide
  simp (config := { decide := true }) (disch := (first | assumption | omega | (simp (config := { decide := true }) only [z, jK_wI, jK_wJ, jK_wR, jK_wr, jR_wr, jR_wI, jR_wJ, jK_wj, jR_wj, stI_wr, cmI_wr, stI_wj, cmI_wj]; done) | (simp only [z, jK_wI, jK_wJ, jK_wR, jK_wr, jR_wr, jR_wI, jR_wJ, jK_wj, jR_wj, stI_wr, cmI_wr, stI_wj, cmI_wj]; refine jinb_nI ?_ ?_ <;> omega) | (refine jinb_nI ?_ ?_ <;> omega) | (simp only [stI_wr, cmI_wr, stI_wj, cmI_wj]; assumption))) only [s33_0, s33_1, s33_4, s33_5, s33_8, s33_9, s33_12, s33_13, va_rf_some, va_rf_none, jK_wI, jR_wI, jJ_wI, jK_wJ, jR_wJ, jI_wJ, jK_wR, jI_wR, jJ_wR, jK_wr, jR_wr, jJ_wr, jcl1_i, jcl1_r, jcl1_z, jcl1_n, jcl1_l, jwI_row, jwr_jwr, jwr_cm, jwr_cc, upd_upd, jI_wr_s, jI_wr_a, jI_wr_b, jI_wr_c, mInv_wr, upd_s, upd_n, Option.toList, List.cons_append, List.nil_append, true_or, or_true, eq_self, and_self, ite_true, ite_false, if_true, if_false, jK_wj, jR_wj, jI_wj, jwJ_row, jwj_jwj, jJ_wj_s, jJ_wj_n, jI_wr_n, jinb_nI, nI_clamp, tc0, tc1, tc2, tc3, tc4, tc5, tc6, tc7, tc8, tc9, tc10, tc11, tc12, tc13, tc14, tc15, tc16, tc17, tc18, tc19, tc20, tc21, tc22, tc23, tc24, tc25, tc26, tc27, tc28, tc29, tc30, tc31, tc32, tc33, tc34, tc35, tc36, tc37, tc38, tc39, tc40, tc41, tc42, tc43, tc44, tc45, tc46, tc47, tc48, tc49, tc50, tc51, tc52, tc53, tc54, tc55, tc56, tc57, tc58, tc59, tc60, tc61, tc62, tc63, tc64, tc65, tc66, tc67, tc68, tc69, tc77, tc83, tc119, tc159, tc160, nI_add, al0, ar0, ml0, mr0, al1, ar1, ml1, mr1, al2, ar2, ml2, mr2, al3, ar3, ml3, mr3, al4, ar4, ml4, mr4, al5, ar5, ml5, mr5, al6, ar6, ml6, mr6, al8, ar8, ml8, mr8, al10, ar10, ml10, mr10, al11, ar11, ml11, mr11, al12, ar12, ml12, mr12, al13, ar13, ml13, mr13, al16, ar16, ml16, mr16, al20, ar20, ml20, mr20, al24, ar24, ml24, mr24, al29, ar29, ml29, mr29, al36, ar36, ml36, mr36, al42, ar42, ml42, mr42, al48, ar48, ml48, mr48, al55, ar55, ml55, mr55, al60, ar60, ml60, mr60, al65, ar65, ml65, mr65, al77, ar77, ml77, mr77, al83, ar83, ml83, mr83, al119, ar119, ml119, mr119, al159, ar159, ml159, mr159, al160, ar160, ml160, mr160, al400, ar400, ml400, mr400, z]
  exact Iff.rfl
/-- drawOf -/
theorem k34 {u : Int64} : jC (d + 1) 34 [.long u] h Q ↔ Q (some (.int (u / 65536).toInt32)) h := by
  rw [e34]
  have z : ¬ (65536 : Int64) = 0 := by decide
  simp (config := { decide := true }) (disch := (first | assumption | omega | (simp (config := { decide := true }) only [z, jK_wI, jK_wJ, jK_wR, jK_wr, jR_wr, jR_wI, jR_wJ, jK_wj, jR_wj, stI_wr, cmI_wr, stI_wj, cmI_wj]; done) | (simp only [z, jK_wI, jK_wJ, jK_wR, jK_wr, jR_wr, jR_wI, jR_wJ, jK_wj, jR_wj, stI_wr, cmI_wr, stI_wj, cmI_wj]; refine jinb_nI ?_ ?_ <;> omega) | (refine jinb_nI ?_ ?_ <;> omega) | (simp only [stI_wr, cmI_wr, stI_wj, cmI_wj]; assumption))) only [s34_0, s34_1, s34_4, s34_5, s34_6, va_rf_some, va_rf_none, jK_wI, jR_wI, jJ_wI, jK_wJ, jR_wJ, jI_wJ, jK_wR, jI_wR, jJ_wR, jK_wr, jR_wr, jJ_wr, jcl1_i, jcl1_r, jcl1_z, jcl1_n, jcl1_l, jwI_row, jwr_jwr, jwr_cm, jwr_cc, upd_upd, jI_wr_s, jI_wr_a, jI_wr_b, jI_wr_c, mInv_wr, upd_s, upd_n, Option.toList, List.cons_append, List.nil_append, true_or, or_true, eq_self, and_self, ite_true, ite_false, if_true, if_false, jK_wj, jR_wj, jI_wj, jwJ_row, jwj_jwj, jJ_wj_s, jJ_wj_n, jI_wr_n, jinb_nI, nI_clamp, tc0, tc1, tc2, tc3, tc4, tc5, tc6, tc7, tc8, tc9, tc10, tc11, tc12, tc13, tc14, tc15, tc16, tc17, tc18, tc19, tc20, tc21, tc22, tc23, tc24, tc25, tc26, tc27, tc28, tc29, tc30, tc31, tc32, tc33, tc34, tc35, tc36, tc37, tc38, tc39, tc40, tc41, tc42, tc43, tc44, tc45, tc46, tc47, tc48, tc49, tc50, tc51, tc52, tc53, tc54, tc55, tc56, tc57, tc58, tc59, tc60, tc61, tc62, tc63, tc64, tc65, tc66, tc67, tc68, tc69, tc77, tc83, tc119, tc159, tc160, nI_add, al0, ar0, ml0, mr0, al1, ar1, ml1, mr1, al2, ar2, ml2, mr2, al3, ar3, ml3, mr3, al4, ar4, ml4, mr4, al5, ar5, ml5, mr5, al6, ar6, ml6, mr6, al8, ar8, ml8, mr8, al10, ar10, ml10, mr10, al11, ar11, ml11, mr11, al12, ar12, ml12, mr12, al13, ar13, ml13, mr13, al16, ar16, ml16, mr16, al20, ar20, ml20, mr20, al24, ar24, ml24, mr24, al29, ar29, ml29, mr29, al36, ar36, ml36, mr36, al42, ar42, ml42, mr42, al48, ar48, ml48, mr48, al55, ar55, ml55, mr55, al60, ar60, ml60, mr60, al65, ar65, ml65, mr65, al77, ar77, ml77, mr77, al83, ar83, ml83, mr83, al119, ar119, ml119, mr119, al159, ar159, ml159, mr159, al160, ar160, ml160, mr160, al400, ar400, ml400, mr400, z]
theorem wl_y (X : wl h n c y rr rv S) {j : Nat} {v : Int32} : wl (jwr h y (upd (jI h y) j v)) n c y rr rv S := wl_fr (frg_wr (by omega) (by omega) frg_refl) X.2.2.2.1 X
theorem crs_y {q : Nat} {f : Nat → Int32} {a : Nat} (X : crs h q c rr S) (ha : a < q) (hc : a < c ∨ c + 4 ≤ a) : crs (jwr h a f) q c rr S := by
  obtain ⟨a1, a2, a3, a4, a5, a6, a7, a8⟩ := X
  refine ⟨a1, a2, a3, ?_, a5, ?_, ?_, a8⟩
  · rw [jI_wr_n (by omega)]
    exact a4
  · unfold cmV at *
    rw [jI_wr_n (by omega), jI_wr_n (by omega), jI_wr_n (by omega)]
    exact a6
  · unfold stV stV1 at *
    rw [jI_wr_n (by omega), jI_wr_n (by omega), jI_wr_n (by omega), jI_wr_n (by omega), jI_wr_n (by omega)]
    exact a7
/-- drawCamps: a day with its calm -/
theorem l32d {k K p M i : Nat} {T : Nat → Int32} {u : Int64} {dr A : Int32} (X : wl h n c y rr rv S) (C : crs h (y + 1) c rr T) (O : oS T) (hdr : dr = -1 ∨ ¬ dr < 0) (e6 : jI h (y + 1) 6 = nI 0) (e7 : jI h (y + 1) 7 = dr) (hA : jI h y 3 = A) (hnext : ∀ h2, frg y (y + 15) h h2 → wl h2 n c y rr rv S → crs h2 (y + 1) c rr (mnxt rv 0 noP dr T) → jI h2 y 3 = A + nI (mbN (sO (moff rv 0 noP dr T))) → jI h2 y 4 = jI h y 4 → jI h2 (y + 1) 6 = nI 0 → jW (d + 5) 32 35 [some (.ref y), some (.ref n), some (va_rf rr), some (.int (nI M)), some (.int (nI K)), some (.int (nI p)), some (.long u), none, some (.int (nI i)), some (.int (nI (k + 1)))] [] h2 Q) : jW (d + 5) 32 92 [some (.ref y), some (.ref n), some (va_rf rr), some (.int (nI M)), some (.int (nI K)), some (.int (nI p)), some (.long u), none, some (.int (nI i)), some (.int (nI k))] [] h Q := by
  obtain ⟨g1, g2, g3, g4, g5⟩ := id X.2.2.2.1
  have hq1 := g5.1
  have hcy : c + 4 ≤ y ∨ y + 15 ≤ c := X.2.2.2.2.2.2.2.1
  simp (config := { decide := true }) (disch := (first | assumption | omega | (simp (config := { decide := true }) only [g1, g2, hq1, jK_wI, jK_wJ, jK_wR, jK_wr, jR_wr, jR_wI, jR_wJ, jK_wj, jR_wj, stI_wr, cmI_wr, stI_wj, cmI_wj]; done) | (simp only [g1, g2, hq1, jK_wI, jK_wJ, jK_wR, jK_wr, jR_wr, jR_wI, jR_wJ, jK_wj, jR_wj, stI_wr, cmI_wr, stI_wj, cmI_wj]; refine jinb_nI ?_ ?_ <;> omega) | (refine jinb_nI ?_ ?_ <;> omega) | (simp only [stI_wr, cmI_wr, stI_wj, cmI_wj]; assumption))) only [s32_92, s32_93, s32_94, s32_97, s32_98, s32_101, hA, va_rf_some, va_rf_none, jK_wI, jR_wI, jJ_wI, jK_wJ, jR_wJ, jI_wJ, jK_wR, jI_wR, jJ_wR, jK_wr, jR_wr, jJ_wr, jcl1_i, jcl1_r, jcl1_z, jcl1_n, jcl1_l, jwI_row, jwr_jwr, jwr_cm, jwr_cc, upd_upd, jI_wr_s, jI_wr_a, jI_wr_b, jI_wr_c, mInv_wr, upd_s, upd_n, Option.toList, List.cons_append, List.nil_append, true_or, or_true, eq_self, and_self, ite_true, ite_false, if_true, if_false, jK_wj, jR_wj, jI_wj, jwJ_row, jwj_jwj, jJ_wj_s, jJ_wj_n, jI_wr_n, jinb_nI, nI_clamp, tc0, tc1, tc2, tc3, tc4, tc5, tc6, tc7, tc8, tc9, tc10, tc11, tc12, tc13, tc14, tc15, tc16, tc17, tc18, tc19, tc20, tc21, tc22, tc23, tc24, tc25, tc26, tc27, tc28, tc29, tc30, tc31, tc32, tc33, tc34, tc35, tc36, tc37, tc38, tc39, tc40, tc41, tc42, tc43, tc44, tc45, tc46, tc47, tc48, tc49, tc50, tc51, tc52, tc53, tc54, tc55, tc56, tc57, tc58, tc59, tc60, tc61, tc62, tc63, tc64, tc65, tc66, tc67, tc68, tc69, tc77, tc83, tc119, tc159, tc160, nI_add, al0, ar0, ml0, mr0, al1, ar1, ml1, mr1, al2, ar2, ml2, mr2, al3, ar3, ml3, mr3, al4, ar4, ml4, mr4, al5, ar5, ml5, mr5, al6, ar6, ml6, mr6, al8, ar8, ml8, mr8, al10, ar10, ml10, mr10, al11, ar11, ml11, mr11, al12, ar12, ml12, mr12, al13, ar13, ml13, mr13, al16, ar16, ml16, mr16, al20, ar20, ml20, mr20, al24, ar24, ml24, mr24, al29, ar29, ml29, mr29, al36, ar36, ml36, mr36, al42, ar42, ml42, mr42, al48, ar48, ml48, mr48, al55, ar55, ml55, mr55, al60, ar60, ml60, mr60, al65, ar65, ml65, mr65, al77, ar77, ml77, mr77, al83, ar83, ml83, mr83, al119, ar119, ml119, mr119, al159, ar159, ml159, mr159, al160, ar160, ml160, mr160, al400, ar400, ml400, mr400, g1, g2, hq1]
  refine k12 C X.2.2.2.2.1 O e6 (by omega) e7 hdr (fun h2 F2 e2 C2 => ?_)
  obtain ⟨o, o1, o2⟩ := moff_nat (rv := rv) (lf := nI 0) (pd := noP) (dr := dr) O.1
  have o2' : moff rv 0 noP dr T = nI o := o2
  have es : sO (nI o) = o := nI_clamp (by omega)
  have X2 := wl_live X F2 C2
  have j1 := X2.2.2.2.1.1
  simp only [o2', es] at hnext
  simp only [Option.toList, List.cons_append, List.nil_append, o2]
  simp (config := { decide := true }) (disch := (first | assumption | omega | (simp (config := { decide := true }) only [j1, jK_wI, jK_wJ, jK_wR, jK_wr, jR_wr, jR_wI, jR_wJ, jK_wj, jR_wj, stI_wr, cmI_wr, stI_wj, cmI_wj]; done) | (simp only [j1, jK_wI, jK_wJ, jK_wR, jK_wr, jR_wr, jR_wI, jR_wJ, jK_wj, jR_wj, stI_wr, cmI_wr, stI_wj, cmI_wj]; refine jinb_nI ?_ ?_ <;> omega) | (refine jinb_nI ?_ ?_ <;> omega) | (simp only [stI_wr, cmI_wr, stI_wj, cmI_wj]; assumption))) only [s32_104, s32_107, s32_108, s32_111, s32_114, k256 o1, va_rf_some, va_rf_none, jK_wI, jR_wI, jJ_wI, jK_wJ, jR_wJ, jI_wJ, jK_wR, jI_wR, jJ_wR, jK_wr, jR_wr, jJ_wr, jcl1_i, jcl1_r, jcl1_z, jcl1_n, jcl1_l, jwI_row, jwr_jwr, jwr_cm, jwr_cc, upd_upd, jI_wr_s, jI_wr_a, jI_wr_b, jI_wr_c, mInv_wr, upd_s, upd_n, Option.toList, List.cons_append, List.nil_append, true_or, or_true, eq_self, and_self, ite_true, ite_false, if_true, if_false, jK_wj, jR_wj, jI_wj, jwJ_row, jwj_jwj, jJ_wj_s, jJ_wj_n, jI_wr_n, jinb_nI, nI_clamp, tc0, tc1, tc2, tc3, tc4, tc5, tc6, tc7, tc8, tc9, tc10, tc11, tc12, tc13, tc14, tc15, tc16, tc17, tc18, tc19, tc20, tc21, tc22, tc23, tc24, tc25, tc26, tc27, tc28, tc29, tc30, tc31, tc32, tc33, tc34, tc35, tc36, tc37, tc38, tc39, tc40, tc41, tc42, tc43, tc44, tc45, tc46, tc47, tc48, tc49, tc50, tc51, tc52, tc53, tc54, tc55, tc56, tc57, tc58, tc59, tc60, tc61, tc62, tc63, tc64, tc65, tc66, tc67, tc68, tc69, tc77, tc83, tc119, tc159, tc160, nI_add, al0, ar0, ml0, mr0, al1, ar1, ml1, mr1, al2, ar2, ml2, mr2, al3, ar3, ml3, mr3, al4, ar4, ml4, mr4, al5, ar5, ml5, mr5, al6, ar6, ml6, mr6, al8, ar8, ml8, mr8, al10, ar10, ml10, mr10, al11, ar11, ml11, mr11, al12, ar12, ml12, mr12, al13, ar13, ml13, mr13, al16, ar16, ml16, mr16, al20, ar20, ml20, mr20, al24, ar24, ml24, mr24, al29, ar29, ml29, mr29, al36, ar36, ml36, mr36, al42, ar42, ml42, mr42, al48, ar48, ml48, mr48, al55, ar55, ml55, mr55, al60, ar60, ml60, mr60, al65, ar65, ml65, mr65, al77, ar77, ml77, mr77, al83, ar83, ml83, mr83, al119, ar119, ml119, mr119, al159, ar159, ml159, mr159, al160, ar160, ml160, mr160, al400, ar400, ml400, mr400, j1]
  refine hnext _ (frg_wr (by omega) (by omega) (frg_wid F2 (by omega) (by omega))) (wl_y X2) (crs_y C2 (by omega) (by omega)) ?_ ?_ ?_
  · rw [jI_wr_s, upd_s]
  · rw [jI_wr_s, upd_n (by omega), (F2.2 y (by omega)).1]
  · rw [jI_wr_n (by omega), e2]
    exact e6
theorem dcC_ok {p : Nat} {u : Int64} (hu : u31 u) : dcC p u = -1 ∨ ¬ dcC p u < 0 := by
  unfold dcC
  split
  · exact Or.inl rfl
  · obtain ⟨v, hv, ev⟩ := dNx_31 (dNx_31 hu)
    rw [ev, dVl_10 hv]
    exact Or.inr (nI_pos (by omega))
/-- drawCamps: the days of one camp -/
theorem l32i {K p M i : Nat} {u0 : Int64} {A Bm : Int32} (hu : u31 u0) (O : oS S) (hD : sD S ≤ 1000) (hK : K ≤ 60) (hend : ∀ h2, frg y (y + 15) h h2 → wl h2 n c y rr rv S → crs h2 (y + 1) c rr (dDs rv p (u0, S) K).2 → jI h2 y 3 = A + xof rv p (u0, S) K → jI h2 y 4 = Bm → jW (d + 5) 32 117 [some (.ref y), some (.ref n), some (va_rf rr), some (.int (nI M)), some (.int (nI K)), some (.int (nI p)), some (.long (dDs rv p (u0, S) K).1), none, some (.int (nI i)), some (.int (nI K))] [] h2 Q) : ∀ (r k : Nat) (h1 : jH), k + r = K → frg y (y + 15) h h1 → wl h1 n c y rr rv S → crs h1 (y + 1) c rr (dDs rv p (u0, S) k).2 → jI h1 y 3 = A + xof rv p (u0, S) k → jI h1 y 4 = Bm → jI h1 (y + 1) 6 = nI 0 → jW (d + 5) 32 35 [some (.ref y), some (.ref n), some (va_rf rr), some (.int (nI M)), some (.int (nI K)), some (.int (nI p)), some (.long (dDs rv p (u0, S) k).1), none, some (.int (nI i)), some (.int (nI k))] [] h1 Q := by
  intro r
  induction r with
  | zero =>
    intro k h1 hk F X C e3 e4 e6
    have ek : k = K := by omega
    subst ek
    have hle : nI k ≤ nI k := nI_le (Nat.le_refl _) (by omega)
    have g1 := X.2.2.2.1.1
    simp (config := { decide := true }) (disch := (first | assumption | omega | (simp (config := { decide := true }) only [g1, jK_wI, jK_wJ, jK_wR, jK_wr, jR_wr, jR_wI, jR_wJ, jK_wj, jR_wj, stI_wr, cmI_wr, stI_wj, cmI_wj]; done) | (simp only [g1, jK_wI, jK_wJ, jK_wR, jK_wr, jR_wr, jR_wI, jR_wJ, jK_wj, jR_wj, stI_wr, cmI_wr, stI_wj, cmI_wj]; refine jinb_nI ?_ ?_ <;> omega) | (refine jinb_nI ?_ ?_ <;> omega) | (simp only [stI_wr, cmI_wr, stI_wj, cmI_wj]; assumption))) only [s32_35, s32_37, s32_39, if_pos hle, va_rf_some, va_rf_none, jK_wI, jR_wI, jJ_wI, jK_wJ, jR_wJ, jI_wJ, jK_wR, jI_wR, jJ_wR, jK_wr, jR_wr, jJ_wr, jcl1_i, jcl1_r, jcl1_z, jcl1_n, jcl1_l, jwI_row, jwr_jwr, jwr_cm, jwr_cc, upd_upd, jI_wr_s, jI_wr_a, jI_wr_b, jI_wr_c, mInv_wr, upd_s, upd_n, Option.toList, List.cons_append, List.nil_append, true_or, or_true, eq_self, and_self, ite_true, ite_false, if_true, if_false, jK_wj, jR_wj, jI_wj, jwJ_row, jwj_jwj, jJ_wj_s, jJ_wj_n, jI_wr_n, jinb_nI, nI_clamp, tc0, tc1, tc2, tc3, tc4, tc5, tc6, tc7, tc8, tc9, tc10, tc11, tc12, tc13, tc14, tc15, tc16, tc17, tc18, tc19, tc20, tc21, tc22, tc23, tc24, tc25, tc26, tc27, tc28, tc29, tc30, tc31, tc32, tc33, tc34, tc35, tc36, tc37, tc38, tc39, tc40, tc41, tc42, tc43, tc44, tc45, tc46, tc47, tc48, tc49, tc50, tc51, tc52, tc53, tc54, tc55, tc56, tc57, tc58, tc59, tc60, tc61, tc62, tc63, tc64, tc65, tc66, tc67, tc68, tc69, tc77, tc83, tc119, tc159, tc160, nI_add, al0, ar0, ml0, mr0, al1, ar1, ml1, mr1, al2, ar2, ml2, mr2, al3, ar3, ml3, mr3, al4, ar4, ml4, mr4, al5, ar5, ml5, mr5, al6, ar6, ml6, mr6, al8, ar8, ml8, mr8, al10, ar10, ml10, mr10, al11, ar11, ml11, mr11, al12, ar12, ml12, mr12, al13, ar13, ml13, mr13, al16, ar16, ml16, mr16, al20, ar20, ml20, mr20, al24, ar24, ml24, mr24, al29, ar29, ml29, mr29, al36, ar36, ml36, mr36, al42, ar42, ml42, mr42, al48, ar48, ml48, mr48, al55, ar55, ml55, mr55, al60, ar60, ml60, mr60, al65, ar65, ml65, mr65, al77, ar77, ml77, mr77, al83, ar83, ml83, mr83, al119, ar119, ml119, mr119, al159, ar159, ml159, mr159, al160, ar160, ml160, mr160, al400, ar400, ml400, mr400, g1]
    exact hend h1 F X C e3 e4
  | succ r ih =>
    intro k h1 hk F X C e3 e4 e6
    have hle : ¬ nI K ≤ nI k := nI_ge (by omega) (by omega)
    obtain ⟨g1, g2, g3, g4, g5⟩ := id X.2.2.2.1
    have hq1 := g5.1
    obtain ⟨i1, i2, i3, i4, i5⟩ := xDs_inv (rv := rv) (p := p) hu O k (by omega)
    have hok := dcC_ok (p := p) i1
    obtain ⟨v, hv, ev⟩ := dNx_31 i1
    have c100 := cls_100 hv
    rw [← ev] at c100
    have z100 : ¬ (100 : Int32) = 0 := by decide
    have z10 : ¬ (10 : Int32) = 0 := by decide
    have ef : ∀ w, dDs rv p (u0, S) (k + 1) = w → w = (dcU p (dDs rv p (u0, S) k).1, mnxt rv 0 noP (dcC p (dDs rv p (u0, S) k).1) (dDs rv p (u0, S) k).2) := fun w hw => hw.symm
    have e1 : (dDs rv p (u0, S) (k + 1)).1 = dcU p (dDs rv p (u0, S) k).1 := rfl
    have e2 : (dDs rv p (u0, S) (k + 1)).2 = mnxt rv 0 noP (dcC p (dDs rv p (u0, S) k).1) (dDs rv p (u0, S) k).2 := rfl
    have ex : xof rv p (u0, S) (k + 1) = xof rv p (u0, S) k + nI (mbN (sO (moff rv 0 noP (dcC p (dDs rv p (u0, S) k).1) (dDs rv p (u0, S) k).2))) := rfl
    have ih' := ih (k + 1)
    rw [e1, e2, ex, ← Int32.add_assoc] at ih'
    generalize (dDs rv p (u0, S) k).1 = u at *
    generalize (dDs rv p (u0, S) k).2 = T at *
    generalize xof rv p (u0, S) k = xo at *
    have hcy : c + 4 ≤ y ∨ y + 15 ≤ c := X.2.2.2.2.2.2.2.1
    have X1 : ∀ v, wl (jwr h1 (y + 1) (upd (jI h1 (y + 1)) 7 v)) n c y rr rv S := fun v => wl_fr (frg_wr (by omega) (by omega) frg_refl) X.2.2.2.1 X
    have C1 : ∀ v, crs (jwr h1 (y + 1) (upd (jI h1 (y + 1)) 7 v)) (y + 1) c rr T := fun v => crs_lf (by omega) C
    have a3 : ∀ v, jI (jwr h1 (y + 1) (upd (jI h1 (y + 1)) 7 v)) y 3 = A + xo := fun v => by rw [jI_wr_n (by omega)]; exact e3
    have a4 : ∀ v, jI (jwr h1 (y + 1) (upd (jI h1 (y + 1)) 7 v)) y 4 = Bm := fun v => by rw [jI_wr_n (by omega)]; exact e4
    have a6 : ∀ v, jI (jwr h1 (y + 1) (upd (jI h1 (y + 1)) 7 v)) (y + 1) 6 = nI 0 := fun v => by rw [jI_wr_s, upd_n (by omega)]; exact e6
    have a7 : ∀ v, jI (jwr h1 (y + 1) (upd (jI h1 (y + 1)) 7 v)) (y + 1) 7 = v := fun v => by rw [jI_wr_s, upd_s]
    have Fv : ∀ v, frg y (y + 15) h (jwr h1 (y + 1) (upd (jI h1 (y + 1)) 7 v)) := fun v => frg_wr (by omega) (by omega) F
    simp (config := { decide := true }) (disch := (first | assumption | omega | (simp (config := { decide := true }) only [g1, jK_wI, jK_wJ, jK_wR, jK_wr, jR_wr, jR_wI, jR_wJ, jK_wj, jR_wj, stI_wr, cmI_wr, stI_wj, cmI_wj]; done) | (simp only [g1, jK_wI, jK_wJ, jK_wR, jK_wr, jR_wr, jR_wI, jR_wJ, jK_wj, jR_wj, stI_wr, cmI_wr, stI_wj, cmI_wj]; refine jinb_nI ?_ ?_ <;> omega) | (refine jinb_nI ?_ ?_ <;> omega) | (simp only [stI_wr, cmI_wr, stI_wj, cmI_wj]; assumption))) only [s32_35, s32_37, s32_39, if_neg hle, va_rf_some, va_rf_none, jK_wI, jR_wI, jJ_wI, jK_wJ, jR_wJ, jI_wJ, jK_wR, jI_wR, jJ_wR, jK_wr, jR_wr, jJ_wr, jcl1_i, jcl1_r, jcl1_z, jcl1_n, jcl1_l, jwI_row, jwr_jwr, jwr_cm, jwr_cc, upd_upd, jI_wr_s, jI_wr_a, jI_wr_b, jI_wr_c, mInv_wr, upd_s, upd_n, Option.toList, List.cons_append, List.nil_append, true_or, or_true, eq_self, and_self, ite_true, ite_false, if_true, if_false, jK_wj, jR_wj, jI_wj, jwJ_row, jwj_jwj, jJ_wj_s, jJ_wj_n, jI_wr_n, jinb_nI, nI_clamp, tc0, tc1, tc2, tc3, tc4, tc5, tc6, tc7, tc8, tc9, tc10, tc11, tc12, tc13, tc14, tc15, tc16, tc17, tc18, tc19, tc20, tc21, tc22, tc23, tc24, tc25, tc26, tc27, tc28, tc29, tc30, tc31, tc32, tc33, tc34, tc35, tc36, tc37, tc38, tc39, tc40, tc41, tc42, tc43, tc44, tc45, tc46, tc47, tc48, tc49, tc50, tc51, tc52, tc53, tc54, tc55, tc56, tc57, tc58, tc59, tc60, tc61, tc62, tc63, tc64, tc65, tc66, tc67, tc68, tc69, tc77, tc83, tc119, tc159, tc160, nI_add, al0, ar0, ml0, mr0, al1, ar1, ml1, mr1, al2, ar2, ml2, mr2, al3, ar3, ml3, mr3, al4, ar4, ml4, mr4, al5, ar5, ml5, mr5, al6, ar6, ml6, mr6, al8, ar8, ml8, mr8, al10, ar10, ml10, mr10, al11, ar11, ml11, mr11, al12, ar12, ml12, mr12, al13, ar13, ml13, mr13, al16, ar16, ml16, mr16, al20, ar20, ml20, mr20, al24, ar24, ml24, mr24, al29, ar29, ml29, mr29, al36, ar36, ml36, mr36, al42, ar42, ml42, mr42, al48, ar48, ml48, mr48, al55, ar55, ml55, mr55, al60, ar60, ml60, mr60, al65, ar65, ml65, mr65, al77, ar77, ml77, mr77, al83, ar83, ml83, mr83, al119, ar119, ml119, mr119, al159, ar159, ml159, mr159, al160, ar160, ml160, mr160, al400, ar400, ml400, mr400, g1]
    simp (config := { decide := true }) (disch := (first | assumption | omega | (simp (config := { decide := true }) only [g1, g2, hq1, z100, jK_wI, jK_wJ, jK_wR, jK_wr, jR_wr, jR_wI, jR_wJ, jK_wj, jR_wj, stI_wr, cmI_wr, stI_wj, cmI_wj]; done) | (simp only [g1, g2, hq1, z100, jK_wI, jK_wJ, jK_wR, jK_wr, jR_wr, jR_wI, jR_wJ, jK_wj, jR_wj, stI_wr, cmI_wr, stI_wj, cmI_wj]; refine jinb_nI ?_ ?_ <;> omega) | (refine jinb_nI ?_ ?_ <;> omega) | (simp only [stI_wr, cmI_wr, stI_wj, cmI_wj]; assumption))) only [s32_42, s32_44, s32_47, s32_49, s32_50, s32_53, s32_54, s32_57, s32_59, s32_62, s32_64, s32_65, s32_67, k33, k34, c100, va_rf_some, va_rf_none, jK_wI, jR_wI, jJ_wI, jK_wJ, jR_wJ, jI_wJ, jK_wR, jI_wR, jJ_wR, jK_wr, jR_wr, jJ_wr, jcl1_i, jcl1_r, jcl1_z, jcl1_n, jcl1_l, jwI_row, jwr_jwr, jwr_cm, jwr_cc, upd_upd, jI_wr_s, jI_wr_a, jI_wr_b, jI_wr_c, mInv_wr, upd_s, upd_n, Option.toList, List.cons_append, List.nil_append, true_or, or_true, eq_self, and_self, ite_true, ite_false, if_true, if_false, jK_wj, jR_wj, jI_wj, jwJ_row, jwj_jwj, jJ_wj_s, jJ_wj_n, jI_wr_n, jinb_nI, nI_clamp, tc0, tc1, tc2, tc3, tc4, tc5, tc6, tc7, tc8, tc9, tc10, tc11, tc12, tc13, tc14, tc15, tc16, tc17, tc18, tc19, tc20, tc21, tc22, tc23, tc24, tc25, tc26, tc27, tc28, tc29, tc30, tc31, tc32, tc33, tc34, tc35, tc36, tc37, tc38, tc39, tc40, tc41, tc42, tc43, tc44, tc45, tc46, tc47, tc48, tc49, tc50, tc51, tc52, tc53, tc54, tc55, tc56, tc57, tc58, tc59, tc60, tc61, tc62, tc63, tc64, tc65, tc66, tc67, tc68, tc69, tc77, tc83, tc119, tc159, tc160, nI_add, al0, ar0, ml0, mr0, al1, ar1, ml1, mr1, al2, ar2, ml2, mr2, al3, ar3, ml3, mr3, al4, ar4, ml4, mr4, al5, ar5, ml5, mr5, al6, ar6, ml6, mr6, al8, ar8, ml8, mr8, al10, ar10, ml10, mr10, al11, ar11, ml11, mr11, al12, ar12, ml12, mr12, al13, ar13, ml13, mr13, al16, ar16, ml16, mr16, al20, ar20, ml20, mr20, al24, ar24, ml24, mr24, al29, ar29, ml29, mr29, al36, ar36, ml36, mr36, al42, ar42, ml42, mr42, al48, ar48, ml48, mr48, al55, ar55, ml55, mr55, al60, ar60, ml60, mr60, al65, ar65, ml65, mr65, al77, ar77, ml77, mr77, al83, ar83, ml83, mr83, al119, ar119, ml119, mr119, al159, ar159, ml159, mr159, al160, ar160, ml160, mr160, al400, ar400, ml400, mr400, g1, g2, hq1, z100]
    by_cases hp : nI p ≤ dVl (dNx u) 100
    · have eU : dcU p u = dNx u := if_pos hp
      have eC : dcC p u = -1 := if_pos hp
      rw [eU, eC] at ih'
      rw [if_pos hp]
      exact l32d (X1 _) (C1 _) i2 (Or.inl rfl) (a6 _) (a7 _) (a3 _) (fun h2 F2 X2 C2 b3 b4 b6 => ih' h2 (by omega) (frg_trans (Fv _) F2) X2 C2 b3 (by rw [b4]; exact a4 _) b6)
    · have eU : dcU p u = dNx (dNx u) := if_neg hp
      have eC : dcC p u = dVl (dNx (dNx u)) 10 := if_neg hp
      rw [eU] at ih'
      rw [if_neg hp]
      obtain ⟨v2, hv2, ev2⟩ := dNx_31 (dNx_31 i1)
      have c10 := cls_10 hv2
      rw [← ev2, ← eC] at c10
      simp (config := { decide := true }) (disch := (first | assumption | omega | (simp (config := { decide := true }) only [g1, g2, hq1, z10, jK_wI, jK_wJ, jK_wR, jK_wr, jR_wr, jR_wI, jR_wJ, jK_wj, jR_wj, stI_wr, cmI_wr, stI_wj, cmI_wj]; done) | (simp only [g1, g2, hq1, z10, jK_wI, jK_wJ, jK_wR, jK_wr, jR_wr, jR_wI, jR_wJ, jK_wj, jR_wj, stI_wr, cmI_wr, stI_wj, cmI_wj]; refine jinb_nI ?_ ?_ <;> omega) | (refine jinb_nI ?_ ?_ <;> omega) | (simp only [stI_wr, cmI_wr, stI_wj, cmI_wj]; assumption))) only [s32_70, s32_72, s32_75, s32_77, s32_78, s32_81, s32_83, s32_86, s32_88, s32_89, k33, k34, c10, va_rf_some, va_rf_none, jK_wI, jR_wI, jJ_wI, jK_wJ, jR_wJ, jI_wJ, jK_wR, jI_wR, jJ_wR, jK_wr, jR_wr, jJ_wr, jcl1_i, jcl1_r, jcl1_z, jcl1_n, jcl1_l, jwI_row, jwr_jwr, jwr_cm, jwr_cc, upd_upd, jI_wr_s, jI_wr_a, jI_wr_b, jI_wr_c, mInv_wr, upd_s, upd_n, Option.toList, List.cons_append, List.nil_append, true_or, or_true, eq_self, and_self, ite_true, ite_false, if_true, if_false, jK_wj, jR_wj, jI_wj, jwJ_row, jwj_jwj, jJ_wj_s, jJ_wj_n, jI_wr_n, jinb_nI, nI_clamp, tc0, tc1, tc2, tc3, tc4, tc5, tc6, tc7, tc8, tc9, tc10, tc11, tc12, tc13, tc14, tc15, tc16, tc17, tc18, tc19, tc20, tc21, tc22, tc23, tc24, tc25, tc26, tc27, tc28, tc29, tc30, tc31, tc32, tc33, tc34, tc35, tc36, tc37, tc38, tc39, tc40, tc41, tc42, tc43, tc44, tc45, tc46, tc47, tc48, tc49, tc50, tc51, tc52, tc53, tc54, tc55, tc56, tc57, tc58, tc59, tc60, tc61, tc62, tc63, tc64, tc65, tc66, tc67, tc68, tc69, tc77, tc83, tc119, tc159, tc160, nI_add, al0, ar0, ml0, mr0, al1, ar1, ml1, mr1, al2, ar2, ml2, mr2, al3, ar3, ml3, mr3, al4, ar4, ml4, mr4, al5, ar5, ml5, mr5, al6, ar6, ml6, mr6, al8, ar8, ml8, mr8, al10, ar10, ml10, mr10, al11, ar11, ml11, mr11, al12, ar12, ml12, mr12, al13, ar13, ml13, mr13, al16, ar16, ml16, mr16, al20, ar20, ml20, mr20, al24, ar24, ml24, mr24, al29, ar29, ml29, mr29, al36, ar36, ml36, mr36, al42, ar42, ml42, mr42, al48, ar48, ml48, mr48, al55, ar55, ml55, mr55, al60, ar60, ml60, mr60, al65, ar65, ml65, mr65, al77, ar77, ml77, mr77, al83, ar83, ml83, mr83, al119, ar119, ml119, mr119, al159, ar159, ml159, mr159, al160, ar160, ml160, mr160, al400, ar400, ml400, mr400, g1, g2, hq1, z10]
      exact l32d (X1 _) (C1 _) i2 hok (a6 _) (a7 _) (a3 _) (fun h2 F2 X2 C2 b3 b4 b6 => ih' h2 (by omega) (frg_trans (Fv _) F2) X2 C2 b3 (by rw [b4]; exact a4 _) b6)
/-- drawCamps -/
theorem k32 (X : wl h n c y rr rv S) (hD : sD S ≤ 1000) {M K p : Nat} (hM : M ≤ 10) (hK : K ≤ 60) (hp : p ≤ 100) {u : Int64} (hu : u31 u) (hx : (jI h n 2).toInt64 = u) (hQ : ∀ h1, frg y (y + 15) h h1 → fsI h1 y → jI h1 y 3 = (dCm rv p K S u M).2.1 → jI h1 y 4 = (dCm rv p K S u M).2.2 → Q none h1) : jC (d + 6) 32 [.ref y, .ref n, va_rf rr, .int (nI M), .int (nI K), .int (nI p)] h Q := by
  have O := X.2.2.2.2.2.1
  have uok : ∀ i, u31 (dCm rv p K S u i).1 := by
    intro i
    induction i with
    | zero => exact hu
    | succ i ih => exact (xDs_inv (rv := rv) (p := p) ih O K (by omega)).1
  have loop : ∀ (r i : Nat) (h1 : jH) (x9 : Option Value), i + r = M → frg y (y + 15) h h1 → wl h1 n c y rr rv S → jI h1 y 3 = (dCm rv p K S u i).2.1 → jI h1 y 4 = (dCm rv p K S u i).2.2 → jW (d + 5) 32 20 [some (.ref y), some (.ref n), some (va_rf rr), some (.int (nI M)), some (.int (nI K)), some (.int (nI p)), some (.long (dCm rv p K S u i).1), none, some (.int (nI i)), x9] [] h1 Q := by
    intro r
    induction r with
    | zero =>
      intro i h1 x9 hi F X1 b3 b4
      have ei : i = M := by omega
      subst ei
      have hle : nI i ≤ nI i := nI_le (Nat.le_refl _) (by omega)
      have g1 := X1.2.2.2.1.1
      simp (config := { decide := true }) (disch := (first | assumption | omega | (simp (config := { decide := true }) only [g1, jK_wI, jK_wJ, jK_wR, jK_wr, jR_wr, jR_wI, jR_wJ, jK_wj, jR_wj, stI_wr, cmI_wr, stI_wj, cmI_wj]; done) | (simp only [g1, jK_wI, jK_wJ, jK_wR, jK_wr, jR_wr, jR_wI, jR_wJ, jK_wj, jR_wj, stI_wr, cmI_wr, stI_wj, cmI_wj]; refine jinb_nI ?_ ?_ <;> omega) | (refine jinb_nI ?_ ?_ <;> omega) | (simp only [stI_wr, cmI_wr, stI_wj, cmI_wj]; assumption))) only [s32_20, s32_22, s32_23, s32_142, if_pos hle, va_rf_some, va_rf_none, jK_wI, jR_wI, jJ_wI, jK_wJ, jR_wJ, jI_wJ, jK_wR, jI_wR, jJ_wR, jK_wr, jR_wr, jJ_wr, jcl1_i, jcl1_r, jcl1_z, jcl1_n, jcl1_l, jwI_row, jwr_jwr, jwr_cm, jwr_cc, upd_upd, jI_wr_s, jI_wr_a, jI_wr_b, jI_wr_c, mInv_wr, upd_s, upd_n, Option.toList, List.cons_append, List.nil_append, true_or, or_true, eq_self, and_self, ite_true, ite_false, if_true, if_false, jK_wj, jR_wj, jI_wj, jwJ_row, jwj_jwj, jJ_wj_s, jJ_wj_n, jI_wr_n, jinb_nI, nI_clamp, tc0, tc1, tc2, tc3, tc4, tc5, tc6, tc7, tc8, tc9, tc10, tc11, tc12, tc13, tc14, tc15, tc16, tc17, tc18, tc19, tc20, tc21, tc22, tc23, tc24, tc25, tc26, tc27, tc28, tc29, tc30, tc31, tc32, tc33, tc34, tc35, tc36, tc37, tc38, tc39, tc40, tc41, tc42, tc43, tc44, tc45, tc46, tc47, tc48, tc49, tc50, tc51, tc52, tc53, tc54, tc55, tc56, tc57, tc58, tc59, tc60, tc61, tc62, tc63, tc64, tc65, tc66, tc67, tc68, tc69, tc77, tc83, tc119, tc159, tc160, nI_add, al0, ar0, ml0, mr0, al1, ar1, ml1, mr1, al2, ar2, ml2, mr2, al3, ar3, ml3, mr3, al4, ar4, ml4, mr4, al5, ar5, ml5, mr5, al6, ar6, ml6, mr6, al8, ar8, ml8, mr8, al10, ar10, ml10, mr10, al11, ar11, ml11, mr11, al12, ar12, ml12, mr12, al13, ar13, ml13, mr13, al16, ar16, ml16, mr16, al20, ar20, ml20, mr20, al24, ar24, ml24, mr24, al29, ar29, ml29, mr29, al36, ar36, ml36, mr36, al42, ar42, ml42, mr42, al48, ar48, ml48, mr48, al55, ar55, ml55, mr55, al60, ar60, ml60, mr60, al65, ar65, ml65, mr65, al77, ar77, ml77, mr77, al83, ar83, ml83, mr83, al119, ar119, ml119, mr119, al159, ar159, ml159, mr159, al160, ar160, ml160, mr160, al400, ar400, ml400, mr400, g1]
      exact hQ h1 F X1.2.2.2.1 b3 b4
    | succ r ih =>
      intro i h1 x9 hi F X1 b3 b4
      have hle : ¬ nI M ≤ nI i := nI_ge (by omega) (by omega)
      have g1 := X1.2.2.2.1.1
      have es := dCm_s (rv := rv) (p := p) (n := K) (u := u) O (by omega) (uok i)
      have ih' := ih (i + 1)
      rw [es] at ih'
      have go2 : jC (d + 5) 22 [.ref y, .ref n, va_rf rr] h1 (fun r h' => jW (d + 5) 32 32 [some (.ref y), some (.ref n), some (va_rf rr), some (.int (nI M)), some (.int (nI K)), some (.int (nI p)), some (.long (dCm rv p K S u i).1), none, some (.int (nI i)), x9] (r.toList ++ []) h' Q) := by
        refine k22 X1 (fun h2 F2 C2 e6 e7 X2 => ?_)
        have g2 := X2.2.2.2.1.1
        simp only [Option.toList, List.nil_append]
        have c3 : jI h2 y 3 = (dCm rv p K S u i).2.1 + xof rv p ((dCm rv p K S u i).1, S) 0 := by
          rw [(F2.2 y (by omega)).1, b3]
          exact (Int32.add_zero _).symm
        have c4 : jI h2 y 4 = (dCm rv p K S u i).2.2 := by rw [(F2.2 y (by omega)).1, b4]
        have inner := l32i (d := d) (Q := Q) (h := h) (n := n) (c := c) (y := y) (rr := rr) (rv := rv) (K := K) (p := p) (M := M) (i := i) (u0 := (dCm rv p K S u i).1) (A := (dCm rv p K S u i).2.1) (Bm := (dCm rv p K S u i).2.2) (uok i) O hD hK (fun h3 F3 X3 C3 d3 d4 => by
          obtain ⟨i1, i2, i3, i4, i5⟩ := xDs_inv (rv := rv) (p := p) (uok i) O K (by omega)
          obtain ⟨j1, j2, -, -, j5⟩ := id X3.2.2.2.1
          have hq3 := j5.1
          have r0 := j5.2.1
          have hst := j5.2.2.2.2
          have hk1 := hst.1
          have c85 := fun Q => k85 (h := h3) (p := y + 1 + 1) (d := d + 2) (Q := Q) hst C3.2.2.2.2.2.2.1 i2.2.1
          simp (config := { decide := true }) (disch := (first | assumption | omega | (simp (config := { decide := true }) only [j1, j2, hq3, r0, hk1, jK_wI, jK_wJ, jK_wR, jK_wr, jR_wr, jR_wI, jR_wJ, jK_wj, jR_wj, stI_wr, cmI_wr, stI_wj, cmI_wj]; done) | (simp only [j1, j2, hq3, r0, hk1, jK_wI, jK_wJ, jK_wR, jK_wr, jR_wr, jR_wI, jR_wJ, jK_wj, jR_wj, stI_wr, cmI_wr, stI_wj, cmI_wj]; refine jinb_nI ?_ ?_ <;> omega) | (refine jinb_nI ?_ ?_ <;> omega) | (simp only [stI_wr, cmI_wr, stI_wj, cmI_wj]; assumption))) only [s32_117, s32_118, s32_119, s32_122, s32_123, s32_126, s32_129, d4, va_rf_some, va_rf_none, jK_wI, jR_wI, jJ_wI, jK_wJ, jR_wJ, jI_wJ, jK_wR, jI_wR, jJ_wR, jK_wr, jR_wr, jJ_wr, jcl1_i, jcl1_r, jcl1_z, jcl1_n, jcl1_l, jwI_row, jwr_jwr, jwr_cm, jwr_cc, upd_upd, jI_wr_s, jI_wr_a, jI_wr_b, jI_wr_c, mInv_wr, upd_s, upd_n, Option.toList, List.cons_append, List.nil_append, true_or, or_true, eq_self, and_self, ite_true, ite_false, if_true, if_false, jK_wj, jR_wj, jI_wj, jwJ_row, jwj_jwj, jJ_wj_s, jJ_wj_n, jI_wr_n, jinb_nI, nI_clamp, tc0, tc1, tc2, tc3, tc4, tc5, tc6, tc7, tc8, tc9, tc10, tc11, tc12, tc13, tc14, tc15, tc16, tc17, tc18, tc19, tc20, tc21, tc22, tc23, tc24, tc25, tc26, tc27, tc28, tc29, tc30, tc31, tc32, tc33, tc34, tc35, tc36, tc37, tc38, tc39, tc40, tc41, tc42, tc43, tc44, tc45, tc46, tc47, tc48, tc49, tc50, tc51, tc52, tc53, tc54, tc55, tc56, tc57, tc58, tc59, tc60, tc61, tc62, tc63, tc64, tc65, tc66, tc67, tc68, tc69, tc77, tc83, tc119, tc159, tc160, nI_add, al0, ar0, ml0, mr0, al1, ar1, ml1, mr1, al2, ar2, ml2, mr2, al3, ar3, ml3, mr3, al4, ar4, ml4, mr4, al5, ar5, ml5, mr5, al6, ar6, ml6, mr6, al8, ar8, ml8, mr8, al10, ar10, ml10, mr10, al11, ar11, ml11, mr11, al12, ar12, ml12, mr12, al13, ar13, ml13, mr13, al16, ar16, ml16, mr16, al20, ar20, ml20, mr20, al24, ar24, ml24, mr24, al29, ar29, ml29, mr29, al36, ar36, ml36, mr36, al42, ar42, ml42, mr42, al48, ar48, ml48, mr48, al55, ar55, ml55, mr55, al60, ar60, ml60, mr60, al65, ar65, ml65, mr65, al77, ar77, ml77, mr77, al83, ar83, ml83, mr83, al119, ar119, ml119, mr119, al159, ar159, ml159, mr159, al160, ar160, ml160, mr160, al400, ar400, ml400, mr400, j1, j2, hq3, r0, hk1]
          rw [c85]
          simp (config := { decide := true }) (disch := (first | assumption | omega | (simp (config := { decide := true }) only [j1, jK_wI, jK_wJ, jK_wR, jK_wr, jR_wr, jR_wI, jR_wJ, jK_wj, jR_wj, stI_wr, cmI_wr, stI_wj, cmI_wj]; done) | (simp only [j1, jK_wI, jK_wJ, jK_wR, jK_wr, jR_wr, jR_wI, jR_wJ, jK_wj, jR_wj, stI_wr, cmI_wr, stI_wj, cmI_wj]; refine jinb_nI ?_ ?_ <;> omega) | (refine jinb_nI ?_ ?_ <;> omega) | (simp only [stI_wr, cmI_wr, stI_wj, cmI_wj]; assumption))) only [s32_132, s32_133, s32_136, s32_139, va_rf_some, va_rf_none, jK_wI, jR_wI, jJ_wI, jK_wJ, jR_wJ, jI_wJ, jK_wR, jI_wR, jJ_wR, jK_wr, jR_wr, jJ_wr, jcl1_i, jcl1_r, jcl1_z, jcl1_n, jcl1_l, jwI_row, jwr_jwr, jwr_cm, jwr_cc, upd_upd, jI_wr_s, jI_wr_a, jI_wr_b, jI_wr_c, mInv_wr, upd_s, upd_n, Option.toList, List.cons_append, List.nil_append, true_or, or_true, eq_self, and_self, ite_true, ite_false, if_true, if_false, jK_wj, jR_wj, jI_wj, jwJ_row, jwj_jwj, jJ_wj_s, jJ_wj_n, jI_wr_n, jinb_nI, nI_clamp, tc0, tc1, tc2, tc3, tc4, tc5, tc6, tc7, tc8, tc9, tc10, tc11, tc12, tc13, tc14, tc15, tc16, tc17, tc18, tc19, tc20, tc21, tc22, tc23, tc24, tc25, tc26, tc27, tc28, tc29, tc30, tc31, tc32, tc33, tc34, tc35, tc36, tc37, tc38, tc39, tc40, tc41, tc42, tc43, tc44, tc45, tc46, tc47, tc48, tc49, tc50, tc51, tc52, tc53, tc54, tc55, tc56, tc57, tc58, tc59, tc60, tc61, tc62, tc63, tc64, tc65, tc66, tc67, tc68, tc69, tc77, tc83, tc119, tc159, tc160, nI_add, al0, ar0, ml0, mr0, al1, ar1, ml1, mr1, al2, ar2, ml2, mr2, al3, ar3, ml3, mr3, al4, ar4, ml4, mr4, al5, ar5, ml5, mr5, al6, ar6, ml6, mr6, al8, ar8, ml8, mr8, al10, ar10, ml10, mr10, al11, ar11, ml11, mr11, al12, ar12, ml12, mr12, al13, ar13, ml13, mr13, al16, ar16, ml16, mr16, al20, ar20, ml20, mr20, al24, ar24, ml24, mr24, al29, ar29, ml29, mr29, al36, ar36, ml36, mr36, al42, ar42, ml42, mr42, al48, ar48, ml48, mr48, al55, ar55, ml55, mr55, al60, ar60, ml60, mr60, al65, ar65, ml65, mr65, al77, ar77, ml77, mr77, al83, ar83, ml83, mr83, al119, ar119, ml119, mr119, al159, ar159, ml159, mr159, al160, ar160, ml160, mr160, al400, ar400, ml400, mr400, j1]
          refine ih' _ _ (by omega) (frg_wr (by omega) (by omega) F3) (wl_y X3) ?_ ?_
          · rw [jI_wr_s, upd_n (by omega)]
            exact d3
          · rw [jI_wr_s, upd_s]) K 0 h2 (by omega) (frg_trans F (frg_wid F2 (by omega) (by omega))) X2 C2 c3 c4 e6
        cases rr with
        | none =>
          simp (config := { decide := true }) (disch := (first | assumption | omega | (simp (config := { decide := true }) only [g2, jK_wI, jK_wJ, jK_wR, jK_wr, jR_wr, jR_wI, jR_wJ, jK_wj, jR_wj, stI_wr, cmI_wr, stI_wj, cmI_wj]; done) | (simp only [g2, jK_wI, jK_wJ, jK_wR, jK_wr, jR_wr, jR_wI, jR_wJ, jK_wj, jR_wj, stI_wr, cmI_wr, stI_wj, cmI_wj]; refine jinb_nI ?_ ?_ <;> omega) | (refine jinb_nI ?_ ?_ <;> omega) | (simp only [stI_wr, cmI_wr, stI_wj, cmI_wj]; assumption))) only [s32_32, s32_33, va_rf_some, va_rf_none, jK_wI, jR_wI, jJ_wI, jK_wJ, jR_wJ, jI_wJ, jK_wR, jI_wR, jJ_wR, jK_wr, jR_wr, jJ_wr, jcl1_i, jcl1_r, jcl1_z, jcl1_n, jcl1_l, jwI_row, jwr_jwr, jwr_cm, jwr_cc, upd_upd, jI_wr_s, jI_wr_a, jI_wr_b, jI_wr_c, mInv_wr, upd_s, upd_n, Option.toList, List.cons_append, List.nil_append, true_or, or_true, eq_self, and_self, ite_true, ite_false, if_true, if_false, jK_wj, jR_wj, jI_wj, jwJ_row, jwj_jwj, jJ_wj_s, jJ_wj_n, jI_wr_n, jinb_nI, nI_clamp, tc0, tc1, tc2, tc3, tc4, tc5, tc6, tc7, tc8, tc9, tc10, tc11, tc12, tc13, tc14, tc15, tc16, tc17, tc18, tc19, tc20, tc21, tc22, tc23, tc24, tc25, tc26, tc27, tc28, tc29, tc30, tc31, tc32, tc33, tc34, tc35, tc36, tc37, tc38, tc39, tc40, tc41, tc42, tc43, tc44, tc45, tc46, tc47, tc48, tc49, tc50, tc51, tc52, tc53, tc54, tc55, tc56, tc57, tc58, tc59, tc60, tc61, tc62, tc63, tc64, tc65, tc66, tc67, tc68, tc69, tc77, tc83, tc119, tc159, tc160, nI_add, al0, ar0, ml0, mr0, al1, ar1, ml1, mr1, al2, ar2, ml2, mr2, al3, ar3, ml3, mr3, al4, ar4, ml4, mr4, al5, ar5, ml5, mr5, al6, ar6, ml6, mr6, al8, ar8, ml8, mr8, al10, ar10, ml10, mr10, al11, ar11, ml11, mr11, al12, ar12, ml12, mr12, al13, ar13, ml13, mr13, al16, ar16, ml16, mr16, al20, ar20, ml20, mr20, al24, ar24, ml24, mr24, al29, ar29, ml29, mr29, al36, ar36, ml36, mr36, al42, ar42, ml42, mr42, al48, ar48, ml48, mr48, al55, ar55, ml55, mr55, al60, ar60, ml60, mr60, al65, ar65, ml65, mr65, al77, ar77, ml77, mr77, al83, ar83, ml83, mr83, al119, ar119, ml119, mr119, al159, ar159, ml159, mr159, al160, ar160, ml160, mr160, al400, ar400, ml400, mr400, g2]
          exact inner
        | some r =>
          simp (config := { decide := true }) (disch := (first | assumption | omega | (simp (config := { decide := true }) only [g2, jK_wI, jK_wJ, jK_wR, jK_wr, jR_wr, jR_wI, jR_wJ, jK_wj, jR_wj, stI_wr, cmI_wr, stI_wj, cmI_wj]; done) | (simp only [g2, jK_wI, jK_wJ, jK_wR, jK_wr, jR_wr, jR_wI, jR_wJ, jK_wj, jR_wj, stI_wr, cmI_wr, stI_wj, cmI_wj]; refine jinb_nI ?_ ?_ <;> omega) | (refine jinb_nI ?_ ?_ <;> omega) | (simp only [stI_wr, cmI_wr, stI_wj, cmI_wj]; assumption))) only [s32_32, s32_33, va_rf_some, va_rf_none, jK_wI, jR_wI, jJ_wI, jK_wJ, jR_wJ, jI_wJ, jK_wR, jI_wR, jJ_wR, jK_wr, jR_wr, jJ_wr, jcl1_i, jcl1_r, jcl1_z, jcl1_n, jcl1_l, jwI_row, jwr_jwr, jwr_cm, jwr_cc, upd_upd, jI_wr_s, jI_wr_a, jI_wr_b, jI_wr_c, mInv_wr, upd_s, upd_n, Option.toList, List.cons_append, List.nil_append, true_or, or_true, eq_self, and_self, ite_true, ite_false, if_true, if_false, jK_wj, jR_wj, jI_wj, jwJ_row, jwj_jwj, jJ_wj_s, jJ_wj_n, jI_wr_n, jinb_nI, nI_clamp, tc0, tc1, tc2, tc3, tc4, tc5, tc6, tc7, tc8, tc9, tc10, tc11, tc12, tc13, tc14, tc15, tc16, tc17, tc18, tc19, tc20, tc21, tc22, tc23, tc24, tc25, tc26, tc27, tc28, tc29, tc30, tc31, tc32, tc33, tc34, tc35, tc36, tc37, tc38, tc39, tc40, tc41, tc42, tc43, tc44, tc45, tc46, tc47, tc48, tc49, tc50, tc51, tc52, tc53, tc54, tc55, tc56, tc57, tc58, tc59, tc60, tc61, tc62, tc63, tc64, tc65, tc66, tc67, tc68, tc69, tc77, tc83, tc119, tc159, tc160, nI_add, al0, ar0, ml0, mr0, al1, ar1, ml1, mr1, al2, ar2, ml2, mr2, al3, ar3, ml3, mr3, al4, ar4, ml4, mr4, al5, ar5, ml5, mr5, al6, ar6, ml6, mr6, al8, ar8, ml8, mr8, al10, ar10, ml10, mr10, al11, ar11, ml11, mr11, al12, ar12, ml12, mr12, al13, ar13, ml13, mr13, al16, ar16, ml16, mr16, al20, ar20, ml20, mr20, al24, ar24, ml24, mr24, al29, ar29, ml29, mr29, al36, ar36, ml36, mr36, al42, ar42, ml42, mr42, al48, ar48, ml48, mr48, al55, ar55, ml55, mr55, al60, ar60, ml60, mr60, al65, ar65, ml65, mr65, al77, ar77, ml77, mr77, al83, ar83, ml83, mr83, al119, ar119, ml119, mr119, al159, ar159, ml159, mr159, al160, ar160, ml160, mr160, al400, ar400, ml400, mr400, g2]
          exact inner
      cases rr with
      | none =>
        rw [va_rf_none] at go2 ⊢
        simp (config := { decide := true }) (disch := (first | assumption | omega | (simp (config := { decide := true }) only [g1, jK_wI, jK_wJ, jK_wR, jK_wr, jR_wr, jR_wI, jR_wJ, jK_wj, jR_wj, stI_wr, cmI_wr, stI_wj, cmI_wj]; done) | (simp only [g1, jK_wI, jK_wJ, jK_wR, jK_wr, jR_wr, jR_wI, jR_wJ, jK_wj, jR_wj, stI_wr, cmI_wr, stI_wj, cmI_wj]; refine jinb_nI ?_ ?_ <;> omega) | (refine jinb_nI ?_ ?_ <;> omega) | (simp only [stI_wr, cmI_wr, stI_wj, cmI_wj]; assumption))) only [s32_20, s32_22, s32_23, s32_26, s32_27, s32_27N, s32_28, s32_28N, s32_29, if_neg hle, va_rf_some, va_rf_none, jK_wI, jR_wI, jJ_wI, jK_wJ, jR_wJ, jI_wJ, jK_wR, jI_wR, jJ_wR, jK_wr, jR_wr, jJ_wr, jcl1_i, jcl1_r, jcl1_z, jcl1_n, jcl1_l, jwI_row, jwr_jwr, jwr_cm, jwr_cc, upd_upd, jI_wr_s, jI_wr_a, jI_wr_b, jI_wr_c, mInv_wr, upd_s, upd_n, Option.toList, List.cons_append, List.nil_append, true_or, or_true, eq_self, and_self, ite_true, ite_false, if_true, if_false, jK_wj, jR_wj, jI_wj, jwJ_row, jwj_jwj, jJ_wj_s, jJ_wj_n, jI_wr_n, jinb_nI, nI_clamp, tc0, tc1, tc2, tc3, tc4, tc5, tc6, tc7, tc8, tc9, tc10, tc11, tc12, tc13, tc14, tc15, tc16, tc17, tc18, tc19, tc20, tc21, tc22, tc23, tc24, tc25, tc26, tc27, tc28, tc29, tc30, tc31, tc32, tc33, tc34, tc35, tc36, tc37, tc38, tc39, tc40, tc41, tc42, tc43, tc44, tc45, tc46, tc47, tc48, tc49, tc50, tc51, tc52, tc53, tc54, tc55, tc56, tc57, tc58, tc59, tc60, tc61, tc62, tc63, tc64, tc65, tc66, tc67, tc68, tc69, tc77, tc83, tc119, tc159, tc160, nI_add, al0, ar0, ml0, mr0, al1, ar1, ml1, mr1, al2, ar2, ml2, mr2, al3, ar3, ml3, mr3, al4, ar4, ml4, mr4, al5, ar5, ml5, mr5, al6, ar6, ml6, mr6, al8, ar8, ml8, mr8, al10, ar10, ml10, mr10, al11, ar11, ml11, mr11, al12, ar12, ml12, mr12, al13, ar13, ml13, mr13, al16, ar16, ml16, mr16, al20, ar20, ml20, mr20, al24, ar24, ml24, mr24, al29, ar29, ml29, mr29, al36, ar36, ml36, mr36, al42, ar42, ml42, mr42, al48, ar48, ml48, mr48, al55, ar55, ml55, mr55, al60, ar60, ml60, mr60, al65, ar65, ml65, mr65, al77, ar77, ml77, mr77, al83, ar83, ml83, mr83, al119, ar119, ml119, mr119, al159, ar159, ml159, mr159, al160, ar160, ml160, mr160, al400, ar400, ml400, mr400, g1]
        exact go2
      | some r =>
        rw [va_rf_some] at go2 ⊢
        simp (config := { decide := true }) (disch := (first | assumption | omega | (simp (config := { decide := true }) only [g1, jK_wI, jK_wJ, jK_wR, jK_wr, jR_wr, jR_wI, jR_wJ, jK_wj, jR_wj, stI_wr, cmI_wr, stI_wj, cmI_wj]; done) | (simp only [g1, jK_wI, jK_wJ, jK_wR, jK_wr, jR_wr, jR_wI, jR_wJ, jK_wj, jR_wj, stI_wr, cmI_wr, stI_wj, cmI_wj]; refine jinb_nI ?_ ?_ <;> omega) | (refine jinb_nI ?_ ?_ <;> omega) | (simp only [stI_wr, cmI_wr, stI_wj, cmI_wj]; assumption))) only [s32_20, s32_22, s32_23, s32_26, s32_27, s32_27N, s32_28, s32_28N, s32_29, if_neg hle, va_rf_some, va_rf_none, jK_wI, jR_wI, jJ_wI, jK_wJ, jR_wJ, jI_wJ, jK_wR, jI_wR, jJ_wR, jK_wr, jR_wr, jJ_wr, jcl1_i, jcl1_r, jcl1_z, jcl1_n, jcl1_l, jwI_row, jwr_jwr, jwr_cm, jwr_cc, upd_upd, jI_wr_s, jI_wr_a, jI_wr_b, jI_wr_c, mInv_wr, upd_s, upd_n, Option.toList, List.cons_append, List.nil_append, true_or, or_true, eq_self, and_self, ite_true, ite_false, if_true, if_false, jK_wj, jR_wj, jI_wj, jwJ_row, jwj_jwj, jJ_wj_s, jJ_wj_n, jI_wr_n, jinb_nI, nI_clamp, tc0, tc1, tc2, tc3, tc4, tc5, tc6, tc7, tc8, tc9, tc10, tc11, tc12, tc13, tc14, tc15, tc16, tc17, tc18, tc19, tc20, tc21, tc22, tc23, tc24, tc25, tc26, tc27, tc28, tc29, tc30, tc31, tc32, tc33, tc34, tc35, tc36, tc37, tc38, tc39, tc40, tc41, tc42, tc43, tc44, tc45, tc46, tc47, tc48, tc49, tc50, tc51, tc52, tc53, tc54, tc55, tc56, tc57, tc58, tc59, tc60, tc61, tc62, tc63, tc64, tc65, tc66, tc67, tc68, tc69, tc77, tc83, tc119, tc159, tc160, nI_add, al0, ar0, ml0, mr0, al1, ar1, ml1, mr1, al2, ar2, ml2, mr2, al3, ar3, ml3, mr3, al4, ar4, ml4, mr4, al5, ar5, ml5, mr5, al6, ar6, ml6, mr6, al8, ar8, ml8, mr8, al10, ar10, ml10, mr10, al11, ar11, ml11, mr11, al12, ar12, ml12, mr12, al13, ar13, ml13, mr13, al16, ar16, ml16, mr16, al20, ar20, ml20, mr20, al24, ar24, ml24, mr24, al29, ar29, ml29, mr29, al36, ar36, ml36, mr36, al42, ar42, ml42, mr42, al48, ar48, ml48, mr48, al55, ar55, ml55, mr55, al60, ar60, ml60, mr60, al65, ar65, ml65, mr65, al77, ar77, ml77, mr77, al83, ar83, ml83, mr83, al119, ar119, ml119, mr119, al159, ar159, ml159, mr159, al160, ar160, ml160, mr160, al400, ar400, ml400, mr400, g1]
        exact go2
  have f1 := X.2.2.2.1.1
  have a1 := X.1.1
  have hny : n + 15 ≤ y := X.2.2.2.2.2.2.1
  have lp := loop M 0 (jwr h y (upd (upd (jI h y) 3 0) 4 0)) none (by omega) (frg_wr (by omega) (by omega) frg_refl) (wl_fr (frg_wr (by omega) (by omega) frg_refl) X.2.2.2.1 X) (by rw [jI_wr_s, upd_n (by omega), upd_s]; rfl) (by rw [jI_wr_s, upd_s]; rfl)
  have e0 : (dCm rv p K S u 0).1 = u := rfl
  rw [e0] at lp
  cases rr with
  | none =>
    rw [va_rf_none] at lp ⊢
    rw [e32N]
    simp (config := { decide := true }) (disch := (first | assumption | omega | (simp (config := { decide := true }) only [f1, a1, jK_wI, jK_wJ, jK_wR, jK_wr, jR_wr, jR_wI, jR_wJ, jK_wj, jR_wj, stI_wr, cmI_wr, stI_wj, cmI_wj]; done) | (simp only [f1, a1, jK_wI, jK_wJ, jK_wR, jK_wr, jR_wr, jR_wI, jR_wJ, jK_wj, jR_wj, stI_wr, cmI_wr, stI_wj, cmI_wj]; refine jinb_nI ?_ ?_ <;> omega) | (refine jinb_nI ?_ ?_ <;> omega) | (simp only [stI_wr, cmI_wr, stI_wj, cmI_wj]; assumption))) only [s32_0, s32_1, s32_2, s32_5, s32_6, s32_7, s32_10, s32_10N, s32_11, s32_14, s32_15, s32_17, s32_18, hx, va_rf_some, va_rf_none, jK_wI, jR_wI, jJ_wI, jK_wJ, jR_wJ, jI_wJ, jK_wR, jI_wR, jJ_wR, jK_wr, jR_wr, jJ_wr, jcl1_i, jcl1_r, jcl1_z, jcl1_n, jcl1_l, jwI_row, jwr_jwr, jwr_cm, jwr_cc, upd_upd, jI_wr_s, jI_wr_a, jI_wr_b, jI_wr_c, mInv_wr, upd_s, upd_n, Option.toList, List.cons_append, List.nil_append, true_or, or_true, eq_self, and_self, ite_true, ite_false, if_true, if_false, jK_wj, jR_wj, jI_wj, jwJ_row, jwj_jwj, jJ_wj_s, jJ_wj_n, jI_wr_n, jinb_nI, nI_clamp, tc0, tc1, tc2, tc3, tc4, tc5, tc6, tc7, tc8, tc9, tc10, tc11, tc12, tc13, tc14, tc15, tc16, tc17, tc18, tc19, tc20, tc21, tc22, tc23, tc24, tc25, tc26, tc27, tc28, tc29, tc30, tc31, tc32, tc33, tc34, tc35, tc36, tc37, tc38, tc39, tc40, tc41, tc42, tc43, tc44, tc45, tc46, tc47, tc48, tc49, tc50, tc51, tc52, tc53, tc54, tc55, tc56, tc57, tc58, tc59, tc60, tc61, tc62, tc63, tc64, tc65, tc66, tc67, tc68, tc69, tc77, tc83, tc119, tc159, tc160, nI_add, al0, ar0, ml0, mr0, al1, ar1, ml1, mr1, al2, ar2, ml2, mr2, al3, ar3, ml3, mr3, al4, ar4, ml4, mr4, al5, ar5, ml5, mr5, al6, ar6, ml6, mr6, al8, ar8, ml8, mr8, al10, ar10, ml10, mr10, al11, ar11, ml11, mr11, al12, ar12, ml12, mr12, al13, ar13, ml13, mr13, al16, ar16, ml16, mr16, al20, ar20, ml20, mr20, al24, ar24, ml24, mr24, al29, ar29, ml29, mr29, al36, ar36, ml36, mr36, al42, ar42, ml42, mr42, al48, ar48, ml48, mr48, al55, ar55, ml55, mr55, al60, ar60, ml60, mr60, al65, ar65, ml65, mr65, al77, ar77, ml77, mr77, al83, ar83, ml83, mr83, al119, ar119, ml119, mr119, al159, ar159, ml159, mr159, al160, ar160, ml160, mr160, al400, ar400, ml400, mr400, f1, a1]
    exact lp
  | some r =>
    rw [va_rf_some] at lp ⊢
    rw [e32]
    simp (config := { decide := true }) (disch := (first | assumption | omega | (simp (config := { decide := true }) only [f1, a1, jK_wI, jK_wJ, jK_wR, jK_wr, jR_wr, jR_wI, jR_wJ, jK_wj, jR_wj, stI_wr, cmI_wr, stI_wj, cmI_wj]; done) | (simp only [f1, a1, jK_wI, jK_wJ, jK_wR, jK_wr, jR_wr, jR_wI, jR_wJ, jK_wj, jR_wj, stI_wr, cmI_wr, stI_wj, cmI_wj]; refine jinb_nI ?_ ?_ <;> omega) | (refine jinb_nI ?_ ?_ <;> omega) | (simp only [stI_wr, cmI_wr, stI_wj, cmI_wj]; assumption))) only [s32_0, s32_1, s32_2, s32_5, s32_6, s32_7, s32_10, s32_10N, s32_11, s32_14, s32_15, s32_17, s32_18, hx, va_rf_some, va_rf_none, jK_wI, jR_wI, jJ_wI, jK_wJ, jR_wJ, jI_wJ, jK_wR, jI_wR, jJ_wR, jK_wr, jR_wr, jJ_wr, jcl1_i, jcl1_r, jcl1_z, jcl1_n, jcl1_l, jwI_row, jwr_jwr, jwr_cm, jwr_cc, upd_upd, jI_wr_s, jI_wr_a, jI_wr_b, jI_wr_c, mInv_wr, upd_s, upd_n, Option.toList, List.cons_append, List.nil_append, true_or, or_true, eq_self, and_self, ite_true, ite_false, if_true, if_false, jK_wj, jR_wj, jI_wj, jwJ_row, jwj_jwj, jJ_wj_s, jJ_wj_n, jI_wr_n, jinb_nI, nI_clamp, tc0, tc1, tc2, tc3, tc4, tc5, tc6, tc7, tc8, tc9, tc10, tc11, tc12, tc13, tc14, tc15, tc16, tc17, tc18, tc19, tc20, tc21, tc22, tc23, tc24, tc25, tc26, tc27, tc28, tc29, tc30, tc31, tc32, tc33, tc34, tc35, tc36, tc37, tc38, tc39, tc40, tc41, tc42, tc43, tc44, tc45, tc46, tc47, tc48, tc49, tc50, tc51, tc52, tc53, tc54, tc55, tc56, tc57, tc58, tc59, tc60, tc61, tc62, tc63, tc64, tc65, tc66, tc67, tc68, tc69, tc77, tc83, tc119, tc159, tc160, nI_add, al0, ar0, ml0, mr0, al1, ar1, ml1, mr1, al2, ar2, ml2, mr2, al3, ar3, ml3, mr3, al4, ar4, ml4, mr4, al5, ar5, ml5, mr5, al6, ar6, ml6, mr6, al8, ar8, ml8, mr8, al10, ar10, ml10, mr10, al11, ar11, ml11, mr11, al12, ar12, ml12, mr12, al13, ar13, ml13, mr13, al16, ar16, ml16, mr16, al20, ar20, ml20, mr20, al24, ar24, ml24, mr24, al29, ar29, ml29, mr29, al36, ar36, ml36, mr36, al42, ar42, ml42, mr42, al48, ar48, ml48, mr48, al55, ar55, ml55, mr55, al60, ar60, ml60, mr60, al65, ar65, ml65, mr65, al77, ar77, ml77, mr77, al83, ar83, ml83, mr83, al119, ar119, ml119, mr119, al159, ar159, ml159, mr159, al160, ar160, ml160, mr160, al400, ar400, ml400, mr400, f1, a1]
    exact lp
end
