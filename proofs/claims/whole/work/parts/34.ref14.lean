/-! THE REFERENCE: days -/
/-- alike but for what goes on by acts, the day aside -/
def eqF (S S' : Nat → Int32) : Prop := ∀ j, j < 11 ∨ 65 ≤ j → S' j = S j
section
variable {S S' T : Nat → Int32}
theorem eqF.rfl' : eqF S S := fun _ _ => rfl
theorem eqF.trans (h1 : eqF S S') (h2 : eqF S' T) : eqF S T := fun j hj => (h2 j hj).trans (h1 j hj)
theorem eqF.up (h1 : eqF S S') {i : Nat} {v : Int32} (hi : 11 ≤ i) (hi2 : i < 65) : eqF S (upd S' i v) := fun j hj => by rw [upd_n (by omega)]; exact h1 j hj
theorem eqF.C (h : eqF S S') : sC S' = sC S := by unfold sC; rw [h 3 (by omega)]
theorem eqF.K (h : eqF S S') : sK S' = sK S := by unfold sK; rw [h 4 (by omega)]
theorem eqF.N (h : eqF S S') : sN S' = sN S := by unfold sN; rw [h 5 (by omega)]
theorem eqF.D (h : eqF S S') : sD S' = sD S := by unfold sD; rw [h 10 (by omega)]
theorem eqF.W (h : eqF S S') (W : mW S) : mW S' := by
  unfold mW
  rw [h.C, h.K, h.N, h.D, h 3 (by omega), h 4 (by omega), h 5 (by omega), h 10 (by omega)]
  exact W
theorem eqF.calm (h : eqF S S') {D : Nat} : calmS S' D = calmS S D := by
  unfold calmS
  rw [h.C, h 2 (by omega), h (65 + D % sC S) (by omega)]
theorem eqF.mc (h : eqF S S') {dr : Int32} : mcalm dr S' = mcalm dr S := by
  unfold mcalm
  rw [h.D, h.calm]
theorem mtry_eqF {s k : Nat} {c : Int32} (hs : s < 6) (hk : k < 6) : eqF S (mtry S s k c) := by
  unfold mtry
  split
  · exact ((eqF.rfl'.up (by omega) (by omega)).up (by omega) (by omega)).up (by omega) (by omega)
  · exact ((eqF.rfl'.up (by omega) (by omega)).up (by omega) (by omega)).up (by omega) (by omega)
end
theorem mb_or : ∀ b, b < 64 → ∀ k, k < 6 → (nI b ||| (1 : Int32) <<< (nI k &&& 31)) = nI (b ||| 2 ^ k) ∧ b ||| 2 ^ k < 64 := by decide +kernel
theorem mb_and : ∀ b, b < 64 → ∀ k, k < 6 → (nI b &&& ((1 : Int32) <<< (nI k &&& 31) ^^^ (-1))) = nI (b &&& (63 - 2 ^ k)) ∧ b &&& (63 - 2 ^ k) < 64 := by decide +kernel
theorem mB_of {S : Nat → Int32} (h : ∀ s, s < 6 → ∃ b, b < 64 ∧ S (11 + 3 * s) = nI b) : mB S := fun s hs => by
  obtain ⟨b, hb, e⟩ := h s hs
  have e2 : sB S s = b := by unfold sB; rw [e, nI_clamp (by omega)]
  rw [e2]
  exact ⟨e, hb⟩
theorem mB.get {S : Nat → Int32} (B : mB S) {s : Nat} (hs : s < 6) : ∃ b, b < 64 ∧ S (11 + 3 * s) = nI b := ⟨_, (B s hs).2, (B s hs).1⟩
theorem mB_upd {S : Nat → Int32} (B : mB S) {i : Nat} {v : Int32} (hi : ∀ s, s < 6 → i ≠ 11 + 3 * s) : mB (upd S i v) := mB_of fun s hs => by
  rw [upd_n (Ne.symm (hi s hs))]
  exact B.get hs
theorem mB_set {S : Nat → Int32} (B : mB S) {t b : Nat} (hb : b < 64) : mB (upd S (11 + 3 * t) (nI b)) := mB_of fun s hs => by
  by_cases e : s = t
  · subst e; rw [upd_s]; exact ⟨b, hb, rfl⟩
  · rw [upd_n (by omega)]; exact B.get hs
theorem mtry_B {S : Nat → Int32} (B : mB S) {s k : Nat} {c : Int32} (hs : s < 6) (hk : k < 6) : mB (mtry S s k c) := by
  obtain ⟨b, hb, e⟩ := B.get hs
  unfold mtry
  split
  · refine mB_upd ?_ (by intro s' hs'; omega)
    rw [e, (mb_or b hb k hk).1]
    exact mB_set (mB_upd B (by intro s' hs'; omega)) (mb_or b hb k hk).2
  · rw [e, (mb_and b hb k hk).1]
    exact mB_set (mB_upd (mB_upd B (by intro s' hs'; omega)) (by intro s' hs'; omega)) (mb_and b hb k hk).2
/-- a day, scout by scout: what is said then, for whom something came off -/
def mday (rv : Option ((Nat → Int64) → Int64)) (lf : Int32) (pd : Nat → Option (Option Nat)) (c : Int32) (S : Nat → Int32) : Nat → (Nat → Int32) × Int32
  | 0 => (S, 0)
  | n + 1 => match mcho rv (mday rv lf pd c S n).1 c lf pd n with
    | none => mday rv lf pd c S n
    | some k => (mtry (mday rv lf pd c S n).1 n k c, if (mday rv lf pd c S n).1 (29 + 6 * n + k) + c < (mday rv lf pd c S n).1 (77 + k) then (mday rv lf pd c S n).2 else (mday rv lf pd c S n).2 ||| (1 : Int32) <<< (nI n &&& 31))
def pdOk (pd : Nat → Option (Option Nat)) : Prop := ∀ s k, pd s = some (some k) → k < 6
theorem mcho_lt {rv : Option ((Nat → Int64) → Int64)} {S : Nat → Int32} {c lf : Int32} {pd : Nat → Option (Option Nat)} {s k : Nat} (hK : sK S ≤ 6) (P : pdOk pd) (h : mcho rv S c lf pd s = some k) : k < 6 := by
  unfold mcho at h
  split at h
  · next o ho => exact P s k (by rw [ho, h])
  · exact Nat.lt_of_lt_of_le (mbest_lt h) hK
theorem mday_inv {rv : Option ((Nat → Int64) → Int64)} {lf : Int32} {pd : Nat → Option (Option Nat)} {c : Int32} {S : Nat → Int32} (P : pdOk pd) (hK : sK S ≤ 6) (B : mB S) : ∀ n, n ≤ 6 → eqF S (mday rv lf pd c S n).1 ∧ mB (mday rv lf pd c S n).1 := by
  intro n
  induction n with
  | zero => intro _; exact ⟨eqF.rfl', B⟩
  | succ n ih =>
    intro hn
    obtain ⟨e, b⟩ := ih (by omega)
    unfold mday
    split
    · exact ⟨e, b⟩
    · next k hk =>
      have k6 := mcho_lt (by rw [e.K]; exact hK) P hk
      exact ⟨e.trans (mtry_eqF (by omega) k6), mtry_B b (by omega) k6⟩
def mnxt (rv : Option ((Nat → Int64) → Int64)) (lf : Int32) (pd : Nat → Option (Option Nat)) (dr : Int32) (S : Nat → Int32) : Nat → Int32 := upd (mday rv lf pd (mcalm dr S) S (sN S)).1 10 (nI (sD S + 1))
def moff (rv : Option ((Nat → Int64) → Int64)) (lf : Int32) (pd : Nat → Option (Option Nat)) (dr : Int32) (S : Nat → Int32) : Int32 := (mday rv lf pd (mcalm dr S) S (sN S)).2
/-- alike but for what goes on by acts -/
def eqG (S S' : Nat → Int32) : Prop := ∀ j, j < 10 ∨ 65 ≤ j → S' j = S j
theorem eqF.g {S S' : Nat → Int32} (h : eqF S S') {v : Int32} : eqG S (upd S' 10 v) := fun j hj => by rw [upd_n (by omega)]; exact h j (by omega)
theorem eqG.trans {S S' T : Nat → Int32} (h1 : eqG S S') (h2 : eqG S' T) : eqG S T := fun j hj => (h2 j hj).trans (h1 j hj)
theorem eqG.C {S S' : Nat → Int32} (h : eqG S S') : sC S' = sC S := by unfold sC; rw [h 3 (by omega)]
theorem eqG.K {S S' : Nat → Int32} (h : eqG S S') : sK S' = sK S := by unfold sK; rw [h 4 (by omega)]
theorem eqG.N {S S' : Nat → Int32} (h : eqG S S') : sN S' = sN S := by unfold sN; rw [h 5 (by omega)]
theorem eqG.W {S S' : Nat → Int32} (h : eqG S S') (W : mW S) {D : Nat} (hD : S' 10 = nI D) (hD2 : D ≤ 3000) : mW S' ∧ sD S' = D := by
  have e : sD S' = D := by unfold sD; rw [hD, nI_clamp (by omega)]
  refine ⟨?_, e⟩
  unfold mW
  rw [h.C, h.K, h.N, e, h 3 (by omega), h 4 (by omega), h 5 (by omega)]
  exact ⟨W.1, W.2.1, W.2.2.1, hD, hD2⟩
theorem mnxt_inv {rv : Option ((Nat → Int64) → Int64)} {lf : Int32} {pd : Nat → Option (Option Nat)} {dr : Int32} {S : Nat → Int32} (P : pdOk pd) (W : mW S) (B : mB S) (hD : sD S < 3000) : eqG S (mnxt rv lf pd dr S) ∧ mB (mnxt rv lf pd dr S) ∧ mW (mnxt rv lf pd dr S) ∧ sD (mnxt rv lf pd dr S) = sD S + 1 := by
  obtain ⟨e, b⟩ := mday_inv (rv := rv) (lf := lf) (c := mcalm dr S) P W.2.1.2 B (sN S) W.2.2.1.2
  have g : eqG S (mnxt rv lf pd dr S) := e.g
  obtain ⟨w1, w2⟩ := g.W W (D := sD S + 1) (by unfold mnxt; rw [upd_s]) (by omega)
  exact ⟨g, mB_upd b (by intro s hs; omega), w1, w2⟩
section
variable {h h' : jH} {m : Nat}
theorem mFor_of {rv : Option ((Nat → Int64) → Int64)} (e0 : jI h' m 21 = jI h m 21) (e2 : jI h' (m + 2) = jI h (m + 2)) (e4 : jI h' (m + 4) = jI h (m + 4)) (e5 : jI h' (m + 5) = jI h (m + 5)) (R : mFor h m rv) : mFor h' m rv := by
  cases rv with
  | none => exact e0.trans R
  | some f =>
    obtain ⟨t, ht, q, n, cd, cl, r, hf⟩ := R
    refine ⟨t, ht, e0.trans q, n, cd, cl, ?_, hf⟩
    unfold mRul at r ⊢
    rw [e2, e4, e5]
    exact r
theorem mPl_of {pd : Nat → Option (Option Nat)} (e0 : jI h' m 25 = jI h m 25) (e11 : jI h' (m + 11) = jI h (m + 11)) (P : mPl h m pd) : mPl h' m pd := by
  unfold mPl at P ⊢
  rw [e0, e11]
  exact P
theorem jwr_scM {tp : Int32} {st wd : Nat → Int64} {F : Nat → Int32} {j : Nat} {x : Int32} (hj : j ≠ 18) : jwr (mSc m h tp st wd) m (upd (upd F 18 tp) j x) = mSc m (jwr h m (upd F j x)) tp st wd := by
  have e : jur (jur (jI h) m (upd (jI h m) 18 tp)) m (upd (upd F 18 tp) j x) = jur (jur (jI h) m (upd F j x)) m (upd (jur (jI h) m (upd F j x) m) 18 tp) := by
    rw [jur_eq, upd_com (Ne.symm hj)]
    funext b
    by_cases h1 : b = m
    · subst h1; rw [jur_eq, jur_eq]
    · rw [jur_ne h1, jur_ne h1, jur_ne h1, jur_ne h1]
  show (jnx h, jsl h, jK h, jur (jur (jI h) m (upd (jI h m) 18 tp)) m (upd (upd F 18 tp) j x), _, jR h) = (jnx h, jsl h, jK h, jur (jur (jI h) m (upd F j x)) m (upd (jur (jI h) m (upd F j x) m) 18 tp), _, jR h)
  rw [e]
  rfl
end
section
variable {h : jH} {m : Nat} {d : Nat} {Q : Option Value → jH → Prop} {tp : Int32} {st wd : Nat → Int64}
theorem l199 (H : mInv h m) (W : mW (jI h (m + 10))) (B : mB (jI h (m + 10))) {rv : Option ((Nat → Int64) → Int64)} (R : mFor h m rv) {pd : Nat → Option (Option Nat)} (P : mPl h m pd) (P6 : pdOk pd) (hQ : ∀ tp st wd, Q (some (.int (moff rv (jI h m 24) pd (jI h m 23) (jI h (m + 10))))) (mSc m (jwr (jwr h (m + 10) (mnxt rv (jI h m 24) pd (jI h m 23) (jI h (m + 10)))) m (upd (jI h m) 23 (-1))) tp st wd)) : ∀ (n s : Nat) (l3 : Option Value) (tp : Int32) (st wd : Nat → Int64), s + n = sN (jI h (m + 10)) → jW (d + 5) 199 4 [some (.ref m), some (.int (mday rv (jI h m 24) pd (mcalm (jI h m 23) (jI h (m + 10))) (jI h (m + 10)) s).2), some (.int (nI s)), l3] [] (mSc m (jwr h (m + 10) (mday rv (jI h m 24) pd (mcalm (jI h m 23) (jI h (m + 10))) (jI h (m + 10)) s).1) tp st wd) Q := by
  have hm : jK h m = (32, 43) := H.1
  obtain ⟨r0, k0⟩ := H.at 9 rfl
  obtain ⟨hN, hN2⟩ := W.2.2.1
  obtain ⟨hD, hD2⟩ := W.2.2.2
  intro n
  induction n with
  | zero =>
    intro s l3 tp st wd hsn
    have e : s = sN (jI h (m + 10)) := by omega
    obtain ⟨q, -⟩ := mday_inv (rv := rv) (lf := jI h m 24) (c := mcalm (jI h m 23) (jI h (m + 10))) P6 W.2.1.2 B s (by omega)
    have hle : nI (sN (jI h (m + 10))) ≤ nI s := nI_le (by omega) (by omega)
    have hN' := (q 5 (by omega)).trans hN
    have hD' := (q 10 (by omega)).trans hD
    simp (config := { decide := true }) (disch := (first | assumption | omega | (simp (config := { decide := true }) only [hm, r0, k0, jK_sc, jK_wI, jK_wJ, jK_wR, jK_wr, jR_wr, jR_wI, jR_wJ]; done) | (simp only [hm, r0, k0, jK_sc, jK_wI, jK_wJ, jK_wR, jK_wr, jR_wr, jR_wI, jR_wJ]; refine jinb_nI ?_ ?_ <;> omega) | (refine jinb_nI ?_ ?_ <;> omega))) only [s199_4, s199_5, s199_6, s199_9, s199_10, s199_11, hN', if_pos hle, jR_sc, jK_sc, jI_sc_a, va_rf_some, va_rf_none, jK_wI, jR_wI, jJ_wI, jK_wJ, jR_wJ, jI_wJ, jK_wR, jI_wR, jJ_wR, jK_wr, jR_wr, jJ_wr, jcl1_i, jcl1_r, jcl1_z, jcl1_n, jcl1_l, jwI_row, jwr_jwr, jwr_cm, jwr_cc, upd_upd, jI_wr_s, jI_wr_a, jI_wr_b, jI_wr_c, mInv_wr, upd_s, upd_n, Option.toList, List.cons_append, List.nil_append, true_or, or_true, eq_self, and_self, ite_true, ite_false, if_true, if_false, jinb_nI, nI_clamp, tc0, tc1, tc2, tc3, tc4, tc5, tc6, tc7, tc8, tc9, tc10, tc11, tc12, tc13, tc14, tc15, tc16, tc17, tc18, tc19, tc20, tc21, tc22, tc23, tc24, tc25, tc26, tc27, tc28, tc29, tc30, tc31, tc32, tc33, tc34, tc35, tc36, tc37, tc38, tc39, tc40, tc41, tc42, tc43, tc44, tc45, tc46, tc47, tc48, tc49, tc50, tc51, tc52, tc53, tc54, tc55, tc56, tc57, tc58, tc59, tc60, tc61, tc62, tc63, tc64, tc65, tc66, tc67, tc68, tc69, tc77, tc83, tc119, tc159, tc160, nI_add, al0, ar0, ml0, mr0, al1, ar1, ml1, mr1, al2, ar2, ml2, mr2, al3, ar3, ml3, mr3, al4, ar4, ml4, mr4, al5, ar5, ml5, mr5, al6, ar6, ml6, mr6, al8, ar8, ml8, mr8, al10, ar10, ml10, mr10, al11, ar11, ml11, mr11, al12, ar12, ml12, mr12, al13, ar13, ml13, mr13, al16, ar16, ml16, mr16, al20, ar20, ml20, mr20, al24, ar24, ml24, mr24, al29, ar29, ml29, mr29, al36, ar36, ml36, mr36, al42, ar42, ml42, mr42, al48, ar48, ml48, mr48, al55, ar55, ml55, mr55, al60, ar60, ml60, mr60, al65, ar65, ml65, mr65, al77, ar77, ml77, mr77, al83, ar83, ml83, mr83, al119, ar119, ml119, mr119, al159, ar159, ml159, mr159, al160, ar160, ml160, mr160, al400, ar400, ml400, mr400, hm, r0, k0, jK_sc]
    simp (config := { decide := true }) (disch := (first | assumption | omega | (simp (config := { decide := true }) only [hm, r0, k0, jK_sc, jK_wI, jK_wJ, jK_wR, jK_wr, jR_wr, jR_wI, jR_wJ]; done) | (simp only [hm, r0, k0, jK_sc, jK_wI, jK_wJ, jK_wR, jK_wr, jR_wr, jR_wI, jR_wJ]; refine jinb_nI ?_ ?_ <;> omega) | (refine jinb_nI ?_ ?_ <;> omega))) only [s199_45, s199_46, s199_47, s199_50, s199_51, s199_54, s199_56, s199_57, s199_58, s199_59, s199_60, s199_61, s199_62, jR_sc, jK_sc, jI_sc_a, jI_sc_f, jwr_scM, jwr_scc, hD', va_rf_some, va_rf_none, jK_wI, jR_wI, jJ_wI, jK_wJ, jR_wJ, jI_wJ, jK_wR, jI_wR, jJ_wR, jK_wr, jR_wr, jJ_wr, jcl1_i, jcl1_r, jcl1_z, jcl1_n, jcl1_l, jwI_row, jwr_jwr, jwr_cm, jwr_cc, upd_upd, jI_wr_s, jI_wr_a, jI_wr_b, jI_wr_c, mInv_wr, upd_s, upd_n, Option.toList, List.cons_append, List.nil_append, true_or, or_true, eq_self, and_self, ite_true, ite_false, if_true, if_false, jinb_nI, nI_clamp, tc0, tc1, tc2, tc3, tc4, tc5, tc6, tc7, tc8, tc9, tc10, tc11, tc12, tc13, tc14, tc15, tc16, tc17, tc18, tc19, tc20, tc21, tc22, tc23, tc24, tc25, tc26, tc27, tc28, tc29, tc30, tc31, tc32, tc33, tc34, tc35, tc36, tc37, tc38, tc39, tc40, tc41, tc42, tc43, tc44, tc45, tc46, tc47, tc48, tc49, tc50, tc51, tc52, tc53, tc54, tc55, tc56, tc57, tc58, tc59, tc60, tc61, tc62, tc63, tc64, tc65, tc66, tc67, tc68, tc69, tc77, tc83, tc119, tc159, tc160, nI_add, al0, ar0, ml0, mr0, al1, ar1, ml1, mr1, al2, ar2, ml2, mr2, al3, ar3, ml3, mr3, al4, ar4, ml4, mr4, al5, ar5, ml5, mr5, al6, ar6, ml6, mr6, al8, ar8, ml8, mr8, al10, ar10, ml10, mr10, al11, ar11, ml11, mr11, al12, ar12, ml12, mr12, al13, ar13, ml13, mr13, al16, ar16, ml16, mr16, al20, ar20, ml20, mr20, al24, ar24, ml24, mr24, al29, ar29, ml29, mr29, al36, ar36, ml36, mr36, al42, ar42, ml42, mr42, al48, ar48, ml48, mr48, al55, ar55, ml55, mr55, al60, ar60, ml60, mr60, al65, ar65, ml65, mr65, al77, ar77, ml77, mr77, al83, ar83, ml83, mr83, al119, ar119, ml119, mr119, al159, ar159, ml159, mr159, al160, ar160, ml160, mr160, al400, ar400, ml400, mr400, hm, r0, k0, jK_sc]
    unfold mnxt moff at hQ
    rw [e]
    exact hQ _ _ _
  | succ n ih =>
    intro s l3 tp st wd hsn
    have hs6 : s < 6 := by omega
    obtain ⟨q, b⟩ := mday_inv (rv := rv) (lf := jI h m 24) (c := mcalm (jI h m 23) (jI h (m + 10))) P6 W.2.1.2 B s (by omega)
    have hle : ¬ nI (sN (jI h (m + 10))) ≤ nI s := nI_ge (by omega) (by omega)
    have hN' := (q 5 (by omega)).trans hN
    simp (config := { decide := true }) (disch := (first | assumption | omega | (simp (config := { decide := true }) only [hm, r0, k0, jK_sc, jK_wI, jK_wJ, jK_wR, jK_wr, jR_wr, jR_wI, jR_wJ]; done) | (simp only [hm, r0, k0, jK_sc, jK_wI, jK_wJ, jK_wR, jK_wr, jR_wr, jR_wI, jR_wJ]; refine jinb_nI ?_ ?_ <;> omega) | (refine jinb_nI ?_ ?_ <;> omega))) only [s199_4, s199_5, s199_6, s199_9, s199_10, s199_11, s199_14, s199_15, s199_16, hN', if_neg hle, jR_sc, jK_sc, jI_sc_a, va_rf_some, va_rf_none, jK_wI, jR_wI, jJ_wI, jK_wJ, jR_wJ, jI_wJ, jK_wR, jI_wR, jJ_wR, jK_wr, jR_wr, jJ_wr, jcl1_i, jcl1_r, jcl1_z, jcl1_n, jcl1_l, jwI_row, jwr_jwr, jwr_cm, jwr_cc, upd_upd, jI_wr_s, jI_wr_a, jI_wr_b, jI_wr_c, mInv_wr, upd_s, upd_n, Option.toList, List.cons_append, List.nil_append, true_or, or_true, eq_self, and_self, ite_true, ite_false, if_true, if_false, jinb_nI, nI_clamp, tc0, tc1, tc2, tc3, tc4, tc5, tc6, tc7, tc8, tc9, tc10, tc11, tc12, tc13, tc14, tc15, tc16, tc17, tc18, tc19, tc20, tc21, tc22, tc23, tc24, tc25, tc26, tc27, tc28, tc29, tc30, tc31, tc32, tc33, tc34, tc35, tc36, tc37, tc38, tc39, tc40, tc41, tc42, tc43, tc44, tc45, tc46, tc47, tc48, tc49, tc50, tc51, tc52, tc53, tc54, tc55, tc56, tc57, tc58, tc59, tc60, tc61, tc62, tc63, tc64, tc65, tc66, tc67, tc68, tc69, tc77, tc83, tc119, tc159, tc160, nI_add, al0, ar0, ml0, mr0, al1, ar1, ml1, mr1, al2, ar2, ml2, mr2, al3, ar3, ml3, mr3, al4, ar4, ml4, mr4, al5, ar5, ml5, mr5, al6, ar6, ml6, mr6, al8, ar8, ml8, mr8, al10, ar10, ml10, mr10, al11, ar11, ml11, mr11, al12, ar12, ml12, mr12, al13, ar13, ml13, mr13, al16, ar16, ml16, mr16, al20, ar20, ml20, mr20, al24, ar24, ml24, mr24, al29, ar29, ml29, mr29, al36, ar36, ml36, mr36, al42, ar42, ml42, mr42, al48, ar48, ml48, mr48, al55, ar55, ml55, mr55, al60, ar60, ml60, mr60, al65, ar65, ml65, mr65, al77, ar77, ml77, mr77, al83, ar83, ml83, mr83, al119, ar119, ml119, mr119, al159, ar159, ml159, mr159, al160, ar160, ml160, mr160, al400, ar400, ml400, mr400, hm, r0, k0, jK_sc]
    have ih' := fun l3 tp st wd => ih (s + 1) l3 tp st wd (by omega)
    have em : mday rv (jI h m 24) pd (mcalm (jI h m 23) (jI h (m + 10))) (jI h (m + 10)) (s + 1) = match mcho rv (mday rv (jI h m 24) pd (mcalm (jI h m 23) (jI h (m + 10))) (jI h (m + 10)) s).1 (mcalm (jI h m 23) (jI h (m + 10))) (jI h m 24) pd s with
      | none => mday rv (jI h m 24) pd (mcalm (jI h m 23) (jI h (m + 10))) (jI h (m + 10)) s
      | some k => (mtry (mday rv (jI h m 24) pd (mcalm (jI h m 23) (jI h (m + 10))) (jI h (m + 10)) s).1 s k (mcalm (jI h m 23) (jI h (m + 10))), if (mday rv (jI h m 24) pd (mcalm (jI h m 23) (jI h (m + 10))) (jI h (m + 10)) s).1 (29 + 6 * s + k) + (mcalm (jI h m 23) (jI h (m + 10))) < (mday rv (jI h m 24) pd (mcalm (jI h m 23) (jI h (m + 10))) (jI h (m + 10)) s).1 (77 + k) then (mday rv (jI h m 24) pd (mcalm (jI h m 23) (jI h (m + 10))) (jI h (m + 10)) s).2 else (mday rv (jI h m 24) pd (mcalm (jI h m 23) (jI h (m + 10))) (jI h (m + 10)) s).2 ||| (1 : Int32) <<< (nI s &&& 31)) := rfl
    rw [em] at ih'
    clear ih em
    have qc : mcalm (jI h m 23) (mday rv (jI h m 24) pd (mcalm (jI h m 23) (jI h (m + 10))) (jI h (m + 10)) s).1 = mcalm (jI h m 23) (jI h (m + 10)) := q.mc
    have qW := q.W W
    have qK := q.K
    have qN := q.N
    generalize mday rv (jI h m 24) pd (mcalm (jI h m 23) (jI h (m + 10))) (jI h (m + 10)) s = X at *
    have c0 := fun Q hQ => @c200 (jwr h (m + 10) X.1) m d Q tp st wd H (by rw [jI_wr_s]; exact qW) (by rw [jI_wr_s]; exact b) rv (mFor_of (by rw [jI_wr_c (by omega)]) (jI_wr_a (by omega)) (jI_wr_a (by omega)) (jI_wr_a (by omega)) R) pd (mPl_of (by rw [jI_wr_c (by omega)]) (jI_wr_a (by omega)) P) s (by rw [jI_wr_s, qN]; omega) hQ
    simp only [jI_wr_s, jI_wr_c (show 10 ≠ 0 by omega), qc] at c0
    refine c0 _ ?_
    intro tp' st' wd'
    cases ho : mcho rv X.1 (mcalm (jI h m 23) (jI h (m + 10))) (jI h m 24) pd s with
    | none =>
      simp only [ho] at ih'
      have z : oI none < 0 := by decide
      simp (config := { decide := true }) (disch := (first | assumption | omega | (simp (config := { decide := true }) only [hm, r0, k0, jK_sc, jK_wI, jK_wJ, jK_wR, jK_wr, jR_wr, jR_wI, jR_wJ]; done) | (simp only [hm, r0, k0, jK_sc, jK_wI, jK_wJ, jK_wR, jK_wr, jR_wr, jR_wI, jR_wJ]; refine jinb_nI ?_ ?_ <;> omega) | (refine jinb_nI ?_ ?_ <;> omega))) only [s199_19, s199_20, s199_21, s199_39, s199_42, if_pos z, va_rf_some, va_rf_none, jK_wI, jR_wI, jJ_wI, jK_wJ, jR_wJ, jI_wJ, jK_wR, jI_wR, jJ_wR, jK_wr, jR_wr, jJ_wr, jcl1_i, jcl1_r, jcl1_z, jcl1_n, jcl1_l, jwI_row, jwr_jwr, jwr_cm, jwr_cc, upd_upd, jI_wr_s, jI_wr_a, jI_wr_b, jI_wr_c, mInv_wr, upd_s, upd_n, Option.toList, List.cons_append, List.nil_append, true_or, or_true, eq_self, and_self, ite_true, ite_false, if_true, if_false, jinb_nI, nI_clamp, tc0, tc1, tc2, tc3, tc4, tc5, tc6, tc7, tc8, tc9, tc10, tc11, tc12, tc13, tc14, tc15, tc16, tc17, tc18, tc19, tc20, tc21, tc22, tc23, tc24, tc25, tc26, tc27, tc28, tc29, tc30, tc31, tc32, tc33, tc34, tc35, tc36, tc37, tc38, tc39, tc40, tc41, tc42, tc43, tc44, tc45, tc46, tc47, tc48, tc49, tc50, tc51, tc52, tc53, tc54, tc55, tc56, tc57, tc58, tc59, tc60, tc61, tc62, tc63, tc64, tc65, tc66, tc67, tc68, tc69, tc77, tc83, tc119, tc159, tc160, nI_add, al0, ar0, ml0, mr0, al1, ar1, ml1, mr1, al2, ar2, ml2, mr2, al3, ar3, ml3, mr3, al4, ar4, ml4, mr4, al5, ar5, ml5, mr5, al6, ar6, ml6, mr6, al8, ar8, ml8, mr8, al10, ar10, ml10, mr10, al11, ar11, ml11, mr11, al12, ar12, ml12, mr12, al13, ar13, ml13, mr13, al16, ar16, ml16, mr16, al20, ar20, ml20, mr20, al24, ar24, ml24, mr24, al29, ar29, ml29, mr29, al36, ar36, ml36, mr36, al42, ar42, ml42, mr42, al48, ar48, ml48, mr48, al55, ar55, ml55, mr55, al60, ar60, ml60, mr60, al65, ar65, ml65, mr65, al77, ar77, ml77, mr77, al83, ar83, ml83, mr83, al119, ar119, ml119, mr119, al159, ar159, ml159, mr159, al160, ar160, ml160, mr160, al400, ar400, ml400, mr400, hm, r0, k0, jK_sc]
      exact ih' _ _ _ _
    | some k =>
      simp only [ho] at ih'
      have k6 := mcho_lt (by rw [qK]; exact W.2.1.2) P6 ho
      have z : ¬ nI k < 0 := nI_pos (by omega)
      have z2 : oI (some k) = nI k := rfl
      have c1 := fun Q tp st wd => @c210s (jwr h (m + 10) X.1) m (d + 2) Q tp st wd H (by rw [jI_wr_s]; exact qW) s k hs6 k6
      simp only [jI_wr_s, jI_wr_c (show 10 ≠ 0 by omega), qc, jwr_jwr] at c1
      simp (config := { decide := true }) (disch := (first | assumption | omega | (simp (config := { decide := true }) only [hm, r0, k0, jK_sc, jK_wI, jK_wJ, jK_wR, jK_wr, jR_wr, jR_wI, jR_wJ]; done) | (simp only [hm, r0, k0, jK_sc, jK_wI, jK_wJ, jK_wR, jK_wr, jR_wr, jR_wI, jR_wJ]; refine jinb_nI ?_ ?_ <;> omega) | (refine jinb_nI ?_ ?_ <;> omega))) only [s199_19, s199_20, s199_21, s199_24, s199_25, s199_26, s199_27, if_neg z, z2, c1, jK_sc, va_rf_some, va_rf_none, jK_wI, jR_wI, jJ_wI, jK_wJ, jR_wJ, jI_wJ, jK_wR, jI_wR, jJ_wR, jK_wr, jR_wr, jJ_wr, jcl1_i, jcl1_r, jcl1_z, jcl1_n, jcl1_l, jwI_row, jwr_jwr, jwr_cm, jwr_cc, upd_upd, jI_wr_s, jI_wr_a, jI_wr_b, jI_wr_c, mInv_wr, upd_s, upd_n, Option.toList, List.cons_append, List.nil_append, true_or, or_true, eq_self, and_self, ite_true, ite_false, if_true, if_false, jinb_nI, nI_clamp, tc0, tc1, tc2, tc3, tc4, tc5, tc6, tc7, tc8, tc9, tc10, tc11, tc12, tc13, tc14, tc15, tc16, tc17, tc18, tc19, tc20, tc21, tc22, tc23, tc24, tc25, tc26, tc27, tc28, tc29, tc30, tc31, tc32, tc33, tc34, tc35, tc36, tc37, tc38, tc39, tc40, tc41, tc42, tc43, tc44, tc45, tc46, tc47, tc48, tc49, tc50, tc51, tc52, tc53, tc54, tc55, tc56, tc57, tc58, tc59, tc60, tc61, tc62, tc63, tc64, tc65, tc66, tc67, tc68, tc69, tc77, tc83, tc119, tc159, tc160, nI_add, al0, ar0, ml0, mr0, al1, ar1, ml1, mr1, al2, ar2, ml2, mr2, al3, ar3, ml3, mr3, al4, ar4, ml4, mr4, al5, ar5, ml5, mr5, al6, ar6, ml6, mr6, al8, ar8, ml8, mr8, al10, ar10, ml10, mr10, al11, ar11, ml11, mr11, al12, ar12, ml12, mr12, al13, ar13, ml13, mr13, al16, ar16, ml16, mr16, al20, ar20, ml20, mr20, al24, ar24, ml24, mr24, al29, ar29, ml29, mr29, al36, ar36, ml36, mr36, al42, ar42, ml42, mr42, al48, ar48, ml48, mr48, al55, ar55, ml55, mr55, al60, ar60, ml60, mr60, al65, ar65, ml65, mr65, al77, ar77, ml77, mr77, al83, ar83, ml83, mr83, al119, ar119, ml119, mr119, al159, ar159, ml159, mr159, al160, ar160, ml160, mr160, al400, ar400, ml400, mr400, hm, r0, k0, jK_sc]
      by_cases hof : X.1 (29 + 6 * s + k) + mcalm (jI h m 23) (jI h (m + 10)) < X.1 (77 + k)
      · simp only [if_pos hof] at ih' ⊢
        simp (config := { decide := true }) (disch := (first | assumption | omega | (simp (config := { decide := true }) only [hm, r0, k0, jK_sc, jK_wI, jK_wJ, jK_wR, jK_wr, jR_wr, jR_wI, jR_wJ]; done) | (simp only [hm, r0, k0, jK_sc, jK_wI, jK_wJ, jK_wR, jK_wr, jR_wr, jR_wI, jR_wJ]; refine jinb_nI ?_ ?_ <;> omega) | (refine jinb_nI ?_ ?_ <;> omega))) only [s199_30, s199_39, s199_42, va_rf_some, va_rf_none, jK_wI, jR_wI, jJ_wI, jK_wJ, jR_wJ, jI_wJ, jK_wR, jI_wR, jJ_wR, jK_wr, jR_wr, jJ_wr, jcl1_i, jcl1_r, jcl1_z, jcl1_n, jcl1_l, jwI_row, jwr_jwr, jwr_cm, jwr_cc, upd_upd, jI_wr_s, jI_wr_a, jI_wr_b, jI_wr_c, mInv_wr, upd_s, upd_n, Option.toList, List.cons_append, List.nil_append, true_or, or_true, eq_self, and_self, ite_true, ite_false, if_true, if_false, jinb_nI, nI_clamp, tc0, tc1, tc2, tc3, tc4, tc5, tc6, tc7, tc8, tc9, tc10, tc11, tc12, tc13, tc14, tc15, tc16, tc17, tc18, tc19, tc20, tc21, tc22, tc23, tc24, tc25, tc26, tc27, tc28, tc29, tc30, tc31, tc32, tc33, tc34, tc35, tc36, tc37, tc38, tc39, tc40, tc41, tc42, tc43, tc44, tc45, tc46, tc47, tc48, tc49, tc50, tc51, tc52, tc53, tc54, tc55, tc56, tc57, tc58, tc59, tc60, tc61, tc62, tc63, tc64, tc65, tc66, tc67, tc68, tc69, tc77, tc83, tc119, tc159, tc160, nI_add, al0, ar0, ml0, mr0, al1, ar1, ml1, mr1, al2, ar2, ml2, mr2, al3, ar3, ml3, mr3, al4, ar4, ml4, mr4, al5, ar5, ml5, mr5, al6, ar6, ml6, mr6, al8, ar8, ml8, mr8, al10, ar10, ml10, mr10, al11, ar11, ml11, mr11, al12, ar12, ml12, mr12, al13, ar13, ml13, mr13, al16, ar16, ml16, mr16, al20, ar20, ml20, mr20, al24, ar24, ml24, mr24, al29, ar29, ml29, mr29, al36, ar36, ml36, mr36, al42, ar42, ml42, mr42, al48, ar48, ml48, mr48, al55, ar55, ml55, mr55, al60, ar60, ml60, mr60, al65, ar65, ml65, mr65, al77, ar77, ml77, mr77, al83, ar83, ml83, mr83, al119, ar119, ml119, mr119, al159, ar159, ml159, mr159, al160, ar160, ml160, mr160, al400, ar400, ml400, mr400, hm, r0, k0, jK_sc]
        exact ih' _ _ _ _
      · simp only [if_neg hof] at ih' ⊢
        simp (config := { decide := true }) (disch := (first | assumption | omega | (simp (config := { decide := true }) only [hm, r0, k0, jK_sc, jK_wI, jK_wJ, jK_wR, jK_wr, jR_wr, jR_wI, jR_wJ]; done) | (simp only [hm, r0, k0, jK_sc, jK_wI, jK_wJ, jK_wR, jK_wr, jR_wr, jR_wI, jR_wJ]; refine jinb_nI ?_ ?_ <;> omega) | (refine jinb_nI ?_ ?_ <;> omega))) only [s199_30, s199_33, s199_34, s199_35, s199_36, s199_37, s199_38, s199_39, s199_42, va_rf_some, va_rf_none, jK_wI, jR_wI, jJ_wI, jK_wJ, jR_wJ, jI_wJ, jK_wR, jI_wR, jJ_wR, jK_wr, jR_wr, jJ_wr, jcl1_i, jcl1_r, jcl1_z, jcl1_n, jcl1_l, jwI_row, jwr_jwr, jwr_cm, jwr_cc, upd_upd, jI_wr_s, jI_wr_a, jI_wr_b, jI_wr_c, mInv_wr, upd_s, upd_n, Option.toList, List.cons_append, List.nil_append, true_or, or_true, eq_self, and_self, ite_true, ite_false, if_true, if_false, jinb_nI, nI_clamp, tc0, tc1, tc2, tc3, tc4, tc5, tc6, tc7, tc8, tc9, tc10, tc11, tc12, tc13, tc14, tc15, tc16, tc17, tc18, tc19, tc20, tc21, tc22, tc23, tc24, tc25, tc26, tc27, tc28, tc29, tc30, tc31, tc32, tc33, tc34, tc35, tc36, tc37, tc38, tc39, tc40, tc41, tc42, tc43, tc44, tc45, tc46, tc47, tc48, tc49, tc50, tc51, tc52, tc53, tc54, tc55, tc56, tc57, tc58, tc59, tc60, tc61, tc62, tc63, tc64, tc65, tc66, tc67, tc68, tc69, tc77, tc83, tc119, tc159, tc160, nI_add, al0, ar0, ml0, mr0, al1, ar1, ml1, mr1, al2, ar2, ml2, mr2, al3, ar3, ml3, mr3, al4, ar4, ml4, mr4, al5, ar5, ml5, mr5, al6, ar6, ml6, mr6, al8, ar8, ml8, mr8, al10, ar10, ml10, mr10, al11, ar11, ml11, mr11, al12, ar12, ml12, mr12, al13, ar13, ml13, mr13, al16, ar16, ml16, mr16, al20, ar20, ml20, mr20, al24, ar24, ml24, mr24, al29, ar29, ml29, mr29, al36, ar36, ml36, mr36, al42, ar42, ml42, mr42, al48, ar48, ml48, mr48, al55, ar55, ml55, mr55, al60, ar60, ml60, mr60, al65, ar65, ml65, mr65, al77, ar77, ml77, mr77, al83, ar83, ml83, mr83, al119, ar119, ml119, mr119, al159, ar159, ml159, mr159, al160, ar160, ml160, mr160, al400, ar400, ml400, mr400, hm, r0, k0, jK_sc]
        exact ih' _ _ _ _
/-- passes -/
theorem c199 (H : mInv h m) (W : mW (jI h (m + 10))) (B : mB (jI h (m + 10))) {rv : Option ((Nat → Int64) → Int64)} (R : mFor h m rv) {pd : Nat → Option (Option Nat)} (P : mPl h m pd) (P6 : pdOk pd) (hQ : ∀ tp st wd, Q (some (.int (moff rv (jI h m 24) pd (jI h m 23) (jI h (m + 10))))) (mSc m (jwr (jwr h (m + 10) (mnxt rv (jI h m 24) pd (jI h m 23) (jI h (m + 10)))) m (upd (jI h m) 23 (-1))) tp st wd)) : jC (d + 6) 199 [.ref m] (mSc m h tp st wd) Q := by
  rw [e199]
  simp only [s199_0, s199_1, s199_2, s199_3, va_rf_some, va_rf_none, jK_wI, jR_wI, jJ_wI, jK_wJ, jR_wJ, jI_wJ, jK_wR, jI_wR, jJ_wR, jK_wr, jR_wr, jJ_wr, jcl1_i, jcl1_r, jcl1_z, jcl1_n, jcl1_l, jwI_row, jwr_jwr, jwr_cm, jwr_cc, upd_upd, jI_wr_s, jI_wr_a, jI_wr_b, jI_wr_c, mInv_wr, upd_s, upd_n, Option.toList, List.cons_append, List.nil_append, true_or, or_true, eq_self, and_self, ite_true, ite_false, if_true, if_false]
  have := l199 (d := d) H W B R P P6 hQ (sN (jI h (m + 10))) 0 none tp st wd (by omega)
  unfold mday at this
  rw [jwr_self] at this
  exact this
end
