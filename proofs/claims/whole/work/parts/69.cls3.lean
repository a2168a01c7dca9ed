/-! THE CLASS: days that go on: what stays, the words told, the choice of a kind -/
/-- what stays but for a row of cells, longs and references too -/
def frg (lo hi : Nat) (h h' : jH) : Prop := (jnx h' = jnx h ∧ jsl h' = jsl h ∧ jK h' = jK h) ∧ ∀ a, (a < lo ∨ hi ≤ a) → jI h' a = jI h a ∧ jJ h' a = jJ h a ∧ jR h' a = jR h a
/-- no more scouts, no more kinds have anything; numbers in their bounds -/
def zS (S : Nat → Int32) : Prop := (∀ s, s < 6 → sN S ≤ s → S (11 + 3 * s) = 0 ∧ S (11 + 3 * s + 1) = 0) ∧ (∀ s k, s < 6 → k < 6 → sK S ≤ k → S (29 + 6 * s + k) = 0) ∧ ∀ s, s < 6 → sB S s < 2 ^ sK S
def hS (S : Nat → Int32) : Prop := (∀ k, k < 6 → ∃ v, v ≤ 30 ∧ S (77 + k) = nI v) ∧ (∃ l, l ≤ 9 ∧ S 1 = nI l) ∧ ∀ j, j < 36 → ∃ v, v ≤ 50 ∧ S (29 + j) = nI v
def oS (S : Nat → Int32) : Prop := mW S ∧ mB S ∧ zS S ∧ hS S
def crI (h : jH) (q : Nat) : Prop := jK h q = (21, 8) ∧ jR h q 0 = some (q + 1) ∧ (jR h q 1 = some (q + 6) ∧ jK h (q + 6) = (4, 12)) ∧ (jR h q 2 = some (q + 7) ∧ jK h (q + 7) = (4, 64)) ∧ stI h (q + 1)
def crs (h : jH) (q c : Nat) (rr : Option Nat) (S : Nat → Int32) : Prop := crI h q ∧ jR h q 3 = some c ∧ jR h q 4 = rr ∧ jI h q 5 = S 1 ∧ cmI h c ∧ cmV h c S ∧ stV h (q + 1) S ∧ (c + 4 ≤ q ∨ q + 8 ≤ c)
def rvI (h : jH) (q : Nat) : Option Nat → Option ((Nat → Int64) → Int64) → Prop
  | none, none => True
  | some r, some f => xRl h r f ∧ (r + 4 ≤ q ∨ q + 8 ≤ r)
  | none, some _ => False
  | some _, none => False
section
variable {h h1 h2 : jH} {lo hi a p c q r : Nat} {f : Nat → Int32} {S S' : Nat → Int32}
theorem frg_refl : frg lo hi h h := ⟨⟨rfl, rfl, rfl⟩, fun _ _ => ⟨rfl, rfl, rfl⟩⟩
theorem frg_trans (F : frg lo hi h h1) (G : frg lo hi h1 h2) : frg lo hi h h2 := by
  obtain ⟨⟨f1, f2, f3⟩, f6⟩ := F
  obtain ⟨⟨g1, g2, g3⟩, g6⟩ := G
  refine ⟨⟨g1.trans f1, g2.trans f2, g3.trans f3⟩, fun a ha => ?_⟩
  obtain ⟨a1, a2, a3⟩ := f6 a ha
  obtain ⟨b1, b2, b3⟩ := g6 a ha
  exact ⟨b1.trans a1, b2.trans a2, b3.trans a3⟩
theorem frg_frm {lo' hi' : Nat} (F : frm lo hi h h1) (h1' : lo' ≤ lo) (h2' : hi ≤ hi') : frg lo' hi' h h1 := ⟨⟨F.1.1, F.1.2.1, F.1.2.2.1⟩, fun a ha => ⟨F.2 a (by omega), by rw [F.1.2.2.2.2], by rw [F.1.2.2.2.1]⟩⟩
theorem frg_wid {lo' hi' : Nat} (F : frg lo hi h h1) (h1' : lo' ≤ lo) (h2' : hi ≤ hi') : frg lo' hi' h h1 := ⟨F.1, fun a ha => F.2 a (by omega)⟩
theorem frg_wr (h1a : lo ≤ a) (h2a : a < hi) (F : frg lo hi h h1) : frg lo hi h (jwr h1 a f) := ⟨F.1, fun b hb => by rw [jI_wr_n (by omega)]; exact F.2 b hb⟩
theorem frg_wj {g : Nat → Int64} (h1a : lo ≤ a) (h2a : a < hi) (F : frg lo hi h h1) : frg lo hi h (jwj h1 a g) := ⟨F.1, fun b hb => by rw [jJ_wj_n (by omega)]; exact F.2 b hb⟩
theorem frg_st (F : frg lo hi h h1) (hd : p + 5 ≤ lo ∨ hi ≤ p) (H : stI h p) : stI h1 p := by
  unfold stI at *
  rw [F.1.2.2, (F.2 p (by omega)).2.2]
  exact H
theorem frg_cm (F : frg lo hi h h1) (hd : c + 4 ≤ lo ∨ hi ≤ c) (H : cmI h c) : cmI h1 c := by
  unfold cmI at *
  rw [F.1.2.2, (F.2 c (by omega)).2.2]
  exact H
theorem frg_cmV (F : frg lo hi h h1) (hd : c + 4 ≤ lo ∨ hi ≤ c) (H : cmV h c S) : cmV h1 c S := by
  unfold cmV at *
  rw [(F.2 c (by omega)).1, (F.2 (c + 1) (by omega)).1, (F.2 (c + 2) (by omega)).1]
  exact H
theorem frg_cmT (F : frg lo hi h h1) (hd : c + 4 ≤ lo ∨ hi ≤ c) (H : cmT h c S) : cmT h1 c S := by
  unfold cmT at *
  rw [(F.2 c (by omega)).1, (F.2 (c + 3) (by omega)).1]
  exact H
theorem frg_stV (F : frg lo hi h h1) (hd : p + 5 ≤ lo ∨ hi ≤ p) (H : stV h p S) : stV h1 p S := by
  unfold stV stV1 at *
  rw [(F.2 p (by omega)).1, (F.2 (p + 1) (by omega)).1, (F.2 (p + 2) (by omega)).1, (F.2 (p + 3) (by omega)).1, (F.2 (p + 4) (by omega)).1]
  exact H
theorem frg_xRl {g : (Nat → Int64) → Int64} (F : frg lo hi h h1) (hd : r + 4 ≤ lo ∨ hi ≤ r) (H : xRl h r g) : xRl h1 r g := by
  unfold xRl xRul at *
  rw [F.1.2.2, (F.2 r (by omega)).1, (F.2 r (by omega)).2.2, (F.2 (r + 1) (by omega)).1, (F.2 (r + 2) (by omega)).1, (F.2 (r + 3) (by omega)).1]
  exact H
theorem frg_rvI {rr : Option Nat} {rv : Option ((Nat → Int64) → Int64)} (F : frg q (q + 8) h h1) (H : rvI h q rr rv) : rvI h1 q rr rv := by
  cases rr with
  | none =>
    cases rv with
    | none => trivial
    | some g => exact H
  | some r =>
    cases rv with
    | none => exact H
    | some g => exact ⟨frg_xRl F H.2 H.1, H.2⟩
theorem crI_fr (F : frm (q + 1) (q + 6) h h1) (H : crI h q) : crI h1 q := by
  unfold crI stI at *
  rw [F.1.2.2.1, F.1.2.2.2.1]
  exact H
theorem crs_fr {rr : Option Nat} (F : frm (q + 1) (q + 6) h h1) (e : eqG S S') (V : stV h1 (q + 1) S') (H : crs h q c rr S) : crs h1 q c rr S' := by
  obtain ⟨a1, a2, a3, a4, a5, a6, a7, a8⟩ := H
  exact ⟨crI_fr F a1, by rw [F.1.2.2.2.1]; exact a2, by rw [F.1.2.2.2.1]; exact a3, by rw [F.2 q (by omega), e 1 (by omega)]; exact a4, frm_cm F a5, cmV_G e (frm_cmV F (by omega) a6), V, a8⟩
theorem eqF_G (e : eqF S S') : eqG S S' := fun j hj => e j (by omega)
theorem moth_z {s k : Nat} (Z : zS S) (hN : sN S ≤ 6) : moth S s k 6 = moth S s k (sN S) := by
  have : ∀ n, sN S + n ≤ 6 → moth S s k (sN S + n) = moth S s k (sN S) := by
    intro n
    induction n with
    | zero => intro _; rfl
    | succ n ih =>
      intro hn
      have z := (Z.1 (sN S + n) (by omega) (by omega)).1
      have hb : hasB S (sN S + n) k = false := by
        unfold hasB
        rw [z]
        have : ∀ y : Int32, (0 : Int32) >>> y &&& 1 = 0 := fun y => by simp
        rw [this]
        decide
      show moth S s k (sN S + n) + (if sN S + n ≠ s ∧ hasB S (sN S + n) k = true then 1 else 0) = _
      rw [hb, ih (by omega), if_neg (by simp), Nat.add_zero]
  have h6 := this (6 - sN S) (by omega)
  rw [Nat.add_sub_cancel' hN] at h6
  exact h6
end
section
variable {h : jH} {c p q r : Nat} {d : Nat} {Q : Option Value → jH → Prop} {S : Nat → Int32} {rr : Option Nat}
/-- setUp -/
theorem k11 (H : crI h q) (Hc : cmI h c) (hQ : ∀ h', frg q (q + 8) h h' → jI h' q = upd (upd (upd (jI h q) 5 (jI h c 1)) 6 0) 7 (-1) → (∀ a, a ≠ q → jI h' a = jI h a ∧ jR h' a = jR h a) → (∀ j, j ≠ 3 → j ≠ 4 → jR h' q j = jR h q j) → jR h' q 3 = some c → jR h' q 4 = rr → Q none h') : jC (d + 1) 11 [.ref q, .ref c, va_rf rr] h Q := by
  have hq := H.1
  have hc := Hc.1
  have key : jC (d + 1) 11 [.ref q, .ref c, va_rf rr] h Q ↔ Q none (jwI (jwI (jwI (jwR (jwR h q 3 (some c)) q 4 rr) q 5 (jI h c 1)) q 6 0) q 7 (-1)) := by
    cases rr with
    | none =>
      rw [va_rf_none, e11N]
      simp (config := { decide := true }) (disch := (simp only [jK_wR, jK_wI, hq, hc])) only [s11_0, s11_1, s11_1N, s11_2, s11_2N, s11_5, s11_6, s11_6N, s11_7, s11_7N, s11_10, s11_11, s11_11N, s11_12, s11_15, s11_18, s11_19, s11_20, s11_23, s11_24, s11_25, s11_28, jI_wR]
    | some r =>
      rw [va_rf_some, e11]
      simp (config := { decide := true }) (disch := (simp only [jK_wR, jK_wI, hq, hc])) only [s11_0, s11_1, s11_1N, s11_2, s11_2N, s11_5, s11_6, s11_6N, s11_7, s11_7N, s11_10, s11_11, s11_11N, s11_12, s11_15, s11_18, s11_19, s11_20, s11_23, s11_24, s11_25, s11_28, jI_wR]
  rw [key]
  have eR : ∀ a, jR (jwI (jwI (jwI (jwR (jwR h q 3 (some c)) q 4 rr) q 5 (jI h c 1)) q 6 0) q 7 (-1)) a = jup (jup (jR h) q 3 (some c)) q 4 rr a := fun a => rfl
  have eI : jI (jwI (jwI (jwI (jwR (jwR h q 3 (some c)) q 4 rr) q 5 (jI h c 1)) q 6 0) q 7 (-1)) = jup (jup (jup (jI h) q 5 (jI h c 1)) q 6 0) q 7 (-1) := rfl
  refine hQ _ ⟨⟨rfl, rfl, rfl⟩, fun a ha => ⟨?_, rfl, ?_⟩⟩ ?_ (fun a ha => ⟨?_, ?_⟩) (fun j h3 h4 => ?_) ?_ ?_
  · rw [eI, jup_ne (by omega), jup_ne (by omega), jup_ne (by omega)]
  · rw [eR, jup_ne (by omega), jup_ne (by omega)]
  · rw [eI, jup_eq, jup_eq, jup_eq]
  · rw [eI, jup_ne ha, jup_ne ha, jup_ne ha]
  · rw [eR, jup_ne ha, jup_ne ha]
  · rw [eR, jup_eqR, jup_eqR]
    unfold va_up
    rw [if_neg h4, if_neg h3]
  · rw [eR, jup_eqR, jup_eqR]
    unfold va_up
    rw [if_neg (by decide), if_pos rfl]
  · rw [eR, jup_eqR]
    unfold va_up
    rw [if_pos rfl]
theorem crs_set {h' : jH} (H : crI h q) (Hc : cmI h c) (C : cmV h c S) (V : stV h (q + 1) S) (hl : jI h c 1 = S 1) (hdc : c + 4 ≤ q ∨ q + 8 ≤ c) (F : frg q (q + 8) h h') (f1 : jI h' q = upd (upd (upd (jI h q) 5 (jI h c 1)) 6 0) 7 (-1)) (f2 : ∀ a, a ≠ q → jI h' a = jI h a ∧ jR h' a = jR h a) (f3 : ∀ j, j ≠ 3 → j ≠ 4 → jR h' q j = jR h q j) (f4 : jR h' q 3 = some c) (f5 : jR h' q 4 = rr) : crs h' q c rr S ∧ jI h' q 6 = 0 ∧ jI h' q 7 = -1 := by
  obtain ⟨a1, a2, a3, a4, a5⟩ := H
  refine ⟨⟨⟨?_, ?_, ?_, ?_, ?_⟩, f4, f5, ?_, frg_cm F hdc Hc, frg_cmV F hdc C, ?_, hdc⟩, ?_, ?_⟩
  · rw [F.1.2.2]; exact a1
  · rw [f3 _ (by decide) (by decide)]; exact a2
  · rw [F.1.2.2, f3 _ (by decide) (by decide)]; exact a3
  · rw [F.1.2.2, f3 _ (by decide) (by decide)]; exact a4
  · unfold stI at *
    rw [F.1.2.2, (f2 (q + 1) (by omega)).2]
    exact a5
  · rw [f1, upd_n (by decide), upd_n (by decide), upd_s]
    exact hl
  · unfold stV stV1 at *
    rw [(f2 (q + 1) (by omega)).1, (f2 (q + 1 + 1) (by omega)).1, (f2 (q + 1 + 2) (by omega)).1, (f2 (q + 1 + 3) (by omega)).1, (f2 (q + 1 + 4) (by omega)).1]
    exact V
  · rw [f1, upd_n (by decide), upd_s]
  · rw [f1, upd_s]
/-- startFrom -/
theorem kk10 (H : crI h q) (Hp : stI h p) (V : stV h p S) (hdp : p + 5 ≤ q ∨ q + 8 ≤ p) (Hc : cmI h c) (C : cmV h c S) (hl : jI h c 1 = S 1) (hdc : c + 4 ≤ q ∨ q + 8 ≤ c) (hQ : ∀ h', frg q (q + 8) h h' → crs h' q c rr S → jI h' q 6 = 0 → jI h' q 7 = -1 → Q none h') : jC (d + 2) 10 [.ref q, .ref p, .ref c, va_rf rr] h Q := by
  have hq := H.1
  have r0 := H.2.1
  have hs1 := H.2.2.2.2
  have hk1 : jK h (q + 1) = (29, 5) := hs1.1
  have go : ∀ lv, (lv = some (va_rf rr)) → jW (d + 1) 10 0 [some (.ref q), some (.ref p), some (.ref c), lv] [] h Q := by
    intro lv hlv
    subst hlv
    simp (config := { decide := true }) (disch := (first | assumption | omega | (simp (config := { decide := true }) only [hq, r0, hk1, jK_wI, jK_wJ, jK_wR, jK_wr, jR_wr, jR_wI, jR_wJ, jK_wj, jR_wj, stI_wr, cmI_wr, stI_wj, cmI_wj]; done) | (simp only [hq, r0, hk1, jK_wI, jK_wJ, jK_wR, jK_wr, jR_wr, jR_wI, jR_wJ, jK_wj, jR_wj, stI_wr, cmI_wr, stI_wj, cmI_wj]; refine jinb_nI ?_ ?_ <;> omega) | (refine jinb_nI ?_ ?_ <;> omega) | (simp only [stI_wr, cmI_wr, stI_wj, cmI_wj]; assumption))) only [s10_0, s10_1, s10_4, s10_4N, s10_5, va_rf_some, va_rf_none, jK_wI, jR_wI, jJ_wI, jK_wJ, jR_wJ, jI_wJ, jK_wR, jI_wR, jJ_wR, jK_wr, jR_wr, jJ_wr, jcl1_i, jcl1_r, jcl1_z, jcl1_n, jcl1_l, jwI_row, jwr_jwr, jwr_cm, jwr_cc, upd_upd, jI_wr_s, jI_wr_a, jI_wr_b, jI_wr_c, mInv_wr, upd_s, upd_n, Option.toList, List.cons_append, List.nil_append, true_or, or_true, eq_self, and_self, ite_true, ite_false, if_true, if_false, jK_wj, jR_wj, jI_wj, jwJ_row, jwj_jwj, jJ_wj_s, jJ_wj_n, jI_wr_n, jinb_nI, nI_clamp, tc0, tc1, tc2, tc3, tc4, tc5, tc6, tc7, tc8, tc9, tc10, tc11, tc12, tc13, tc14, tc15, tc16, tc17, tc18, tc19, tc20, tc21, tc22, tc23, tc24, tc25, tc26, tc27, tc28, tc29, tc30, tc31, tc32, tc33, tc34, tc35, tc36, tc37, tc38, tc39, tc40, tc41, tc42, tc43, tc44, tc45, tc46, tc47, tc48, tc49, tc50, tc51, tc52, tc53, tc54, tc55, tc56, tc57, tc58, tc59, tc60, tc61, tc62, tc63, tc64, tc65, tc66, tc67, tc68, tc69, tc77, tc83, tc119, tc159, tc160, nI_add, al0, ar0, ml0, mr0, al1, ar1, ml1, mr1, al2, ar2, ml2, mr2, al3, ar3, ml3, mr3, al4, ar4, ml4, mr4, al5, ar5, ml5, mr5, al6, ar6, ml6, mr6, al8, ar8, ml8, mr8, al10, ar10, ml10, mr10, al11, ar11, ml11, mr11, al12, ar12, ml12, mr12, al13, ar13, ml13, mr13, al16, ar16, ml16, mr16, al20, ar20, ml20, mr20, al24, ar24, ml24, mr24, al29, ar29, ml29, mr29, al36, ar36, ml36, mr36, al42, ar42, ml42, mr42, al48, ar48, ml48, mr48, al55, ar55, ml55, mr55, al60, ar60, ml60, mr60, al65, ar65, ml65, mr65, al77, ar77, ml77, mr77, al83, ar83, ml83, mr83, al119, ar119, ml119, mr119, al159, ar159, ml159, mr159, al160, ar160, ml160, mr160, al400, ar400, ml400, mr400, hq, r0, hk1]
    refine k88 hs1 Hp (by omega) V (fun h1 F1 V1 => ?_)
    have H1 : crI h1 q := crI_fr (by exact F1) H
    have hq1 := H1.1
    have Hc1 := frm_cm F1 Hc
    have C1 := frm_cmV F1 (by omega) C
    have l1 : jI h1 c 1 = S 1 := by rw [F1.2 c (by omega)]; exact hl
    have go2 : jC (d + 1) 11 [.ref q, .ref c, va_rf rr] h1 (fun r h' => jW (d + 1) 10 14 [some (.ref q), some (.ref p), some (.ref c), some (va_rf rr)] (r.toList ++ []) h' Q) := by
      refine k11 H1 Hc1 (fun h2 F2 f1 f2 f3 f4 f5 => ?_)
      simp only [Option.toList, List.nil_append]
      rw [s10_14]
      obtain ⟨c1, c2, c3⟩ := crs_set H1 Hc1 C1 V1 l1 hdc F2 f1 f2 f3 f4 f5
      exact hQ h2 (frg_trans (frg_frm F1 (by omega) (by omega)) F2) c1 c2 c3
    simp only [Option.toList, List.nil_append]
    cases rr with
    | none =>
      simp (config := { decide := true }) (disch := (first | assumption | omega | (simp (config := { decide := true }) only [hq1, jK_wI, jK_wJ, jK_wR, jK_wr, jR_wr, jR_wI, jR_wJ, jK_wj, jR_wj, stI_wr, cmI_wr, stI_wj, cmI_wj]; done) | (simp only [hq1, jK_wI, jK_wJ, jK_wR, jK_wr, jR_wr, jR_wI, jR_wJ, jK_wj, jR_wj, stI_wr, cmI_wr, stI_wj, cmI_wj]; refine jinb_nI ?_ ?_ <;> omega) | (refine jinb_nI ?_ ?_ <;> omega) | (simp only [stI_wr, cmI_wr, stI_wj, cmI_wj]; assumption))) only [s10_8, s10_9, s10_9N, s10_10, s10_10N, s10_11, va_rf_some, va_rf_none, jK_wI, jR_wI, jJ_wI, jK_wJ, jR_wJ, jI_wJ, jK_wR, jI_wR, jJ_wR, jK_wr, jR_wr, jJ_wr, jcl1_i, jcl1_r, jcl1_z, jcl1_n, jcl1_l, jwI_row, jwr_jwr, jwr_cm, jwr_cc, upd_upd, jI_wr_s, jI_wr_a, jI_wr_b, jI_wr_c, mInv_wr, upd_s, upd_n, Option.toList, List.cons_append, List.nil_append, true_or, or_true, eq_self, and_self, ite_true, ite_false, if_true, if_false, jK_wj, jR_wj, jI_wj, jwJ_row, jwj_jwj, jJ_wj_s, jJ_wj_n, jI_wr_n, jinb_nI, nI_clamp, tc0, tc1, tc2, tc3, tc4, tc5, tc6, tc7, tc8, tc9, tc10, tc11, tc12, tc13, tc14, tc15, tc16, tc17, tc18, tc19, tc20, tc21, tc22, tc23, tc24, tc25, tc26, tc27, tc28, tc29, tc30, tc31, tc32, tc33, tc34, tc35, tc36, tc37, tc38, tc39, tc40, tc41, tc42, tc43, tc44, tc45, tc46, tc47, tc48, tc49, tc50, tc51, tc52, tc53, tc54, tc55, tc56, tc57, tc58, tc59, tc60, tc61, tc62, tc63, tc64, tc65, tc66, tc67, tc68, tc69, tc77, tc83, tc119, tc159, tc160, nI_add, al0, ar0, ml0, mr0, al1, ar1, ml1, mr1, al2, ar2, ml2, mr2, al3, ar3, ml3, mr3, al4, ar4, ml4, mr4, al5, ar5, ml5, mr5, al6, ar6, ml6, mr6, al8, ar8, ml8, mr8, al10, ar10, ml10, mr10, al11, ar11, ml11, mr11, al12, ar12, ml12, mr12, al13, ar13, ml13, mr13, al16, ar16, ml16, mr16, al20, ar20, ml20, mr20, al24, ar24, ml24, mr24, al29, ar29, ml29, mr29, al36, ar36, ml36, mr36, al42, ar42, ml42, mr42, al48, ar48, ml48, mr48, al55, ar55, ml55, mr55, al60, ar60, ml60, mr60, al65, ar65, ml65, mr65, al77, ar77, ml77, mr77, al83, ar83, ml83, mr83, al119, ar119, ml119, mr119, al159, ar159, ml159, mr159, al160, ar160, ml160, mr160, al400, ar400, ml400, mr400, hq1]
      exact go2
    | some r =>
      simp (config := { decide := true }) (disch := (first | assumption | omega | (simp (config := { decide := true }) only [hq1, jK_wI, jK_wJ, jK_wR, jK_wr, jR_wr, jR_wI, jR_wJ, jK_wj, jR_wj, stI_wr, cmI_wr, stI_wj, cmI_wj]; done) | (simp only [hq1, jK_wI, jK_wJ, jK_wR, jK_wr, jR_wr, jR_wI, jR_wJ, jK_wj, jR_wj, stI_wr, cmI_wr, stI_wj, cmI_wj]; refine jinb_nI ?_ ?_ <;> omega) | (refine jinb_nI ?_ ?_ <;> omega) | (simp only [stI_wr, cmI_wr, stI_wj, cmI_wj]; assumption))) only [s10_8, s10_9, s10_9N, s10_10, s10_10N, s10_11, va_rf_some, va_rf_none, jK_wI, jR_wI, jJ_wI, jK_wJ, jR_wJ, jI_wJ, jK_wR, jI_wR, jJ_wR, jK_wr, jR_wr, jJ_wr, jcl1_i, jcl1_r, jcl1_z, jcl1_n, jcl1_l, jwI_row, jwr_jwr, jwr_cm, jwr_cc, upd_upd, jI_wr_s, jI_wr_a, jI_wr_b, jI_wr_c, mInv_wr, upd_s, upd_n, Option.toList, List.cons_append, List.nil_append, true_or, or_true, eq_self, and_self, ite_true, ite_false, if_true, if_false, jK_wj, jR_wj, jI_wj, jwJ_row, jwj_jwj, jJ_wj_s, jJ_wj_n, jI_wr_n, jinb_nI, nI_clamp, tc0, tc1, tc2, tc3, tc4, tc5, tc6, tc7, tc8, tc9, tc10, tc11, tc12, tc13, tc14, tc15, tc16, tc17, tc18, tc19, tc20, tc21, tc22, tc23, tc24, tc25, tc26, tc27, tc28, tc29, tc30, tc31, tc32, tc33, tc34, tc35, tc36, tc37, tc38, tc39, tc40, tc41, tc42, tc43, tc44, tc45, tc46, tc47, tc48, tc49, tc50, tc51, tc52, tc53, tc54, tc55, tc56, tc57, tc58, tc59, tc60, tc61, tc62, tc63, tc64, tc65, tc66, tc67, tc68, tc69, tc77, tc83, tc119, tc159, tc160, nI_add, al0, ar0, ml0, mr0, al1, ar1, ml1, mr1, al2, ar2, ml2, mr2, al3, ar3, ml3, mr3, al4, ar4, ml4, mr4, al5, ar5, ml5, mr5, al6, ar6, ml6, mr6, al8, ar8, ml8, mr8, al10, ar10, ml10, mr10, al11, ar11, ml11, mr11, al12, ar12, ml12, mr12, al13, ar13, ml13, mr13, al16, ar16, ml16, mr16, al20, ar20, ml20, mr20, al24, ar24, ml24, mr24, al29, ar29, ml29, mr29, al36, ar36, ml36, mr36, al42, ar42, ml42, mr42, al48, ar48, ml48, mr48, al55, ar55, ml55, mr55, al60, ar60, ml60, mr60, al65, ar65, ml65, mr65, al77, ar77, ml77, mr77, al83, ar83, ml83, mr83, al119, ar119, ml119, mr119, al159, ar159, ml159, mr159, al160, ar160, ml160, mr160, al400, ar400, ml400, mr400, hq1]
      exact go2
  cases rr with
  | none =>
    rw [va_rf_none, e10N]
    exact go _ rfl
  | some r =>
    rw [va_rf_some, e10]
    exact go _ rfl
theorem mBeg_G : eqG S (mBeg S) := by
  intro j hj
  unfold mBeg
  rw [jput_out (by omega), jput_out (by omega), upd_n (by omega)]
/-- startAsTold -/
theorem k19 (H : crI h q) (Hc : cmI h c) (C : cmV h c S) (T : cmT h c S) (hdc : c + 4 ≤ q ∨ q + 8 ≤ c) (hQ : ∀ h', frg q (q + 8) h h' → crs h' q c rr (mBeg S) → jI h' q 6 = 0 → jI h' q 7 = -1 → Q none h') : jC (d + 3) 19 [.ref q, .ref c, va_rf rr] h Q := by
  have hq := H.1
  have r0 := H.2.1
  have hs1 := H.2.2.2.2
  have hk1 : jK h (q + 1) = (29, 5) := hs1.1
  have go : ∀ lv, (lv = some (va_rf rr)) → jW (d + 2) 19 0 [some (.ref q), some (.ref c), lv] [] h Q := by
    intro lv hlv
    subst hlv
    simp (config := { decide := true }) (disch := (first | assumption | omega | (simp (config := { decide := true }) only [hq, r0, hk1, jK_wI, jK_wJ, jK_wR, jK_wr, jR_wr, jR_wI, jR_wJ, jK_wj, jR_wj, stI_wr, cmI_wr, stI_wj, cmI_wj]; done) | (simp only [hq, r0, hk1, jK_wI, jK_wJ, jK_wR, jK_wr, jR_wr, jR_wI, jR_wJ, jK_wj, jR_wj, stI_wr, cmI_wr, stI_wj, cmI_wj]; refine jinb_nI ?_ ?_ <;> omega) | (refine jinb_nI ?_ ?_ <;> omega) | (simp only [stI_wr, cmI_wr, stI_wj, cmI_wj]; assumption))) only [s19_0, s19_1, s19_4, s19_4N, s19_5, va_rf_some, va_rf_none, jK_wI, jR_wI, jJ_wI, jK_wJ, jR_wJ, jI_wJ, jK_wR, jI_wR, jJ_wR, jK_wr, jR_wr, jJ_wr, jcl1_i, jcl1_r, jcl1_z, jcl1_n, jcl1_l, jwI_row, jwr_jwr, jwr_cm, jwr_cc, upd_upd, jI_wr_s, jI_wr_a, jI_wr_b, jI_wr_c, mInv_wr, upd_s, upd_n, Option.toList, List.cons_append, List.nil_append, true_or, or_true, eq_self, and_self, ite_true, ite_false, if_true, if_false, jK_wj, jR_wj, jI_wj, jwJ_row, jwj_jwj, jJ_wj_s, jJ_wj_n, jI_wr_n, jinb_nI, nI_clamp, tc0, tc1, tc2, tc3, tc4, tc5, tc6, tc7, tc8, tc9, tc10, tc11, tc12, tc13, tc14, tc15, tc16, tc17, tc18, tc19, tc20, tc21, tc22, tc23, tc24, tc25, tc26, tc27, tc28, tc29, tc30, tc31, tc32, tc33, tc34, tc35, tc36, tc37, tc38, tc39, tc40, tc41, tc42, tc43, tc44, tc45, tc46, tc47, tc48, tc49, tc50, tc51, tc52, tc53, tc54, tc55, tc56, tc57, tc58, tc59, tc60, tc61, tc62, tc63, tc64, tc65, tc66, tc67, tc68, tc69, tc77, tc83, tc119, tc159, tc160, nI_add, al0, ar0, ml0, mr0, al1, ar1, ml1, mr1, al2, ar2, ml2, mr2, al3, ar3, ml3, mr3, al4, ar4, ml4, mr4, al5, ar5, ml5, mr5, al6, ar6, ml6, mr6, al8, ar8, ml8, mr8, al10, ar10, ml10, mr10, al11, ar11, ml11, mr11, al12, ar12, ml12, mr12, al13, ar13, ml13, mr13, al16, ar16, ml16, mr16, al20, ar20, ml20, mr20, al24, ar24, ml24, mr24, al29, ar29, ml29, mr29, al36, ar36, ml36, mr36, al42, ar42, ml42, mr42, al48, ar48, ml48, mr48, al55, ar55, ml55, mr55, al60, ar60, ml60, mr60, al65, ar65, ml65, mr65, al77, ar77, ml77, mr77, al83, ar83, ml83, mr83, al119, ar119, ml119, mr119, al159, ar159, ml159, mr159, al160, ar160, ml160, mr160, al400, ar400, ml400, mr400, hq, r0, hk1]
    refine k82 hs1 Hc (by omega) T.2.2 (fun h1 F1 V1 => ?_)
    have H1 : crI h1 q := crI_fr (by exact F1) H
    have hq1 := H1.1
    have Hc1 := frm_cm F1 Hc
    have C1 := cmV_G mBeg_G (frm_cmV F1 (by omega) C)
    have l1 : jI h1 c 1 = mBeg S 1 := by rw [F1.2 c (by omega), mBeg_G 1 (by omega)]; exact T.2.1
    have go2 : jC (d + 2) 11 [.ref q, .ref c, va_rf rr] h1 (fun r h' => jW (d + 2) 19 14 [some (.ref q), some (.ref c), some (va_rf rr)] (r.toList ++ []) h' Q) := by
      refine k11 H1 Hc1 (fun h2 F2 f1 f2 f3 f4 f5 => ?_)
      simp only [Option.toList, List.nil_append]
      rw [s19_14]
      obtain ⟨c1, c2, c3⟩ := crs_set H1 Hc1 C1 V1 l1 hdc F2 f1 f2 f3 f4 f5
      exact hQ h2 (frg_trans (frg_frm F1 (by omega) (by omega)) F2) c1 c2 c3
    simp only [Option.toList, List.nil_append]
    cases rr with
    | none =>
      simp (config := { decide := true }) (disch := (first | assumption | omega | (simp (config := { decide := true }) only [hq1, jK_wI, jK_wJ, jK_wR, jK_wr, jR_wr, jR_wI, jR_wJ, jK_wj, jR_wj, stI_wr, cmI_wr, stI_wj, cmI_wj]; done) | (simp only [hq1, jK_wI, jK_wJ, jK_wR, jK_wr, jR_wr, jR_wI, jR_wJ, jK_wj, jR_wj, stI_wr, cmI_wr, stI_wj, cmI_wj]; refine jinb_nI ?_ ?_ <;> omega) | (refine jinb_nI ?_ ?_ <;> omega) | (simp only [stI_wr, cmI_wr, stI_wj, cmI_wj]; assumption))) only [s19_8, s19_9, s19_9N, s19_10, s19_10N, s19_11, va_rf_some, va_rf_none, jK_wI, jR_wI, jJ_wI, jK_wJ, jR_wJ, jI_wJ, jK_wR, jI_wR, jJ_wR, jK_wr, jR_wr, jJ_wr, jcl1_i, jcl1_r, jcl1_z, jcl1_n, jcl1_l, jwI_row, jwr_jwr, jwr_cm, jwr_cc, upd_upd, jI_wr_s, jI_wr_a, jI_wr_b, jI_wr_c, mInv_wr, upd_s, upd_n, Option.toList, List.cons_append, List.nil_append, true_or, or_true, eq_self, and_self, ite_true, ite_false, if_true, if_false, jK_wj, jR_wj, jI_wj, jwJ_row, jwj_jwj, jJ_wj_s, jJ_wj_n, jI_wr_n, jinb_nI, nI_clamp, tc0, tc1, tc2, tc3, tc4, tc5, tc6, tc7, tc8, tc9, tc10, tc11, tc12, tc13, tc14, tc15, tc16, tc17, tc18, tc19, tc20, tc21, tc22, tc23, tc24, tc25, tc26, tc27, tc28, tc29, tc30, tc31, tc32, tc33, tc34, tc35, tc36, tc37, tc38, tc39, tc40, tc41, tc42, tc43, tc44, tc45, tc46, tc47, tc48, tc49, tc50, tc51, tc52, tc53, tc54, tc55, tc56, tc57, tc58, tc59, tc60, tc61, tc62, tc63, tc64, tc65, tc66, tc67, tc68, tc69, tc77, tc83, tc119, tc159, tc160, nI_add, al0, ar0, ml0, mr0, al1, ar1, ml1, mr1, al2, ar2, ml2, mr2, al3, ar3, ml3, mr3, al4, ar4, ml4, mr4, al5, ar5, ml5, mr5, al6, ar6, ml6, mr6, al8, ar8, ml8, mr8, al10, ar10, ml10, mr10, al11, ar11, ml11, mr11, al12, ar12, ml12, mr12, al13, ar13, ml13, mr13, al16, ar16, ml16, mr16, al20, ar20, ml20, mr20, al24, ar24, ml24, mr24, al29, ar29, ml29, mr29, al36, ar36, ml36, mr36, al42, ar42, ml42, mr42, al48, ar48, ml48, mr48, al55, ar55, ml55, mr55, al60, ar60, ml60, mr60, al65, ar65, ml65, mr65, al77, ar77, ml77, mr77, al83, ar83, ml83, mr83, al119, ar119, ml119, mr119, al159, ar159, ml159, mr159, al160, ar160, ml160, mr160, al400, ar400, ml400, mr400, hq1]
      exact go2
    | some r =>
      simp (config := { decide := true }) (disch := (first | assumption | omega | (simp (config := { decide := true }) only [hq1, jK_wI, jK_wJ, jK_wR, jK_wr, jR_wr, jR_wI, jR_wJ, jK_wj, jR_wj, stI_wr, cmI_wr, stI_wj, cmI_wj]; done) | (simp only [hq1, jK_wI, jK_wJ, jK_wR, jK_wr, jR_wr, jR_wI, jR_wJ, jK_wj, jR_wj, stI_wr, cmI_wr, stI_wj, cmI_wj]; refine jinb_nI ?_ ?_ <;> omega) | (refine jinb_nI ?_ ?_ <;> omega) | (simp only [stI_wr, cmI_wr, stI_wj, cmI_wj]; assumption))) only [s19_8, s19_9, s19_9N, s19_10, s19_10N, s19_11, va_rf_some, va_rf_none, jK_wI, jR_wI, jJ_wI, jK_wJ, jR_wJ, jI_wJ, jK_wR, jI_wR, jJ_wR, jK_wr, jR_wr, jJ_wr, jcl1_i, jcl1_r, jcl1_z, jcl1_n, jcl1_l, jwI_row, jwr_jwr, jwr_cm, jwr_cc, upd_upd, jI_wr_s, jI_wr_a, jI_wr_b, jI_wr_c, mInv_wr, upd_s, upd_n, Option.toList, List.cons_append, List.nil_append, true_or, or_true, eq_self, and_self, ite_true, ite_false, if_true, if_false, jK_wj, jR_wj, jI_wj, jwJ_row, jwj_jwj, jJ_wj_s, jJ_wj_n, jI_wr_n, jinb_nI, nI_clamp, tc0, tc1, tc2, tc3, tc4, tc5, tc6, tc7, tc8, tc9, tc10, tc11, tc12, tc13, tc14, tc15, tc16, tc17, tc18, tc19, tc20, tc21, tc22, tc23, tc24, tc25, tc26, tc27, tc28, tc29, tc30, tc31, tc32, tc33, tc34, tc35, tc36, tc37, tc38, tc39, tc40, tc41, tc42, tc43, tc44, tc45, tc46, tc47, tc48, tc49, tc50, tc51, tc52, tc53, tc54, tc55, tc56, tc57, tc58, tc59, tc60, tc61, tc62, tc63, tc64, tc65, tc66, tc67, tc68, tc69, tc77, tc83, tc119, tc159, tc160, nI_add, al0, ar0, ml0, mr0, al1, ar1, ml1, mr1, al2, ar2, ml2, mr2, al3, ar3, ml3, mr3, al4, ar4, ml4, mr4, al5, ar5, ml5, mr5, al6, ar6, ml6, mr6, al8, ar8, ml8, mr8, al10, ar10, ml10, mr10, al11, ar11, ml11, mr11, al12, ar12, ml12, mr12, al13, ar13, ml13, mr13, al16, ar16, ml16, mr16, al20, ar20, ml20, mr20, al24, ar24, ml24, mr24, al29, ar29, ml29, mr29, al36, ar36, ml36, mr36, al42, ar42, ml42, mr42, al48, ar48, ml48, mr48, al55, ar55, ml55, mr55, al60, ar60, ml60, mr60, al65, ar65, ml65, mr65, al77, ar77, ml77, mr77, al83, ar83, ml83, mr83, al119, ar119, ml119, mr119, al159, ar159, ml159, mr159, al160, ar160, ml160, mr160, al400, ar400, ml400, mr400, hq1]
      exact go2
  cases rr with
  | none =>
    rw [va_rf_none, e19N]
    exact go _ rfl
  | some r =>
    rw [va_rf_some, e19]
    exact go _ rfl
/-- isLeftOut -/
theorem k14 (hq : jK h q = (21, 8)) {l k : Nat} (hl : jI h q 6 = nI l) (hl2 : l < 64) (hk : k < 6) : jC (d + 1) 14 [.ref q, .int (nI k)] h Q ↔ Q (some (.int (if lfB (nI l) k then 1 else 0))) h := by
  rw [e14]
  have h01 := bit01 l hl2 k hk
  simp (config := { decide := true }) (disch := (first | assumption | omega | (simp (config := { decide := true }) only [hq, jK_wI, jK_wJ, jK_wR, jK_wr, jR_wr, jR_wI, jR_wJ, jK_wj, jR_wj, stI_wr, cmI_wr, stI_wj, cmI_wj]; done) | (simp only [hq, jK_wI, jK_wJ, jK_wR, jK_wr, jR_wr, jR_wI, jR_wJ, jK_wj, jR_wj, stI_wr, cmI_wr, stI_wj, cmI_wj]; refine jinb_nI ?_ ?_ <;> omega) | (refine jinb_nI ?_ ?_ <;> omega) | (simp only [stI_wr, cmI_wr, stI_wj, cmI_wj]; assumption))) only [s14_0, s14_1, s14_4, s14_5, s14_6, s14_7, s14_8, s14_11, s14_12, s14_15, s14_16, hl, va_rf_some, va_rf_none, jK_wI, jR_wI, jJ_wI, jK_wJ, jR_wJ, jI_wJ, jK_wR, jI_wR, jJ_wR, jK_wr, jR_wr, jJ_wr, jcl1_i, jcl1_r, jcl1_z, jcl1_n, jcl1_l, jwI_row, jwr_jwr, jwr_cm, jwr_cc, upd_upd, jI_wr_s, jI_wr_a, jI_wr_b, jI_wr_c, mInv_wr, upd_s, upd_n, Option.toList, List.cons_append, List.nil_append, true_or, or_true, eq_self, and_self, ite_true, ite_false, if_true, if_false, jK_wj, jR_wj, jI_wj, jwJ_row, jwj_jwj, jJ_wj_s, jJ_wj_n, jI_wr_n, jinb_nI, nI_clamp, tc0, tc1, tc2, tc3, tc4, tc5, tc6, tc7, tc8, tc9, tc10, tc11, tc12, tc13, tc14, tc15, tc16, tc17, tc18, tc19, tc20, tc21, tc22, tc23, tc24, tc25, tc26, tc27, tc28, tc29, tc30, tc31, tc32, tc33, tc34, tc35, tc36, tc37, tc38, tc39, tc40, tc41, tc42, tc43, tc44, tc45, tc46, tc47, tc48, tc49, tc50, tc51, tc52, tc53, tc54, tc55, tc56, tc57, tc58, tc59, tc60, tc61, tc62, tc63, tc64, tc65, tc66, tc67, tc68, tc69, tc77, tc83, tc119, tc159, tc160, nI_add, al0, ar0, ml0, mr0, al1, ar1, ml1, mr1, al2, ar2, ml2, mr2, al3, ar3, ml3, mr3, al4, ar4, ml4, mr4, al5, ar5, ml5, mr5, al6, ar6, ml6, mr6, al8, ar8, ml8, mr8, al10, ar10, ml10, mr10, al11, ar11, ml11, mr11, al12, ar12, ml12, mr12, al13, ar13, ml13, mr13, al16, ar16, ml16, mr16, al20, ar20, ml20, mr20, al24, ar24, ml24, mr24, al29, ar29, ml29, mr29, al36, ar36, ml36, mr36, al42, ar42, ml42, mr42, al48, ar48, ml48, mr48, al55, ar55, ml55, mr55, al60, ar60, ml60, mr60, al65, ar65, ml65, mr65, al77, ar77, ml77, mr77, al83, ar83, ml83, mr83, al119, ar119, ml119, mr119, al159, ar159, ml159, mr159, al160, ar160, ml160, mr160, al400, ar400, ml400, mr400, hq]
  unfold lfB
  rw [h01]
  by_cases h1 : nI l >>> (nI k &&& 31) &&& 1 = 1 <;> simp (config := { decide := true }) [h1]
end
