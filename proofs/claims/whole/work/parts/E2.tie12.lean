/-! THE CLASS: a moment made, and copied -/
def sm (h h' : jH) (b : Nat) : Prop := jK h' b = jK h b ∧ jI h' b = jI h b ∧ jJ h' b = jJ h b ∧ jR h' b = jR h b
section
variable {h h' h1 h2 : jH} {a b c p k n i s : Nat} {K : Nat × Nat} {ar : Nat → Nat × Nat}
theorem sm_refl : sm h h b := ⟨rfl, rfl, rfl, rfl⟩
theorem sm_trans (A : sm h h1 b) (B : sm h1 h2 b) : sm h h2 b := ⟨B.1.trans A.1, B.2.1.trans A.2.1, B.2.2.1.trans A.2.2.1, B.2.2.2.trans A.2.2.2⟩
theorem sm_wR {v : Option Nat} (hb : b ≠ a) : sm h (jwR h a k v) b := ⟨rfl, rfl, rfl, jR_wR_n hb⟩
theorem sm_wI {v : Int32} (hb : b ≠ a) : sm h (jwI h a k v) b := ⟨rfl, by rw [jwI_row, jI_wr_n hb], rfl, rfl⟩
theorem sm_new (hb : b < jnx h) : sm h (jnew h k n) b := mko_new.2 b hb
theorem sm_mk (M : oMk (jnew h k n) h' (jnx h) K ar i s) (hb : b < jnx h) : sm h h' b := sm_trans (sm_new hb) (M.2.2.2.1 b hb)
theorem cmI_sm (e : ∀ b, c ≤ b → b < c + 4 → sm h h' b) (H : cmI h c) : cmI h' c := by
  unfold cmI at *
  rw [(e c (by omega) (by omega)).1, (e c (by omega) (by omega)).2.2.2, (e (c + 1) (by omega) (by omega)).1, (e (c + 2) (by omega) (by omega)).1, (e (c + 3) (by omega) (by omega)).1]
  exact H
theorem stI_sm (e : ∀ b, p ≤ b → b < p + 5 → sm h h' b) (H : stI h p) : stI h' p := by
  unfold stI at *
  rw [(e p (by omega) (by omega)).1, (e p (by omega) (by omega)).2.2.2, (e (p + 1) (by omega) (by omega)).1, (e (p + 2) (by omega) (by omega)).1, (e (p + 3) (by omega) (by omega)).1, (e (p + 4) (by omega) (by omega)).1]
  exact H
theorem noI_sm (e : ∀ b, p ≤ b → b < p + 5 → sm h h' b) (H : noI h p) : noI h' p := by
  unfold noI at *
  rw [(e p (by omega) (by omega)).1, (e p (by omega) (by omega)).2.2.2, (e (p + 1) (by omega) (by omega)).1, (e (p + 2) (by omega) (by omega)).1, (e (p + 3) (by omega) (by omega)).1, (e (p + 4) (by omega) (by omega)).1]
  exact H
end
def zI (h : jH) (a n : Nat) : Prop := ∀ b, a ≤ b → b < a + n → jI h b = fun _ => 0
theorem zI_mk {h h' : jH} {a i s : Nat} {K : Nat × Nat} {ar : Nat → Nat × Nat} (M : oMk h h' a K ar i s) : zI h' a (i + 1) := fun b h1 h2 => by
  by_cases e : b = a
  · rw [e]; exact M.2.2.1
  · have := (M.2.2.2.2 (b - (a + 1)) (by omega)).2.2
    rw [show a + 1 + (b - (a + 1)) = b by omega] at this
    exact this
theorem zI_sm {h h' : jH} {a n : Nat} (e : ∀ b, a ≤ b → b < a + n → sm h h' b) (H : zI h a n) : zI h' a n := fun b h1 h2 => by rw [(e b h1 h2).2.1]; exact H b h1 h2
/-- a moment made -/
def mkM (h h' : jH) (a : Nat) : Prop := (jnx h' = a + 15 ∧ jsl h' = jsl h + 167) ∧ (∀ b, b < a → sm h h' b) ∧ (jK h' a = (23, 5) ∧ jR h' a 0 = some (a + 1) ∧ jR h' a 3 = some (a + 5) ∧ jR h' a 4 = some (a + 10) ∧ jI h' a 1 = -1 ∧ jI h' a 2 = 0) ∧ (cmI h' (a + 1) ∧ zI h' (a + 1) 4) ∧ (stI h' (a + 5) ∧ zI h' (a + 5) 5) ∧ (noI h' (a + 10) ∧ zI h' (a + 10) 5)
section
variable {h : jH} {a p o : Nat} {d : Nat} {Q : Option Value → jH → Prop} {S : Nat → Int32}
theorem k39 (h1 : jnx h = a + 1) (h2 : jK h a = (23, 5)) (hQ : ∀ h', mkM h h' a → Q none h') : jC (d + 2) 39 [.ref a] h Q := by
  rw [e39, s39_0, s39_1, s39_4, s39_5, s39_8, s39_9]
  refine k0 (a := jnx h) rfl (jK_new h 20 9) (jI_new h 20 9) (fun g1 M1 => ?_)
  rw [h1] at M1 ⊢
  have m1 : ∀ b, b < a + 1 → sm h g1 b := fun b hb => by rw [← h1] at M1 hb; exact sm_mk M1 hb
  have n1 : jnx g1 = a + 5 := M1.1.1
  have l1 : jsl g1 = jsl h + 63 := M1.1.2
  have c1 := oMk_cm M1
  have z1 := zI_mk M1
  clear M1
  have k1 : (jK g1 a).1 = 23 := by rw [(m1 a (by omega)).1, h2]
  simp only [Option.toList, List.cons_append, List.nil_append]
  rw [s39_12 k1, s39_15, s39_16, s39_17 (by exact k1), s39_20, s39_21, s39_22 (by exact k1), s39_25, s39_26]
  have m4 : ∀ b, b ≠ a → sm g1 (jwI (jwI (jwR g1 a 0 (some (a + 1))) a 1 (-1)) a 2 0) b := fun b hb => sm_trans (sm_trans (sm_wR hb) (sm_wI hb)) (sm_wI hb)
  have r4 : jR (jwI (jwI (jwR g1 a 0 (some (a + 1))) a 1 (-1)) a 2 0) a 0 = some (a + 1) := by
    show jR (jwR g1 a 0 (some (a + 1))) a 0 = _
    rw [jR_wR_s]
    rfl
  have i4 : jI (jwI (jwI (jwR g1 a 0 (some (a + 1))) a 1 (-1)) a 2 0) a 1 = -1 ∧ jI (jwI (jwI (jwR g1 a 0 (some (a + 1))) a 1 (-1)) a 2 0) a 2 = 0 := by
    rw [jwI_row, jwI_row, jI_wr_s, jI_wr_s]
    exact ⟨by rw [upd_n (by omega), upd_s], upd_s⟩
  have k4 : jK (jwI (jwI (jwR g1 a 0 (some (a + 1))) a 1 (-1)) a 2 0) a = (23, 5) := by
    show jK g1 a = _
    rw [(m1 a (by omega)).1, h2]
  have n4 : jnx (jwI (jwI (jwR g1 a 0 (some (a + 1))) a 1 (-1)) a 2 0) = a + 5 := n1
  have l4 : jsl (jwI (jwI (jwR g1 a 0 (some (a + 1))) a 1 (-1)) a 2 0) = jsl h + 63 := l1
  generalize jwI (jwI (jwR g1 a 0 (some (a + 1))) a 1 (-1)) a 2 0 = g4 at *
  rw [s39_29, s39_30]
  refine k81 (a := jnx g4) rfl (jK_new g4 29 5) (jI_new g4 29 5) (fun g6 M6 => ?_)
  rw [n4] at M6 ⊢
  have m6 : ∀ b, b < a + 5 → sm g4 g6 b := fun b hb => by rw [← n4] at M6 hb; exact sm_mk M6 hb
  have n6 : jnx g6 = a + 10 := M6.1.1
  have l6 : jsl g6 = jsl h + 122 := by have := M6.1.2; have e : jsl (jnew g4 29 5) = jsl g4 + 5 := rfl; omega
  have c6 := oMk_st M6
  have z6 := zI_mk M6
  clear M6
  have k6 : (jK g6 a).1 = 23 := by rw [(m6 a (by omega)).1, k4]
  simp only [Option.toList, List.cons_append, List.nil_append]
  rw [s39_33 k6, s39_36, s39_37, s39_40, s39_41]
  have m7 : ∀ b, b ≠ a → sm g6 (jwR g6 a 3 (some (a + 5))) b := fun b hb => sm_wR hb
  have n7 : jnx (jwR g6 a 3 (some (a + 5))) = a + 10 := n6
  have l7 : jsl (jwR g6 a 3 (some (a + 5))) = jsl h + 122 := l6
  have r7 : jR (jwR g6 a 3 (some (a + 5))) a = va_up (jR g6 a) 3 (some (a + 5)) := jR_wR_s
  have i7 : jI (jwR g6 a 3 (some (a + 5))) a = jI g6 a := rfl
  have k7 : jK (jwR g6 a 3 (some (a + 5))) a = jK g6 a := rfl
  generalize jwR g6 a 3 (some (a + 5)) = g7 at *
  refine k41 (a := jnx g7) rfl (jK_new g7 24 5) (jI_new g7 24 5) (fun g9 M9 => ?_)
  rw [n7] at M9 ⊢
  have m9 : ∀ b, b < a + 10 → sm g7 g9 b := fun b hb => by rw [← n7] at M9 hb; exact sm_mk M9 hb
  have n9 : jnx g9 = a + 15 := M9.1.1
  have l9 : jsl g9 = jsl h + 167 := by have := M9.1.2; have e : jsl (jnew g7 24 5) = jsl g7 + 5 := rfl; omega
  have c9 := oMk_no M9
  have z9 := zI_mk M9
  clear M9
  have k9 : (jK g9 a).1 = 23 := by rw [(m9 a (by omega)).1, k7]; exact k6
  simp only [Option.toList, List.cons_append, List.nil_append]
  rw [s39_44 k9, s39_47]
  have m10 : ∀ b, b ≠ a → sm g9 (jwR g9 a 4 (some (a + 10))) b := fun b hb => sm_wR hb
  have m69 : ∀ b, b < a + 10 → b ≠ a → sm g6 (jwR g9 a 4 (some (a + 10))) b := fun b h1 h2 => sm_trans (m7 b h2) (sm_trans (m9 b h1) (m10 b h2))
  have m49 : ∀ b, b < a + 5 → b ≠ a → sm g1 (jwR g9 a 4 (some (a + 10))) b := fun b h1 h2 => sm_trans (m4 b h2) (sm_trans (m6 b h1) (m69 b (by omega) h2))
  have eR : jR (jwR g9 a 4 (some (a + 10))) a = va_up (va_up (jR g4 a) 3 (some (a + 5))) 4 (some (a + 10)) := by
    rw [jR_wR_s, (m9 a (by omega)).2.2.2, r7, (m6 a (by omega)).2.2.2]
  have eI : jI (jwR g9 a 4 (some (a + 10))) a = jI g4 a := by
    show jI g9 a = _
    rw [(m9 a (by omega)).2.1, i7, (m6 a (by omega)).2.1]
  refine hQ _ ⟨⟨n9, l9⟩, fun b hb => sm_trans (m1 b (by omega)) (m49 b (by omega) (by omega)), ⟨?_, ?_, ?_, ?_, ?_, ?_⟩, ⟨cmI_sm (fun b h1 h2 => m49 b (by omega) (by omega)) c1, zI_sm (fun b h1 h2 => m49 b (by omega) (by omega)) z1⟩, ⟨stI_sm (fun b h1 h2 => m69 b (by omega) (by omega)) c6, zI_sm (fun b h1 h2 => m69 b (by omega) (by omega)) z6⟩, ⟨noI_sm (fun b h1 h2 => m10 b (by omega)) c9, zI_sm (fun b h1 h2 => m10 b (by omega)) z9⟩⟩
  · show jK g9 a = _
    rw [(m9 a (by omega)).1, k7, (m6 a (by omega)).1, k4]
  · rw [eR]
    show jR g4 a 0 = _
    exact r4
  · rw [eR]
    rfl
  · rw [eR]
    rfl
  · rw [eI]; exact i4.1
  · rw [eI]; exact i4.2
/-- copyFrom, of notes -/
theorem k46 (H : noI h p) (Ho : noI h o) (hd : o + 5 ≤ p ∨ p + 5 ≤ o) (V : noV h o S) (hS : sQ S ≤ 10) (hQ : ∀ h', frm p (p + 5) h h' → noV h' p S → Q none h') : jC (d + 1) 46 [.ref p, .ref o] h Q := by
  rw [e46]
  obtain ⟨hp, ⟨r1, k1⟩, ⟨r2, k2⟩, ⟨r3, k3⟩, ⟨r4, k4⟩⟩ := H
  obtain ⟨ho, ⟨s1, l1⟩, ⟨s2, l2⟩, ⟨s3, l3⟩, ⟨s4, l4⟩⟩ := Ho
  simp (config := { decide := true }) (disch := (first | assumption | omega | (simp (config := { decide := true }) only [hp, ho, r1, k1, r2, k2, r3, k3, r4, k4, s1, l1, s2, l2, s3, l3, s4, l4, jK_wI, jK_wJ, jK_wR, jK_wr, jR_wr, jR_wI, jR_wJ, jK_wj, jR_wj, stI_wr, cmI_wr, stI_wj, cmI_wj]; done) | (simp only [hp, ho, r1, k1, r2, k2, r3, k3, r4, k4, s1, l1, s2, l2, s3, l3, s4, l4, jK_wI, jK_wJ, jK_wR, jK_wr, jR_wr, jR_wI, jR_wJ, jK_wj, jR_wj, stI_wr, cmI_wr, stI_wj, cmI_wj]; refine jinb_nI ?_ ?_ <;> omega) | (refine jinb_nI ?_ ?_ <;> omega) | (simp only [stI_wr, cmI_wr, stI_wj, cmI_wj]; assumption))) only [s46_0, s46_1, s46_1N, s46_2, s46_5, s46_8, s46_8N, s46_9, s46_12, s46_13, s46_14, s46_17, s46_18, s46_20, s46_23, s46_23N, s46_24, s46_27, s46_28, s46_29, s46_32, s46_33, s46_35, s46_38, s46_38N, s46_39, s46_42, s46_43, s46_44, s46_47, s46_48, s46_50, s46_53, s46_53N, s46_54, s46_57, s46_58, s46_59, s46_62, s46_63, s46_65, s46_68, va_rf_some, va_rf_none, jK_wI, jR_wI, jJ_wI, jK_wJ, jR_wJ, jI_wJ, jK_wR, jI_wR, jJ_wR, jK_wr, jR_wr, jJ_wr, jcl1_i, jcl1_r, jcl1_z, jcl1_n, jcl1_l, jwI_row, jwr_jwr, jwr_cm, jwr_cc, upd_upd, jI_wr_s, jI_wr_a, jI_wr_b, jI_wr_c, mInv_wr, upd_s, upd_n, Option.toList, List.cons_append, List.nil_append, true_or, or_true, eq_self, and_self, ite_true, ite_false, if_true, if_false, jK_wj, jR_wj, jI_wj, jwJ_row, jwj_jwj, jJ_wj_s, jJ_wj_n, jI_wr_n, jinb_nI, nI_clamp, tc0, tc1, tc2, tc3, tc4, tc5, tc6, tc7, tc8, tc9, tc10, tc11, tc12, tc13, tc14, tc15, tc16, tc17, tc18, tc19, tc20, tc21, tc22, tc23, tc24, tc25, tc26, tc27, tc28, tc29, tc30, tc31, tc32, tc33, tc34, tc35, tc36, tc37, tc38, tc39, tc40, tc41, tc42, tc43, tc44, tc45, tc46, tc47, tc48, tc49, tc50, tc51, tc52, tc53, tc54, tc55, tc56, tc57, tc58, tc59, tc60, tc61, tc62, tc63, tc64, tc65, tc66, tc67, tc68, tc69, tc77, tc83, tc119, tc159, tc160, nI_add, al0, ar0, ml0, mr0, al1, ar1, ml1, mr1, al2, ar2, ml2, mr2, al3, ar3, ml3, mr3, al4, ar4, ml4, mr4, al5, ar5, ml5, mr5, al6, ar6, ml6, mr6, al8, ar8, ml8, mr8, al10, ar10, ml10, mr10, al11, ar11, ml11, mr11, al12, ar12, ml12, mr12, al13, ar13, ml13, mr13, al16, ar16, ml16, mr16, al20, ar20, ml20, mr20, al24, ar24, ml24, mr24, al29, ar29, ml29, mr29, al36, ar36, ml36, mr36, al42, ar42, ml42, mr42, al48, ar48, ml48, mr48, al55, ar55, ml55, mr55, al60, ar60, ml60, mr60, al65, ar65, ml65, mr65, al77, ar77, ml77, mr77, al83, ar83, ml83, mr83, al119, ar119, ml119, mr119, al159, ar159, ml159, mr159, al160, ar160, ml160, mr160, al400, ar400, ml400, mr400, hp, ho, r1, k1, r2, k2, r3, k3, r4, k4, s1, l1, s2, l2, s3, l3, s4, l4]
  refine hQ _ ?_ ⟨?_, fun i hi => ?_⟩
  · exact frm_wr (by omega) (by omega) (frm_wr (by omega) (by omega) (frm_wr (by omega) (by omega) (frm_wr (by omega) (by omega) (frm_wr (by omega) (by omega) frm_refl))))
  · simp (disch := omega) only [jI_wr_s, jI_wr_n, upd_s]
    exact V.1
  · obtain ⟨v1, v2, v3, v4⟩ := V.2 i hi
    refine ⟨?_, ?_, ?_, ?_⟩
    · simp (disch := omega) only [jI_wr_s, jI_wr_n, cpy_in]
      exact v1
    · simp (disch := omega) only [jI_wr_s, jI_wr_n, cpy_in]
      exact v2
    · simp (disch := omega) only [jI_wr_s, jI_wr_n, cpy_in]
      exact v3
    · simp (disch := omega) only [jI_wr_s, jI_wr_n, cpy_in]
      exact v4
end
