/-! THE CLASS: a camp read: the numbers of its lines -/
def zW (A B C D : Nat → Int32) (z : Nat → Nat) : Prop := (A 1 = nI (z 1) ∧ A 2 = nI (z 2) ∧ A 3 = nI (z 3) ∧ A 4 = nI (z 4) ∧ A 5 = nI (z 5)) ∧ (∀ i, i < 12 → B i = nI (z (65 + i))) ∧ (∀ i, i < 6 → C i = nI (z (77 + i))) ∧ ∀ i, i < 36 → D i = nI (z (83 + i))
def zV (h : jH) (c : Nat) (z : Nat → Nat) : Prop := zW (jI h c) (jI h (c + 1)) (jI h (c + 2)) (jI h (c + 3)) z
def cfr (c t : Nat) (h h' : jH) : Prop := (jnx h' = jnx h ∧ jsl h' = jsl h ∧ jK h' = jK h ∧ jR h' = jR h ∧ jJ h' = jJ h) ∧ ∀ a, a ≠ t → (a < c ∨ c + 4 ≤ a) → jI h' a = jI h a
def cO (Q : Option Value → jH → Prop) (c t : Nat) (T : Nat → Nat) (L : Nat) (h : jH) : Except Nat (Nat × (Nat → Nat)) → Prop
  | .ok r => ∀ h', cfr c t h h' → tkF T L (skp T L r.1) (jI h' t) → jI h' t 6 = jI h t 6 → zV h' c r.2 → Q (some (.int 1)) h'
  | .error w => ∀ h', cfr c t h h' → tE L w (jI h' t) → Q (some (.int 0)) h'
section
variable {h h1 h2 : jH} {c t L : Nat} {T : Nat → Nat} {d : Nat} {Q : Option Value → jH → Prop} {z : Nat → Nat} {A B C D : Nat → Int32}
theorem cfr_refl : cfr c t h h := ⟨⟨rfl, rfl, rfl, rfl, rfl⟩, fun _ _ _ => rfl⟩
theorem cfr_wr {a : Nat} {f : Nat → Int32} (ha : a = t ∨ (c ≤ a ∧ a < c + 4)) (F : cfr c t h h1) : cfr c t h (jwr h1 a f) := ⟨F.1, fun b h1 h2 => by rw [jI_wr_n (by omega)]; exact F.2 b h1 h2⟩
theorem cfr_trans (F : cfr c t h h1) (G : cfr c t h1 h2) : cfr c t h h2 := by
  obtain ⟨⟨a1, a2, a3, a4, a5⟩, a6⟩ := F
  obtain ⟨⟨b1, b2, b3, b4, b5⟩, b6⟩ := G
  exact ⟨⟨by rw [b1, a1], by rw [b2, a2], by rw [b3, a3], by rw [b4, a4], by rw [b5, a5]⟩, fun a x y => by rw [b6 a x y, a6 a x y]⟩
theorem cfr_cm (F : cfr c t h h1) (H : cmI h c) : cmI h1 c := by
  unfold cmI at *
  rw [F.1.2.2.1, F.1.2.2.2.1]
  exact H
theorem cfr_tp (F : cfr c t h h1) (ht : t + 1 < c) (H : tpI h t T L) : tpI h1 t T L := by
  obtain ⟨a1, a2, a3, a4, a5⟩ := H
  refine ⟨by rw [F.1.2.2.1]; exact a1, by rw [F.1.2.2.2.1]; exact a2, by rw [F.1.2.2.1]; exact a3, a4, fun p hp => ?_⟩
  rw [F.2 (t + 1) (by omega) (by omega)]
  exact a5 p hp
theorem zW_f {k v : Nat} (H : zW A B C D z) (hk : k < 6) : zW (upd A k (nI v)) B C D (uN z k v) := by
  obtain ⟨⟨a1, a2, a3, a4, a5⟩, b, e, f⟩ := H
  have one : ∀ i, A i = nI (z i) → upd A k (nI v) i = nI (uN z k v i) := fun i hi => by
    by_cases g : i = k
    · subst g; rw [upd_s, uN_s]
    · rw [upd_n g, uN_n g]; exact hi
  refine ⟨⟨one 1 a1, one 2 a2, one 3 a3, one 4 a4, one 5 a5⟩, fun i hi => ?_, fun i hi => ?_, fun i hi => ?_⟩
  · rw [uN_n (by omega)]; exact b i hi
  · rw [uN_n (by omega)]; exact e i hi
  · rw [uN_n (by omega)]; exact f i hi
theorem zW_1 {k v : Nat} (H : zW A B C D z) (hk : k < 12) : zW A (upd B k (nI v)) C D (uN z (65 + k) v) := by
  obtain ⟨⟨a1, a2, a3, a4, a5⟩, b, e, f⟩ := H
  refine ⟨⟨?_, ?_, ?_, ?_, ?_⟩, fun i hi => ?_, fun i hi => ?_, fun i hi => ?_⟩
  · rw [uN_n (by omega)]; exact a1
  · rw [uN_n (by omega)]; exact a2
  · rw [uN_n (by omega)]; exact a3
  · rw [uN_n (by omega)]; exact a4
  · rw [uN_n (by omega)]; exact a5
  · by_cases g : i = k
    · subst g; rw [upd_s, uN_s]
    · rw [upd_n g, uN_n (by omega)]; exact b i hi
  · rw [uN_n (by omega)]; exact e i hi
  · rw [uN_n (by omega)]; exact f i hi
theorem zW_2 {k v : Nat} (H : zW A B C D z) (hk : k < 6) : zW A B (upd C k (nI v)) D (uN z (77 + k) v) := by
  obtain ⟨⟨a1, a2, a3, a4, a5⟩, b, e, f⟩ := H
  refine ⟨⟨?_, ?_, ?_, ?_, ?_⟩, fun i hi => ?_, fun i hi => ?_, fun i hi => ?_⟩
  · rw [uN_n (by omega)]; exact a1
  · rw [uN_n (by omega)]; exact a2
  · rw [uN_n (by omega)]; exact a3
  · rw [uN_n (by omega)]; exact a4
  · rw [uN_n (by omega)]; exact a5
  · rw [uN_n (by omega)]; exact b i hi
  · by_cases g : i = k
    · subst g; rw [upd_s, uN_s]
    · rw [upd_n g, uN_n (by omega)]; exact e i hi
  · rw [uN_n (by omega)]; exact f i hi
theorem zW_3 {k v : Nat} (H : zW A B C D z) (hk : k < 36) : zW A B C (upd D k (nI v)) (uN z (83 + k) v) := by
  obtain ⟨⟨a1, a2, a3, a4, a5⟩, b, e, f⟩ := H
  refine ⟨⟨?_, ?_, ?_, ?_, ?_⟩, fun i hi => ?_, fun i hi => ?_, fun i hi => ?_⟩
  · rw [uN_n (by omega)]; exact a1
  · rw [uN_n (by omega)]; exact a2
  · rw [uN_n (by omega)]; exact a3
  · rw [uN_n (by omega)]; exact a4
  · rw [uN_n (by omega)]; exact a5
  · rw [uN_n (by omega)]; exact b i hi
  · rw [uN_n (by omega)]; exact e i hi
  · by_cases g : i = k
    · subst g; rw [upd_s, uN_s]
    · rw [upd_n g, uN_n (by omega)]; exact f i hi
theorem numN_sk {p : Nat} {hi : Int32} (hp : p ≤ L) : numN T L (skp T L p) hi = numN T L p hi := by
  unfold numN
  rw [skp_id hp]
/-- takeNumber, from a place before the blanks -/
theorem k102b (X : tpI h t T L) {p : Nat} (hp : p ≤ L) (F : tkF T L (skp T L p) (jI h t)) {hi : Int32} (he : ∀ w, numN T L p hi = .error w → ∀ F, tE L w F → Q (some (.int (-1))) (jwr h t F)) (ho : ∀ r, numN T L p hi = .ok r → ∀ F, tkF T L (skp T L r.1) F → F 6 = jI h t 6 → p < r.1 → r.1 ≤ L → ¬ nI r.2 = -1 → r.2 ≤ 99999 ∧ inR (nI r.2) 0 hi = true → Q (some (.int (nI r.2))) (jwr h t F)) : jC (d + 2) 102 [.ref t, .int hi] h Q := by
  refine k102 X F ?_
  rw [numN_sk hp]
  cases hn : numN T L p hi with
  | error w => exact he w hn
  | ok r =>
    obtain ⟨g1, g2, g3, g4⟩ := numN_gd hp hn
    have z1 : ¬ nI r.2 = -1 := fun w => by
      have := nI_pos (n := r.2) (by omega)
      rw [w] at this
      exact this (by decide)
    exact fun F f1 f6 => ho r hn F f1 f6 g1 g2 z1 ⟨g3, g4⟩
/-- readNumbers: camp -/
theorem k3_0 (C : cmI h c) (X : tpI h t T L) (ht : t + 1 < c) {p : Nat} (hp : p ≤ L) (F : tkF T L (skp T L p) (jI h t)) (Z : zV h c z) (hQ : cO Q c t T L h (match aCel T L p 1 5 z with
  | .error w => .error w
  | .ok r => aCel T L r.1 2 9 r.2)) : jC (d + 3) 3 [.ref c, .int 0, .ref t] h Q := by
  have a1 : jK h t = (30, 7) := X.1
  have c1 : jK h c = (20, 9) := C.1
  rw [e3, s3_0, s3_1_0]
  simp (config := { decide := true }) (disch := (first | assumption | omega | (simp (config := { decide := true }) only [a1, c1, jK_wI, jK_wJ, jK_wR, jK_wr, jR_wr, jR_wI, jR_wJ, jK_wj, jR_wj, stI_wr, cmI_wr, stI_wj, cmI_wj]; done) | (simp only [a1, c1, jK_wI, jK_wJ, jK_wR, jK_wr, jR_wr, jR_wI, jR_wJ, jK_wj, jR_wj, stI_wr, cmI_wr, stI_wj, cmI_wj]; refine jinb_nI ?_ ?_ <;> omega) | (refine jinb_nI ?_ ?_ <;> omega) | (simp only [stI_wr, cmI_wr, stI_wj, cmI_wj]; assumption))) only [s3_32, s3_33, s3_33N, s3_34, s3_35, va_rf_some, va_rf_none, jK_wI, jR_wI, jJ_wI, jK_wJ, jR_wJ, jI_wJ, jK_wR, jI_wR, jJ_wR, jK_wr, jR_wr, jJ_wr, jcl1_i, jcl1_r, jcl1_z, jcl1_n, jcl1_l, jwI_row, jwr_jwr, jwr_cm, jwr_cc, upd_upd, jI_wr_s, jI_wr_a, jI_wr_b, jI_wr_c, mInv_wr, upd_s, upd_n, Option.toList, List.cons_append, List.nil_append, true_or, or_true, eq_self, and_self, ite_true, ite_false, if_true, if_false, jK_wj, jR_wj, jI_wj, jwJ_row, jwj_jwj, jJ_wj_s, jJ_wj_n, jI_wr_n, jinb_nI, nI_clamp, tc0, tc1, tc2, tc3, tc4, tc5, tc6, tc7, tc8, tc9, tc10, tc11, tc12, tc13, tc14, tc15, tc16, tc17, tc18, tc19, tc20, tc21, tc22, tc23, tc24, tc25, tc26, tc27, tc28, tc29, tc30, tc31, tc32, tc33, tc34, tc35, tc36, tc37, tc38, tc39, tc40, tc41, tc42, tc43, tc44, tc45, tc46, tc47, tc48, tc49, tc50, tc51, tc52, tc53, tc54, tc55, tc56, tc57, tc58, tc59, tc60, tc61, tc62, tc63, tc64, tc65, tc66, tc67, tc68, tc69, tc77, tc83, tc119, tc159, tc160, nI_add, al0, ar0, ml0, mr0, al1, ar1, ml1, mr1, al2, ar2, ml2, mr2, al3, ar3, ml3, mr3, al4, ar4, ml4, mr4, al5, ar5, ml5, mr5, al6, ar6, ml6, mr6, al8, ar8, ml8, mr8, al10, ar10, ml10, mr10, al11, ar11, ml11, mr11, al12, ar12, ml12, mr12, al13, ar13, ml13, mr13, al16, ar16, ml16, mr16, al20, ar20, ml20, mr20, al24, ar24, ml24, mr24, al29, ar29, ml29, mr29, al36, ar36, ml36, mr36, al42, ar42, ml42, mr42, al48, ar48, ml48, mr48, al55, ar55, ml55, mr55, al60, ar60, ml60, mr60, al65, ar65, ml65, mr65, al77, ar77, ml77, mr77, al83, ar83, ml83, mr83, al119, ar119, ml119, mr119, al159, ar159, ml159, mr159, al160, ar160, ml160, mr160, al400, ar400, ml400, mr400, a1, c1]
  refine k102b X hp F ?_ ?_
  · intro w hw F' g
    have e1 : aCel T L p 1 5 z = .error w := by unfold aCel; rw [hw]
    rw [e1] at hQ
    have zz : ¬ ¬ (-1 : Int32) = -1 := fun w => w rfl
    simp (config := { decide := true }) (disch := (first | assumption | omega | (simp (config := { decide := true }) only [a1, c1, jK_wI, jK_wJ, jK_wR, jK_wr, jR_wr, jR_wI, jR_wJ, jK_wj, jR_wj, stI_wr, cmI_wr, stI_wj, cmI_wj]; done) | (simp only [a1, c1, jK_wI, jK_wJ, jK_wR, jK_wr, jR_wr, jR_wI, jR_wJ, jK_wj, jR_wj, stI_wr, cmI_wr, stI_wj, cmI_wj]; refine jinb_nI ?_ ?_ <;> omega) | (refine jinb_nI ?_ ?_ <;> omega) | (simp only [stI_wr, cmI_wr, stI_wj, cmI_wj]; assumption))) only [s3_38, s3_41, s3_42, s3_45, s3_46, s3_49, s3_50, if_neg zz, va_rf_some, va_rf_none, jK_wI, jR_wI, jJ_wI, jK_wJ, jR_wJ, jI_wJ, jK_wR, jI_wR, jJ_wR, jK_wr, jR_wr, jJ_wr, jcl1_i, jcl1_r, jcl1_z, jcl1_n, jcl1_l, jwI_row, jwr_jwr, jwr_cm, jwr_cc, upd_upd, jI_wr_s, jI_wr_a, jI_wr_b, jI_wr_c, mInv_wr, upd_s, upd_n, Option.toList, List.cons_append, List.nil_append, true_or, or_true, eq_self, and_self, ite_true, ite_false, if_true, if_false, jK_wj, jR_wj, jI_wj, jwJ_row, jwj_jwj, jJ_wj_s, jJ_wj_n, jI_wr_n, jinb_nI, nI_clamp, tc0, tc1, tc2, tc3, tc4, tc5, tc6, tc7, tc8, tc9, tc10, tc11, tc12, tc13, tc14, tc15, tc16, tc17, tc18, tc19, tc20, tc21, tc22, tc23, tc24, tc25, tc26, tc27, tc28, tc29, tc30, tc31, tc32, tc33, tc34, tc35, tc36, tc37, tc38, tc39, tc40, tc41, tc42, tc43, tc44, tc45, tc46, tc47, tc48, tc49, tc50, tc51, tc52, tc53, tc54, tc55, tc56, tc57, tc58, tc59, tc60, tc61, tc62, tc63, tc64, tc65, tc66, tc67, tc68, tc69, tc77, tc83, tc119, tc159, tc160, nI_add, al0, ar0, ml0, mr0, al1, ar1, ml1, mr1, al2, ar2, ml2, mr2, al3, ar3, ml3, mr3, al4, ar4, ml4, mr4, al5, ar5, ml5, mr5, al6, ar6, ml6, mr6, al8, ar8, ml8, mr8, al10, ar10, ml10, mr10, al11, ar11, ml11, mr11, al12, ar12, ml12, mr12, al13, ar13, ml13, mr13, al16, ar16, ml16, mr16, al20, ar20, ml20, mr20, al24, ar24, ml24, mr24, al29, ar29, ml29, mr29, al36, ar36, ml36, mr36, al42, ar42, ml42, mr42, al48, ar48, ml48, mr48, al55, ar55, ml55, mr55, al60, ar60, ml60, mr60, al65, ar65, ml65, mr65, al77, ar77, ml77, mr77, al83, ar83, ml83, mr83, al119, ar119, ml119, mr119, al159, ar159, ml159, mr159, al160, ar160, ml160, mr160, al400, ar400, ml400, mr400, a1, c1]
    refine hQ _ (cfr_wr (by omega) (cfr_wr (Or.inl rfl) cfr_refl)) ?_
    rw [jI_wr_n (by omega), jI_wr_s]
    exact g
  · intro r hr F' f1 f6 p1 p2 z1 p3
    have e1 : aCel T L p 1 5 z = .ok (r.1, uN z 1 r.2) := by unfold aCel; rw [hr]
    rw [e1] at hQ
    simp (config := { decide := true }) (disch := (first | assumption | omega | (simp (config := { decide := true }) only [a1, c1, jK_wI, jK_wJ, jK_wR, jK_wr, jR_wr, jR_wI, jR_wJ, jK_wj, jR_wj, stI_wr, cmI_wr, stI_wj, cmI_wj]; done) | (simp only [a1, c1, jK_wI, jK_wJ, jK_wR, jK_wr, jR_wr, jR_wI, jR_wJ, jK_wj, jR_wj, stI_wr, cmI_wr, stI_wj, cmI_wj]; refine jinb_nI ?_ ?_ <;> omega) | (refine jinb_nI ?_ ?_ <;> omega) | (simp only [stI_wr, cmI_wr, stI_wj, cmI_wj]; assumption))) only [s3_38, s3_41, s3_42, s3_45, s3_46, s3_49, s3_50, s3_51, s3_52, s3_52N, s3_53, s3_55, if_pos z1, va_rf_some, va_rf_none, jK_wI, jR_wI, jJ_wI, jK_wJ, jR_wJ, jI_wJ, jK_wR, jI_wR, jJ_wR, jK_wr, jR_wr, jJ_wr, jcl1_i, jcl1_r, jcl1_z, jcl1_n, jcl1_l, jwI_row, jwr_jwr, jwr_cm, jwr_cc, upd_upd, jI_wr_s, jI_wr_a, jI_wr_b, jI_wr_c, mInv_wr, upd_s, upd_n, Option.toList, List.cons_append, List.nil_append, true_or, or_true, eq_self, and_self, ite_true, ite_false, if_true, if_false, jK_wj, jR_wj, jI_wj, jwJ_row, jwj_jwj, jJ_wj_s, jJ_wj_n, jI_wr_n, jinb_nI, nI_clamp, tc0, tc1, tc2, tc3, tc4, tc5, tc6, tc7, tc8, tc9, tc10, tc11, tc12, tc13, tc14, tc15, tc16, tc17, tc18, tc19, tc20, tc21, tc22, tc23, tc24, tc25, tc26, tc27, tc28, tc29, tc30, tc31, tc32, tc33, tc34, tc35, tc36, tc37, tc38, tc39, tc40, tc41, tc42, tc43, tc44, tc45, tc46, tc47, tc48, tc49, tc50, tc51, tc52, tc53, tc54, tc55, tc56, tc57, tc58, tc59, tc60, tc61, tc62, tc63, tc64, tc65, tc66, tc67, tc68, tc69, tc77, tc83, tc119, tc159, tc160, nI_add, al0, ar0, ml0, mr0, al1, ar1, ml1, mr1, al2, ar2, ml2, mr2, al3, ar3, ml3, mr3, al4, ar4, ml4, mr4, al5, ar5, ml5, mr5, al6, ar6, ml6, mr6, al8, ar8, ml8, mr8, al10, ar10, ml10, mr10, al11, ar11, ml11, mr11, al12, ar12, ml12, mr12, al13, ar13, ml13, mr13, al16, ar16, ml16, mr16, al20, ar20, ml20, mr20, al24, ar24, ml24, mr24, al29, ar29, ml29, mr29, al36, ar36, ml36, mr36, al42, ar42, ml42, mr42, al48, ar48, ml48, mr48, al55, ar55, ml55, mr55, al60, ar60, ml60, mr60, al65, ar65, ml65, mr65, al77, ar77, ml77, mr77, al83, ar83, ml83, mr83, al119, ar119, ml119, mr119, al159, ar159, ml159, mr159, al160, ar160, ml160, mr160, al400, ar400, ml400, mr400, a1, c1]
    have X2 : tpI (jwr (jwr h t F') c (upd (jI h c) 1 (nI r.2))) t T L := cfr_tp (cfr_wr (c := c) (t := t) (by omega) (cfr_wr (Or.inl rfl) cfr_refl)) ht X
    refine k102b X2 p2 (by rw [jI_wr_n (by omega), jI_wr_s]; exact f1) ?_ ?_
    · intro w hw F2 g
      have e2 : aCel T L r.1 2 9 (uN z 1 r.2) = .error w := by unfold aCel; rw [hw]
      have hQ' : cO Q c t T L h (aCel T L r.1 2 9 (uN z 1 r.2)) := hQ
      rw [e2] at hQ'
      have zz : (-1 : Int32) = -1 := rfl
      simp (config := { decide := true }) (disch := (first | assumption | omega | (simp (config := { decide := true }) only [a1, c1, jK_wI, jK_wJ, jK_wR, jK_wr, jR_wr, jR_wI, jR_wJ, jK_wj, jR_wj, stI_wr, cmI_wr, stI_wj, cmI_wj]; done) | (simp only [a1, c1, jK_wI, jK_wJ, jK_wR, jK_wr, jR_wr, jR_wI, jR_wJ, jK_wj, jR_wj, stI_wr, cmI_wr, stI_wj, cmI_wj]; refine jinb_nI ?_ ?_ <;> omega) | (refine jinb_nI ?_ ?_ <;> omega) | (simp only [stI_wr, cmI_wr, stI_wj, cmI_wj]; assumption))) only [s3_58, s3_61, s3_62, s3_65, s3_66, s3_69, s3_70, s3_73, s3_74, if_pos zz, va_rf_some, va_rf_none, jK_wI, jR_wI, jJ_wI, jK_wJ, jR_wJ, jI_wJ, jK_wR, jI_wR, jJ_wR, jK_wr, jR_wr, jJ_wr, jcl1_i, jcl1_r, jcl1_z, jcl1_n, jcl1_l, jwI_row, jwr_jwr, jwr_cm, jwr_cc, upd_upd, jI_wr_s, jI_wr_a, jI_wr_b, jI_wr_c, mInv_wr, upd_s, upd_n, Option.toList, List.cons_append, List.nil_append, true_or, or_true, eq_self, and_self, ite_true, ite_false, if_true, if_false, jK_wj, jR_wj, jI_wj, jwJ_row, jwj_jwj, jJ_wj_s, jJ_wj_n, jI_wr_n, jinb_nI, nI_clamp, tc0, tc1, tc2, tc3, tc4, tc5, tc6, tc7, tc8, tc9, tc10, tc11, tc12, tc13, tc14, tc15, tc16, tc17, tc18, tc19, tc20, tc21, tc22, tc23, tc24, tc25, tc26, tc27, tc28, tc29, tc30, tc31, tc32, tc33, tc34, tc35, tc36, tc37, tc38, tc39, tc40, tc41, tc42, tc43, tc44, tc45, tc46, tc47, tc48, tc49, tc50, tc51, tc52, tc53, tc54, tc55, tc56, tc57, tc58, tc59, tc60, tc61, tc62, tc63, tc64, tc65, tc66, tc67, tc68, tc69, tc77, tc83, tc119, tc159, tc160, nI_add, al0, ar0, ml0, mr0, al1, ar1, ml1, mr1, al2, ar2, ml2, mr2, al3, ar3, ml3, mr3, al4, ar4, ml4, mr4, al5, ar5, ml5, mr5, al6, ar6, ml6, mr6, al8, ar8, ml8, mr8, al10, ar10, ml10, mr10, al11, ar11, ml11, mr11, al12, ar12, ml12, mr12, al13, ar13, ml13, mr13, al16, ar16, ml16, mr16, al20, ar20, ml20, mr20, al24, ar24, ml24, mr24, al29, ar29, ml29, mr29, al36, ar36, ml36, mr36, al42, ar42, ml42, mr42, al48, ar48, ml48, mr48, al55, ar55, ml55, mr55, al60, ar60, ml60, mr60, al65, ar65, ml65, mr65, al77, ar77, ml77, mr77, al83, ar83, ml83, mr83, al119, ar119, ml119, mr119, al159, ar159, ml159, mr159, al160, ar160, ml160, mr160, al400, ar400, ml400, mr400, a1, c1]
      refine hQ' _ (cfr_wr (by omega) (cfr_wr (Or.inl rfl) (cfr_wr (by omega) (cfr_wr (Or.inl rfl) cfr_refl)))) ?_
      rw [jI_wr_n (by omega), jI_wr_s]
      exact g
    · intro r2 hr2 F2 g1 g6 q1 q2 z2 q3
      have e2 : aCel T L r.1 2 9 (uN z 1 r.2) = .ok (r2.1, uN (uN z 1 r.2) 2 r2.2) := by unfold aCel; rw [hr2]
      have hQ' : cO Q c t T L h (aCel T L r.1 2 9 (uN z 1 r.2)) := hQ
      rw [e2] at hQ'
      simp (config := { decide := true }) (disch := (first | assumption | omega | (simp (config := { decide := true }) only [a1, c1, jK_wI, jK_wJ, jK_wR, jK_wr, jR_wr, jR_wI, jR_wJ, jK_wj, jR_wj, stI_wr, cmI_wr, stI_wj, cmI_wj]; done) | (simp only [a1, c1, jK_wI, jK_wJ, jK_wR, jK_wr, jR_wr, jR_wI, jR_wJ, jK_wj, jR_wj, stI_wr, cmI_wr, stI_wj, cmI_wj]; refine jinb_nI ?_ ?_ <;> omega) | (refine jinb_nI ?_ ?_ <;> omega) | (simp only [stI_wr, cmI_wr, stI_wj, cmI_wj]; assumption))) only [s3_58, s3_61, s3_62, s3_65, s3_66, s3_69, s3_70, s3_73, s3_74, if_neg z2, va_rf_some, va_rf_none, jK_wI, jR_wI, jJ_wI, jK_wJ, jR_wJ, jI_wJ, jK_wR, jI_wR, jJ_wR, jK_wr, jR_wr, jJ_wr, jcl1_i, jcl1_r, jcl1_z, jcl1_n, jcl1_l, jwI_row, jwr_jwr, jwr_cm, jwr_cc, upd_upd, jI_wr_s, jI_wr_a, jI_wr_b, jI_wr_c, mInv_wr, upd_s, upd_n, Option.toList, List.cons_append, List.nil_append, true_or, or_true, eq_self, and_self, ite_true, ite_false, if_true, if_false, jK_wj, jR_wj, jI_wj, jwJ_row, jwj_jwj, jJ_wj_s, jJ_wj_n, jI_wr_n, jinb_nI, nI_clamp, tc0, tc1, tc2, tc3, tc4, tc5, tc6, tc7, tc8, tc9, tc10, tc11, tc12, tc13, tc14, tc15, tc16, tc17, tc18, tc19, tc20, tc21, tc22, tc23, tc24, tc25, tc26, tc27, tc28, tc29, tc30, tc31, tc32, tc33, tc34, tc35, tc36, tc37, tc38, tc39, tc40, tc41, tc42, tc43, tc44, tc45, tc46, tc47, tc48, tc49, tc50, tc51, tc52, tc53, tc54, tc55, tc56, tc57, tc58, tc59, tc60, tc61, tc62, tc63, tc64, tc65, tc66, tc67, tc68, tc69, tc77, tc83, tc119, tc159, tc160, nI_add, al0, ar0, ml0, mr0, al1, ar1, ml1, mr1, al2, ar2, ml2, mr2, al3, ar3, ml3, mr3, al4, ar4, ml4, mr4, al5, ar5, ml5, mr5, al6, ar6, ml6, mr6, al8, ar8, ml8, mr8, al10, ar10, ml10, mr10, al11, ar11, ml11, mr11, al12, ar12, ml12, mr12, al13, ar13, ml13, mr13, al16, ar16, ml16, mr16, al20, ar20, ml20, mr20, al24, ar24, ml24, mr24, al29, ar29, ml29, mr29, al36, ar36, ml36, mr36, al42, ar42, ml42, mr42, al48, ar48, ml48, mr48, al55, ar55, ml55, mr55, al60, ar60, ml60, mr60, al65, ar65, ml65, mr65, al77, ar77, ml77, mr77, al83, ar83, ml83, mr83, al119, ar119, ml119, mr119, al159, ar159, ml159, mr159, al160, ar160, ml160, mr160, al400, ar400, ml400, mr400, a1, c1]
      refine hQ' _ (cfr_wr (by omega) (cfr_wr (Or.inl rfl) (cfr_wr (by omega) (cfr_wr (Or.inl rfl) cfr_refl)))) ?_ ?_ ?_
      · rw [jI_wr_n (by omega), jI_wr_s]; exact g1
      · rw [jI_wr_n (by omega), jI_wr_s, g6, jI_wr_n (by omega), jI_wr_s]; exact f6
      · show zW _ _ _ _ _
        rw [jI_wr_s, jI_wr_n (by omega), jI_wr_n (by omega), jI_wr_n (by omega), jI_wr_n (by omega), jI_wr_n (by omega), jI_wr_n (by omega), jI_wr_n (by omega), jI_wr_n (by omega), jI_wr_n (by omega), jI_wr_n (by omega), jI_wr_n (by omega), jI_wr_n (by omega)]
        exact zW_f (zW_f Z (by omega)) (by omega)
end
