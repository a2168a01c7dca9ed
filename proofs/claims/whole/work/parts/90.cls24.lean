/-! THE CLASS: acts kept, given back -/
def psI (h : jH) (x : Nat) (ow : Nat → Nat) (l U : Nat) (K : Nat → Nat → Int32) : Prop := (jK h (x + 23) = (25, 3) ∧ jR h (x + 23) 0 = some (x + 24) ∧ jK h (x + 24) = (7, 20)) ∧ (jI h (x + 23) 1 = nI l ∧ l < 20) ∧ (jI h (x + 23) 2 = nI U ∧ U ≤ 20) ∧ (∀ i p, i < 20 → jR h (x + 24) i = some p → x + 75 ≤ p ∧ p + 5 ≤ jnx h ∧ stI h p ∧ ∀ a, p ≤ a → a < p + 5 → ow a = 2 + i) ∧ ∀ j, j < U → ∃ p, jR h (x + 24) ((l + 20 - j) % 20) = some p ∧ stV h p (K (U - 1 - j))
def kpK (K : Nat → Nat → Int32) (S : Nat → Int32) (U : Nat) : Nat → Nat → Int32 := fun i => if U = 20 then (if i = 19 then S else K (i + 1)) else (if i = U then S else K i)
def kpU (U : Nat) : Nat := if U = 20 then 20 else U + 1
theorem kp_min {U : Nat} (hU : U ≤ 20) : (if nI (U + 1) < 20 then nI (U + 1) else 20) = nI (kpU U) := by
  unfold kpU
  by_cases h1 : U + 1 < 20
  · have h2 : nI (U + 1) < 20 := nI_lt (b := 20) h1 (by omega)
    rw [if_pos h2, if_neg (by omega)]
  · have h2 : ¬ nI (U + 1) < 20 := fun w => h1 ((nI_ltI (b := 20) (by omega) (by omega)).mp w)
    rw [if_neg h2]
    split
    · rfl
    · rw [show U + 1 = 20 by omega]
      rfl
section
variable {h : jH} {x s0 l U : Nat} {d : Nat} {Q : Option Value → jH → Prop} {S : Nat → Int32} {ow : Nat → Nat} {K : Nat → Nat → Int32}
/-- keep: once there is a standing to keep it in -/
theorem l48 {g : jH} {ow' : Nat → Nat} {p : Nat} (P : psI h x ow l U K) (hx : x + 75 ≤ jnx h) (A : agx (fun a => a = x + 23 ∨ a = x + 24) h g) (Hs : stI g s0) (V : stV g s0 S) (hs0 : s0 + 5 ≤ x + 23) (g1 : jK g (x + 23) = (25, 3)) (g2 : jR g (x + 23) 0 = some (x + 24)) (g3 : jK g (x + 24) = (7, 20)) (g4 : jI g (x + 23) 1 = nI ((l + 1) % 20)) (g5 : jI g (x + 23) 2 = nI U) (g6 : jR g (x + 24) ((l + 1) % 20) = some p) (g7 : ∀ i, i ≠ (l + 1) % 20 → jR g (x + 24) i = jR h (x + 24) i) (hp : x + 75 ≤ p) (hp2 : p + 5 ≤ jnx g) (Hp : stI g p) (how : ∀ a, a < jnx h → ow' a = ow a) (hlab : ∀ a, p ≤ a → a < p + 5 → ow' a = 2 + (l + 1) % 20) (hQ : ∀ h', agx (fun a => a = x + 23 ∨ a = x + 24 ∨ (x + 75 ≤ a ∧ ow a = 2 + (l + 1) % 20)) h h' → psI h' x ow' ((l + 1) % 20) (kpU U) (kpK K S U) → jnx h' = jnx g → jsl h' = jsl g → Q none h') : jW (d + 1) 48 41 [some (.ref (x + 23)), some (.ref s0)] [] g Q := by
  obtain ⟨-, ⟨-, l20⟩, ⟨-, U20⟩, P4, P5⟩ := P
  have hk := Hp.1
  have hm20 : (l + 1) % 20 < 20 := Nat.mod_lt _ (by omega)
  generalize hl' : (l + 1) % 20 = l' at *
  simp (config := { decide := true }) (disch := (first | assumption | omega | (simp (config := { decide := true }) only [g1, g2, g3, hk, jK_wI, jK_wJ, jK_wR, jK_wr, jR_wr, jR_wI, jR_wJ, jK_wj, jR_wj, stI_wr, cmI_wr, stI_wj, cmI_wj]; done) | (simp only [g1, g2, g3, hk, jK_wI, jK_wJ, jK_wR, jK_wr, jR_wr, jR_wI, jR_wJ, jK_wj, jR_wj, stI_wr, cmI_wr, stI_wj, cmI_wj]; refine jinb_nI ?_ ?_ <;> omega) | (refine jinb_nI ?_ ?_ <;> omega) | (simp only [stI_wr, cmI_wr, stI_wj, cmI_wj]; assumption))) only [s48_41, s48_42, s48_45, s48_46, s48_49, s48_50, s48_50N, s48_51, g4, g6, va_rf_some, va_rf_none, jK_wI, jR_wI, jJ_wI, jK_wJ, jR_wJ, jI_wJ, jK_wR, jI_wR, jJ_wR, jK_wr, jR_wr, jJ_wr, jcl1_i, jcl1_r, jcl1_z, jcl1_n, jcl1_l, jwI_row, jwr_jwr, jwr_cm, jwr_cc, upd_upd, jI_wr_s, jI_wr_a, jI_wr_b, jI_wr_c, mInv_wr, upd_s, upd_n, Option.toList, List.cons_append, List.nil_append, true_or, or_true, eq_self, and_self, ite_true, ite_false, if_true, if_false, jK_wj, jR_wj, jI_wj, jwJ_row, jwj_jwj, jJ_wj_s, jJ_wj_n, jI_wr_n, jinb_nI, nI_clamp, tc0, tc1, tc2, tc3, tc4, tc5, tc6, tc7, tc8, tc9, tc10, tc11, tc12, tc13, tc14, tc15, tc16, tc17, tc18, tc19, tc20, tc21, tc22, tc23, tc24, tc25, tc26, tc27, tc28, tc29, tc30, tc31, tc32, tc33, tc34, tc35, tc36, tc37, tc38, tc39, tc40, tc41, tc42, tc43, tc44, tc45, tc46, tc47, tc48, tc49, tc50, tc51, tc52, tc53, tc54, tc55, tc56, tc57, tc58, tc59, tc60, tc61, tc62, tc63, tc64, tc65, tc66, tc67, tc68, tc69, tc77, tc83, tc119, tc159, tc160, nI_add, al0, ar0, ml0, mr0, al1, ar1, ml1, mr1, al2, ar2, ml2, mr2, al3, ar3, ml3, mr3, al4, ar4, ml4, mr4, al5, ar5, ml5, mr5, al6, ar6, ml6, mr6, al8, ar8, ml8, mr8, al10, ar10, ml10, mr10, al11, ar11, ml11, mr11, al12, ar12, ml12, mr12, al13, ar13, ml13, mr13, al16, ar16, ml16, mr16, al20, ar20, ml20, mr20, al24, ar24, ml24, mr24, al29, ar29, ml29, mr29, al36, ar36, ml36, mr36, al42, ar42, ml42, mr42, al48, ar48, ml48, mr48, al55, ar55, ml55, mr55, al60, ar60, ml60, mr60, al65, ar65, ml65, mr65, al77, ar77, ml77, mr77, al83, ar83, ml83, mr83, al119, ar119, ml119, mr119, al159, ar159, ml159, mr159, al160, ar160, ml160, mr160, al400, ar400, ml400, mr400, g1, g2, g3, hk]
  refine k88 Hp Hs (by omega) V (fun h4 F4 V4 => ?_)
  have j1 : jK h4 (x + 23) = (25, 3) := by rw [F4.1.2.2.1]; exact g1
  have j5 : jI h4 (x + 23) 2 = nI U := by rw [F4.2 (x + 23) (by omega)]; exact g5
  have j4 : jI h4 (x + 23) 1 = nI l' := by rw [F4.2 (x + 23) (by omega)]; exact g4
  have mn := kp_min U20
  simp only [Option.toList, List.nil_append]
  simp (config := { decide := true }) (disch := (first | assumption | omega | (simp (config := { decide := true }) only [j1, jK_wI, jK_wJ, jK_wR, jK_wr, jR_wr, jR_wI, jR_wJ, jK_wj, jR_wj, stI_wr, cmI_wr, stI_wj, cmI_wj]; done) | (simp only [j1, jK_wI, jK_wJ, jK_wR, jK_wr, jR_wr, jR_wI, jR_wJ, jK_wj, jR_wj, stI_wr, cmI_wr, stI_wj, cmI_wj]; refine jinb_nI ?_ ?_ <;> omega) | (refine jinb_nI ?_ ?_ <;> omega) | (simp only [stI_wr, cmI_wr, stI_wj, cmI_wj]; assumption))) only [s48_54, s48_55, s48_57, s48_58, s48_61, s48_62, s48_63, s48_66, s48_69, j5, mn, va_rf_some, va_rf_none, jK_wI, jR_wI, jJ_wI, jK_wJ, jR_wJ, jI_wJ, jK_wR, jI_wR, jJ_wR, jK_wr, jR_wr, jJ_wr, jcl1_i, jcl1_r, jcl1_z, jcl1_n, jcl1_l, jwI_row, jwr_jwr, jwr_cm, jwr_cc, upd_upd, jI_wr_s, jI_wr_a, jI_wr_b, jI_wr_c, mInv_wr, upd_s, upd_n, Option.toList, List.cons_append, List.nil_append, true_or, or_true, eq_self, and_self, ite_true, ite_false, if_true, if_false, jK_wj, jR_wj, jI_wj, jwJ_row, jwj_jwj, jJ_wj_s, jJ_wj_n, jI_wr_n, jinb_nI, nI_clamp, tc0, tc1, tc2, tc3, tc4, tc5, tc6, tc7, tc8, tc9, tc10, tc11, tc12, tc13, tc14, tc15, tc16, tc17, tc18, tc19, tc20, tc21, tc22, tc23, tc24, tc25, tc26, tc27, tc28, tc29, tc30, tc31, tc32, tc33, tc34, tc35, tc36, tc37, tc38, tc39, tc40, tc41, tc42, tc43, tc44, tc45, tc46, tc47, tc48, tc49, tc50, tc51, tc52, tc53, tc54, tc55, tc56, tc57, tc58, tc59, tc60, tc61, tc62, tc63, tc64, tc65, tc66, tc67, tc68, tc69, tc77, tc83, tc119, tc159, tc160, nI_add, al0, ar0, ml0, mr0, al1, ar1, ml1, mr1, al2, ar2, ml2, mr2, al3, ar3, ml3, mr3, al4, ar4, ml4, mr4, al5, ar5, ml5, mr5, al6, ar6, ml6, mr6, al8, ar8, ml8, mr8, al10, ar10, ml10, mr10, al11, ar11, ml11, mr11, al12, ar12, ml12, mr12, al13, ar13, ml13, mr13, al16, ar16, ml16, mr16, al20, ar20, ml20, mr20, al24, ar24, ml24, mr24, al29, ar29, ml29, mr29, al36, ar36, ml36, mr36, al42, ar42, ml42, mr42, al48, ar48, ml48, mr48, al55, ar55, ml55, mr55, al60, ar60, ml60, mr60, al65, ar65, ml65, mr65, al77, ar77, ml77, mr77, al83, ar83, ml83, mr83, al119, ar119, ml119, mr119, al159, ar159, ml159, mr159, al160, ar160, ml160, mr160, al400, ar400, ml400, mr400, j1]
  have A5 : agx (fun a => a = x + 23 ∨ a = x + 24 ∨ (x + 75 ≤ a ∧ ow a = 2 + l')) h (jwr h4 (x + 23) (upd (jI h4 (x + 23)) 2 (nI (kpU U)))) := by
    have A' := agx_wid (W' := fun a => a = x + 23 ∨ a = x + 24 ∨ (x + 75 ≤ a ∧ ow a = 2 + l')) A (fun a _ w => by omega)
    refine ⟨by show jnx h ≤ jnx h4; rw [F4.1.1]; exact A.1, fun a ha => ?_, fun a ha hn => ?_⟩
    · show jK h4 a = _
      rw [F4.1.2.2.1]
      exact A.2.1 a ha
    · have hn1 : a ≠ x + 23 := fun w => hn (Or.inl w)
      have hap : a < p ∨ p + 5 ≤ a := by
        apply Classical.byContradiction
        intro q
        refine hn (Or.inr (Or.inr ⟨by omega, ?_⟩))
        rw [← how a ha]
        exact hlab a (by omega) (by omega)
      obtain ⟨e1, e2, e3⟩ := A'.2.2 a ha hn
      refine ⟨?_, ?_, ?_⟩
      · rw [jI_wr_n hn1, F4.2 a hap]; exact e1
      · show jJ h4 a = _
        rw [F4.1.2.2.2.2]; exact e2
      · show jR h4 a = _
        rw [F4.1.2.2.2.1]; exact e3
  have rr : ∀ i, jR (jwr h4 (x + 23) (upd (jI h4 (x + 23)) 2 (nI (kpU U)))) (x + 24) i = jR g (x + 24) i := fun i => by
    show jR h4 (x + 24) i = _
    rw [F4.1.2.2.2.1]
  refine hQ _ A5 ⟨⟨?_, ?_, ?_⟩, ⟨?_, hm20⟩, ⟨?_, ?_⟩, fun i p' hi hp' => ?_, fun j hj => ?_⟩ (by show jnx h4 = _; rw [F4.1.1]) (by show jsl h4 = _; rw [F4.1.2.1])
  · exact j1
  · show jR h4 (x + 23) 0 = _
    rw [F4.1.2.2.2.1]; exact g2
  · show jK h4 (x + 24) = _
    rw [F4.1.2.2.1]; exact g3
  · rw [jI_wr_s, upd_n (by omega)]; exact j4
  · rw [jI_wr_s, upd_s]
  · unfold kpU; split <;> omega
  · rw [rr] at hp'
    by_cases e : i = l'
    · subst e
      rw [g6] at hp'
      cases hp'
      exact ⟨hp, by show p + 5 ≤ jnx h4; rw [F4.1.1]; exact hp2, show stI h4 p from frm_st F4 Hp, hlab⟩
    · rw [g7 i e] at hp'
      obtain ⟨q1, q2, q3, q4⟩ := P4 i p' hi hp'
      refine ⟨q1, ?_, agx_st A5 q2 (fun a h1 h2 w => ?_) q3, fun a h1 h2 => by rw [how a (by omega)]; exact q4 a h1 h2⟩
      · have := A5.1
        omega
      · have := q4 a h1 h2
        omega
  · by_cases hj0 : j = 0
    · subst hj0
      refine ⟨p, ?_, ?_⟩
      · rw [rr, show (l' + 20 - 0) % 20 = l' by omega]
        exact g6
      · have eK : kpK K S U (kpU U - 1 - 0) = S := by
          unfold kpK kpU
          by_cases hU : U = 20
          · rw [if_pos hU, if_pos hU, if_pos (by omega)]
          · rw [if_neg hU, if_neg hU, if_pos (by omega)]
        rw [eK]
        intro s hs
        have := V4 s hs
        unfold stV1 at *
        rw [jI_wr_n (by omega), jI_wr_n (by omega), jI_wr_n (by omega), jI_wr_n (by omega), jI_wr_n (by omega)]
        exact this
    · have hU' : j - 1 < U := by unfold kpU at hj; split at hj <;> omega
      obtain ⟨p', q1, q2⟩ := P5 (j - 1) hU'
      have hidx : (l' + 20 - j) % 20 = (l + 20 - (j - 1)) % 20 := by unfold kpU at hj; split at hj <;> omega
      have hne : (l + 20 - (j - 1)) % 20 ≠ l' := by unfold kpU at hj; split at hj <;> omega
      refine ⟨p', ?_, ?_⟩
      · rw [rr, hidx, g7 _ hne]
        exact q1
      · have eK : kpK K S U (kpU U - 1 - j) = K (U - 1 - (j - 1)) := by
          unfold kpK kpU at *
          by_cases hU : U = 20
          · rw [if_pos hU] at hj
            rw [if_pos hU, if_pos hU, if_neg (by omega)]
            congr 1
            omega
          · rw [if_neg hU] at hj
            rw [if_neg hU, if_neg hU, if_neg (by omega)]
            congr 1
            omega
        rw [eK]
        obtain ⟨r1, r2, r3, r4⟩ := P4 _ p' (Nat.mod_lt _ (by omega)) q1
        exact agx_stV A5 r2 (fun a h1 h2 w => by
          have := r4 a h1 h2
          omega) q2
/-- keep -/
theorem k48 (P : psI h x ow l U K) (hx : x + 75 ≤ jnx h) (Hs : stI h s0) (V : stV h s0 S) (hs0 : s0 + 5 ≤ x + 23) (hQ : ∀ h' ow', agx (fun a => a = x + 23 ∨ a = x + 24 ∨ (x + 75 ≤ a ∧ ow a = 2 + (l + 1) % 20)) h h' → (∀ a, a < jnx h → ow' a = ow a) → psI h' x ow' ((l + 1) % 20) (kpU U) (kpK K S U) → jnx h' ≤ jnx h + 5 → jsl h' ≤ jsl h + 59 → Q none h') : jC (d + 2) 48 [.ref (x + 23), .ref s0] h Q := by
  rw [e48]
  obtain ⟨⟨p1, p2, p3⟩, ⟨p4, l20⟩, ⟨p5, U20⟩, P4, P5⟩ := id P
  have hm20 : (l + 1) % 20 < 20 := Nat.mod_lt _ (by omega)
  have e1 : nI (l + 1) - nI (l + 1) / 20 * 20 = nI ((l + 1) % 20) := pk_rem (d := 20) (by omega) (by omega) (by omega)
  have z20 : ¬ (20 : Int32) = 0 := by decide
  have A1 : agx (fun a => a = x + 23 ∨ a = x + 24) h (jwr h (x + 23) (upd (jI h (x + 23)) 1 (nI ((l + 1) % 20)))) := by
    rw [← jwI_row]
    exact agx_wI (Or.inl rfl)
  have Hs1 : stI (jwr h (x + 23) (upd (jI h (x + 23)) 1 (nI ((l + 1) % 20)))) s0 := Hs
  have V1 : stV (jwr h (x + 23) (upd (jI h (x + 23)) 1 (nI ((l + 1) % 20)))) s0 S := by
    unfold stV stV1 at *
    rw [jI_wr_n (by omega), jI_wr_n (by omega), jI_wr_n (by omega), jI_wr_n (by omega), jI_wr_n (by omega)]
    exact V
  have f1 : jI (jwr h (x + 23) (upd (jI h (x + 23)) 1 (nI ((l + 1) % 20)))) (x + 23) 1 = nI ((l + 1) % 20) := by rw [jI_wr_s, upd_s]
  have f2 : jI (jwr h (x + 23) (upd (jI h (x + 23)) 1 (nI ((l + 1) % 20)))) (x + 23) 2 = nI U := by rw [jI_wr_s, upd_n (by omega)]; exact p5
  simp (config := { decide := true }) (disch := (first | assumption | omega | (simp (config := { decide := true }) only [p1, z20, jK_wI, jK_wJ, jK_wR, jK_wr, jR_wr, jR_wI, jR_wJ, jK_wj, jR_wj, stI_wr, cmI_wr, stI_wj, cmI_wj]; done) | (simp only [p1, z20, jK_wI, jK_wJ, jK_wR, jK_wr, jR_wr, jR_wI, jR_wJ, jK_wj, jR_wj, stI_wr, cmI_wr, stI_wj, cmI_wj]; refine jinb_nI ?_ ?_ <;> omega) | (refine jinb_nI ?_ ?_ <;> omega) | (simp only [stI_wr, cmI_wr, stI_wj, cmI_wj]; assumption))) only [s48_0, s48_1, s48_2, s48_5, s48_6, s48_7, s48_9, s48_10, p4, e1, va_rf_some, va_rf_none, jK_wI, jR_wI, jJ_wI, jK_wJ, jR_wJ, jI_wJ, jK_wR, jI_wR, jJ_wR, jK_wr, jR_wr, jJ_wr, jcl1_i, jcl1_r, jcl1_z, jcl1_n, jcl1_l, jwI_row, jwr_jwr, jwr_cm, jwr_cc, upd_upd, jI_wr_s, jI_wr_a, jI_wr_b, jI_wr_c, mInv_wr, upd_s, upd_n, Option.toList, List.cons_append, List.nil_append, true_or, or_true, eq_self, and_self, ite_true, ite_false, if_true, if_false, jK_wj, jR_wj, jI_wj, jwJ_row, jwj_jwj, jJ_wj_s, jJ_wj_n, jI_wr_n, jinb_nI, nI_clamp, tc0, tc1, tc2, tc3, tc4, tc5, tc6, tc7, tc8, tc9, tc10, tc11, tc12, tc13, tc14, tc15, tc16, tc17, tc18, tc19, tc20, tc21, tc22, tc23, tc24, tc25, tc26, tc27, tc28, tc29, tc30, tc31, tc32, tc33, tc34, tc35, tc36, tc37, tc38, tc39, tc40, tc41, tc42, tc43, tc44, tc45, tc46, tc47, tc48, tc49, tc50, tc51, tc52, tc53, tc54, tc55, tc56, tc57, tc58, tc59, tc60, tc61, tc62, tc63, tc64, tc65, tc66, tc67, tc68, tc69, tc77, tc83, tc119, tc159, tc160, nI_add, al0, ar0, ml0, mr0, al1, ar1, ml1, mr1, al2, ar2, ml2, mr2, al3, ar3, ml3, mr3, al4, ar4, ml4, mr4, al5, ar5, ml5, mr5, al6, ar6, ml6, mr6, al8, ar8, ml8, mr8, al10, ar10, ml10, mr10, al11, ar11, ml11, mr11, al12, ar12, ml12, mr12, al13, ar13, ml13, mr13, al16, ar16, ml16, mr16, al20, ar20, ml20, mr20, al24, ar24, ml24, mr24, al29, ar29, ml29, mr29, al36, ar36, ml36, mr36, al42, ar42, ml42, mr42, al48, ar48, ml48, mr48, al55, ar55, ml55, mr55, al60, ar60, ml60, mr60, al65, ar65, ml65, mr65, al77, ar77, ml77, mr77, al83, ar83, ml83, mr83, al119, ar119, ml119, mr119, al159, ar159, ml159, mr159, al160, ar160, ml160, mr160, al400, ar400, ml400, mr400, p1, z20]
  generalize hg : jwr h (x + 23) (upd (jI h (x + 23)) 1 (nI ((l + 1) % 20))) = g at *
  have gK : jK g = jK h := by rw [← hg]; rfl
  have gR : jR g = jR h := by rw [← hg]; rfl
  have gn : jnx g = jnx h := by rw [← hg]; rfl
  have gs : jsl g = jsl h := by rw [← hg]; rfl
  have q1 : jK g (x + 23) = (25, 3) := by rw [gK]; exact p1
  have q2 : jR g (x + 23) 0 = some (x + 24) := by rw [gR]; exact p2
  have q3 : jK g (x + 24) = (7, 20) := by rw [gK]; exact p3
  generalize hl' : (l + 1) % 20 = l' at *
  cases hk : jR h (x + 24) l' with
  | some p =>
    have hk' : jR g (x + 24) l' = some p := by rw [gR]; exact hk
    obtain ⟨r1, r2, r3, r4⟩ := P4 l' p hm20 hk
    simp (config := { decide := true }) (disch := (first | assumption | omega | (simp (config := { decide := true }) only [q1, q2, q3, jK_wI, jK_wJ, jK_wR, jK_wr, jR_wr, jR_wI, jR_wJ, jK_wj, jR_wj, stI_wr, cmI_wr, stI_wj, cmI_wj]; done) | (simp only [q1, q2, q3, jK_wI, jK_wJ, jK_wR, jK_wr, jR_wr, jR_wI, jR_wJ, jK_wj, jR_wj, stI_wr, cmI_wr, stI_wj, cmI_wj]; refine jinb_nI ?_ ?_ <;> omega) | (refine jinb_nI ?_ ?_ <;> omega) | (simp only [stI_wr, cmI_wr, stI_wj, cmI_wj]; assumption))) only [s48_13, s48_14, s48_17, s48_18, s48_21, s48_22, s48_22N, f1, hk', va_rf_some, va_rf_none, jK_wI, jR_wI, jJ_wI, jK_wJ, jR_wJ, jI_wJ, jK_wR, jI_wR, jJ_wR, jK_wr, jR_wr, jJ_wr, jcl1_i, jcl1_r, jcl1_z, jcl1_n, jcl1_l, jwI_row, jwr_jwr, jwr_cm, jwr_cc, upd_upd, jI_wr_s, jI_wr_a, jI_wr_b, jI_wr_c, mInv_wr, upd_s, upd_n, Option.toList, List.cons_append, List.nil_append, true_or, or_true, eq_self, and_self, ite_true, ite_false, if_true, if_false, jK_wj, jR_wj, jI_wj, jwJ_row, jwj_jwj, jJ_wj_s, jJ_wj_n, jI_wr_n, jinb_nI, nI_clamp, tc0, tc1, tc2, tc3, tc4, tc5, tc6, tc7, tc8, tc9, tc10, tc11, tc12, tc13, tc14, tc15, tc16, tc17, tc18, tc19, tc20, tc21, tc22, tc23, tc24, tc25, tc26, tc27, tc28, tc29, tc30, tc31, tc32, tc33, tc34, tc35, tc36, tc37, tc38, tc39, tc40, tc41, tc42, tc43, tc44, tc45, tc46, tc47, tc48, tc49, tc50, tc51, tc52, tc53, tc54, tc55, tc56, tc57, tc58, tc59, tc60, tc61, tc62, tc63, tc64, tc65, tc66, tc67, tc68, tc69, tc77, tc83, tc119, tc159, tc160, nI_add, al0, ar0, ml0, mr0, al1, ar1, ml1, mr1, al2, ar2, ml2, mr2, al3, ar3, ml3, mr3, al4, ar4, ml4, mr4, al5, ar5, ml5, mr5, al6, ar6, ml6, mr6, al8, ar8, ml8, mr8, al10, ar10, ml10, mr10, al11, ar11, ml11, mr11, al12, ar12, ml12, mr12, al13, ar13, ml13, mr13, al16, ar16, ml16, mr16, al20, ar20, ml20, mr20, al24, ar24, ml24, mr24, al29, ar29, ml29, mr29, al36, ar36, ml36, mr36, al42, ar42, ml42, mr42, al48, ar48, ml48, mr48, al55, ar55, ml55, mr55, al60, ar60, ml60, mr60, al65, ar65, ml65, mr65, al77, ar77, ml77, mr77, al83, ar83, ml83, mr83, al119, ar119, ml119, mr119, al159, ar159, ml159, mr159, al160, ar160, ml160, mr160, al400, ar400, ml400, mr400, q1, q2, q3]
    refine l48 (ow' := ow) P hx A1 Hs1 V1 hs0 q1 q2 q3 (by rw [hl']; exact f1) f2 (by rw [hl']; exact hk') (fun i _ => by rw [gR]) r1 (by omega) (by unfold stI at *; rw [gK, gR]; exact r3) (fun _ _ => rfl) (by rw [hl']; exact r4) (fun h' A' P' n' s' => ?_)
    rw [hl'] at A' P'
    exact hQ h' ow A' (fun _ _ => rfl) P' (by omega) (by omega)
  | none =>
    have hk' : jR g (x + 24) l' = none := by rw [gR]; exact hk
    simp (config := { decide := true }) (disch := (first | assumption | omega | (simp (config := { decide := true }) only [q1, q2, q3, jK_wI, jK_wJ, jK_wR, jK_wr, jR_wr, jR_wI, jR_wJ, jK_wj, jR_wj, stI_wr, cmI_wr, stI_wj, cmI_wj]; done) | (simp only [q1, q2, q3, jK_wI, jK_wJ, jK_wR, jK_wr, jR_wr, jR_wI, jR_wJ, jK_wj, jR_wj, stI_wr, cmI_wr, stI_wj, cmI_wj]; refine jinb_nI ?_ ?_ <;> omega) | (refine jinb_nI ?_ ?_ <;> omega) | (simp only [stI_wr, cmI_wr, stI_wj, cmI_wj]; assumption))) only [s48_13, s48_14, s48_17, s48_18, s48_21, s48_22, s48_22N, s48_25, s48_26, s48_29, s48_30, f1, hk', va_rf_some, va_rf_none, jK_wI, jR_wI, jJ_wI, jK_wJ, jR_wJ, jI_wJ, jK_wR, jI_wR, jJ_wR, jK_wr, jR_wr, jJ_wr, jcl1_i, jcl1_r, jcl1_z, jcl1_n, jcl1_l, jwI_row, jwr_jwr, jwr_cm, jwr_cc, upd_upd, jI_wr_s, jI_wr_a, jI_wr_b, jI_wr_c, mInv_wr, upd_s, upd_n, Option.toList, List.cons_append, List.nil_append, true_or, or_true, eq_self, and_self, ite_true, ite_false, if_true, if_false, jK_wj, jR_wj, jI_wj, jwJ_row, jwj_jwj, jJ_wj_s, jJ_wj_n, jI_wr_n, jinb_nI, nI_clamp, tc0, tc1, tc2, tc3, tc4, tc5, tc6, tc7, tc8, tc9, tc10, tc11, tc12, tc13, tc14, tc15, tc16, tc17, tc18, tc19, tc20, tc21, tc22, tc23, tc24, tc25, tc26, tc27, tc28, tc29, tc30, tc31, tc32, tc33, tc34, tc35, tc36, tc37, tc38, tc39, tc40, tc41, tc42, tc43, tc44, tc45, tc46, tc47, tc48, tc49, tc50, tc51, tc52, tc53, tc54, tc55, tc56, tc57, tc58, tc59, tc60, tc61, tc62, tc63, tc64, tc65, tc66, tc67, tc68, tc69, tc77, tc83, tc119, tc159, tc160, nI_add, al0, ar0, ml0, mr0, al1, ar1, ml1, mr1, al2, ar2, ml2, mr2, al3, ar3, ml3, mr3, al4, ar4, ml4, mr4, al5, ar5, ml5, mr5, al6, ar6, ml6, mr6, al8, ar8, ml8, mr8, al10, ar10, ml10, mr10, al11, ar11, ml11, mr11, al12, ar12, ml12, mr12, al13, ar13, ml13, mr13, al16, ar16, ml16, mr16, al20, ar20, ml20, mr20, al24, ar24, ml24, mr24, al29, ar29, ml29, mr29, al36, ar36, ml36, mr36, al42, ar42, ml42, mr42, al48, ar48, ml48, mr48, al55, ar55, ml55, mr55, al60, ar60, ml60, mr60, al65, ar65, ml65, mr65, al77, ar77, ml77, mr77, al83, ar83, ml83, mr83, al119, ar119, ml119, mr119, al159, ar159, ml159, mr159, al160, ar160, ml160, mr160, al400, ar400, ml400, mr400, q1, q2, q3]
    rw [s48_33, s48_36, s48_37]
    refine k81 (a := jnx g) rfl (by show jur (jK g) (jnx g) (20 + 9, jN 9) (jnx g) = _; rw [jur_eq]; rfl) (by show jur (jI g) (jnx g) (fun _ => 0) (jnx g) = _; rw [jur_eq]) (fun h2 M2 => ?_)
    have St := oMk_st M2
    obtain ⟨⟨m1, m2⟩, m3, m4, m5, m6⟩ := M2
    have old : ∀ b, b < jnx g → jK h2 b = jK g b ∧ jI h2 b = jI g b ∧ jJ h2 b = jJ g b ∧ jR h2 b = jR g b := by
      intro b hb
      obtain ⟨e1, e2, e3, e4⟩ := m5 b hb
      exact ⟨e1.trans (jur_ne (by omega)), e2.trans (jur_ne (by omega)), e3.trans (jur_ne (by omega)), e4.trans (jur_ne (by omega))⟩
    have t3 : jK h2 (x + 24) = (7, 20) := by rw [(old (x + 24) (by omega)).1]; exact q3
    have tin : jinb (nI l') 20 = true := jinb_nI hm20 (by omega)
    have tcl : (nI l').toNatClampNeg = l' := nI_clamp (by omega)
    simp only [Option.toList, List.nil_append]
    rw [s48_40 (by rw [t3]; decide) (by rw [m3, t3]; rfl) (by rw [t3]; exact tin), tcl]
    have oldR : ∀ b, b < jnx g → b ≠ x + 24 → jR (jwR h2 (x + 24) l' (some (jnx g))) b = jR g b := fun b hb hne => by
      show jup (jR h2) (x + 24) l' (some (jnx g)) b = _
      rw [jup_ne hne, (old b hb).2.2.2]
    have slotR : ∀ i, jR (jwR h2 (x + 24) l' (some (jnx g))) (x + 24) i = if i = l' then some (jnx g) else jR g (x + 24) i := fun i => by
      show jup (jR h2) (x + 24) l' (some (jnx g)) (x + 24) i = _
      unfold jup
      rw [if_pos rfl, (old (x + 24) (by omega)).2.2.2]
    have A2 : agx (fun a => a = x + 23 ∨ a = x + 24) h (jwR h2 (x + 24) l' (some (jnx g))) := by
      refine agx_trans A1 ⟨by show jnx g ≤ jnx h2; omega, fun a ha => (old a ha).1, fun a ha hn => ⟨(old a ha).2.1, (old a ha).2.2.1, oldR a ha (fun w => hn (Or.inr w))⟩⟩
    have stm : ∀ p, p < jnx g → p + 5 ≤ jnx g → p + 5 ≤ x + 24 → stI g p → stI (jwR h2 (x + 24) l' (some (jnx g))) p := by
      intro p hp1 hp2 hp3 H
      unfold stI at *
      rw [oldR p hp1 (by omega)]
      show jK h2 p = _ ∧ (_ ∧ jK h2 (p + 1) = _) ∧ (_ ∧ jK h2 (p + 2) = _) ∧ (_ ∧ jK h2 (p + 3) = _) ∧ (_ ∧ jK h2 (p + 4) = _)
      rw [(old p (by omega)).1, (old (p + 1) (by omega)).1, (old (p + 2) (by omega)).1, (old (p + 3) (by omega)).1, (old (p + 4) (by omega)).1]
      exact H
    refine l48 (S := S) (ow' := fun a => if jnx h ≤ a then 2 + l' else ow a) (p := jnx g) P hx A2 (stm s0 (by omega) (by omega) (by omega) Hs1) ?_ hs0 ?_ ?_ ?_ ?_ ?_ ?_ ?_ (by omega) ?_ ?_ ?_ ?_ (fun h' A' P' n' s' => ?_)
    · unfold stV stV1 at *
      show ∀ s, s < 6 → jI h2 s0 0 = _ ∧ jI h2 (s0 + 1) s = _ ∧ jI h2 (s0 + 2) s = _ ∧ jI h2 (s0 + 3) s = _ ∧ ∀ k, k < 6 → jI h2 (s0 + 4) (s * 6 + k) = _
      rw [(old s0 (by omega)).2.1, (old (s0 + 1) (by omega)).2.1, (old (s0 + 2) (by omega)).2.1, (old (s0 + 3) (by omega)).2.1, (old (s0 + 4) (by omega)).2.1]
      exact V1
    · show jK h2 (x + 23) = _
      rw [(old _ (by omega)).1]; exact q1
    · rw [oldR _ (by omega) (by omega)]; exact q2
    · exact t3
    · rw [hl']
      show jI h2 (x + 23) 1 = _
      rw [(old _ (by omega)).2.1]; exact f1
    · show jI h2 (x + 23) 2 = _
      rw [(old _ (by omega)).2.1]; exact f2
    · rw [hl', slotR, if_pos rfl]
    · intro i hi
      rw [hl'] at hi
      rw [slotR, if_neg hi, gR]
    · show jnx g + 5 ≤ jnx h2
      omega
    · have eSt : jR (jwR h2 (x + 24) l' (some (jnx g))) (jnx g) = jR h2 (jnx g) := by
        show jup (jR h2) (x + 24) l' (some (jnx g)) (jnx g) = _
        rw [jup_ne (by omega)]
      unfold stI at St ⊢
      rw [eSt]
      exact St
    · intro a ha
      rw [if_neg (by omega)]
    · intro a h1 h2'
      rw [hl', if_pos (by omega)]
    · rw [hl'] at A' P'
      have n2 : jnx (jwR h2 (x + 24) l' (some (jnx g))) = jnx h2 := rfl
      have s2 : jsl (jwR h2 (x + 24) l' (some (jnx g))) = jsl h2 := rfl
      have s3 : jsl (jnew g 29 5) = jsl g + 5 := rfl
      exact hQ h' _ A' (fun a ha => if_neg (by omega)) P' (by omega) (by omega)
/-- giveBack -/
theorem k49 (P : psI h x ow l U K) (hx : x + 75 ≤ jnx h) (Hs : stI h s0) (hs0 : s0 + 5 ≤ x + 23) (hU : 0 < U) (hQ : ∀ h', agx (fun a => a = x + 23 ∨ (s0 ≤ a ∧ a < s0 + 5)) h h' → stV h' s0 (K (U - 1)) → psI h' x ow ((l + 19) % 20) (U - 1) K → jI h' (x + 23) 2 = nI (U - 1) → jnx h' = jnx h → jsl h' = jsl h → jR h' = jR h → Q none h') : jC (d + 2) 49 [.ref (x + 23), .ref s0] h Q := by
  rw [e49]
  obtain ⟨⟨p1, p2, p3⟩, ⟨p4, l20⟩, ⟨p5, U20⟩, P4, P5⟩ := id P
  obtain ⟨p, q1, q2⟩ := P5 0 hU
  have el : (l + 20 - 0) % 20 = l := by omega
  rw [el] at q1
  obtain ⟨r1, r2, r3, r4⟩ := P4 l p l20 q1
  have z1 : ¬ nI U ≤ 0 := nI_ge (a := 0) (by omega) (by omega)
  have hk := Hs.1
  simp (config := { decide := true }) (disch := (first | assumption | omega | (simp (config := { decide := true }) only [p1, p2, p3, hk, jK_wI, jK_wJ, jK_wR, jK_wr, jR_wr, jR_wI, jR_wJ, jK_wj, jR_wj, stI_wr, cmI_wr, stI_wj, cmI_wj]; done) | (simp only [p1, p2, p3, hk, jK_wI, jK_wJ, jK_wR, jK_wr, jR_wr, jR_wI, jR_wJ, jK_wj, jR_wj, stI_wr, cmI_wr, stI_wj, cmI_wj]; refine jinb_nI ?_ ?_ <;> omega) | (refine jinb_nI ?_ ?_ <;> omega) | (simp only [stI_wr, cmI_wr, stI_wj, cmI_wj]; assumption))) only [s49_0, s49_1, s49_4, s49_7, s49_8, s49_11, s49_12, s49_15, s49_16, s49_16N, s49_20, s49_20N, s49_21, s49_22, s49_25, s49_26, s49_29, s49_30, p4, p5, if_neg z1, q1, va_rf_some, va_rf_none, jK_wI, jR_wI, jJ_wI, jK_wJ, jR_wJ, jI_wJ, jK_wR, jI_wR, jJ_wR, jK_wr, jR_wr, jJ_wr, jcl1_i, jcl1_r, jcl1_z, jcl1_n, jcl1_l, jwI_row, jwr_jwr, jwr_cm, jwr_cc, upd_upd, jI_wr_s, jI_wr_a, jI_wr_b, jI_wr_c, mInv_wr, upd_s, upd_n, Option.toList, List.cons_append, List.nil_append, true_or, or_true, eq_self, and_self, ite_true, ite_false, if_true, if_false, jK_wj, jR_wj, jI_wj, jwJ_row, jwj_jwj, jJ_wj_s, jJ_wj_n, jI_wr_n, jinb_nI, nI_clamp, tc0, tc1, tc2, tc3, tc4, tc5, tc6, tc7, tc8, tc9, tc10, tc11, tc12, tc13, tc14, tc15, tc16, tc17, tc18, tc19, tc20, tc21, tc22, tc23, tc24, tc25, tc26, tc27, tc28, tc29, tc30, tc31, tc32, tc33, tc34, tc35, tc36, tc37, tc38, tc39, tc40, tc41, tc42, tc43, tc44, tc45, tc46, tc47, tc48, tc49, tc50, tc51, tc52, tc53, tc54, tc55, tc56, tc57, tc58, tc59, tc60, tc61, tc62, tc63, tc64, tc65, tc66, tc67, tc68, tc69, tc77, tc83, tc119, tc159, tc160, nI_add, al0, ar0, ml0, mr0, al1, ar1, ml1, mr1, al2, ar2, ml2, mr2, al3, ar3, ml3, mr3, al4, ar4, ml4, mr4, al5, ar5, ml5, mr5, al6, ar6, ml6, mr6, al8, ar8, ml8, mr8, al10, ar10, ml10, mr10, al11, ar11, ml11, mr11, al12, ar12, ml12, mr12, al13, ar13, ml13, mr13, al16, ar16, ml16, mr16, al20, ar20, ml20, mr20, al24, ar24, ml24, mr24, al29, ar29, ml29, mr29, al36, ar36, ml36, mr36, al42, ar42, ml42, mr42, al48, ar48, ml48, mr48, al55, ar55, ml55, mr55, al60, ar60, ml60, mr60, al65, ar65, ml65, mr65, al77, ar77, ml77, mr77, al83, ar83, ml83, mr83, al119, ar119, ml119, mr119, al159, ar159, ml159, mr159, al160, ar160, ml160, mr160, al400, ar400, ml400, mr400, p1, p2, p3, hk]
  refine k88 Hs r3 (by omega) q2 (fun h2 F2 V2 => ?_)
  have j1 : jK h2 (x + 23) = (25, 3) := by rw [F2.1.2.2.1]; exact p1
  have j4 : jI h2 (x + 23) 1 = nI l := by rw [F2.2 (x + 23) (by omega)]; exact p4
  have j5 : jI h2 (x + 23) 2 = nI U := by rw [F2.2 (x + 23) (by omega)]; exact p5
  have e0 : nI (l + 20) - 1 = nI (l + 19) := nI_sb (a := 1) (b := l + 20) (by omega)
  have e1 : nI (l + 19) - nI (l + 19) / 20 * 20 = nI ((l + 19) % 20) := pk_rem (d := 20) (by omega) (by omega) (by omega)
  have z20 : ¬ (20 : Int32) = 0 := by decide
  have e2 : nI U - 1 = nI (U - 1) := nI_sb (a := 1) (by omega)
  simp only [Option.toList, List.nil_append]
  simp (config := { decide := true }) (disch := (first | assumption | omega | (simp (config := { decide := true }) only [j1, z20, jK_wI, jK_wJ, jK_wR, jK_wr, jR_wr, jR_wI, jR_wJ, jK_wj, jR_wj, stI_wr, cmI_wr, stI_wj, cmI_wj]; done) | (simp only [j1, z20, jK_wI, jK_wJ, jK_wR, jK_wr, jR_wr, jR_wI, jR_wJ, jK_wj, jR_wj, stI_wr, cmI_wr, stI_wj, cmI_wj]; refine jinb_nI ?_ ?_ <;> omega) | (refine jinb_nI ?_ ?_ <;> omega) | (simp only [stI_wr, cmI_wr, stI_wj, cmI_wj]; assumption))) only [s49_33, s49_34, s49_35, s49_38, s49_40, s49_41, s49_42, s49_43, s49_45, s49_46, s49_49, s49_50, s49_51, s49_54, s49_55, s49_56, s49_59, j4, j5, e0, e1, e2, va_rf_some, va_rf_none, jK_wI, jR_wI, jJ_wI, jK_wJ, jR_wJ, jI_wJ, jK_wR, jI_wR, jJ_wR, jK_wr, jR_wr, jJ_wr, jcl1_i, jcl1_r, jcl1_z, jcl1_n, jcl1_l, jwI_row, jwr_jwr, jwr_cm, jwr_cc, upd_upd, jI_wr_s, jI_wr_a, jI_wr_b, jI_wr_c, mInv_wr, upd_s, upd_n, Option.toList, List.cons_append, List.nil_append, true_or, or_true, eq_self, and_self, ite_true, ite_false, if_true, if_false, jK_wj, jR_wj, jI_wj, jwJ_row, jwj_jwj, jJ_wj_s, jJ_wj_n, jI_wr_n, jinb_nI, nI_clamp, tc0, tc1, tc2, tc3, tc4, tc5, tc6, tc7, tc8, tc9, tc10, tc11, tc12, tc13, tc14, tc15, tc16, tc17, tc18, tc19, tc20, tc21, tc22, tc23, tc24, tc25, tc26, tc27, tc28, tc29, tc30, tc31, tc32, tc33, tc34, tc35, tc36, tc37, tc38, tc39, tc40, tc41, tc42, tc43, tc44, tc45, tc46, tc47, tc48, tc49, tc50, tc51, tc52, tc53, tc54, tc55, tc56, tc57, tc58, tc59, tc60, tc61, tc62, tc63, tc64, tc65, tc66, tc67, tc68, tc69, tc77, tc83, tc119, tc159, tc160, nI_add, al0, ar0, ml0, mr0, al1, ar1, ml1, mr1, al2, ar2, ml2, mr2, al3, ar3, ml3, mr3, al4, ar4, ml4, mr4, al5, ar5, ml5, mr5, al6, ar6, ml6, mr6, al8, ar8, ml8, mr8, al10, ar10, ml10, mr10, al11, ar11, ml11, mr11, al12, ar12, ml12, mr12, al13, ar13, ml13, mr13, al16, ar16, ml16, mr16, al20, ar20, ml20, mr20, al24, ar24, ml24, mr24, al29, ar29, ml29, mr29, al36, ar36, ml36, mr36, al42, ar42, ml42, mr42, al48, ar48, ml48, mr48, al55, ar55, ml55, mr55, al60, ar60, ml60, mr60, al65, ar65, ml65, mr65, al77, ar77, ml77, mr77, al83, ar83, ml83, mr83, al119, ar119, ml119, mr119, al159, ar159, ml159, mr159, al160, ar160, ml160, mr160, al400, ar400, ml400, mr400, j1, z20]
  have A : agx (fun a => a = x + 23 ∨ (s0 ≤ a ∧ a < s0 + 5)) h (jwr h2 (x + 23) (upd (upd (jI h2 (x + 23)) 1 (nI ((l + 19) % 20))) 2 (nI (U - 1)))) := by
    refine ⟨by show jnx h ≤ jnx h2; rw [F2.1.1]; exact Nat.le_refl _, fun a _ => by show jK h2 a = _; rw [F2.1.2.2.1], fun a ha hn => ⟨?_, ?_, ?_⟩⟩
    · rw [jI_wr_n (fun w => hn (Or.inl w)), F2.2 a (by
        apply Classical.byContradiction
        intro q
        exact hn (Or.inr (by omega)))]
    · show jJ h2 a = _
      rw [F2.1.2.2.2.2]
    · show jR h2 a = _
      rw [F2.1.2.2.2.1]
  have rr : ∀ i, jR (jwr h2 (x + 23) (upd (upd (jI h2 (x + 23)) 1 (nI ((l + 19) % 20))) 2 (nI (U - 1)))) (x + 24) i = jR h (x + 24) i := fun i => by
    show jR h2 (x + 24) i = _
    rw [F2.1.2.2.2.1]
  refine hQ _ A ?_ ⟨⟨j1, ?_, ?_⟩, ⟨?_, Nat.mod_lt _ (by omega)⟩, ⟨?_, by omega⟩, fun i p' hi hp' => ?_, fun j hj => ?_⟩ ?_ (by show jnx h2 = _; rw [F2.1.1]) (by show jsl h2 = _; rw [F2.1.2.1]) (by show jR h2 = _; rw [F2.1.2.2.2.1])
  · unfold stV stV1 at *
    rw [jI_wr_n (by omega), jI_wr_n (by omega), jI_wr_n (by omega), jI_wr_n (by omega), jI_wr_n (by omega)]
    exact V2
  · show jR h2 (x + 23) 0 = _
    rw [F2.1.2.2.2.1]; exact p2
  · show jK h2 (x + 24) = _
    rw [F2.1.2.2.1]; exact p3
  · rw [jI_wr_s, upd_n (by omega), upd_s]
  · rw [jI_wr_s, upd_s]
  · rw [rr] at hp'
    obtain ⟨t1, t2, t3, t4⟩ := P4 i p' hi hp'
    exact ⟨t1, by show p' + 5 ≤ jnx h2; rw [F2.1.1]; exact t2, agx_st A t2 (fun a h1 h2 w => by omega) t3, t4⟩
  · obtain ⟨p', t1, t2⟩ := P5 (j + 1) (by omega)
    have hidx : ((l + 19) % 20 + 20 - j) % 20 = (l + 20 - (j + 1)) % 20 := by omega
    refine ⟨p', by rw [rr, hidx]; exact t1, ?_⟩
    obtain ⟨u1, u2, u3, u4⟩ := P4 _ p' (Nat.mod_lt _ (by omega)) t1
    rw [show U - 1 - 1 - j = U - 1 - (j + 1) by omega]
    exact agx_stV A u2 (fun a h1 h2 w => by omega) t2
  · rw [jI_wr_s, upd_s]
end
