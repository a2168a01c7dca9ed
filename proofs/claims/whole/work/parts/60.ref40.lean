/-! THE REFERENCE READS: the lines of a camp -/
def uN (z : Nat → Nat) (i v : Nat) : Nat → Nat := fun j => if j = i then v else z j
theorem uN_s {z : Nat → Nat} {i v : Nat} : uN z i v i = v := if_pos rfl
theorem uN_n {z : Nat → Nat} {i j v : Nat} (h : j ≠ i) : uN z i v j = z j := if_neg h
/-- the row that is read -/
def zR (f : Nat → Int32) (z : Nat → Nat) : Nat → Int32 := jput f (fun i => nI (z i)) 0 119
theorem zR_r {f : Nat → Int32} {z : Nat → Nat} {i : Nat} (h : i < 119) : zR f z i = nI (z i) := jput_in (by omega) (by omega)
theorem zR_w {f : Nat → Int32} {z : Nat → Nat} {i v : Nat} (h : i < 119) : upd (zR f z) i (nI v) = zR f (uN z i v) := by
  funext j
  by_cases e : j = i
  · subst e
    rw [upd_s, zR_r h, uN_s]
  · rw [upd_n e]
    by_cases g : j < 119
    · rw [zR_r g, zR_r g, uN_n e]
    · unfold zR
      rw [jput_out (by omega), jput_out (by omega)]
theorem whl_all {q : Nat → Bool} : ∀ {n p i : Nat}, p ≤ i → i < whl q n p → q i = true := by
  intro n
  induction n with
  | zero => intro p i h1 h2; exact absurd h2 (by show ¬ i < p; omega)
  | succ n ih =>
    intro p i h1 h2
    cases e : q p with
    | false => rw [whl_n e] at h2; omega
    | true =>
      rw [whl_y e] at h2
      by_cases g : i = p
      · subst g; exact e
      · exact ih (by omega) h2
theorem nvl_bd {T : Nat → Nat} {p : Nat} : ∀ n, n ≤ 5 → (∀ i, i < n → T (p + i) ≤ 57) → nvl T p n + 1 ≤ 10 ^ n := by
  intro n
  induction n with
  | zero => intro _ _; exact Nat.le_refl _
  | succ n ih =>
    intro h5 h
    have := ih (by omega) (fun i hi => h i (by omega))
    have h2 := h n (by omega)
    unfold nvl
    rw [if_pos (by omega), Nat.pow_succ]
    omega
/-- a number, up to hi -/
def numN (T : Nat → Nat) (L p : Nat) (hi : Int32) : Except Nat (Nat × Nat) := if dig T L (skp T L p) then (if nok T L (skp T L p) hi then .ok (dnd T L (skp T L p), nvl T (skp T L p) (dnd T L (skp T L p) - skp T L p)) else .error (fW 0 1 (skp T L p))) else .error (fW 0 0 (skp T L p))
theorem numN_gd {T : Nat → Nat} {L p : Nat} {hi : Int32} {r : Nat × Nat} (hp : p ≤ L) (h : numN T L p hi = .ok r) : p < r.1 ∧ r.1 ≤ L ∧ r.2 ≤ 99999 ∧ inR (nI r.2) 0 hi = true := by
  have h1 := skp_le (T := T) hp
  have h2 := skp_ge (T := T) (L := L) (p := p)
  unfold numN at h
  split at h
  · next g =>
    obtain ⟨g1, g2⟩ := dig_lt g
    have g3 := dnd_le (T := T) h1
    split at h
    · next g4 =>
      cases h
      unfold nok at g4
      obtain ⟨g5, g6⟩ := Bool.and_eq_true_iff.mp g4
      have g5 := of_decide_eq_true g5
      refine ⟨show p < dnd T L (skp T L p) by omega, g3.1, ?_, g6⟩
      have := nvl_bd (T := T) (p := skp T L p) (dnd T L (skp T L p) - skp T L p) g5 (fun i hi => by
        have := whl_all (q := dig T L) (n := L - skp T L p) (p := skp T L p) (i := skp T L p + i) (by omega) (by show _ < dnd T L (skp T L p); omega)
        unfold dig at this
        simp only [Bool.and_eq_true, decide_eq_true_eq] at this
        exact this.2.2)
      have h10 : 10 ^ (dnd T L (skp T L p) - skp T L p) ≤ 10 ^ 5 := Nat.pow_le_pow_right (by omega) g5
      show nvl T (skp T L p) (dnd T L (skp T L p) - skp T L p) ≤ 99999
      omega
    · cases h
  · cases h
theorem numN_eb {T : Nat → Nat} {L p w : Nat} {hi : Int32} (hp : p ≤ L) (h : numN T L p hi = .error w) : 0 < w ∧ w ≤ 8 * L + 5 := by
  have h1 := skp_le (T := T) hp
  unfold numN at h
  split at h
  · split at h
    · cases h
    · cases h; exact fW_b h1 (by omega)
  · cases h; exact fW_b h1 (by omega)
def aCel (T : Nat → Nat) (L p i : Nat) (hi : Int32) (z : Nat → Nat) : Except Nat (Nat × (Nat → Nat)) := match numN T L p hi with
  | .error w => .error w
  | .ok r => .ok (r.1, uN z i r.2)
def nOut (Q : Option Value → jH → Prop) (g : jH) (m md dp li od : Nat) : Except Nat (Nat × Nat) → Prop
  | .ok r => Q (some (.int 1)) (pH g m r.1 0 r.2 md dp li od)
  | .error w => ∀ nx nb, Q (some (.int 0)) (pH g m nx w nb md dp li od)
def eOut (Q : Option Value → jH → Prop) (g : jH) (m : Nat) (f : Nat → Int32) (md dp li od : Nat) : Except Nat (Nat × (Nat → Nat)) → Prop
  | .ok r => ∀ nb, Q (some (.int 1)) (pH (jwr g (m + 6) (zR f r.2)) m r.1 0 nb md dp li od)
  | .error w => ∀ nx nb z, Q (some (.int 0)) (pH (jwr g (m + 6) (zR f z)) m nx w nb md dp li od)
theorem g6X {g : jH} {m : Nat} {f : Nat → Int32} {T : Nat → Nat} {L : Nat} (X : pX g m T L) : pX (jwr g (m + 6) f) m T L := by
  obtain ⟨H, hL, hT⟩ := X
  refine ⟨H, by rw [jI_wr_c (by omega)]; exact hL, fun p hp => ?_⟩
  rw [jI_wr_a (by omega)]
  exact hT p hp
section
variable {g : jH} {m : Nat} {d : Nat} {Q : Option Value → jH → Prop} {T : Nat → Nat} {L nx wr nb md dp li od : Nat} {f : Nat → Int32} {z : Nat → Nat}
theorem c157n (X : pX g m T L) (hn : nx ≤ L) {hi : Int32} (hQ : nOut Q g m md dp li od (numN T L nx hi)) : jC (d + 2) 157 [.ref m, .int 0, .int hi] (pH g m nx 0 nb md dp li od) Q := by
  rw [c157 X hn (by omega)]
  unfold numN at hQ
  cases g1 : dig T L (skp T L nx) with
  | false =>
    rw [g1, if_neg (by decide)] at hQ
    rw [if_neg (by decide)]
    exact hQ _ _
  | true =>
    rw [g1, if_pos rfl] at hQ
    rw [if_pos rfl]
    cases g2 : nok T L (skp T L nx) hi with
    | false =>
      rw [g2, if_neg (by decide)] at hQ
      rw [if_neg (by decide)]
      exact hQ _ _
    | true =>
      rw [g2, if_pos rfl] at hQ
      rw [if_pos rfl]
      exact hQ
theorem c156a {h : jH} {l1 l2 l3 : Option Value} : jW d 156 6 [some (.ref m), l1, l2, l3] [.int 0] h Q ↔ Q (some (.int 0)) h := by
  simp (config := { decide := true }) (disch := (first | assumption | omega | (simp (config := { decide := true }) only [true_and, jK_wI, jK_wJ, jK_wR, jK_wr, jR_wr, jR_wI, jR_wJ]; done) | (simp only [true_and, jK_wI, jK_wJ, jK_wR, jK_wr, jR_wr, jR_wI, jR_wJ]; refine jinb_nI ?_ ?_ <;> omega) | (refine jinb_nI ?_ ?_ <;> omega))) only [s156_6, s156_9, s156_10, va_rf_some, va_rf_none, jK_wI, jR_wI, jJ_wI, jK_wJ, jR_wJ, jI_wJ, jK_wR, jI_wR, jJ_wR, jK_wr, jR_wr, jJ_wr, jcl1_i, jcl1_r, jcl1_z, jcl1_n, jcl1_l, jwI_row, jwr_jwr, jwr_cm, jwr_cc, upd_upd, jI_wr_s, jI_wr_a, jI_wr_b, jI_wr_c, mInv_wr, upd_s, upd_n, Option.toList, List.cons_append, List.nil_append, true_or, or_true, eq_self, and_self, ite_true, ite_false, if_true, if_false, jinb_nI, nI_clamp, tc0, tc1, tc2, tc3, tc4, tc5, tc6, tc7, tc8, tc9, tc10, tc11, tc12, tc13, tc14, tc15, tc16, tc17, tc18, tc19, tc20, tc21, tc22, tc23, tc24, tc25, tc26, tc27, tc28, tc29, tc30, tc31, tc32, tc33, tc34, tc35, tc36, tc37, tc38, tc39, tc40, tc41, tc42, tc43, tc44, tc45, tc46, tc47, tc48, tc49, tc50, tc51, tc52, tc53, tc54, tc55, tc56, tc57, tc58, tc59, tc60, tc61, tc62, tc63, tc64, tc65, tc66, tc67, tc68, tc69, tc77, tc83, tc119, tc159, tc160, nI_add, al0, ar0, ml0, mr0, al1, ar1, ml1, mr1, al2, ar2, ml2, mr2, al3, ar3, ml3, mr3, al4, ar4, ml4, mr4, al5, ar5, ml5, mr5, al6, ar6, ml6, mr6, al8, ar8, ml8, mr8, al10, ar10, ml10, mr10, al11, ar11, ml11, mr11, al12, ar12, ml12, mr12, al13, ar13, ml13, mr13, al16, ar16, ml16, mr16, al20, ar20, ml20, mr20, al24, ar24, ml24, mr24, al29, ar29, ml29, mr29, al36, ar36, ml36, mr36, al42, ar42, ml42, mr42, al48, ar48, ml48, mr48, al55, ar55, ml55, mr55, al60, ar60, ml60, mr60, al65, ar65, ml65, mr65, al77, ar77, ml77, mr77, al83, ar83, ml83, mr83, al119, ar119, ml119, mr119, al159, ar159, ml159, mr159, al160, ar160, ml160, mr160, al400, ar400, ml400, mr400, true_and]
/-- cellHere -/
theorem c156 (X : pX g m T L) (hn : nx ≤ L) {i : Nat} (hi : i < 119) {hi' : Int32} (hQ : eOut Q g m f md dp li od (aCel T L nx i hi' z)) : jC (d + 3) 156 [.ref m, .int (nI i), .int 0, .int hi'] (pH (jwr g (m + 6) (zR f z)) m nx 0 nb md dp li od) Q := by
  rw [e156]
  have H := X.1
  have hm : jK g m = (32, 43) := H.1
  obtain ⟨r0, k0⟩ := H.at 5 rfl
  simp (config := { decide := true }) (disch := (first | assumption | omega | (simp (config := { decide := true }) only [hm, jK_pH, jK_wI, jK_wJ, jK_wR, jK_wr, jR_wr, jR_wI, jR_wJ]; done) | (simp only [hm, jK_pH, jK_wI, jK_wJ, jK_wR, jK_wr, jR_wr, jR_wI, jR_wJ]; refine jinb_nI ?_ ?_ <;> omega) | (refine jinb_nI ?_ ?_ <;> omega))) only [s156_0, s156_1, s156_2, s156_3, va_rf_some, va_rf_none, jK_wI, jR_wI, jJ_wI, jK_wJ, jR_wJ, jI_wJ, jK_wR, jI_wR, jJ_wR, jK_wr, jR_wr, jJ_wr, jcl1_i, jcl1_r, jcl1_z, jcl1_n, jcl1_l, jwI_row, jwr_jwr, jwr_cm, jwr_cc, upd_upd, jI_wr_s, jI_wr_a, jI_wr_b, jI_wr_c, mInv_wr, upd_s, upd_n, Option.toList, List.cons_append, List.nil_append, true_or, or_true, eq_self, and_self, ite_true, ite_false, if_true, if_false, jinb_nI, nI_clamp, tc0, tc1, tc2, tc3, tc4, tc5, tc6, tc7, tc8, tc9, tc10, tc11, tc12, tc13, tc14, tc15, tc16, tc17, tc18, tc19, tc20, tc21, tc22, tc23, tc24, tc25, tc26, tc27, tc28, tc29, tc30, tc31, tc32, tc33, tc34, tc35, tc36, tc37, tc38, tc39, tc40, tc41, tc42, tc43, tc44, tc45, tc46, tc47, tc48, tc49, tc50, tc51, tc52, tc53, tc54, tc55, tc56, tc57, tc58, tc59, tc60, tc61, tc62, tc63, tc64, tc65, tc66, tc67, tc68, tc69, tc77, tc83, tc119, tc159, tc160, nI_add, al0, ar0, ml0, mr0, al1, ar1, ml1, mr1, al2, ar2, ml2, mr2, al3, ar3, ml3, mr3, al4, ar4, ml4, mr4, al5, ar5, ml5, mr5, al6, ar6, ml6, mr6, al8, ar8, ml8, mr8, al10, ar10, ml10, mr10, al11, ar11, ml11, mr11, al12, ar12, ml12, mr12, al13, ar13, ml13, mr13, al16, ar16, ml16, mr16, al20, ar20, ml20, mr20, al24, ar24, ml24, mr24, al29, ar29, ml29, mr29, al36, ar36, ml36, mr36, al42, ar42, ml42, mr42, al48, ar48, ml48, mr48, al55, ar55, ml55, mr55, al60, ar60, ml60, mr60, al65, ar65, ml65, mr65, al77, ar77, ml77, mr77, al83, ar83, ml83, mr83, al119, ar119, ml119, mr119, al159, ar159, ml159, mr159, al160, ar160, ml160, mr160, al400, ar400, ml400, mr400, hm, jK_pH]
  refine c157n (g6X X) hn ?_
  unfold aCel at hQ
  cases hv : numN T L nx hi' with
  | error w =>
    rw [hv] at hQ
    intro nx nb
    show jW (d + 2) 156 6 _ [.int 0] _ Q
    rw [c156a]
    exact hQ _ _ _
  | ok r =>
    rw [hv] at hQ
    show jW (d + 2) 156 6 _ [.int 1] _ Q
    have e7 : jwr (jwr g (m + 6) (zR f z)) (m + 6) (upd (zR f z) i (nI r.2)) = jwr g (m + 6) (zR f (uN z i r.2)) := by rw [jwr_jwr, zR_w hi]
    simp (config := { decide := true }) (disch := (first | assumption | omega | (simp (config := { decide := true }) only [hm, r0, k0, jK_pH, jK_wI, jK_wJ, jK_wR, jK_wr, jR_wr, jR_wI, jR_wJ]; done) | (simp only [hm, r0, k0, jK_pH, jK_wI, jK_wJ, jK_wR, jK_wr, jR_wr, jR_wI, jR_wJ]; refine jinb_nI ?_ ?_ <;> omega) | (refine jinb_nI ?_ ?_ <;> omega))) only [s156_6, s156_11, s156_12, s156_15, s156_16, s156_17, s156_20, s156_21, s156_22, jK_pH, jR_pH, pH_m, pH_c, pF_1, pF_2, pF_8, pF_9, pF_10, pF_11, pF_12, pF_13, pF_14, pF_16, pF_w8, pF_w9, pF_w10, pF_w12, pF_w13, pF_w14, pF_w16, pH_wm, pH_wc, zR_w, va_rf_some, va_rf_none, jK_wI, jR_wI, jJ_wI, jK_wJ, jR_wJ, jI_wJ, jK_wR, jI_wR, jJ_wR, jK_wr, jR_wr, jJ_wr, jcl1_i, jcl1_r, jcl1_z, jcl1_n, jcl1_l, jwI_row, jwr_jwr, jwr_cm, jwr_cc, upd_upd, jI_wr_s, jI_wr_a, jI_wr_b, jI_wr_c, mInv_wr, upd_s, upd_n, Option.toList, List.cons_append, List.nil_append, true_or, or_true, eq_self, and_self, ite_true, ite_false, if_true, if_false, jinb_nI, nI_clamp, tc0, tc1, tc2, tc3, tc4, tc5, tc6, tc7, tc8, tc9, tc10, tc11, tc12, tc13, tc14, tc15, tc16, tc17, tc18, tc19, tc20, tc21, tc22, tc23, tc24, tc25, tc26, tc27, tc28, tc29, tc30, tc31, tc32, tc33, tc34, tc35, tc36, tc37, tc38, tc39, tc40, tc41, tc42, tc43, tc44, tc45, tc46, tc47, tc48, tc49, tc50, tc51, tc52, tc53, tc54, tc55, tc56, tc57, tc58, tc59, tc60, tc61, tc62, tc63, tc64, tc65, tc66, tc67, tc68, tc69, tc77, tc83, tc119, tc159, tc160, nI_add, al0, ar0, ml0, mr0, al1, ar1, ml1, mr1, al2, ar2, ml2, mr2, al3, ar3, ml3, mr3, al4, ar4, ml4, mr4, al5, ar5, ml5, mr5, al6, ar6, ml6, mr6, al8, ar8, ml8, mr8, al10, ar10, ml10, mr10, al11, ar11, ml11, mr11, al12, ar12, ml12, mr12, al13, ar13, ml13, mr13, al16, ar16, ml16, mr16, al20, ar20, ml20, mr20, al24, ar24, ml24, mr24, al29, ar29, ml29, mr29, al36, ar36, ml36, mr36, al42, ar42, ml42, mr42, al48, ar48, ml48, mr48, al55, ar55, ml55, mr55, al60, ar60, ml60, mr60, al65, ar65, ml65, mr65, al77, ar77, ml77, mr77, al83, ar83, ml83, mr83, al119, ar119, ml119, mr119, al159, ar159, ml159, mr159, al160, ar160, ml160, mr160, al400, ar400, ml400, mr400, hm, r0, k0, jK_pH]
    exact hQ _
/-- the lines of a camp, q: where the word stands -/
def aCamp (T : Nat → Nat) (L q : Nat) (z : Nat → Nat) : Except Nat (Nat × (Nat → Nat)) := if 0 < z 0 then .error (fW 0 4 q) else match aCel T L (lnd T L q) 1 5 z with
  | .error w => .error w
  | .ok r => match aCel T L r.1 2 9 r.2 with
    | .error w => .error w
    | .ok r2 => .ok (r2.1, uN r2.2 0 1)
def aMor (T : Nat → Nat) (L q : Nat) (z : Nat → Nat) (k most b : Nat) (hi : Int32) : Except Nat (Nat × (Nat → Nat)) := if z k = most then .error (fW 0 4 q) else match aCel T L (lnd T L q) (b + z k) hi z with
  | .error w => .error w
  | .ok r => .ok (r.1, uN r.2 k (z k + 1))
def aSct (T : Nat → Nat) (L q : Nat) (z : Nat → Nat) : Except Nat (Nat × (Nat → Nat)) := if z 5 = 6 then .error (fW 0 4 q) else .ok (lnd T L q, uN z 5 (z 5 + 1))
def aCan (T : Nat → Nat) (L q : Nat) (z : Nat → Nat) : Except Nat (Nat × (Nat → Nat)) := match numN T L (lnd T L q) (nI (z 5) - 1) with
  | .error w => .error w
  | .ok r => match numN T L r.1 (nI (z 4) - 1) with
    | .error w => .error w
    | .ok r2 => aCel T L r2.1 (83 + 6 * r.2 + r2.2) 20 z
theorem aCel_gd {T : Nat → Nat} {L p i : Nat} {hi : Int32} {z : Nat → Nat} {r : Nat × (Nat → Nat)} (hp : p ≤ L) (h : aCel T L p i hi z = .ok r) : p < r.1 ∧ r.1 ≤ L ∧ ∃ v, v ≤ 99999 ∧ inR (nI v) 0 hi = true ∧ r.2 = uN z i v := by
  unfold aCel at h
  split at h
  · cases h
  · next r1 h1 =>
    obtain ⟨a1, a2, a3, a4⟩ := numN_gd hp h1
    cases h
    exact ⟨a1, a2, r1.2, a3, a4, rfl⟩
/-- isScoutHere -/
theorem c162 (X : pX g m T L) (hn : nx ≤ L) (hz : z 5 ≤ 6) (hQ : eOut Q g m f md dp li od (aSct T L nx z)) : jC (d + 3) 162 [.ref m, .int (nI nx)] (pH (jwr g (m + 6) (zR f z)) m nx 0 nb md dp li od) Q := by
  rw [e162]
  have H := X.1
  have hm : jK g m = (32, 43) := H.1
  obtain ⟨r0, k0⟩ := H.at 5 rfl
  unfold aSct at hQ
  by_cases e6 : z 5 = 6
  · rw [if_pos e6] at hQ
    have e' : ¬ ¬ nI (z 5) = (6 : Int32) := by rw [e6]; decide
    have cf := fun Q => @c152 (jwr g (m + 6) (zR f z)) m (d + 1) Q nx 0 nb md dp li od H 4 nx (by omega)
    rw [show nI 4 = 4 from rfl] at cf
    simp (config := { decide := true }) (disch := (first | assumption | omega | (simp (config := { decide := true }) only [hm, r0, k0, jK_pH, jK_wI, jK_wJ, jK_wR, jK_wr, jR_wr, jR_wI, jR_wJ]; done) | (simp only [hm, r0, k0, jK_pH, jK_wI, jK_wJ, jK_wR, jK_wr, jR_wr, jR_wI, jR_wJ]; refine jinb_nI ?_ ?_ <;> omega) | (refine jinb_nI ?_ ?_ <;> omega))) only [s162_0, s162_1, s162_4, s162_5, s162_6, s162_8, s162_11, s162_12, s162_13, s162_14, s162_17, jK_pH, jR_pH, pH_m, pH_c, pF_1, pF_2, pF_8, pF_9, pF_10, pF_11, pF_12, pF_13, pF_14, pF_16, pF_w8, pF_w9, pF_w10, pF_w12, pF_w13, pF_w14, pF_w16, pH_wm, zR_r, if_neg e', cf, va_rf_some, va_rf_none, jK_wI, jR_wI, jJ_wI, jK_wJ, jR_wJ, jI_wJ, jK_wR, jI_wR, jJ_wR, jK_wr, jR_wr, jJ_wr, jcl1_i, jcl1_r, jcl1_z, jcl1_n, jcl1_l, jwI_row, jwr_jwr, jwr_cm, jwr_cc, upd_upd, jI_wr_s, jI_wr_a, jI_wr_b, jI_wr_c, mInv_wr, upd_s, upd_n, Option.toList, List.cons_append, List.nil_append, true_or, or_true, eq_self, and_self, ite_true, ite_false, if_true, if_false, jinb_nI, nI_clamp, tc0, tc1, tc2, tc3, tc4, tc5, tc6, tc7, tc8, tc9, tc10, tc11, tc12, tc13, tc14, tc15, tc16, tc17, tc18, tc19, tc20, tc21, tc22, tc23, tc24, tc25, tc26, tc27, tc28, tc29, tc30, tc31, tc32, tc33, tc34, tc35, tc36, tc37, tc38, tc39, tc40, tc41, tc42, tc43, tc44, tc45, tc46, tc47, tc48, tc49, tc50, tc51, tc52, tc53, tc54, tc55, tc56, tc57, tc58, tc59, tc60, tc61, tc62, tc63, tc64, tc65, tc66, tc67, tc68, tc69, tc77, tc83, tc119, tc159, tc160, nI_add, al0, ar0, ml0, mr0, al1, ar1, ml1, mr1, al2, ar2, ml2, mr2, al3, ar3, ml3, mr3, al4, ar4, ml4, mr4, al5, ar5, ml5, mr5, al6, ar6, ml6, mr6, al8, ar8, ml8, mr8, al10, ar10, ml10, mr10, al11, ar11, ml11, mr11, al12, ar12, ml12, mr12, al13, ar13, ml13, mr13, al16, ar16, ml16, mr16, al20, ar20, ml20, mr20, al24, ar24, ml24, mr24, al29, ar29, ml29, mr29, al36, ar36, ml36, mr36, al42, ar42, ml42, mr42, al48, ar48, ml48, mr48, al55, ar55, ml55, mr55, al60, ar60, ml60, mr60, al65, ar65, ml65, mr65, al77, ar77, ml77, mr77, al83, ar83, ml83, mr83, al119, ar119, ml119, mr119, al159, ar159, ml159, mr159, al160, ar160, ml160, mr160, al400, ar400, ml400, mr400, hm, r0, k0, jK_pH]
    exact hQ _ _ _
  · rw [if_neg e6] at hQ
    have e' : ¬ nI (z 5) = (6 : Int32) := fun q => e6 ((nI_eq (b := 6) (by omega) (by omega)).mp q)
    have cq := fun Q => @c155 (jwr g (m + 6) (zR f z)) m d Q T L nx 0 nb md dp li od (g6X X) hn
    simp (config := { decide := true }) (disch := (first | assumption | omega | (simp (config := { decide := true }) only [hm, r0, k0, jK_pH, jK_wI, jK_wJ, jK_wR, jK_wr, jR_wr, jR_wI, jR_wJ]; done) | (simp only [hm, r0, k0, jK_pH, jK_wI, jK_wJ, jK_wR, jK_wr, jR_wr, jR_wI, jR_wJ]; refine jinb_nI ?_ ?_ <;> omega) | (refine jinb_nI ?_ ?_ <;> omega))) only [s162_0, s162_1, s162_4, s162_5, s162_6, s162_8, s162_18, s162_19, s162_22, s162_23, s162_26, s162_27, s162_28, s162_29, s162_30, s162_31, s162_32, s162_33, jK_pH, jR_pH, pH_m, pH_c, pF_1, pF_2, pF_8, pF_9, pF_10, pF_11, pF_12, pF_13, pF_14, pF_16, pF_w8, pF_w9, pF_w10, pF_w12, pF_w13, pF_w14, pF_w16, pH_wm, pH_wc, zR_r, zR_w, e', cq, va_rf_some, va_rf_none, jK_wI, jR_wI, jJ_wI, jK_wJ, jR_wJ, jI_wJ, jK_wR, jI_wR, jJ_wR, jK_wr, jR_wr, jJ_wr, jcl1_i, jcl1_r, jcl1_z, jcl1_n, jcl1_l, jwI_row, jwr_jwr, jwr_cm, jwr_cc, upd_upd, jI_wr_s, jI_wr_a, jI_wr_b, jI_wr_c, mInv_wr, upd_s, upd_n, Option.toList, List.cons_append, List.nil_append, true_or, or_true, eq_self, and_self, ite_true, ite_false, if_true, if_false, jinb_nI, nI_clamp, tc0, tc1, tc2, tc3, tc4, tc5, tc6, tc7, tc8, tc9, tc10, tc11, tc12, tc13, tc14, tc15, tc16, tc17, tc18, tc19, tc20, tc21, tc22, tc23, tc24, tc25, tc26, tc27, tc28, tc29, tc30, tc31, tc32, tc33, tc34, tc35, tc36, tc37, tc38, tc39, tc40, tc41, tc42, tc43, tc44, tc45, tc46, tc47, tc48, tc49, tc50, tc51, tc52, tc53, tc54, tc55, tc56, tc57, tc58, tc59, tc60, tc61, tc62, tc63, tc64, tc65, tc66, tc67, tc68, tc69, tc77, tc83, tc119, tc159, tc160, nI_add, al0, ar0, ml0, mr0, al1, ar1, ml1, mr1, al2, ar2, ml2, mr2, al3, ar3, ml3, mr3, al4, ar4, ml4, mr4, al5, ar5, ml5, mr5, al6, ar6, ml6, mr6, al8, ar8, ml8, mr8, al10, ar10, ml10, mr10, al11, ar11, ml11, mr11, al12, ar12, ml12, mr12, al13, ar13, ml13, mr13, al16, ar16, ml16, mr16, al20, ar20, ml20, mr20, al24, ar24, ml24, mr24, al29, ar29, ml29, mr29, al36, ar36, ml36, mr36, al42, ar42, ml42, mr42, al48, ar48, ml48, mr48, al55, ar55, ml55, mr55, al60, ar60, ml60, mr60, al65, ar65, ml65, mr65, al77, ar77, ml77, mr77, al83, ar83, ml83, mr83, al119, ar119, ml119, mr119, al159, ar159, ml159, mr159, al160, ar160, ml160, mr160, al400, ar400, ml400, mr400, hm, r0, k0, jK_pH]
    exact hQ _
end
