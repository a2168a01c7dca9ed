/-! THE REFERENCE READS: tests -/
def okS : List Nat → Prop
  | [] => True
  | x :: r => (x = 11 ∨ x = 12 ∨ x = 13 ∨ x = 91) ∧ okS r
theorem okS_ly {k : Nat} : ∀ {st : List Nat}, okS st → okS (lyR k st) := by
  intro st
  induction st with
  | nil => intro a; exact a
  | cons x r ih =>
    intro a
    unfold lyR
    split
    · exact ih a.2
    · exact a
theorem dpt_ly {k : Nat} : ∀ {st : List Nat}, dpt (lyR k st) ≤ dpt st := by
  intro st
  induction st with
  | nil => exact Nat.le_refl _
  | cons x r ih =>
    unfold lyR
    split
    · have : dpt (x :: r) = dpt r + (if x = 11 then 1 else if x = 91 then 1 else 0) := rfl
      omega
    · exact Nat.le_refl _
theorem okS_in : ∀ {st : List Nat}, okS st → ins st = true → ∃ r, lyR 1 st = 91 :: r ∧ okS r := by
  intro st
  induction st with
  | nil => intro _ h; cases h
  | cons x r ih =>
    intro a h
    unfold lyR
    rcases a.1 with rfl | rfl | rfl | rfl
    · exact ih a.2 h
    · exact ih a.2 h
    · exact ih a.2 h
    · exact ⟨r, rfl, a.2⟩
/-- what closes -/
def acl (T : Nat → Nat) (L : Nat) : Nat → Nat → List Nat → List Nat → Nat × List Nat × List Nat
  | 0, p, c, st => (skp T L p, c, st)
  | n + 1, p, c, st => if chr T L (skp T L p) = some 93 ∧ ins st = true then acl T L n (skp T L p + 1) (c ++ lyE 1 st ++ lyE 3 (lyR 1 st).tail) (lyR 3 (lyR 1 st).tail) else (skp T L p, c, st)
def acls (T : Nat → Nat) (L p : Nat) (c st : List Nat) : Nat × List Nat × List Nat := acl T L st.length p (c ++ lyE 3 st) (lyR 3 st)
/-- a fact -/
def afc (T : Nat → Nat) (L : Nat) : Nat → Nat → Nat → List Nat → List Nat → Except Nat ((Nat × Nat × List Nat) × List Nat)
  | 0, _, _, _, _ => .error 1
  | n + 1, p, md, c, st => if isW T L (skp T L p) 7237492 then (if dpt st = 10 then .error (fW 0 2 (skp T L p)) else afc T L n (lnd T L (skp T L p)) md c (11 :: st)) else if chr T L (skp T L p) = some 91 then (if dpt st = 10 then .error (fW 0 2 (skp T L p)) else afc T L n (skp T L p + 1) md c (91 :: st)) else match aCmp T L (skp T L p) md c with
    | .error w => .error w
    | .ok r => .ok (r, st)
/-- a test -/
def ats (T : Nat → Nat) (L : Nat) : Nat → Nat → Nat → List Nat → List Nat → Except Nat (Nat × Nat × List Nat)
  | 0, _, _, _, _ => .error 1
  | n + 1, p, md, c, st => match afc T L (L + 1) p md c st with
    | .error w => .error w
    | .ok r => if isW T L (acls T L r.1.1 r.1.2.2 r.2).1 6385252 then ats T L n (lnd T L (acls T L r.1.1 r.1.2.2 r.2).1) r.1.2.1 ((acls T L r.1.1 r.1.2.2 r.2).2.1 ++ lyE 2 (acls T L r.1.1 r.1.2.2 r.2).2.2) (12 :: lyR 2 (acls T L r.1.1 r.1.2.2 r.2).2.2)
      else if isW T L (acls T L r.1.1 r.1.2.2 r.2).1 28530 then ats T L n (lnd T L (acls T L r.1.1 r.1.2.2 r.2).1) r.1.2.1 ((acls T L r.1.1 r.1.2.2 r.2).2.1 ++ lyE 1 (acls T L r.1.1 r.1.2.2 r.2).2.2) (13 :: lyR 1 (acls T L r.1.1 r.1.2.2 r.2).2.2)
      else if ins (acls T L r.1.1 r.1.2.2 r.2).2.2 then .error (fW 0 0 (acls T L r.1.1 r.1.2.2 r.2).1) else .ok ((acls T L r.1.1 r.1.2.2 r.2).1, r.1.2.1, (acls T L r.1.1 r.1.2.2 r.2).2.1 ++ lyE 1 (acls T L r.1.1 r.1.2.2 r.2).2.2)
theorem acl_gd {T : Nat → Nat} {L : Nat} : ∀ (n p : Nat) (c st : List Nat), p ≤ L → okS st → c.length + st.length ≤ p → (p ≤ (acl T L n p c st).1 ∧ (acl T L n p c st).1 ≤ L ∧ skp T L (acl T L n p c st).1 = (acl T L n p c st).1) ∧ (acl T L n p c st).2.1.length + (acl T L n p c st).2.2.length ≤ (acl T L n p c st).1 ∧ okS (acl T L n p c st).2.2 ∧ dpt (acl T L n p c st).2.2 ≤ dpt st := by
  intro n
  induction n with
  | zero =>
    intro p c st hp hs hl
    have h1 := skp_le (T := T) hp
    have h2 := skp_ge (T := T) (L := L) (p := p)
    unfold acl
    exact ⟨⟨h2, h1, skp_id hp⟩, Nat.le_trans hl h2, hs, Nat.le_refl _⟩
  | succ n ih =>
    intro p c st hp hs hl
    have h1 := skp_le (T := T) hp
    have h2 := skp_ge (T := T) (L := L) (p := p)
    unfold acl
    split
    · next g =>
      obtain ⟨r, hr, hr2⟩ := okS_in hs g.2
      have l1 := ly_len (k := 1) st
      have l3 := ly_len (k := 3) r
      have hq : skp T L p < L := by
        have := g.1
        unfold chr at this
        split at this
        · assumption
        · cases this
      rw [hr] at l1
      rw [hr, List.tail_cons]
      rw [List.length_cons] at l1
      have d1 := dpt_ly (k := 1) (st := st)
      rw [hr] at d1
      have d2 : dpt (91 :: r) = dpt r + 1 := rfl
      have d3 := dpt_ly (k := 3) (st := r)
      obtain ⟨⟨a1, a2, a3⟩, a4, a5, a6⟩ := ih (skp T L p + 1) (c ++ lyE 1 st ++ lyE 3 r) (lyR 3 r) (by omega) (okS_ly hr2) (by rw [List.length_append, List.length_append]; omega)
      exact ⟨⟨by omega, a2, a3⟩, a4, a5, by omega⟩
    · exact ⟨⟨h2, h1, skp_id hp⟩, Nat.le_trans hl h2, hs, Nat.le_refl _⟩
theorem acls_gd {T : Nat → Nat} {L p : Nat} {c st : List Nat} (hp : p ≤ L) (hs : okS st) (hl : c.length + st.length ≤ p) : (p ≤ (acls T L p c st).1 ∧ (acls T L p c st).1 ≤ L ∧ skp T L (acls T L p c st).1 = (acls T L p c st).1) ∧ (acls T L p c st).2.1.length + (acls T L p c st).2.2.length ≤ (acls T L p c st).1 ∧ okS (acls T L p c st).2.2 ∧ dpt (acls T L p c st).2.2 ≤ dpt st := by
  have l3 := ly_len (k := 3) st
  have d3 := dpt_ly (k := 3) (st := st)
  obtain ⟨a, b, e, e2⟩ := acl_gd (T := T) (L := L) st.length p (c ++ lyE 3 st) (lyR 3 st) hp (okS_ly hs) (by rw [List.length_append]; omega)
  exact ⟨a, b, e, Nat.le_trans e2 d3⟩
theorem isW_lt {T : Nat → Nat} {L p : Nat} {w : Int64} (h : isW T L p w = true) : p < lnd T L p := by
  unfold isW at h
  simp only [Bool.and_eq_true, decide_eq_true_eq] at h
  omega
theorem afc_gd {T : Nat → Nat} {L : Nat} : ∀ (n p md : Nat) (c st : List Nat) (r : (Nat × Nat × List Nat) × List Nat), p ≤ L → md ≤ 60 → okS st → dpt st ≤ 10 → c.length + st.length ≤ p → afc T L n p md c st = .ok r → (p < r.1.1 ∧ r.1.1 ≤ L ∧ r.1.2.1 ≤ 60) ∧ r.1.2.2.length + r.2.length ≤ r.1.1 ∧ okS r.2 ∧ dpt r.2 ≤ 10 := by
  intro n
  induction n with
  | zero => intro p md c st r _ _ _ _ _ h; unfold afc at h; cases h
  | succ n ih =>
    intro p md c st r hp hd hs hdp hl h
    have h1 := skp_le (T := T) hp
    have h2 := skp_ge (T := T) (L := L) (p := p)
    unfold afc at h
    split at h
    · next g =>
      have g1 := isW_lt g
      have g2 := lnd_le (T := T) h1
      split at h
      · cases h
      · next g3 =>
        have e : dpt (11 :: st) = dpt st + 1 := rfl
        obtain ⟨⟨a1, a2, a3⟩, a4⟩ := ih _ _ _ _ _ g2 hd (show okS (11 :: st) from ⟨Or.inl rfl, hs⟩) (by omega) (by rw [List.length_cons]; omega) h
        exact ⟨⟨by omega, a2, a3⟩, a4⟩
    · split at h
      · next g =>
        have hq : skp T L p < L := by
          unfold chr at g
          split at g
          · assumption
          · cases g
        split at h
        · cases h
        · next g3 =>
          have e : dpt (91 :: st) = dpt st + 1 := rfl
          obtain ⟨⟨a1, a2, a3⟩, a4⟩ := ih _ _ _ _ _ (show skp T L p + 1 ≤ L by omega) hd (show okS (91 :: st) from ⟨Or.inr (Or.inr (Or.inr rfl)), hs⟩) (by omega) (by rw [List.length_cons]; omega) h
          exact ⟨⟨by omega, a2, a3⟩, a4⟩
      · split at h
        · cases h
        · next r1 h3 =>
          obtain ⟨a1, a2, a3, a4⟩ := aCmp_gd _ _ _ _ h1 hd h3
          cases h
          exact ⟨⟨show p < r1.1 by omega, a2, a3⟩, show r1.2.2.length + st.length ≤ r1.1 by omega, hs, hdp⟩
section
variable {g : jH} {m : Nat} {d : Nat} {Q : Option Value → jH → Prop} {T : Nat → Nat} {L nx wr nb md dp li od t : Nat} {c : List Nat} {f : Nat → Int32}
/-- closes -/
theorem c176 (X : pX g m T L) (ht : jI g m 11 = nI t) (ht6 : t < 6) {st : List Nat} (hn : nx ≤ L) (a : oA f st) (hs : okS st) (hl : c.length + st.length ≤ nx) (hQ : oA f (acls T L nx c st).2.2 → Q none (pH (rG (jwr g (m + 7) f) m t (acls T L nx c st).2.1) m (acls T L nx c st).1 0 nb md (dpt (acls T L nx c st).2.2) li (acls T L nx c st).2.2.length)) : jC (d + 3) 176 [.ref m] (pH (rG (jwr g (m + 7) f) m t c) m nx 0 nb md (dpt st) li st.length) Q := by
  rw [e176]
  have H := X.1
  have hL4 := X.2.1.2
  have hm : jK g m = (32, 43) := H.1
  have l3 := ly_len (k := 3) st
  have c7 := fun Q => @c177 g m d Q nx 0 nb md li t f H ht ht6 3 (by omega) (by omega) st c a (by omega)
  rw [show nI 3 = 3 from rfl] at c7
  have hlp : ∀ (n p : Nat) (c st : List Nat), st.length ≤ n → p ≤ L → oA f st → okS st → c.length + st.length ≤ p → (oA f (acl T L n p c st).2.2 → Q none (pH (rG (jwr g (m + 7) f) m t (acl T L n p c st).2.1) m (acl T L n p c st).1 0 nb md (dpt (acl T L n p c st).2.2) li (acl T L n p c st).2.2.length)) → jW (d + 2) 176 5 [some (.ref m)] [] (pH (rG (jwr g (m + 7) f) m t c) m p 0 nb md (dpt st) li st.length) Q := by
    intro n
    induction n with
    | zero =>
      intro p c st hst hp a hs hl hq
      have hp0 := skp_le (T := T) hp
      unfold acl at hq
      have hq := hq a
      have X' : pX (rG (jwr g (m + 7) f) m t c) m T L := rG_X (gX X)
      have cs := fun Q => @c148 (rG (jwr g (m + 7) f) m t c) m (d + 1) Q T L p 0 nb md (dpt st) li st.length X' hp
      have hbd := fun x hx => (chr_bd X (p := skp T L p) (x := x) hx).1
      have i93 : oI (chr T L (skp T L p)) = 93 ↔ chr T L (skp T L p) = some 93 := oI_op (k := 93) hbd (by omega)
      have hin : ins st = false := by
        cases st with
        | nil => rfl
        | cons x r => rw [List.length_cons] at hst; omega
      have c9 := fun Q => @c179 g m (d + 1) Q (skp T L p) 0 nb md (dpt st) li t c f H st a (by omega)
      rw [hin] at c9
      by_cases e : chr T L (skp T L p) = some 93
      · have e' := i93.mpr e
        simp (config := { decide := true }) (disch := (first | assumption | omega | (simp (config := { decide := true }) only [hm, jK_pH, jK_rG, jK_wI, jK_wJ, jK_wR, jK_wr, jR_wr, jR_wI, jR_wJ]; done) | (simp only [hm, jK_pH, jK_rG, jK_wI, jK_wJ, jK_wR, jK_wr, jR_wr, jR_wI, jR_wJ]; refine jinb_nI ?_ ?_ <;> omega) | (refine jinb_nI ?_ ?_ <;> omega))) only [s176_5, s176_6, s176_9, s176_11, s176_14, s176_15, s176_18, s176_64, cs, e', c9, va_rf_some, va_rf_none, jK_wI, jR_wI, jJ_wI, jK_wJ, jR_wJ, jI_wJ, jK_wR, jI_wR, jJ_wR, jK_wr, jR_wr, jJ_wr, jcl1_i, jcl1_r, jcl1_z, jcl1_n, jcl1_l, jwI_row, jwr_jwr, jwr_cm, jwr_cc, upd_upd, jI_wr_s, jI_wr_a, jI_wr_b, jI_wr_c, mInv_wr, upd_s, upd_n, Option.toList, List.cons_append, List.nil_append, true_or, or_true, eq_self, and_self, ite_true, ite_false, if_true, if_false, jinb_nI, nI_clamp, tc0, tc1, tc2, tc3, tc4, tc5, tc6, tc7, tc8, tc9, tc10, tc11, tc12, tc13, tc14, tc15, tc16, tc17, tc18, tc19, tc20, tc21, tc22, tc23, tc24, tc25, tc26, tc27, tc28, tc29, tc30, tc31, tc32, tc33, tc34, tc35, tc36, tc37, tc38, tc39, tc40, tc41, tc42, tc43, tc44, tc45, tc46, tc47, tc48, tc49, tc50, tc51, tc52, tc53, tc54, tc55, tc56, tc57, tc58, tc59, tc60, tc61, tc62, tc63, tc64, tc65, tc66, tc67, tc68, tc69, tc77, tc83, tc119, tc159, tc160, nI_add, al0, ar0, ml0, mr0, al1, ar1, ml1, mr1, al2, ar2, ml2, mr2, al3, ar3, ml3, mr3, al4, ar4, ml4, mr4, al5, ar5, ml5, mr5, al6, ar6, ml6, mr6, al8, ar8, ml8, mr8, al10, ar10, ml10, mr10, al11, ar11, ml11, mr11, al12, ar12, ml12, mr12, al13, ar13, ml13, mr13, al16, ar16, ml16, mr16, al20, ar20, ml20, mr20, al24, ar24, ml24, mr24, al29, ar29, ml29, mr29, al36, ar36, ml36, mr36, al42, ar42, ml42, mr42, al48, ar48, ml48, mr48, al55, ar55, ml55, mr55, al60, ar60, ml60, mr60, al65, ar65, ml65, mr65, al77, ar77, ml77, mr77, al83, ar83, ml83, mr83, al119, ar119, ml119, mr119, al159, ar159, ml159, mr159, al160, ar160, ml160, mr160, al400, ar400, ml400, mr400, hm, jK_pH, jK_rG]
        exact hq
      · have e' : ¬ oI (chr T L (skp T L p)) = 93 := fun z => e (i93.mp z)
        simp (config := { decide := true }) (disch := (first | assumption | omega | (simp (config := { decide := true }) only [hm, jK_pH, jK_rG, jK_wI, jK_wJ, jK_wR, jK_wr, jR_wr, jR_wI, jR_wJ]; done) | (simp only [hm, jK_pH, jK_rG, jK_wI, jK_wJ, jK_wR, jK_wr, jR_wr, jR_wI, jR_wJ]; refine jinb_nI ?_ ?_ <;> omega) | (refine jinb_nI ?_ ?_ <;> omega))) only [s176_5, s176_6, s176_9, s176_11, s176_64, cs, e', va_rf_some, va_rf_none, jK_wI, jR_wI, jJ_wI, jK_wJ, jR_wJ, jI_wJ, jK_wR, jI_wR, jJ_wR, jK_wr, jR_wr, jJ_wr, jcl1_i, jcl1_r, jcl1_z, jcl1_n, jcl1_l, jwI_row, jwr_jwr, jwr_cm, jwr_cc, upd_upd, jI_wr_s, jI_wr_a, jI_wr_b, jI_wr_c, mInv_wr, upd_s, upd_n, Option.toList, List.cons_append, List.nil_append, true_or, or_true, eq_self, and_self, ite_true, ite_false, if_true, if_false, jinb_nI, nI_clamp, tc0, tc1, tc2, tc3, tc4, tc5, tc6, tc7, tc8, tc9, tc10, tc11, tc12, tc13, tc14, tc15, tc16, tc17, tc18, tc19, tc20, tc21, tc22, tc23, tc24, tc25, tc26, tc27, tc28, tc29, tc30, tc31, tc32, tc33, tc34, tc35, tc36, tc37, tc38, tc39, tc40, tc41, tc42, tc43, tc44, tc45, tc46, tc47, tc48, tc49, tc50, tc51, tc52, tc53, tc54, tc55, tc56, tc57, tc58, tc59, tc60, tc61, tc62, tc63, tc64, tc65, tc66, tc67, tc68, tc69, tc77, tc83, tc119, tc159, tc160, nI_add, al0, ar0, ml0, mr0, al1, ar1, ml1, mr1, al2, ar2, ml2, mr2, al3, ar3, ml3, mr3, al4, ar4, ml4, mr4, al5, ar5, ml5, mr5, al6, ar6, ml6, mr6, al8, ar8, ml8, mr8, al10, ar10, ml10, mr10, al11, ar11, ml11, mr11, al12, ar12, ml12, mr12, al13, ar13, ml13, mr13, al16, ar16, ml16, mr16, al20, ar20, ml20, mr20, al24, ar24, ml24, mr24, al29, ar29, ml29, mr29, al36, ar36, ml36, mr36, al42, ar42, ml42, mr42, al48, ar48, ml48, mr48, al55, ar55, ml55, mr55, al60, ar60, ml60, mr60, al65, ar65, ml65, mr65, al77, ar77, ml77, mr77, al83, ar83, ml83, mr83, al119, ar119, ml119, mr119, al159, ar159, ml159, mr159, al160, ar160, ml160, mr160, al400, ar400, ml400, mr400, hm, jK_pH, jK_rG]
        exact hq
    | succ n ih =>
      intro p c st hst hp a hs hl hq
      have hp0 := skp_le (T := T) hp
      have hp1 := skp_ge (T := T) (L := L) (p := p)
      unfold acl at hq
      have X' : pX (rG (jwr g (m + 7) f) m t c) m T L := rG_X (gX X)
      have cs := fun Q => @c148 (rG (jwr g (m + 7) f) m t c) m (d + 1) Q T L p 0 nb md (dpt st) li st.length X' hp
      have hbd := fun x hx => (chr_bd X (p := skp T L p) (x := x) hx).1
      have i93 : oI (chr T L (skp T L p)) = 93 ↔ chr T L (skp T L p) = some 93 := oI_op (k := 93) hbd (by omega)
      have c9 := fun Q => @c179 g m (d + 1) Q (skp T L p) 0 nb md (dpt st) li t c f H st a (by omega)
      by_cases e : chr T L (skp T L p) = some 93
      · have e' := i93.mpr e
        have hq2 := (chr_bd X e).2.1
        cases hin : ins st with
        | false =>
          rw [hin] at c9
          rw [if_neg (fun z => by rw [hin] at z; exact Bool.noConfusion z.2)] at hq
          simp (config := { decide := true }) (disch := (first | assumption | omega | (simp (config := { decide := true }) only [hm, jK_pH, jK_rG, jK_wI, jK_wJ, jK_wR, jK_wr, jR_wr, jR_wI, jR_wJ]; done) | (simp only [hm, jK_pH, jK_rG, jK_wI, jK_wJ, jK_wR, jK_wr, jR_wr, jR_wI, jR_wJ]; refine jinb_nI ?_ ?_ <;> omega) | (refine jinb_nI ?_ ?_ <;> omega))) only [s176_5, s176_6, s176_9, s176_11, s176_14, s176_15, s176_18, s176_64, cs, e', c9, va_rf_some, va_rf_none, jK_wI, jR_wI, jJ_wI, jK_wJ, jR_wJ, jI_wJ, jK_wR, jI_wR, jJ_wR, jK_wr, jR_wr, jJ_wr, jcl1_i, jcl1_r, jcl1_z, jcl1_n, jcl1_l, jwI_row, jwr_jwr, jwr_cm, jwr_cc, upd_upd, jI_wr_s, jI_wr_a, jI_wr_b, jI_wr_c, mInv_wr, upd_s, upd_n, Option.toList, List.cons_append, List.nil_append, true_or, or_true, eq_self, and_self, ite_true, ite_false, if_true, if_false, jinb_nI, nI_clamp, tc0, tc1, tc2, tc3, tc4, tc5, tc6, tc7, tc8, tc9, tc10, tc11, tc12, tc13, tc14, tc15, tc16, tc17, tc18, tc19, tc20, tc21, tc22, tc23, tc24, tc25, tc26, tc27, tc28, tc29, tc30, tc31, tc32, tc33, tc34, tc35, tc36, tc37, tc38, tc39, tc40, tc41, tc42, tc43, tc44, tc45, tc46, tc47, tc48, tc49, tc50, tc51, tc52, tc53, tc54, tc55, tc56, tc57, tc58, tc59, tc60, tc61, tc62, tc63, tc64, tc65, tc66, tc67, tc68, tc69, tc77, tc83, tc119, tc159, tc160, nI_add, al0, ar0, ml0, mr0, al1, ar1, ml1, mr1, al2, ar2, ml2, mr2, al3, ar3, ml3, mr3, al4, ar4, ml4, mr4, al5, ar5, ml5, mr5, al6, ar6, ml6, mr6, al8, ar8, ml8, mr8, al10, ar10, ml10, mr10, al11, ar11, ml11, mr11, al12, ar12, ml12, mr12, al13, ar13, ml13, mr13, al16, ar16, ml16, mr16, al20, ar20, ml20, mr20, al24, ar24, ml24, mr24, al29, ar29, ml29, mr29, al36, ar36, ml36, mr36, al42, ar42, ml42, mr42, al48, ar48, ml48, mr48, al55, ar55, ml55, mr55, al60, ar60, ml60, mr60, al65, ar65, ml65, mr65, al77, ar77, ml77, mr77, al83, ar83, ml83, mr83, al119, ar119, ml119, mr119, al159, ar159, ml159, mr159, al160, ar160, ml160, mr160, al400, ar400, ml400, mr400, hm, jK_pH, jK_rG]
          exact hq a
        | true =>
          rw [hin] at c9
          rw [if_pos ⟨e, hin⟩] at hq
          obtain ⟨r, hr, hr2⟩ := okS_in hs hin
          have l1 := ly_len (k := 1) st
          have l3 := ly_len (k := 3) r
          rw [hr, List.tail_cons] at hq
          have a1 := oA_ly (k := 1) a
          have cl1 := fun Q => @c177 g m d Q (skp T L p) 0 nb md li t f H ht ht6 1 (by omega) (by omega) st c a (by omega)
          rw [hr] at l1 a1 cl1
          rw [show nI 1 = 1 from rfl, List.length_cons, show dpt (91 :: r) = dpt r + 1 from rfl] at cl1
          rw [List.length_cons] at l1
          have cl3 := fun Q => @c177 g m d Q (skp T L p + 1) 0 nb md li t f H ht ht6 3 (by omega) (by omega) r (c ++ lyE 1 st) a1.2 (by rw [List.length_append]; omega)
          rw [show nI 3 = 3 from rfl] at cl3
          simp (config := { decide := true }) (disch := (first | assumption | omega | (simp (config := { decide := true }) only [hm, jK_pH, jK_rG, jK_wI, jK_wJ, jK_wR, jK_wr, jR_wr, jR_wI, jR_wJ]; done) | (simp only [hm, jK_pH, jK_rG, jK_wI, jK_wJ, jK_wR, jK_wr, jR_wr, jR_wI, jR_wJ]; refine jinb_nI ?_ ?_ <;> omega) | (refine jinb_nI ?_ ?_ <;> omega))) only [s176_5, s176_6, s176_9, s176_11, s176_14, s176_15, s176_18, s176_21, s176_22, s176_23, cs, e', c9, cl1, va_rf_some, va_rf_none, jK_wI, jR_wI, jJ_wI, jK_wJ, jR_wJ, jI_wJ, jK_wR, jI_wR, jJ_wR, jK_wr, jR_wr, jJ_wr, jcl1_i, jcl1_r, jcl1_z, jcl1_n, jcl1_l, jwI_row, jwr_jwr, jwr_cm, jwr_cc, upd_upd, jI_wr_s, jI_wr_a, jI_wr_b, jI_wr_c, mInv_wr, upd_s, upd_n, Option.toList, List.cons_append, List.nil_append, true_or, or_true, eq_self, and_self, ite_true, ite_false, if_true, if_false, jinb_nI, nI_clamp, tc0, tc1, tc2, tc3, tc4, tc5, tc6, tc7, tc8, tc9, tc10, tc11, tc12, tc13, tc14, tc15, tc16, tc17, tc18, tc19, tc20, tc21, tc22, tc23, tc24, tc25, tc26, tc27, tc28, tc29, tc30, tc31, tc32, tc33, tc34, tc35, tc36, tc37, tc38, tc39, tc40, tc41, tc42, tc43, tc44, tc45, tc46, tc47, tc48, tc49, tc50, tc51, tc52, tc53, tc54, tc55, tc56, tc57, tc58, tc59, tc60, tc61, tc62, tc63, tc64, tc65, tc66, tc67, tc68, tc69, tc77, tc83, tc119, tc159, tc160, nI_add, al0, ar0, ml0, mr0, al1, ar1, ml1, mr1, al2, ar2, ml2, mr2, al3, ar3, ml3, mr3, al4, ar4, ml4, mr4, al5, ar5, ml5, mr5, al6, ar6, ml6, mr6, al8, ar8, ml8, mr8, al10, ar10, ml10, mr10, al11, ar11, ml11, mr11, al12, ar12, ml12, mr12, al13, ar13, ml13, mr13, al16, ar16, ml16, mr16, al20, ar20, ml20, mr20, al24, ar24, ml24, mr24, al29, ar29, ml29, mr29, al36, ar36, ml36, mr36, al42, ar42, ml42, mr42, al48, ar48, ml48, mr48, al55, ar55, ml55, mr55, al60, ar60, ml60, mr60, al65, ar65, ml65, mr65, al77, ar77, ml77, mr77, al83, ar83, ml83, mr83, al119, ar119, ml119, mr119, al159, ar159, ml159, mr159, al160, ar160, ml160, mr160, al400, ar400, ml400, mr400, hm, jK_pH, jK_rG]
          simp (config := { decide := true }) (disch := (first | assumption | omega | (simp (config := { decide := true }) only [hm, jK_pH, jK_rG, jK_wI, jK_wJ, jK_wR, jK_wr, jR_wr, jR_wI, jR_wJ]; done) | (simp only [hm, jK_pH, jK_rG, jK_wI, jK_wJ, jK_wR, jK_wr, jR_wr, jR_wI, jR_wJ]; refine jinb_nI ?_ ?_ <;> omega) | (refine jinb_nI ?_ ?_ <;> omega))) only [s176_26, s176_27, s176_28, s176_31, s176_32, s176_33, s176_36, s176_37, s176_38, s176_41, s176_42, s176_43, s176_46, s176_47, s176_48, s176_51, s176_52, s176_53, s176_56, s176_57, s176_58, jK_pH, jR_pH, pH_m, pH_c, pF_1, pF_2, pF_8, pF_9, pF_10, pF_11, pF_12, pF_13, pF_14, pF_16, pF_w8, pF_w9, pF_w10, pF_w12, pF_w13, pF_w14, pF_w16, pH_wm, nI_pred, cl3, va_rf_some, va_rf_none, jK_wI, jR_wI, jJ_wI, jK_wJ, jR_wJ, jI_wJ, jK_wR, jI_wR, jJ_wR, jK_wr, jR_wr, jJ_wr, jcl1_i, jcl1_r, jcl1_z, jcl1_n, jcl1_l, jwI_row, jwr_jwr, jwr_cm, jwr_cc, upd_upd, jI_wr_s, jI_wr_a, jI_wr_b, jI_wr_c, mInv_wr, upd_s, upd_n, Option.toList, List.cons_append, List.nil_append, true_or, or_true, eq_self, and_self, ite_true, ite_false, if_true, if_false, jinb_nI, nI_clamp, tc0, tc1, tc2, tc3, tc4, tc5, tc6, tc7, tc8, tc9, tc10, tc11, tc12, tc13, tc14, tc15, tc16, tc17, tc18, tc19, tc20, tc21, tc22, tc23, tc24, tc25, tc26, tc27, tc28, tc29, tc30, tc31, tc32, tc33, tc34, tc35, tc36, tc37, tc38, tc39, tc40, tc41, tc42, tc43, tc44, tc45, tc46, tc47, tc48, tc49, tc50, tc51, tc52, tc53, tc54, tc55, tc56, tc57, tc58, tc59, tc60, tc61, tc62, tc63, tc64, tc65, tc66, tc67, tc68, tc69, tc77, tc83, tc119, tc159, tc160, nI_add, al0, ar0, ml0, mr0, al1, ar1, ml1, mr1, al2, ar2, ml2, mr2, al3, ar3, ml3, mr3, al4, ar4, ml4, mr4, al5, ar5, ml5, mr5, al6, ar6, ml6, mr6, al8, ar8, ml8, mr8, al10, ar10, ml10, mr10, al11, ar11, ml11, mr11, al12, ar12, ml12, mr12, al13, ar13, ml13, mr13, al16, ar16, ml16, mr16, al20, ar20, ml20, mr20, al24, ar24, ml24, mr24, al29, ar29, ml29, mr29, al36, ar36, ml36, mr36, al42, ar42, ml42, mr42, al48, ar48, ml48, mr48, al55, ar55, ml55, mr55, al60, ar60, ml60, mr60, al65, ar65, ml65, mr65, al77, ar77, ml77, mr77, al83, ar83, ml83, mr83, al119, ar119, ml119, mr119, al159, ar159, ml159, mr159, al160, ar160, ml160, mr160, al400, ar400, ml400, mr400, hm, jK_pH, jK_rG]
          rw [s176_61]
          exact ih _ _ _ (by omega) (by omega) (oA_ly a1.2) (okS_ly hr2) (by rw [List.length_append, List.length_append]; omega) hq
      · have e' : ¬ oI (chr T L (skp T L p)) = 93 := fun z => e (i93.mp z)
        rw [if_neg (fun z => e z.1)] at hq
        simp (config := { decide := true }) (disch := (first | assumption | omega | (simp (config := { decide := true }) only [hm, jK_pH, jK_rG, jK_wI, jK_wJ, jK_wR, jK_wr, jR_wr, jR_wI, jR_wJ]; done) | (simp only [hm, jK_pH, jK_rG, jK_wI, jK_wJ, jK_wR, jK_wr, jR_wr, jR_wI, jR_wJ]; refine jinb_nI ?_ ?_ <;> omega) | (refine jinb_nI ?_ ?_ <;> omega))) only [s176_5, s176_6, s176_9, s176_11, s176_64, cs, e', va_rf_some, va_rf_none, jK_wI, jR_wI, jJ_wI, jK_wJ, jR_wJ, jI_wJ, jK_wR, jI_wR, jJ_wR, jK_wr, jR_wr, jJ_wr, jcl1_i, jcl1_r, jcl1_z, jcl1_n, jcl1_l, jwI_row, jwr_jwr, jwr_cm, jwr_cc, upd_upd, jI_wr_s, jI_wr_a, jI_wr_b, jI_wr_c, mInv_wr, upd_s, upd_n, Option.toList, List.cons_append, List.nil_append, true_or, or_true, eq_self, and_self, ite_true, ite_false, if_true, if_false, jinb_nI, nI_clamp, tc0, tc1, tc2, tc3, tc4, tc5, tc6, tc7, tc8, tc9, tc10, tc11, tc12, tc13, tc14, tc15, tc16, tc17, tc18, tc19, tc20, tc21, tc22, tc23, tc24, tc25, tc26, tc27, tc28, tc29, tc30, tc31, tc32, tc33, tc34, tc35, tc36, tc37, tc38, tc39, tc40, tc41, tc42, tc43, tc44, tc45, tc46, tc47, tc48, tc49, tc50, tc51, tc52, tc53, tc54, tc55, tc56, tc57, tc58, tc59, tc60, tc61, tc62, tc63, tc64, tc65, tc66, tc67, tc68, tc69, tc77, tc83, tc119, tc159, tc160, nI_add, al0, ar0, ml0, mr0, al1, ar1, ml1, mr1, al2, ar2, ml2, mr2, al3, ar3, ml3, mr3, al4, ar4, ml4, mr4, al5, ar5, ml5, mr5, al6, ar6, ml6, mr6, al8, ar8, ml8, mr8, al10, ar10, ml10, mr10, al11, ar11, ml11, mr11, al12, ar12, ml12, mr12, al13, ar13, ml13, mr13, al16, ar16, ml16, mr16, al20, ar20, ml20, mr20, al24, ar24, ml24, mr24, al29, ar29, ml29, mr29, al36, ar36, ml36, mr36, al42, ar42, ml42, mr42, al48, ar48, ml48, mr48, al55, ar55, ml55, mr55, al60, ar60, ml60, mr60, al65, ar65, ml65, mr65, al77, ar77, ml77, mr77, al83, ar83, ml83, mr83, al119, ar119, ml119, mr119, al159, ar159, ml159, mr159, al160, ar160, ml160, mr160, al400, ar400, ml400, mr400, hm, jK_pH, jK_rG]
        exact hq a
  simp (config := { decide := true }) (disch := (first | assumption | omega | (simp (config := { decide := true }) only [hm, jK_pH, jK_rG, jK_wI, jK_wJ, jK_wR, jK_wr, jR_wr, jR_wI, jR_wJ]; done) | (simp only [hm, jK_pH, jK_rG, jK_wI, jK_wJ, jK_wR, jK_wr, jR_wr, jR_wI, jR_wJ]; refine jinb_nI ?_ ?_ <;> omega) | (refine jinb_nI ?_ ?_ <;> omega))) only [s176_0, s176_1, s176_2, c7, va_rf_some, va_rf_none, jK_wI, jR_wI, jJ_wI, jK_wJ, jR_wJ, jI_wJ, jK_wR, jI_wR, jJ_wR, jK_wr, jR_wr, jJ_wr, jcl1_i, jcl1_r, jcl1_z, jcl1_n, jcl1_l, jwI_row, jwr_jwr, jwr_cm, jwr_cc, upd_upd, jI_wr_s, jI_wr_a, jI_wr_b, jI_wr_c, mInv_wr, upd_s, upd_n, Option.toList, List.cons_append, List.nil_append, true_or, or_true, eq_self, and_self, ite_true, ite_false, if_true, if_false, jinb_nI, nI_clamp, tc0, tc1, tc2, tc3, tc4, tc5, tc6, tc7, tc8, tc9, tc10, tc11, tc12, tc13, tc14, tc15, tc16, tc17, tc18, tc19, tc20, tc21, tc22, tc23, tc24, tc25, tc26, tc27, tc28, tc29, tc30, tc31, tc32, tc33, tc34, tc35, tc36, tc37, tc38, tc39, tc40, tc41, tc42, tc43, tc44, tc45, tc46, tc47, tc48, tc49, tc50, tc51, tc52, tc53, tc54, tc55, tc56, tc57, tc58, tc59, tc60, tc61, tc62, tc63, tc64, tc65, tc66, tc67, tc68, tc69, tc77, tc83, tc119, tc159, tc160, nI_add, al0, ar0, ml0, mr0, al1, ar1, ml1, mr1, al2, ar2, ml2, mr2, al3, ar3, ml3, mr3, al4, ar4, ml4, mr4, al5, ar5, ml5, mr5, al6, ar6, ml6, mr6, al8, ar8, ml8, mr8, al10, ar10, ml10, mr10, al11, ar11, ml11, mr11, al12, ar12, ml12, mr12, al13, ar13, ml13, mr13, al16, ar16, ml16, mr16, al20, ar20, ml20, mr20, al24, ar24, ml24, mr24, al29, ar29, ml29, mr29, al36, ar36, ml36, mr36, al42, ar42, ml42, mr42, al48, ar48, ml48, mr48, al55, ar55, ml55, mr55, al60, ar60, ml60, mr60, al65, ar65, ml65, mr65, al77, ar77, ml77, mr77, al83, ar83, ml83, mr83, al119, ar119, ml119, mr119, al159, ar159, ml159, mr159, al160, ar160, ml160, mr160, al400, ar400, ml400, mr400, hm, jK_pH, jK_rG]
  exact hlp st.length nx _ _ (by omega) hn (oA_ly a) (okS_ly hs) (by rw [List.length_append]; omega) hQ
def fOut (Q : Option Value → jH → Prop) (g : jH) (m t li : Nat) : Except Nat ((Nat × Nat × List Nat) × List Nat) → Prop
  | .ok r => ∀ nb f, oA f r.2 → Q (some (.int 1)) (pH (rG (jwr g (m + 7) f) m t r.1.2.2) m r.1.1 0 nb r.1.2.1 (dpt r.2) li r.2.length)
  | .error w => ∀ nx nb md c f dp od, Q (some (.int 0)) (pH (rG (jwr g (m + 7) f) m t c) m nx w nb md dp li od)
/-- fact -/
theorem c173 (X : pX g m T L) (ht : jI g m 11 = nI t) (ht6 : t < 6) {st : List Nat} (hn : nx ≤ L) (hd : md ≤ 60) (a : oA f st) (hs : okS st) (hdp : dpt st ≤ 10) (hl : c.length + st.length ≤ nx) (hQ : fOut Q g m t li (afc T L (L + 1) nx md c st)) : jC (d + 8) 173 [.ref m] (pH (rG (jwr g (m + 7) f) m t c) m nx 0 nb md (dpt st) li st.length) Q := by
  rw [e173]
  have H := X.1
  have hL4 := X.2.1.2
  have hm : jK g m = (32, 43) := H.1
  have hlp : ∀ (n p nb : Nat) (st : List Nat) (f : Nat → Int32) (x2 : Option Value), L + 1 - p ≤ n → p ≤ L → oA f st → okS st → dpt st ≤ 10 → c.length + st.length ≤ p → fOut Q g m t li (afc T L n p md c st) → jW (d + 7) 173 2 [some (.ref m), some (.int 1), x2] [] (pH (rG (jwr g (m + 7) f) m t c) m p 0 nb md (dpt st) li st.length) Q := by
    intro n
    induction n with
    | zero => intro p nb st f x2 h1 h2; omega
    | succ n ih =>
      intro p nb st f x2 hnp hp a hs hdp hl hq
      have hp0 := skp_le (T := T) hp
      have hp1 := skp_ge (T := T) (L := L) (p := p)
      have hid := skp_id (T := T) hp
      have X' : pX (rG (jwr g (m + 7) f) m t c) m T L := rG_X (gX X)
      have cs := fun Q => @c148 (rG (jwr g (m + 7) f) m t c) m (d + 6) Q T L p 0 nb md (dpt st) li st.length X' hp
      have cw := fun w Q => @c150 (rG (jwr g (m + 7) f) m t c) m (d + 5) Q T L (skp T L p) 0 nb md (dpt st) li st.length X' hp0 w
      have cq := fun Q => @c155 (rG (jwr g (m + 7) (upd f st.length (nI 11))) m t c) m (d + 5) Q T L (skp T L p) 0 nb md (dpt st + 1) li (st.length + 1) (rG_X (gX X)) hp0
      rw [hid] at cw
      unfold afc at hq
      generalize skp T L p = q at *
      simp (config := { decide := true }) (disch := (first | assumption | omega | (simp (config := { decide := true }) only [hm, jK_pH, jK_rG, jK_wI, jK_wJ, jK_wR, jK_wr, jR_wr, jR_wI, jR_wJ]; done) | (simp only [hm, jK_pH, jK_rG, jK_wI, jK_wJ, jK_wR, jK_wr, jR_wr, jR_wI, jR_wJ]; refine jinb_nI ?_ ?_ <;> omega) | (refine jinb_nI ?_ ?_ <;> omega))) only [s173_2, s173_3, s173_6, s173_7, s173_8, s173_9, s173_12, s173_13, s173_14, s173_17, cs, cw, va_rf_some, va_rf_none, jK_wI, jR_wI, jJ_wI, jK_wJ, jR_wJ, jI_wJ, jK_wR, jI_wR, jJ_wR, jK_wr, jR_wr, jJ_wr, jcl1_i, jcl1_r, jcl1_z, jcl1_n, jcl1_l, jwI_row, jwr_jwr, jwr_cm, jwr_cc, upd_upd, jI_wr_s, jI_wr_a, jI_wr_b, jI_wr_c, mInv_wr, upd_s, upd_n, Option.toList, List.cons_append, List.nil_append, true_or, or_true, eq_self, and_self, ite_true, ite_false, if_true, if_false, jinb_nI, nI_clamp, tc0, tc1, tc2, tc3, tc4, tc5, tc6, tc7, tc8, tc9, tc10, tc11, tc12, tc13, tc14, tc15, tc16, tc17, tc18, tc19, tc20, tc21, tc22, tc23, tc24, tc25, tc26, tc27, tc28, tc29, tc30, tc31, tc32, tc33, tc34, tc35, tc36, tc37, tc38, tc39, tc40, tc41, tc42, tc43, tc44, tc45, tc46, tc47, tc48, tc49, tc50, tc51, tc52, tc53, tc54, tc55, tc56, tc57, tc58, tc59, tc60, tc61, tc62, tc63, tc64, tc65, tc66, tc67, tc68, tc69, tc77, tc83, tc119, tc159, tc160, nI_add, al0, ar0, ml0, mr0, al1, ar1, ml1, mr1, al2, ar2, ml2, mr2, al3, ar3, ml3, mr3, al4, ar4, ml4, mr4, al5, ar5, ml5, mr5, al6, ar6, ml6, mr6, al8, ar8, ml8, mr8, al10, ar10, ml10, mr10, al11, ar11, ml11, mr11, al12, ar12, ml12, mr12, al13, ar13, ml13, mr13, al16, ar16, ml16, mr16, al20, ar20, ml20, mr20, al24, ar24, ml24, mr24, al29, ar29, ml29, mr29, al36, ar36, ml36, mr36, al42, ar42, ml42, mr42, al48, ar48, ml48, mr48, al55, ar55, ml55, mr55, al60, ar60, ml60, mr60, al65, ar65, ml65, mr65, al77, ar77, ml77, mr77, al83, ar83, ml83, mr83, al119, ar119, ml119, mr119, al159, ar159, ml159, mr159, al160, ar160, ml160, mr160, al400, ar400, ml400, mr400, hm, jK_pH, jK_rG]
      cases g1 : isW T L q 7237492 with
      | true =>
        rw [g1, if_pos rfl] at hq
        have b1 := isW_lt g1
        have b2 := lnd_le (T := T) hp0
        have c11 := fun Q => @c174 g m (d + 5) Q q nb md (dpt st) li st.length t c f H hdp 11 (by omega)
        rw [show nI 11 = 11 from rfl] at c11
        by_cases e10 : dpt st = 10
        · rw [if_pos e10] at hq
          simp only [if_pos e10] at c11
          simp (config := { decide := true }) (disch := (first | assumption | omega | (simp (config := { decide := true }) only [hm, jK_pH, jK_rG, jK_wI, jK_wJ, jK_wR, jK_wr, jR_wr, jR_wI, jR_wJ]; done) | (simp only [hm, jK_pH, jK_rG, jK_wI, jK_wJ, jK_wR, jK_wr, jR_wr, jR_wI, jR_wJ]; refine jinb_nI ?_ ?_ <;> omega) | (refine jinb_nI ?_ ?_ <;> omega))) only [s173_20, s173_23, s173_24, s173_26, s173_29, s173_32, s173_33, c11, va_rf_some, va_rf_none, jK_wI, jR_wI, jJ_wI, jK_wJ, jR_wJ, jI_wJ, jK_wR, jI_wR, jJ_wR, jK_wr, jR_wr, jJ_wr, jcl1_i, jcl1_r, jcl1_z, jcl1_n, jcl1_l, jwI_row, jwr_jwr, jwr_cm, jwr_cc, upd_upd, jI_wr_s, jI_wr_a, jI_wr_b, jI_wr_c, mInv_wr, upd_s, upd_n, Option.toList, List.cons_append, List.nil_append, true_or, or_true, eq_self, and_self, ite_true, ite_false, if_true, if_false, jinb_nI, nI_clamp, tc0, tc1, tc2, tc3, tc4, tc5, tc6, tc7, tc8, tc9, tc10, tc11, tc12, tc13, tc14, tc15, tc16, tc17, tc18, tc19, tc20, tc21, tc22, tc23, tc24, tc25, tc26, tc27, tc28, tc29, tc30, tc31, tc32, tc33, tc34, tc35, tc36, tc37, tc38, tc39, tc40, tc41, tc42, tc43, tc44, tc45, tc46, tc47, tc48, tc49, tc50, tc51, tc52, tc53, tc54, tc55, tc56, tc57, tc58, tc59, tc60, tc61, tc62, tc63, tc64, tc65, tc66, tc67, tc68, tc69, tc77, tc83, tc119, tc159, tc160, nI_add, al0, ar0, ml0, mr0, al1, ar1, ml1, mr1, al2, ar2, ml2, mr2, al3, ar3, ml3, mr3, al4, ar4, ml4, mr4, al5, ar5, ml5, mr5, al6, ar6, ml6, mr6, al8, ar8, ml8, mr8, al10, ar10, ml10, mr10, al11, ar11, ml11, mr11, al12, ar12, ml12, mr12, al13, ar13, ml13, mr13, al16, ar16, ml16, mr16, al20, ar20, ml20, mr20, al24, ar24, ml24, mr24, al29, ar29, ml29, mr29, al36, ar36, ml36, mr36, al42, ar42, ml42, mr42, al48, ar48, ml48, mr48, al55, ar55, ml55, mr55, al60, ar60, ml60, mr60, al65, ar65, ml65, mr65, al77, ar77, ml77, mr77, al83, ar83, ml83, mr83, al119, ar119, ml119, mr119, al159, ar159, ml159, mr159, al160, ar160, ml160, mr160, al400, ar400, ml400, mr400, hm, jK_pH, jK_rG]
          exact hq _ _ _ _ _ _ _
        · rw [if_neg e10] at hq
          simp only [if_neg e10] at c11
          rw [show nI 11 = 11 from rfl] at cq
          simp (config := { decide := true }) (disch := (first | assumption | omega | (simp (config := { decide := true }) only [hm, jK_pH, jK_rG, jK_wI, jK_wJ, jK_wR, jK_wr, jR_wr, jR_wI, jR_wJ]; done) | (simp only [hm, jK_pH, jK_rG, jK_wI, jK_wJ, jK_wR, jK_wr, jR_wr, jR_wI, jR_wJ]; refine jinb_nI ?_ ?_ <;> omega) | (refine jinb_nI ?_ ?_ <;> omega))) only [s173_20, s173_23, s173_24, s173_26, s173_29, s173_34, s173_35, s173_38, s173_39, s173_40, c11, cq, va_rf_some, va_rf_none, jK_wI, jR_wI, jJ_wI, jK_wJ, jR_wJ, jI_wJ, jK_wR, jI_wR, jJ_wR, jK_wr, jR_wr, jJ_wr, jcl1_i, jcl1_r, jcl1_z, jcl1_n, jcl1_l, jwI_row, jwr_jwr, jwr_cm, jwr_cc, upd_upd, jI_wr_s, jI_wr_a, jI_wr_b, jI_wr_c, mInv_wr, upd_s, upd_n, Option.toList, List.cons_append, List.nil_append, true_or, or_true, eq_self, and_self, ite_true, ite_false, if_true, if_false, jinb_nI, nI_clamp, tc0, tc1, tc2, tc3, tc4, tc5, tc6, tc7, tc8, tc9, tc10, tc11, tc12, tc13, tc14, tc15, tc16, tc17, tc18, tc19, tc20, tc21, tc22, tc23, tc24, tc25, tc26, tc27, tc28, tc29, tc30, tc31, tc32, tc33, tc34, tc35, tc36, tc37, tc38, tc39, tc40, tc41, tc42, tc43, tc44, tc45, tc46, tc47, tc48, tc49, tc50, tc51, tc52, tc53, tc54, tc55, tc56, tc57, tc58, tc59, tc60, tc61, tc62, tc63, tc64, tc65, tc66, tc67, tc68, tc69, tc77, tc83, tc119, tc159, tc160, nI_add, al0, ar0, ml0, mr0, al1, ar1, ml1, mr1, al2, ar2, ml2, mr2, al3, ar3, ml3, mr3, al4, ar4, ml4, mr4, al5, ar5, ml5, mr5, al6, ar6, ml6, mr6, al8, ar8, ml8, mr8, al10, ar10, ml10, mr10, al11, ar11, ml11, mr11, al12, ar12, ml12, mr12, al13, ar13, ml13, mr13, al16, ar16, ml16, mr16, al20, ar20, ml20, mr20, al24, ar24, ml24, mr24, al29, ar29, ml29, mr29, al36, ar36, ml36, mr36, al42, ar42, ml42, mr42, al48, ar48, ml48, mr48, al55, ar55, ml55, mr55, al60, ar60, ml60, mr60, al65, ar65, ml65, mr65, al77, ar77, ml77, mr77, al83, ar83, ml83, mr83, al119, ar119, ml119, mr119, al159, ar159, ml159, mr159, al160, ar160, ml160, mr160, al400, ar400, ml400, mr400, hm, jK_pH, jK_rG]
          rw [s173_72]
          exact ih _ _ (11 :: st) _ _ (by omega) b2 (oA_push (x := 11) (by omega) a) ⟨Or.inl rfl, hs⟩ (show dpt st + 1 ≤ 10 by omega) (by rw [List.length_cons]; omega) hq
      | false =>
        rw [g1, if_neg (by decide)] at hq
        have hbd := fun x hx => (chr_bd X (p := q) (x := x) hx).1
        have i91 : oI (chr T L q) = 91 ↔ chr T L q = some 91 := oI_op (k := 91) hbd (by omega)
        by_cases e91 : chr T L q = some 91
        · have e' := i91.mpr e91
          have hq2 := (chr_bd X e91).2.1
          rw [if_pos e91] at hq
          have c91 := fun Q => @c174 g m (d + 5) Q q nb md (dpt st) li st.length t c f H hdp 91 (by omega)
          rw [show nI 91 = 91 from rfl] at c91
          by_cases e10 : dpt st = 10
          · rw [if_pos e10] at hq
            simp only [if_pos e10] at c91
            simp (config := { decide := true }) (disch := (first | assumption | omega | (simp (config := { decide := true }) only [hm, jK_pH, jK_rG, jK_wI, jK_wJ, jK_wR, jK_wr, jR_wr, jR_wI, jR_wJ]; done) | (simp only [hm, jK_pH, jK_rG, jK_wI, jK_wJ, jK_wR, jK_wr, jR_wr, jR_wI, jR_wJ]; refine jinb_nI ?_ ?_ <;> omega) | (refine jinb_nI ?_ ?_ <;> omega))) only [s173_20, s173_43, s173_44, s173_46, s173_49, s173_50, s173_52, s173_55, s173_58, s173_59, e', c91, va_rf_some, va_rf_none, jK_wI, jR_wI, jJ_wI, jK_wJ, jR_wJ, jI_wJ, jK_wR, jI_wR, jJ_wR, jK_wr, jR_wr, jJ_wr, jcl1_i, jcl1_r, jcl1_z, jcl1_n, jcl1_l, jwI_row, jwr_jwr, jwr_cm, jwr_cc, upd_upd, jI_wr_s, jI_wr_a, jI_wr_b, jI_wr_c, mInv_wr, upd_s, upd_n, Option.toList, List.cons_append, List.nil_append, true_or, or_true, eq_self, and_self, ite_true, ite_false, if_true, if_false, jinb_nI, nI_clamp, tc0, tc1, tc2, tc3, tc4, tc5, tc6, tc7, tc8, tc9, tc10, tc11, tc12, tc13, tc14, tc15, tc16, tc17, tc18, tc19, tc20, tc21, tc22, tc23, tc24, tc25, tc26, tc27, tc28, tc29, tc30, tc31, tc32, tc33, tc34, tc35, tc36, tc37, tc38, tc39, tc40, tc41, tc42, tc43, tc44, tc45, tc46, tc47, tc48, tc49, tc50, tc51, tc52, tc53, tc54, tc55, tc56, tc57, tc58, tc59, tc60, tc61, tc62, tc63, tc64, tc65, tc66, tc67, tc68, tc69, tc77, tc83, tc119, tc159, tc160, nI_add, al0, ar0, ml0, mr0, al1, ar1, ml1, mr1, al2, ar2, ml2, mr2, al3, ar3, ml3, mr3, al4, ar4, ml4, mr4, al5, ar5, ml5, mr5, al6, ar6, ml6, mr6, al8, ar8, ml8, mr8, al10, ar10, ml10, mr10, al11, ar11, ml11, mr11, al12, ar12, ml12, mr12, al13, ar13, ml13, mr13, al16, ar16, ml16, mr16, al20, ar20, ml20, mr20, al24, ar24, ml24, mr24, al29, ar29, ml29, mr29, al36, ar36, ml36, mr36, al42, ar42, ml42, mr42, al48, ar48, ml48, mr48, al55, ar55, ml55, mr55, al60, ar60, ml60, mr60, al65, ar65, ml65, mr65, al77, ar77, ml77, mr77, al83, ar83, ml83, mr83, al119, ar119, ml119, mr119, al159, ar159, ml159, mr159, al160, ar160, ml160, mr160, al400, ar400, ml400, mr400, hm, jK_pH, jK_rG]
            exact hq _ _ _ _ _ _ _
          · rw [if_neg e10] at hq
            simp only [if_neg e10] at c91
            simp (config := { decide := true }) (disch := (first | assumption | omega | (simp (config := { decide := true }) only [hm, jK_pH, jK_rG, jK_wI, jK_wJ, jK_wR, jK_wr, jR_wr, jR_wI, jR_wJ]; done) | (simp only [hm, jK_pH, jK_rG, jK_wI, jK_wJ, jK_wR, jK_wr, jR_wr, jR_wI, jR_wJ]; refine jinb_nI ?_ ?_ <;> omega) | (refine jinb_nI ?_ ?_ <;> omega))) only [s173_20, s173_43, s173_44, s173_46, s173_49, s173_50, s173_52, s173_55, s173_60, s173_61, s173_62, s173_65, s173_66, s173_67, s173_70, s173_71, jK_pH, jR_pH, pH_m, pH_c, pF_1, pF_2, pF_8, pF_9, pF_10, pF_11, pF_12, pF_13, pF_14, pF_16, pF_w8, pF_w9, pF_w10, pF_w12, pF_w13, pF_w14, pF_w16, pH_wm, e', c91, va_rf_some, va_rf_none, jK_wI, jR_wI, jJ_wI, jK_wJ, jR_wJ, jI_wJ, jK_wR, jI_wR, jJ_wR, jK_wr, jR_wr, jJ_wr, jcl1_i, jcl1_r, jcl1_z, jcl1_n, jcl1_l, jwI_row, jwr_jwr, jwr_cm, jwr_cc, upd_upd, jI_wr_s, jI_wr_a, jI_wr_b, jI_wr_c, mInv_wr, upd_s, upd_n, Option.toList, List.cons_append, List.nil_append, true_or, or_true, eq_self, and_self, ite_true, ite_false, if_true, if_false, jinb_nI, nI_clamp, tc0, tc1, tc2, tc3, tc4, tc5, tc6, tc7, tc8, tc9, tc10, tc11, tc12, tc13, tc14, tc15, tc16, tc17, tc18, tc19, tc20, tc21, tc22, tc23, tc24, tc25, tc26, tc27, tc28, tc29, tc30, tc31, tc32, tc33, tc34, tc35, tc36, tc37, tc38, tc39, tc40, tc41, tc42, tc43, tc44, tc45, tc46, tc47, tc48, tc49, tc50, tc51, tc52, tc53, tc54, tc55, tc56, tc57, tc58, tc59, tc60, tc61, tc62, tc63, tc64, tc65, tc66, tc67, tc68, tc69, tc77, tc83, tc119, tc159, tc160, nI_add, al0, ar0, ml0, mr0, al1, ar1, ml1, mr1, al2, ar2, ml2, mr2, al3, ar3, ml3, mr3, al4, ar4, ml4, mr4, al5, ar5, ml5, mr5, al6, ar6, ml6, mr6, al8, ar8, ml8, mr8, al10, ar10, ml10, mr10, al11, ar11, ml11, mr11, al12, ar12, ml12, mr12, al13, ar13, ml13, mr13, al16, ar16, ml16, mr16, al20, ar20, ml20, mr20, al24, ar24, ml24, mr24, al29, ar29, ml29, mr29, al36, ar36, ml36, mr36, al42, ar42, ml42, mr42, al48, ar48, ml48, mr48, al55, ar55, ml55, mr55, al60, ar60, ml60, mr60, al65, ar65, ml65, mr65, al77, ar77, ml77, mr77, al83, ar83, ml83, mr83, al119, ar119, ml119, mr119, al159, ar159, ml159, mr159, al160, ar160, ml160, mr160, al400, ar400, ml400, mr400, hm, jK_pH, jK_rG]
            rw [s173_72]
            exact ih _ _ (91 :: st) _ _ (by omega) (by omega) (oA_push (x := 91) (by omega) a) ⟨Or.inr (Or.inr (Or.inr rfl)), hs⟩ (show dpt st + 1 ≤ 10 by omega) (by rw [List.length_cons]; omega) hq
        · have e' : ¬ oI (chr T L q) = 91 := fun z => e91 (i91.mp z)
          rw [if_neg e91] at hq
          simp (config := { decide := true }) (disch := (first | assumption | omega | (simp (config := { decide := true }) only [hm, jK_pH, jK_rG, jK_wI, jK_wJ, jK_wR, jK_wr, jR_wr, jR_wI, jR_wJ]; done) | (simp only [hm, jK_pH, jK_rG, jK_wI, jK_wJ, jK_wR, jK_wr, jR_wr, jR_wI, jR_wJ]; refine jinb_nI ?_ ?_ <;> omega) | (refine jinb_nI ?_ ?_ <;> omega))) only [s173_20, s173_43, s173_44, s173_46, e', va_rf_some, va_rf_none, jK_wI, jR_wI, jJ_wI, jK_wJ, jR_wJ, jI_wJ, jK_wR, jI_wR, jJ_wR, jK_wr, jR_wr, jJ_wr, jcl1_i, jcl1_r, jcl1_z, jcl1_n, jcl1_l, jwI_row, jwr_jwr, jwr_cm, jwr_cc, upd_upd, jI_wr_s, jI_wr_a, jI_wr_b, jI_wr_c, mInv_wr, upd_s, upd_n, Option.toList, List.cons_append, List.nil_append, true_or, or_true, eq_self, and_self, ite_true, ite_false, if_true, if_false, jinb_nI, nI_clamp, tc0, tc1, tc2, tc3, tc4, tc5, tc6, tc7, tc8, tc9, tc10, tc11, tc12, tc13, tc14, tc15, tc16, tc17, tc18, tc19, tc20, tc21, tc22, tc23, tc24, tc25, tc26, tc27, tc28, tc29, tc30, tc31, tc32, tc33, tc34, tc35, tc36, tc37, tc38, tc39, tc40, tc41, tc42, tc43, tc44, tc45, tc46, tc47, tc48, tc49, tc50, tc51, tc52, tc53, tc54, tc55, tc56, tc57, tc58, tc59, tc60, tc61, tc62, tc63, tc64, tc65, tc66, tc67, tc68, tc69, tc77, tc83, tc119, tc159, tc160, nI_add, al0, ar0, ml0, mr0, al1, ar1, ml1, mr1, al2, ar2, ml2, mr2, al3, ar3, ml3, mr3, al4, ar4, ml4, mr4, al5, ar5, ml5, mr5, al6, ar6, ml6, mr6, al8, ar8, ml8, mr8, al10, ar10, ml10, mr10, al11, ar11, ml11, mr11, al12, ar12, ml12, mr12, al13, ar13, ml13, mr13, al16, ar16, ml16, mr16, al20, ar20, ml20, mr20, al24, ar24, ml24, mr24, al29, ar29, ml29, mr29, al36, ar36, ml36, mr36, al42, ar42, ml42, mr42, al48, ar48, ml48, mr48, al55, ar55, ml55, mr55, al60, ar60, ml60, mr60, al65, ar65, ml65, mr65, al77, ar77, ml77, mr77, al83, ar83, ml83, mr83, al119, ar119, ml119, mr119, al159, ar159, ml159, mr159, al160, ar160, ml160, mr160, al400, ar400, ml400, mr400, hm, jK_pH, jK_rG]
          rw [s173_72]
          simp (config := { decide := true }) (disch := (first | assumption | omega | (simp (config := { decide := true }) only [hm, jK_pH, jK_rG, jK_wI, jK_wJ, jK_wR, jK_wr, jR_wr, jR_wI, jR_wJ]; done) | (simp only [hm, jK_pH, jK_rG, jK_wI, jK_wJ, jK_wR, jK_wr, jR_wr, jR_wI, jR_wJ]; refine jinb_nI ?_ ?_ <;> omega) | (refine jinb_nI ?_ ?_ <;> omega))) only [s173_2, s173_3, s173_75, s173_76, va_rf_some, va_rf_none, jK_wI, jR_wI, jJ_wI, jK_wJ, jR_wJ, jI_wJ, jK_wR, jI_wR, jJ_wR, jK_wr, jR_wr, jJ_wr, jcl1_i, jcl1_r, jcl1_z, jcl1_n, jcl1_l, jwI_row, jwr_jwr, jwr_cm, jwr_cc, upd_upd, jI_wr_s, jI_wr_a, jI_wr_b, jI_wr_c, mInv_wr, upd_s, upd_n, Option.toList, List.cons_append, List.nil_append, true_or, or_true, eq_self, and_self, ite_true, ite_false, if_true, if_false, jinb_nI, nI_clamp, tc0, tc1, tc2, tc3, tc4, tc5, tc6, tc7, tc8, tc9, tc10, tc11, tc12, tc13, tc14, tc15, tc16, tc17, tc18, tc19, tc20, tc21, tc22, tc23, tc24, tc25, tc26, tc27, tc28, tc29, tc30, tc31, tc32, tc33, tc34, tc35, tc36, tc37, tc38, tc39, tc40, tc41, tc42, tc43, tc44, tc45, tc46, tc47, tc48, tc49, tc50, tc51, tc52, tc53, tc54, tc55, tc56, tc57, tc58, tc59, tc60, tc61, tc62, tc63, tc64, tc65, tc66, tc67, tc68, tc69, tc77, tc83, tc119, tc159, tc160, nI_add, al0, ar0, ml0, mr0, al1, ar1, ml1, mr1, al2, ar2, ml2, mr2, al3, ar3, ml3, mr3, al4, ar4, ml4, mr4, al5, ar5, ml5, mr5, al6, ar6, ml6, mr6, al8, ar8, ml8, mr8, al10, ar10, ml10, mr10, al11, ar11, ml11, mr11, al12, ar12, ml12, mr12, al13, ar13, ml13, mr13, al16, ar16, ml16, mr16, al20, ar20, ml20, mr20, al24, ar24, ml24, mr24, al29, ar29, ml29, mr29, al36, ar36, ml36, mr36, al42, ar42, ml42, mr42, al48, ar48, ml48, mr48, al55, ar55, ml55, mr55, al60, ar60, ml60, mr60, al65, ar65, ml65, mr65, al77, ar77, ml77, mr77, al83, ar83, ml83, mr83, al119, ar119, ml119, mr119, al159, ar159, ml159, mr159, al160, ar160, ml160, mr160, al400, ar400, ml400, mr400, hm, jK_pH, jK_rG]
          refine c175 (gX X) (gt ht) ht6 hp0 hd (by omega) ?_
          cases hv : aCmp T L q md c with
          | error w =>
            rw [hv] at hq
            intro nx nb md c
            simp (config := { decide := true }) (disch := (first | assumption | omega | (simp (config := { decide := true }) only [hm, jK_wI, jK_wJ, jK_wR, jK_wr, jR_wr, jR_wI, jR_wJ]; done) | (simp only [hm, jK_wI, jK_wJ, jK_wR, jK_wr, jR_wr, jR_wI, jR_wJ]; refine jinb_nI ?_ ?_ <;> omega) | (refine jinb_nI ?_ ?_ <;> omega))) only [s173_79, va_rf_some, va_rf_none, jK_wI, jR_wI, jJ_wI, jK_wJ, jR_wJ, jI_wJ, jK_wR, jI_wR, jJ_wR, jK_wr, jR_wr, jJ_wr, jcl1_i, jcl1_r, jcl1_z, jcl1_n, jcl1_l, jwI_row, jwr_jwr, jwr_cm, jwr_cc, upd_upd, jI_wr_s, jI_wr_a, jI_wr_b, jI_wr_c, mInv_wr, upd_s, upd_n, Option.toList, List.cons_append, List.nil_append, true_or, or_true, eq_self, and_self, ite_true, ite_false, if_true, if_false, jinb_nI, nI_clamp, tc0, tc1, tc2, tc3, tc4, tc5, tc6, tc7, tc8, tc9, tc10, tc11, tc12, tc13, tc14, tc15, tc16, tc17, tc18, tc19, tc20, tc21, tc22, tc23, tc24, tc25, tc26, tc27, tc28, tc29, tc30, tc31, tc32, tc33, tc34, tc35, tc36, tc37, tc38, tc39, tc40, tc41, tc42, tc43, tc44, tc45, tc46, tc47, tc48, tc49, tc50, tc51, tc52, tc53, tc54, tc55, tc56, tc57, tc58, tc59, tc60, tc61, tc62, tc63, tc64, tc65, tc66, tc67, tc68, tc69, tc77, tc83, tc119, tc159, tc160, nI_add, al0, ar0, ml0, mr0, al1, ar1, ml1, mr1, al2, ar2, ml2, mr2, al3, ar3, ml3, mr3, al4, ar4, ml4, mr4, al5, ar5, ml5, mr5, al6, ar6, ml6, mr6, al8, ar8, ml8, mr8, al10, ar10, ml10, mr10, al11, ar11, ml11, mr11, al12, ar12, ml12, mr12, al13, ar13, ml13, mr13, al16, ar16, ml16, mr16, al20, ar20, ml20, mr20, al24, ar24, ml24, mr24, al29, ar29, ml29, mr29, al36, ar36, ml36, mr36, al42, ar42, ml42, mr42, al48, ar48, ml48, mr48, al55, ar55, ml55, mr55, al60, ar60, ml60, mr60, al65, ar65, ml65, mr65, al77, ar77, ml77, mr77, al83, ar83, ml83, mr83, al119, ar119, ml119, mr119, al159, ar159, ml159, mr159, al160, ar160, ml160, mr160, al400, ar400, ml400, mr400, hm]
            exact hq _ _ _ _ _ _ _
          | ok r =>
            rw [hv] at hq
            intro nb
            simp (config := { decide := true }) (disch := (first | assumption | omega | (simp (config := { decide := true }) only [hm, jK_wI, jK_wJ, jK_wR, jK_wr, jR_wr, jR_wI, jR_wJ]; done) | (simp only [hm, jK_wI, jK_wJ, jK_wR, jK_wr, jR_wr, jR_wI, jR_wJ]; refine jinb_nI ?_ ?_ <;> omega) | (refine jinb_nI ?_ ?_ <;> omega))) only [s173_79, va_rf_some, va_rf_none, jK_wI, jR_wI, jJ_wI, jK_wJ, jR_wJ, jI_wJ, jK_wR, jI_wR, jJ_wR, jK_wr, jR_wr, jJ_wr, jcl1_i, jcl1_r, jcl1_z, jcl1_n, jcl1_l, jwI_row, jwr_jwr, jwr_cm, jwr_cc, upd_upd, jI_wr_s, jI_wr_a, jI_wr_b, jI_wr_c, mInv_wr, upd_s, upd_n, Option.toList, List.cons_append, List.nil_append, true_or, or_true, eq_self, and_self, ite_true, ite_false, if_true, if_false, jinb_nI, nI_clamp, tc0, tc1, tc2, tc3, tc4, tc5, tc6, tc7, tc8, tc9, tc10, tc11, tc12, tc13, tc14, tc15, tc16, tc17, tc18, tc19, tc20, tc21, tc22, tc23, tc24, tc25, tc26, tc27, tc28, tc29, tc30, tc31, tc32, tc33, tc34, tc35, tc36, tc37, tc38, tc39, tc40, tc41, tc42, tc43, tc44, tc45, tc46, tc47, tc48, tc49, tc50, tc51, tc52, tc53, tc54, tc55, tc56, tc57, tc58, tc59, tc60, tc61, tc62, tc63, tc64, tc65, tc66, tc67, tc68, tc69, tc77, tc83, tc119, tc159, tc160, nI_add, al0, ar0, ml0, mr0, al1, ar1, ml1, mr1, al2, ar2, ml2, mr2, al3, ar3, ml3, mr3, al4, ar4, ml4, mr4, al5, ar5, ml5, mr5, al6, ar6, ml6, mr6, al8, ar8, ml8, mr8, al10, ar10, ml10, mr10, al11, ar11, ml11, mr11, al12, ar12, ml12, mr12, al13, ar13, ml13, mr13, al16, ar16, ml16, mr16, al20, ar20, ml20, mr20, al24, ar24, ml24, mr24, al29, ar29, ml29, mr29, al36, ar36, ml36, mr36, al42, ar42, ml42, mr42, al48, ar48, ml48, mr48, al55, ar55, ml55, mr55, al60, ar60, ml60, mr60, al65, ar65, ml65, mr65, al77, ar77, ml77, mr77, al83, ar83, ml83, mr83, al119, ar119, ml119, mr119, al159, ar159, ml159, mr159, al160, ar160, ml160, mr160, al400, ar400, ml400, mr400, hm]
            exact hq _ _ a
  simp (config := { decide := true }) (disch := (first | assumption | omega | (simp (config := { decide := true }) only [hm, jK_wI, jK_wJ, jK_wR, jK_wr, jR_wr, jR_wI, jR_wJ]; done) | (simp only [hm, jK_wI, jK_wJ, jK_wR, jK_wr, jR_wr, jR_wI, jR_wJ]; refine jinb_nI ?_ ?_ <;> omega) | (refine jinb_nI ?_ ?_ <;> omega))) only [s173_0, s173_1, va_rf_some, va_rf_none, jK_wI, jR_wI, jJ_wI, jK_wJ, jR_wJ, jI_wJ, jK_wR, jI_wR, jJ_wR, jK_wr, jR_wr, jJ_wr, jcl1_i, jcl1_r, jcl1_z, jcl1_n, jcl1_l, jwI_row, jwr_jwr, jwr_cm, jwr_cc, upd_upd, jI_wr_s, jI_wr_a, jI_wr_b, jI_wr_c, mInv_wr, upd_s, upd_n, Option.toList, List.cons_append, List.nil_append, true_or, or_true, eq_self, and_self, ite_true, ite_false, if_true, if_false, jinb_nI, nI_clamp, tc0, tc1, tc2, tc3, tc4, tc5, tc6, tc7, tc8, tc9, tc10, tc11, tc12, tc13, tc14, tc15, tc16, tc17, tc18, tc19, tc20, tc21, tc22, tc23, tc24, tc25, tc26, tc27, tc28, tc29, tc30, tc31, tc32, tc33, tc34, tc35, tc36, tc37, tc38, tc39, tc40, tc41, tc42, tc43, tc44, tc45, tc46, tc47, tc48, tc49, tc50, tc51, tc52, tc53, tc54, tc55, tc56, tc57, tc58, tc59, tc60, tc61, tc62, tc63, tc64, tc65, tc66, tc67, tc68, tc69, tc77, tc83, tc119, tc159, tc160, nI_add, al0, ar0, ml0, mr0, al1, ar1, ml1, mr1, al2, ar2, ml2, mr2, al3, ar3, ml3, mr3, al4, ar4, ml4, mr4, al5, ar5, ml5, mr5, al6, ar6, ml6, mr6, al8, ar8, ml8, mr8, al10, ar10, ml10, mr10, al11, ar11, ml11, mr11, al12, ar12, ml12, mr12, al13, ar13, ml13, mr13, al16, ar16, ml16, mr16, al20, ar20, ml20, mr20, al24, ar24, ml24, mr24, al29, ar29, ml29, mr29, al36, ar36, ml36, mr36, al42, ar42, ml42, mr42, al48, ar48, ml48, mr48, al55, ar55, ml55, mr55, al60, ar60, ml60, mr60, al65, ar65, ml65, mr65, al77, ar77, ml77, mr77, al83, ar83, ml83, mr83, al119, ar119, ml119, mr119, al159, ar159, ml159, mr159, al160, ar160, ml160, mr160, al400, ar400, ml400, mr400, hm]
  exact hlp (L + 1) nx nb st f _ (by omega) hn a hs hdp hl hQ
end
