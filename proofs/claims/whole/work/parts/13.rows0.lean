/-! ROWS by kinds of instruction, ready for the printed rows -/
section JR0
variable {d k pc len o : Nat} {lv : List (Option Value)} {st : List Value} {h : jH} {Q : Option Value → jH → Prop} {i : Jvm.ClassFile.Instr}
theorem jstp_rd {st' : List Value} (hl : len = jrln i) (h0 : (if len = jalen i then jalu i st else none) = none) (h1 : jldc (jow k) i len = none) (h2 : jlod i len lv = none) (h3 : jsto i len lv st = none) (h4 : jbr pc i len st = none) (h5 : jrd k i st h = some st') : jstp k pc i len lv st h = some (pc + len, lv, st', h) := by
  unfold jstp
  rw [h0, h1, h2, h3, h4, if_pos hl, h5]
theorem jstp_wt {q : List Value × jH} (hl : len = jwln i) (h0 : (if len = jalen i then jalu i st else none) = none) (h1 : jldc (jow k) i len = none) (h2 : jlod i len lv = none) (h3 : jsto i len lv st = none) (h4 : jbr pc i len st = none) (h5 : jrd k i st h = none) (h6 : jwt k i st h = some q) : jstp k pc i len lv st h = some (pc + len, lv, q.1, q.2) := by
  unfold jstp
  simp only [h0, h1, h2, h3, h4, h5, ite_self, if_pos hl, h6]
theorem jstp_own {q : List Value × jH} (hl : len = 3) (h0 : (if len = jalen i then jalu i st else none) = none) (h1 : jldc (jow k) i len = none) (h2 : jlod i len lv = none) (h3 : jsto i len lv st = none) (h4 : jbr pc i len st = none) (h5 : jrd k i st h = none) (h6 : jwt k i st h = none) (h7 : jown k i st h = some q) : jstp k pc i len lv st h = some (pc + 3, lv, q.1, q.2) := by
  unfold jstp
  simp only [h0, h1, h2, h3, h4, h5, h6, ite_self, if_pos hl, h7]
theorem jstp_no (h0 : (if len = jalen i then jalu i st else none) = none) (h1 : jldc (jow k) i len = none) (h2 : jlod i len lv = none) (h3 : jsto i len lv st = none) (h4 : jbr pc i len st = none) (h5 : jrd k i st h = none) (h6 : jwt k i st h = none) (h7 : jown k i st h = none) : jstp k pc i len lv st h = none := by
  unfold jstp
  simp only [h0, h1, h2, h3, h4, h5, h6, h7, ite_self]
theorem jW_goto {off : Int} {t : Nat} (hd : decode (jby k) pc = .ok (.goto off, 3)) (ht : jtg pc off = some t) : jW d k pc lv st h Q ↔ jW d k t lv st h Q := by
  refine jW_step (t := (t, lv, st, h)) hd ?_
  have h1 : jbr pc (.goto off) 3 st = some (t, st) := by
    unfold jbr
    simp only [ht, if_true, Option.map_some]
  have h2 : jlod (.goto off) 3 lv = none := by unfold jlod; rfl
  have h3 : jldc (jow k) (.goto off) 3 = none := by unfold jldc; rfl
  have h4 : jsto (.goto off) 3 lv st = none := by unfold jsto; rfl
  unfold jstp
  rw [h3, h2, h4, h1]
  rfl
theorem jW_nn {off : Int} {t a : Nat} (hd : decode (jby k) pc = .ok (.ifnonnull off, 3)) (ht : jtg pc off = some t) : jW d k pc lv (.ref a :: st) h Q ↔ jW d k t lv st h Q := by
  refine jW_step (t := (t, lv, st, h)) hd ?_
  have h1 : jbr pc (.ifnonnull off) 3 (.ref a :: st) = some (t, st) := by
    unfold jbr
    simp only [ht, if_true, Option.map_some]
  have h2 : jlod (.ifnonnull off) 3 lv = none := by unfold jlod; rfl
  have h3 : jldc (jow k) (.ifnonnull off) 3 = none := by unfold jldc; rfl
  have h4 : jsto (.ifnonnull off) 3 lv (.ref a :: st) = none := by unfold jsto; rfl
  unfold jstp
  rw [h3, h2, h4, h1]
  rfl
theorem jW_nnN {off : Int} (hd : decode (jby k) pc = .ok (.ifnonnull off, 3)) : jW d k pc lv (.null :: st) h Q ↔ jW d k (pc + 3) lv st h Q := jW_step (t := (pc + 3, lv, st, h)) hd rfl
theorem jW_if_eq {off : Int} {t : Nat} {x : Int32} (hd : decode (jby k) pc = .ok (.ifCond .eq off, 3)) (ht : jtg pc off = some t) : jW d k pc lv (.int x :: st) h Q ↔ if x = 0 then jW d k t lv st h Q else jW d k (pc + 3) lv st h Q := by
  rw [jW_if hd ht]
  by_cases hc : x = 0
  · rw [if_pos (by rw [jcm_eq]; exact hc), if_pos hc]
  · rw [if_neg (by rw [jcm_eq]; exact hc), if_neg hc]
theorem jW_ic_eq {off : Int} {t : Nat} {x y : Int32} (hd : decode (jby k) pc = .ok (.if_icmp .eq off, 3)) (ht : jtg pc off = some t) : jW d k pc lv (.int y :: .int x :: st) h Q ↔ if x = y then jW d k t lv st h Q else jW d k (pc + 3) lv st h Q := by
  rw [jW_icmp hd ht]
  by_cases hc : x = y
  · rw [if_pos (by rw [jcm_eq]; exact hc), if_pos hc]
  · rw [if_neg (by rw [jcm_eq]; exact hc), if_neg hc]
theorem jW_if_ne {off : Int} {t : Nat} {x : Int32} (hd : decode (jby k) pc = .ok (.ifCond .ne off, 3)) (ht : jtg pc off = some t) : jW d k pc lv (.int x :: st) h Q ↔ if ¬ x = 0 then jW d k t lv st h Q else jW d k (pc + 3) lv st h Q := by
  rw [jW_if hd ht]
  by_cases hc : ¬ x = 0
  · rw [if_pos (by rw [jcm_ne]; exact hc), if_pos hc]
  · rw [if_neg (by rw [jcm_ne]; exact hc), if_neg hc]
theorem jW_ic_ne {off : Int} {t : Nat} {x y : Int32} (hd : decode (jby k) pc = .ok (.if_icmp .ne off, 3)) (ht : jtg pc off = some t) : jW d k pc lv (.int y :: .int x :: st) h Q ↔ if ¬ x = y then jW d k t lv st h Q else jW d k (pc + 3) lv st h Q := by
  rw [jW_icmp hd ht]
  by_cases hc : ¬ x = y
  · rw [if_pos (by rw [jcm_ne]; exact hc), if_pos hc]
  · rw [if_neg (by rw [jcm_ne]; exact hc), if_neg hc]
theorem jW_if_lt {off : Int} {t : Nat} {x : Int32} (hd : decode (jby k) pc = .ok (.ifCond .lt off, 3)) (ht : jtg pc off = some t) : jW d k pc lv (.int x :: st) h Q ↔ if x < 0 then jW d k t lv st h Q else jW d k (pc + 3) lv st h Q := by
  rw [jW_if hd ht]
  by_cases hc : x < 0
  · rw [if_pos (by rw [jcm_lt]; exact hc), if_pos hc]
  · rw [if_neg (by rw [jcm_lt]; exact hc), if_neg hc]
theorem jW_ic_lt {off : Int} {t : Nat} {x y : Int32} (hd : decode (jby k) pc = .ok (.if_icmp .lt off, 3)) (ht : jtg pc off = some t) : jW d k pc lv (.int y :: .int x :: st) h Q ↔ if x < y then jW d k t lv st h Q else jW d k (pc + 3) lv st h Q := by
  rw [jW_icmp hd ht]
  by_cases hc : x < y
  · rw [if_pos (by rw [jcm_lt]; exact hc), if_pos hc]
  · rw [if_neg (by rw [jcm_lt]; exact hc), if_neg hc]
theorem jW_if_ge {off : Int} {t : Nat} {x : Int32} (hd : decode (jby k) pc = .ok (.ifCond .ge off, 3)) (ht : jtg pc off = some t) : jW d k pc lv (.int x :: st) h Q ↔ if 0 ≤ x then jW d k t lv st h Q else jW d k (pc + 3) lv st h Q := by
  rw [jW_if hd ht]
  by_cases hc : 0 ≤ x
  · rw [if_pos (by rw [jcm_ge]; exact hc), if_pos hc]
  · rw [if_neg (by rw [jcm_ge]; exact hc), if_neg hc]
theorem jW_ic_ge {off : Int} {t : Nat} {x y : Int32} (hd : decode (jby k) pc = .ok (.if_icmp .ge off, 3)) (ht : jtg pc off = some t) : jW d k pc lv (.int y :: .int x :: st) h Q ↔ if y ≤ x then jW d k t lv st h Q else jW d k (pc + 3) lv st h Q := by
  rw [jW_icmp hd ht]
  by_cases hc : y ≤ x
  · rw [if_pos (by rw [jcm_ge]; exact hc), if_pos hc]
  · rw [if_neg (by rw [jcm_ge]; exact hc), if_neg hc]
theorem jW_if_gt {off : Int} {t : Nat} {x : Int32} (hd : decode (jby k) pc = .ok (.ifCond .gt off, 3)) (ht : jtg pc off = some t) : jW d k pc lv (.int x :: st) h Q ↔ if 0 < x then jW d k t lv st h Q else jW d k (pc + 3) lv st h Q := by
  rw [jW_if hd ht]
  by_cases hc : 0 < x
  · rw [if_pos (by rw [jcm_gt]; exact hc), if_pos hc]
  · rw [if_neg (by rw [jcm_gt]; exact hc), if_neg hc]
theorem jW_ic_gt {off : Int} {t : Nat} {x y : Int32} (hd : decode (jby k) pc = .ok (.if_icmp .gt off, 3)) (ht : jtg pc off = some t) : jW d k pc lv (.int y :: .int x :: st) h Q ↔ if y < x then jW d k t lv st h Q else jW d k (pc + 3) lv st h Q := by
  rw [jW_icmp hd ht]
  by_cases hc : y < x
  · rw [if_pos (by rw [jcm_gt]; exact hc), if_pos hc]
  · rw [if_neg (by rw [jcm_gt]; exact hc), if_neg hc]
theorem jW_if_le {off : Int} {t : Nat} {x : Int32} (hd : decode (jby k) pc = .ok (.ifCond .le off, 3)) (ht : jtg pc off = some t) : jW d k pc lv (.int x :: st) h Q ↔ if x ≤ 0 then jW d k t lv st h Q else jW d k (pc + 3) lv st h Q := by
  rw [jW_if hd ht]
  by_cases hc : x ≤ 0
  · rw [if_pos (by rw [jcm_le]; exact hc), if_pos hc]
  · rw [if_neg (by rw [jcm_le]; exact hc), if_neg hc]
theorem jW_ic_le {off : Int} {t : Nat} {x y : Int32} (hd : decode (jby k) pc = .ok (.if_icmp .le off, 3)) (ht : jtg pc off = some t) : jW d k pc lv (.int y :: .int x :: st) h Q ↔ if x ≤ y then jW d k t lv st h Q else jW d k (pc + 3) lv st h Q := by
  rw [jW_icmp hd ht]
  by_cases hc : x ≤ y
  · rw [if_pos (by rw [jcm_le]; exact hc), if_pos hc]
  · rw [if_neg (by rw [jcm_le]; exact hc), if_neg hc]
theorem jW_idiv {x y : Int32} (hd : decode (jby k) pc = .ok (.idiv, 1)) (hy : ¬ y = 0) : jW d k pc lv (.int y :: .int x :: st) h Q ↔ jW d k (pc + 1) lv (.int (x / y) :: st) h Q := by
  refine jW_step (t := (pc + 1, lv, .int (x / y) :: st, h)) hd ?_
  have h1 : jalu .idiv (.int y :: .int x :: st) = some (.int (x / y) :: st) := by
    unfold jalu
    simp only [if_neg hy]
  unfold jstp
  rw [if_pos (show (1 : Nat) = jalen .idiv from rfl), h1]
theorem jW_irem {x y : Int32} (hd : decode (jby k) pc = .ok (.irem, 1)) (hy : ¬ y = 0) : jW d k pc lv (.int y :: .int x :: st) h Q ↔ jW d k (pc + 1) lv (.int (x - x / y * y) :: st) h Q := by
  refine jW_step (t := (pc + 1, lv, .int (x - x / y * y) :: st, h)) hd ?_
  have h1 : jalu .irem (.int y :: .int x :: st) = some (.int (x - x / y * y) :: st) := by
    unfold jalu
    simp only [if_neg hy]
  unfold jstp
  rw [if_pos (show (1 : Nat) = jalen .irem from rfl), h1]
theorem jW_ldiv {x y : Int64} (hd : decode (jby k) pc = .ok (.ldiv, 1)) (hy : ¬ y = 0) : jW d k pc lv (.long y :: .long x :: st) h Q ↔ jW d k (pc + 1) lv (.long (x / y) :: st) h Q := by
  refine jW_step (t := (pc + 1, lv, .long (x / y) :: st, h)) hd ?_
  have h1 : jalu .ldiv (.long y :: .long x :: st) = some (.long (x / y) :: st) := by
    unfold jalu
    simp only [if_neg hy]
  unfold jstp
  rw [if_pos (show (1 : Nat) = jalen .ldiv from rfl), h1]
theorem jW_lrem {x y : Int64} (hd : decode (jby k) pc = .ok (.lrem, 1)) (hy : ¬ y = 0) : jW d k pc lv (.long y :: .long x :: st) h Q ↔ jW d k (pc + 1) lv (.long (x - x / y * y) :: st) h Q := by
  refine jW_step (t := (pc + 1, lv, .long (x - x / y * y) :: st, h)) hd ?_
  have h1 : jalu .lrem (.long y :: .long x :: st) = some (.long (x - x / y * y) :: st) := by
    unfold jalu
    simp only [if_neg hy]
  unfold jstp
  rw [if_pos (show (1 : Nat) = jalen .lrem from rfl), h1]
theorem jW_ldc2 {x : Nat} {v : Int64} {q : Nat × Nat × Int64 × Nat} (hd : decode (jby k) pc = .ok (.ldc2_w x, 3)) (ho : jow k = o) (hf : jKJ.find? (fun q => q.1 == o && q.2.1 == x) = some q) (hv : q.2.2.1 = v) : jW d k pc lv st h Q ↔ jW d k (pc + 3) lv (.long v :: st) h Q := by
  subst ho
  subst hv
  refine jW_step (t := (pc + 3, lv, .long q.2.2.1 :: st, h)) hd ?_
  have h1 : jldc (jow k) (.ldc2_w x) 3 = some (.long q.2.2.1) := by
    unfold jldc
    simp only [hf, Option.map_some]
  unfold jstp
  rw [h1]
  rfl
theorem jW_ldcw {x : Nat} {v : Int32} {q : Nat × Nat × Int32 × Nat} (hd : decode (jby k) pc = .ok (.ldc_w x, 3)) (ho : jow k = o) (hf : jKI.find? (fun q => q.1 == o && q.2.1 == x) = some q) (hv : q.2.2.1 = v) : jW d k pc lv st h Q ↔ jW d k (pc + 3) lv (.int v :: st) h Q := by
  subst ho
  subst hv
  refine jW_step (t := (pc + 3, lv, .int q.2.2.1 :: st, h)) hd ?_
  have h1 : jldc (jow k) (.ldc_w x) 3 = some (.int q.2.2.1) := by
    unfold jldc
    simp only [hf, Option.map_some]
  unfold jstp
  rw [h1]
  rfl
theorem jW_ldc {x : Nat} {v : Int32} {q : Nat × Nat × Int32 × Nat} (hd : decode (jby k) pc = .ok (.ldc x, 2)) (ho : jow k = o) (hf : jKI.find? (fun q => q.1 == o && q.2.1 == x) = some q) (hv : q.2.2.1 = v) : jW d k pc lv st h Q ↔ jW d k (pc + 2) lv (.int v :: st) h Q := by
  subst ho
  subst hv
  refine jW_step (t := (pc + 2, lv, .int q.2.2.1 :: st, h)) hd ?_
  have h1 : jldc (jow k) (.ldc x) 2 = some (.int q.2.2.1) := by
    unfold jldc
    simp only [hf, Option.map_some]
  unfold jstp
  rw [h1]
  rfl
theorem jW_ldcS {x a : Nat} {q : Nat × Nat × Nat} (hd : decode (jby k) pc = .ok (.ldc x, 2)) (ho : jow k = o) (hn : jKI.find? (fun q => q.1 == o && q.2.1 == x) = none) (hf : jSL.find? (fun q => q.1 == o && q.2.1 == x) = some q) (ha : jR h 0 q.2.2 = some a) : jW d k pc lv st h Q ↔ jW d k (pc + 2) lv (.ref a :: st) h Q := by
  subst ho
  refine jW_step (t := (pc + 2, lv, .ref a :: st, h)) hd (jstp_rd rfl rfl ?_ rfl rfl rfl ?_)
  · unfold jldc
    simp only [hn, Option.map_none]
  · unfold jrd
    simp only [hf, ha]
theorem jW_getf {x a ci j : Nat} {w : Value} {q : Nat × Nat × Nat × Nat × Nat × Nat} (hd : decode (jby k) pc = .ok (.getfield x, 3)) (ho : jow k = o) (hf : jFL.find? (fun q => q.1 == o && q.2.1 == x) = some q) (hc : q.2.2.1 = ci ∧ q.2.2.2.1 = j) (hk : (jK h a).1 = 20 + ci) (hw : jfv ci j h a = w) : jW d k pc lv (.ref a :: st) h Q ↔ jW d k (pc + 3) lv (w :: st) h Q := by
  subst ho
  obtain ⟨rfl, rfl⟩ := hc
  subst hw
  refine jW_step (t := (pc + 3, lv, jfv q.2.2.1 q.2.2.2.1 h a :: st, h)) hd (jstp_rd rfl rfl rfl rfl rfl rfl ?_)
  unfold jrd
  simp only [hf, hk, if_true]
theorem jW_putf {x a ci j : Nat} {w : Value} {h1 : jH} {q : Nat × Nat × Nat × Nat × Nat × Nat} (hd : decode (jby k) pc = .ok (.putfield x, 3)) (ho : jow k = o) (hf : jFL.find? (fun q => q.1 == o && q.2.1 == x) = some q) (hc : q.2.2.1 = ci ∧ q.2.2.2.1 = j) (hk : (jK h a).1 = 20 + ci) (hi : jfin ci j = false ∨ ((jyn k).name = "<init>" ∧ o = ci ∧ q.2.2.2.2.1 = 0)) (hp : jpf ci j h a w = some h1) : jW d k pc lv (w :: .ref a :: st) h Q ↔ jW d k (pc + 3) lv st h1 Q := by
  subst ho
  obtain ⟨rfl, rfl⟩ := hc
  refine jW_step (t := (pc + 3, lv, st, h1)) hd (jstp_wt (q := (st, h1)) rfl rfl rfl rfl rfl rfl rfl ?_)
  unfold jwt
  simp only [hf, if_pos (And.intro hk hi), hp, Option.map_some]
theorem jW_iald {a : Nat} {j : Int32} (hd : decode (jby k) pc = .ok (.iaload, 1)) (hk : (jK h a).1 = 1) (hj : jinb j (jK h a).2 = true) : jW d k pc lv (.int j :: .ref a :: st) h Q ↔ jW d k (pc + 1) lv (.int (jI h a j.toNatClampNeg) :: st) h Q := by
  refine jW_step (t := (pc + 1, lv, .int (jI h a j.toNatClampNeg) :: st, h)) hd (jstp_rd rfl rfl rfl rfl rfl rfl ?_)
  unfold jrd
  simp only [if_pos (And.intro (Or.inl hk) hj)]
theorem jW_sald {a : Nat} {j : Int32} (hd : decode (jby jlaw) pc = .ok (.iaload, 1)) (hk : (jK h a).1 = 8) (hj : jinb j (jK h a).2 = true) : jW d jlaw pc lv (.int j :: .ref a :: st) h Q ↔ jW d jlaw (pc + 1) lv (.int (jI h a j.toNatClampNeg) :: st) h Q := by
  refine jW_step (t := (pc + 1, lv, .int (jI h a j.toNatClampNeg) :: st, h)) hd (jstp_rd rfl rfl rfl rfl rfl rfl ?_)
  unfold jrd
  exact if_pos (And.intro (Or.inr (And.intro hk rfl)) hj)
theorem jW_bald {a : Nat} {j : Int32} (hd : decode (jby k) pc = .ok (.baload, 1)) (hk : (jK h a).1 = 2 ∨ (jK h a).1 = 3 ∨ (200 ≤ (jK h a).1 ∧ (jK h a).1 < 206)) (hj : jinb j (jK h a).2 = true) : jW d k pc lv (.int j :: .ref a :: st) h Q ↔ jW d k (pc + 1) lv (.int (jI h a j.toNatClampNeg) :: st) h Q := by
  refine jW_step (t := (pc + 1, lv, .int (jI h a j.toNatClampNeg) :: st, h)) hd (jstp_rd rfl rfl rfl rfl rfl rfl ?_)
  unfold jrd
  simp only [if_pos (And.intro hk hj)]
theorem jW_lald {a : Nat} {j : Int32} (hd : decode (jby k) pc = .ok (.laload, 1)) (hk : (jK h a).1 = 4) (hj : jinb j (jK h a).2 = true) : jW d k pc lv (.int j :: .ref a :: st) h Q ↔ jW d k (pc + 1) lv (.long (jJ h a j.toNatClampNeg) :: st) h Q := by
  refine jW_step (t := (pc + 1, lv, .long (jJ h a j.toNatClampNeg) :: st, h)) hd (jstp_rd rfl rfl rfl rfl rfl rfl ?_)
  unfold jrd
  simp only [if_pos (And.intro hk hj)]
theorem jW_aald {a : Nat} {j : Int32} (hd : decode (jby k) pc = .ok (.aaload, 1)) (hk : 5 ≤ (jK h a).1 ∧ (jK h a).1 ≤ 7) (hj : jinb j (jK h a).2 = true) : jW d k pc lv (.int j :: .ref a :: st) h Q ↔ jW d k (pc + 1) lv (va_rf (jR h a j.toNatClampNeg) :: st) h Q := by
  refine jW_step (t := (pc + 1, lv, va_rf (jR h a j.toNatClampNeg) :: st, h)) hd (jstp_rd rfl rfl rfl rfl rfl rfl ?_)
  unfold jrd
  simp only [if_pos (And.intro hk hj)]
theorem jW_alen {a : Nat} (hd : decode (jby k) pc = .ok (.arraylength, 1)) (hk : (1 ≤ (jK h a).1 ∧ (jK h a).1 ≤ 7) ∨ ((jK h a).1 = 8 ∧ k = jlaw) ∨ (200 ≤ (jK h a).1 ∧ (jK h a).1 < 206)) : jW d k pc lv (.ref a :: st) h Q ↔ jW d k (pc + 1) lv (.int (Int32.ofNat (jK h a).2) :: st) h Q := by
  refine jW_step (t := (pc + 1, lv, .int (Int32.ofNat (jK h a).2) :: st, h)) hd (jstp_rd rfl rfl rfl rfl rfl rfl ?_)
  unfold jrd
  simp only [if_pos hk]
theorem jW_iast {a : Nat} {j x : Int32} (hd : decode (jby k) pc = .ok (.iastore, 1)) (hk : (jK h a).1 = 1) (hj : jinb j (jK h a).2 = true) : jW d k pc lv (.int x :: .int j :: .ref a :: st) h Q ↔ jW d k (pc + 1) lv st (jwI h a j.toNatClampNeg x) Q := by
  refine jW_step (t := (pc + 1, lv, st, jwI h a j.toNatClampNeg x)) hd (jstp_wt (q := (st, jwI h a j.toNatClampNeg x)) rfl rfl rfl rfl rfl rfl rfl ?_)
  unfold jwt
  simp only [if_pos (And.intro hk hj)]
theorem jW_zast {a : Nat} {j x : Int32} (hd : decode (jby k) pc = .ok (.bastore, 1)) (hk : (jK h a).1 = 2) (hj : jinb j (jK h a).2 = true) : jW d k pc lv (.int x :: .int j :: .ref a :: st) h Q ↔ jW d k (pc + 1) lv st (jwI h a j.toNatClampNeg (vp_nar .boolean x)) Q := by
  refine jW_step (t := (pc + 1, lv, st, jwI h a j.toNatClampNeg (vp_nar .boolean x))) hd (jstp_wt (q := (st, jwI h a j.toNatClampNeg (vp_nar .boolean x))) rfl rfl rfl rfl rfl rfl rfl ?_)
  unfold jwt
  simp only [if_pos (And.intro hk hj)]
theorem jW_bast {a : Nat} {j x : Int32} (hd : decode (jby k) pc = .ok (.bastore, 1)) (hk : (jK h a).1 = 3) (hj : jinb j (jK h a).2 = true) : jW d k pc lv (.int x :: .int j :: .ref a :: st) h Q ↔ jW d k (pc + 1) lv st (jwI h a j.toNatClampNeg (vp_nar .byte x)) Q := by
  refine jW_step (t := (pc + 1, lv, st, jwI h a j.toNatClampNeg (vp_nar .byte x))) hd (jstp_wt (q := (st, jwI h a j.toNatClampNeg (vp_nar .byte x))) rfl rfl rfl rfl rfl rfl rfl ?_)
  unfold jwt
  simp only [if_neg (show ¬ ((jK h a).1 = 2 ∧ jinb j (jK h a).2 = true) from fun z => by rw [hk] at z; exact absurd z.1 (by decide)), if_pos (And.intro hk hj)]
theorem jW_last {a : Nat} {j : Int32} {x : Int64} (hd : decode (jby k) pc = .ok (.lastore, 1)) (hk : (jK h a).1 = 4) (hj : jinb j (jK h a).2 = true) : jW d k pc lv (.long x :: .int j :: .ref a :: st) h Q ↔ jW d k (pc + 1) lv st (jwJ h a j.toNatClampNeg x) Q := by
  refine jW_step (t := (pc + 1, lv, st, jwJ h a j.toNatClampNeg x)) hd (jstp_wt (q := (st, jwJ h a j.toNatClampNeg x)) rfl rfl rfl rfl rfl rfl rfl ?_)
  unfold jwt
  simp only [if_pos (And.intro hk hj)]
theorem jW_aast {a b : Nat} {j : Int32} (hd : decode (jby k) pc = .ok (.aastore, 1)) (hk : 5 ≤ (jK h a).1 ∧ (jK h a).1 ≤ 7) (hb : (jK h b).1 = 20 + jarC (jK h a).1) (hj : jinb j (jK h a).2 = true) : jW d k pc lv (.ref b :: .int j :: .ref a :: st) h Q ↔ jW d k (pc + 1) lv st (jwR h a j.toNatClampNeg (some b)) Q := by
  refine jW_step (t := (pc + 1, lv, st, jwR h a j.toNatClampNeg (some b))) hd (jstp_wt (q := (st, jwR h a j.toNatClampNeg (some b))) rfl rfl rfl rfl rfl rfl rfl ?_)
  unfold jwt
  simp only [if_pos (And.intro (And.intro hk hb) hj)]
theorem jW_new {x ci : Nat} {q : Nat × Nat × Nat × Nat} (hd : decode (jby k) pc = .ok (.new x, 3)) (ho : jow k = o) (hf : jNL.find? (fun q => q.1 == o && q.2.1 == x) = some q) (hc : q.2.2.1 = ci) : jW d k pc lv st h Q ↔ jW d k (pc + 3) lv (.ref (jnx h) :: st) (jnew h (20 + ci) (jN ci)) Q := by
  subst ho
  subst hc
  refine jW_step (t := (pc + 3, lv, .ref (jnx h) :: st, jnew h (20 + q.2.2.1) (jN q.2.2.1))) hd (jstp_wt (q := (.ref (jnx h) :: st, jnew h (20 + q.2.2.1) (jN q.2.2.1))) rfl rfl rfl rfl rfl rfl rfl ?_)
  unfold jwt
  simp only [hf]
theorem jW_newa {t : Jvm.ClassFile.ArrayType} {n : Int32} (hd : decode (jby k) pc = .ok (.newarray t, 2)) (ht : jnat t ≠ 0) (hn : ¬ n < 0 ∧ n.toNatClampNeg ≤ 65536) : jW d k pc lv (.int n :: st) h Q ↔ jW d k (pc + 2) lv (.ref (jnx h) :: st) (jnew h (jnat t) n.toNatClampNeg) Q := by
  refine jW_step (t := (pc + 2, lv, .ref (jnx h) :: st, jnew h (jnat t) n.toNatClampNeg)) hd (jstp_wt (q := (.ref (jnx h) :: st, jnew h (jnat t) n.toNatClampNeg)) rfl rfl rfl rfl rfl rfl rfl ?_)
  unfold jwt
  simp only [if_pos (And.intro ht hn)]
theorem jW_anew {x kd : Nat} {n : Int32} {q : Nat × Nat × Nat × Nat × Nat} (hd : decode (jby k) pc = .ok (.anewarray x, 3)) (ho : jow k = o) (hf : jAL.find? (fun q => q.1 == o && q.2.1 == x) = some q) (hc : q.2.2.1 = kd) (hn : ¬ n < 0 ∧ n.toNatClampNeg ≤ 65536) : jW d k pc lv (.int n :: st) h Q ↔ jW d k (pc + 3) lv (.ref (jnx h) :: st) (jnew h kd n.toNatClampNeg) Q := by
  subst ho
  subst hc
  refine jW_step (t := (pc + 3, lv, .ref (jnx h) :: st, jnew h q.2.2.1 n.toNatClampNeg)) hd (jstp_wt (q := (.ref (jnx h) :: st, jnew h q.2.2.1 n.toNatClampNeg)) rfl rfl rfl rfl rfl rfl rfl ?_)
  unfold jwt
  simp only [hf, if_pos hn]
theorem jW_oin {x a : Nat} (hd : decode (jby k) pc = .ok (.invokespecial x, 3)) (ho : jow k = o) (hf : jOL.any (fun q => q.1 == o && (q.2.1 == x && q.2.2.1 == 0)) = true) (hc : jcat st ≤ 8) : jW d k pc lv (.ref a :: st) h Q ↔ jW d k (pc + 3) lv st h Q := by
  subst ho
  refine jW_step (t := (pc + 3, lv, st, h)) hd (jstp_own (q := (st, h)) rfl rfl rfl rfl rfl rfl rfl rfl ?_)
  unfold jown
  simp only [if_pos (And.intro hf hc)]
theorem jW_max {x : Nat} {v w : Int32} (hd : decode (jby k) pc = .ok (.invokestatic x, 3)) (ho : jow k = o) (hs : jown k (.invokestatic x) (.int w :: .int v :: st) h = if (jOL.any (fun q => q.1 == jow k && (q.2.1 == x && q.2.2.1 == 5))) = true ∧ jcat st ≤ 8 then some (.int (if v < w then w else v) :: st, h) else if (jOL.any (fun q => q.1 == jow k && (q.2.1 == x && q.2.2.1 == 6))) = true ∧ jcat st ≤ 8 then some (.int (if w < v then w else v) :: st, h) else none) (hc : jcat st ≤ 8) (hf : jOL.any (fun q => q.1 == o && (q.2.1 == x && q.2.2.1 == 5)) = true) : jW d k pc lv (.int w :: .int v :: st) h Q ↔ jW d k (pc + 3) lv (.int (if v < w then w else v) :: st) h Q := by
  subst ho
  refine jW_step (t := (pc + 3, lv, .int (if v < w then w else v) :: st, h)) hd (jstp_own (q := (.int (if v < w then w else v) :: st, h)) rfl rfl rfl rfl rfl rfl rfl rfl ?_)
  rw [hs]
  exact if_pos (And.intro hf hc)
theorem jW_min {x : Nat} {v w : Int32} (hd : decode (jby k) pc = .ok (.invokestatic x, 3)) (ho : jow k = o) (hs : jown k (.invokestatic x) (.int w :: .int v :: st) h = if (jOL.any (fun q => q.1 == jow k && (q.2.1 == x && q.2.2.1 == 5))) = true ∧ jcat st ≤ 8 then some (.int (if v < w then w else v) :: st, h) else if (jOL.any (fun q => q.1 == jow k && (q.2.1 == x && q.2.2.1 == 6))) = true ∧ jcat st ≤ 8 then some (.int (if w < v then w else v) :: st, h) else none) (hc : jcat st ≤ 8) (hf : jOL.any (fun q => q.1 == o && (q.2.1 == x && q.2.2.1 == 6)) = true) (hn : jOL.any (fun q => q.1 == o && (q.2.1 == x && q.2.2.1 == 5)) = false) : jW d k pc lv (.int w :: .int v :: st) h Q ↔ jW d k (pc + 3) lv (.int (if w < v then w else v) :: st) h Q := by
  subst ho
  refine jW_step (t := (pc + 3, lv, .int (if w < v then w else v) :: st, h)) hd (jstp_own (q := (.int (if w < v then w else v) :: st, h)) rfl rfl rfl rfl rfl rfl rfl rfl ?_)
  rw [hs]
  exact (if_neg (fun z => by rw [hn] at z; exact absurd z.1 (by decide))).trans (if_pos (And.intro hf hc))
theorem jW_copy {x a b : Nat} {n dp sp : Int32} (hd : decode (jby k) pc = .ok (.invokestatic x, 3)) (ho : jow k = o) (hf : jOL.any (fun q => q.1 == o && (q.2.1 == x && q.2.2.1 == 1)) = true) (hc : jcat st ≤ 8) (hka : (jK h a).1 = 1) (hkb : (jK h b).1 = 1) (h3 : ¬ sp < 0 ∧ ¬ dp < 0 ∧ ¬ n < 0) (h4 : sp.toNatClampNeg + n.toNatClampNeg ≤ (jK h a).2) (h5 : dp.toNatClampNeg + n.toNatClampNeg ≤ (jK h b).2) : jW d k pc lv (.int n :: .int dp :: .ref b :: .int sp :: .ref a :: st) h Q ↔ jW d k (pc + 3) lv st (jwr h b (va_cpy (jI h a) (jI h b) sp.toNatClampNeg dp.toNatClampNeg n.toNatClampNeg)) Q := by
  subst ho
  refine jW_step (t := (pc + 3, lv, st, jwr h b (va_cpy (jI h a) (jI h b) sp.toNatClampNeg dp.toNatClampNeg n.toNatClampNeg))) hd (jstp_own (q := (st, jwr h b (va_cpy (jI h a) (jI h b) sp.toNatClampNeg dp.toNatClampNeg n.toNatClampNeg))) rfl rfl rfl rfl rfl rfl rfl rfl ?_)
  exact if_pos ⟨⟨hf, hc⟩, ⟨hka, hkb⟩, h3, h4, h5⟩
theorem jW_clone {x a : Nat} (hd : decode (jby k) pc = .ok (.invokevirtual x, 3)) (ho : jow k = o) (hf : jOL.any (fun q => q.1 == o && (q.2.1 == x && q.2.2.1 == 2)) = true) (hc : jcat st ≤ 8) (hka : (jK h a).1 = 1) : jW d k pc lv (.ref a :: st) h Q ↔ jW d k (pc + 3) lv (.ref (jnx h) :: st) (jwr (jnew h 1 (jK h a).2) (jnx h) (jI h a)) Q := by
  subst ho
  refine jW_step (t := (pc + 3, lv, .ref (jnx h) :: st, jwr (jnew h 1 (jK h a).2) (jnx h) (jI h a))) hd (jstp_own (q := (.ref (jnx h) :: st, jwr (jnew h 1 (jK h a).2) (jnx h) (jI h a))) rfl rfl rfl rfl rfl rfl rfl rfl ?_)
  exact if_pos ⟨⟨hf, hc⟩, hka⟩
theorem jW_cast {x a : Nat} (hd : decode (jby k) pc = .ok (.checkcast x, 3)) (ho : jow k = o) (hf : jXL.any (fun q => q.1 == o && q.2.1 == x) = true) (hka : (jK h a).1 = 1) : jW d k pc lv (.ref a :: st) h Q ↔ jW d k (pc + 3) lv (.ref a :: st) h Q := by
  subst ho
  refine jW_step (t := (pc + 3, lv, .ref a :: st, h)) hd (jstp_rd rfl rfl rfl rfl rfl rfl ?_)
  exact if_pos ⟨hf, hka⟩
/-! returns -/
theorem jW_ri {x : Int32} (hd : decode (jby k) pc = .ok (.ireturn, 1)) (hr : jrt k = some .int) : jW d k pc lv [.int x] h Q ↔ Q (some (.int x)) h := jW_ret hd rfl (by unfold jret; rw [hr]; rfl)
theorem jW_rz {x : Int32} (hd : decode (jby k) pc = .ok (.ireturn, 1)) (hr : jrt k = some .boolean) (hx : x = 0 ∨ x = 1) : jW d k pc lv [.int x] h Q ↔ Q (some (.int x)) h := jW_ret hd rfl (by unfold jret; rw [hr]; exact if_pos hx)
theorem jW_rb {x : Int32} (hd : decode (jby k) pc = .ok (.ireturn, 1)) (hr : jrt k = some .byte) (hx : x.toInt8.toInt32 = x) : jW d k pc lv [.int x] h Q ↔ Q (some (.int x)) h := jW_ret hd rfl (by unfold jret; rw [hr]; exact if_pos hx)
theorem jW_rc {x : Int32} (hd : decode (jby k) pc = .ok (.ireturn, 1)) (hr : jrt k = some .char) (hx : x.toUInt32.toUInt16.toUInt32.toInt32 = x) : jW d k pc lv [.int x] h Q ↔ Q (some (.int x)) h := jW_ret hd rfl (by unfold jret; rw [hr]; exact if_pos hx)
theorem jW_rl {x : Int64} (hd : decode (jby k) pc = .ok (.lreturn, 1)) (hr : jrt k = some .long) : jW d k pc lv [.long x] h Q ↔ Q (some (.long x)) h := jW_ret hd rfl (by unfold jret; rw [hr]; rfl)
theorem jW_ro {C : String} {a : Nat} (hd : decode (jby k) pc = .ok (.areturn, 1)) (hr : jrt k = some (.object C)) : jW d k pc lv [.ref a] h Q ↔ Q (some (.ref a)) h := jW_ret hd rfl (by unfold jret; rw [hr]; rfl)
theorem jW_roN {C : String} (hd : decode (jby k) pc = .ok (.areturn, 1)) (hr : jrt k = some (.object C)) : jW d k pc lv [.null] h Q ↔ Q (some .null) h := jW_ret hd rfl (by unfold jret; rw [hr]; rfl)
theorem jW_ra {t : FieldType} {a : Nat} (hd : decode (jby k) pc = .ok (.areturn, 1)) (hr : jrt k = some (.array t)) : jW d k pc lv [.ref a] h Q ↔ Q (some (.ref a)) h := jW_ret hd rfl (by unfold jret; rw [hr]; rfl)
theorem jW_rv (hd : decode (jby k) pc = .ok (.return_, 1)) (hr : jrt k = none) : jW d k pc lv [] h Q ↔ Q none h := jW_ret hd rfl (by unfold jret; rw [hr]; rfl)
/-! calls -/
theorem jown_no {x : Nat} (hn : jOL.any (fun q => q.1 == jow k && q.2.1 == x) = false) (hi : i = .invokestatic x ∨ i = .invokevirtual x ∨ i = .invokespecial x) : jown k i st h = none := by
  have hz : ∀ w : Nat, ¬ (jOL.any (fun q => q.1 == jow k && (q.2.1 == x && q.2.2.1 == w))) = true := by
    intro w hw
    obtain ⟨q, hq, hq2⟩ := List.any_eq_true.mp hw
    simp only [Bool.and_eq_true, beq_iff_eq] at hq2
    have : jOL.any (fun q => q.1 == jow k && q.2.1 == x) = true := List.any_eq_true.mpr ⟨q, hq, by simp [hq2.1, hq2.2.1]⟩
    rw [hn] at this
    cases this
  rcases hi with rfl | rfl | rfl
  · unfold jown
    split
    · next heq => cases heq
    · next heq => cases heq; exact if_neg (fun z => hz _ z.1.1)
    · first
        | (next heq => cases heq; exact (if_neg (fun z => hz _ z.1)).trans (if_neg (fun z => hz _ z.1)))
        | (next heq hno => cases heq; exact (if_neg (fun z => hz _ z.1)).trans (if_neg (fun z => hz _ z.1)))
    · next heq => cases heq
    · rfl
  · unfold jown
    split
    · next heq => cases heq
    · next heq => cases heq
    · first
        | (next heq => cases heq)
        | (next heq hno => cases heq)
    · next heq => cases heq; exact if_neg (fun z => hz _ z.1.1)
    · rfl
  · unfold jown
    split
    · next heq => cases heq; exact if_neg (fun z => hz _ z.1)
    · next heq => cases heq
    · first
        | (next heq => cases heq)
        | (next heq hno => cases heq)
    · next heq => cases heq
    · rfl
theorem jW_cS {x n k' : Nat} {as rest : List Value} (hd : decode (jby k) pc = .ok (.invokestatic x, 3)) (ho : jow k = o) (hn : jOL.any (fun q => q.1 == o && q.2.1 == x) = false) (hf' : (jCL.find? (fun q => q.1 == o && (q.2.1 == x && q.2.2.1 == 1))).map (fun q => q.2.2.2.1) = some k') (hna : jna k' = some n) (hst : st = as.reverse ++ rest) (hl : as.length = n) (hc : jcat rest ≤ 8) : jW d k pc lv st h Q ↔ jC d k' as h (fun r h' => jW d k (pc + 3) lv (r.toList ++ rest) h' Q) := by
  subst ho
  obtain ⟨q, hf, rfl⟩ := Option.map_eq_some_iff.mp hf'
  refine jW_call hd (jstp_no rfl rfl rfl rfl rfl rfl rfl (jown_no hn (Or.inl rfl))) rfl ?_
  have e1 : st.drop n = rest := by rw [hst, ← hl]; simp
  have e2 : (st.take n).reverse = as := by rw [hst, ← hl]; simp
  have e3 : n ≤ st.length := by rw [hst, ← hl]; simp
  unfold jcal
  simp only [if_true, hf, hna, e1, e2, if_pos (And.intro e3 hc)]
theorem jW_cV {x n k' a : Nat} {as rest : List Value} (hd : decode (jby k) pc = .ok (.invokevirtual x, 3)) (ho : jow k = o) (hn : jOL.any (fun q => q.1 == o && q.2.1 == x) = false) (hf' : (jCL.find? (fun q => q.1 == o && (q.2.1 == x && q.2.2.1 == 0))).map (fun q => q.2.2.2.1) = some k') (hna : jna k' = some n) (hst : st = as.reverse ++ .ref a :: rest) (hl : as.length = n) (hc : jcat rest ≤ 8) (hK : (jow k' < 13 ∧ (jK h a).1 = 20 + jow k') ∨ (jow k' = 17 ∧ (jtxt h a).isSome = true)) : jW d k pc lv st h Q ↔ jC d k' (.ref a :: as) h (fun r h' => jW d k (pc + 3) lv (r.toList ++ rest) h' Q) := by
  subst ho
  obtain ⟨q, hf, rfl⟩ := Option.map_eq_some_iff.mp hf'
  refine jW_call hd (jstp_no rfl rfl rfl rfl rfl rfl rfl (jown_no hn (Or.inr (Or.inl rfl)))) rfl ?_
  have e1 : st.drop n = .ref a :: rest := by rw [hst, ← hl]; simp
  have e2 : (st.take n).reverse = as := by rw [hst, ← hl]; simp
  unfold jcal
  simp only [if_true, hf, hna, e1, e2, if_pos (And.intro hK hc)]
theorem jW_cI {x n k' a : Nat} {as rest : List Value} (hd : decode (jby k) pc = .ok (.invokespecial x, 3)) (ho : jow k = o) (hn : jOL.any (fun q => q.1 == o && q.2.1 == x) = false) (hf' : (jCL.find? (fun q => q.1 == o && (q.2.1 == x && (q.2.2.1 == 2 || q.2.2.1 == 3)))).map (fun q => q.2.2.2.1) = some k') (hna : jna k' = some n) (hst : st = as.reverse ++ .ref a :: rest) (hl : as.length = n) (hc : jcat rest ≤ 8) : jW d k pc lv st h Q ↔ jC d k' (.ref a :: as) h (fun r h' => jW d k (pc + 3) lv (r.toList ++ rest) h' Q) := by
  subst ho
  obtain ⟨q, hf, rfl⟩ := Option.map_eq_some_iff.mp hf'
  refine jW_call hd (jstp_no rfl rfl rfl rfl rfl rfl rfl (jown_no hn (Or.inr (Or.inr rfl)))) rfl ?_
  have e1 : st.drop n = .ref a :: rest := by rw [hst, ← hl]; simp
  have e2 : (st.take n).reverse = as := by rw [hst, ← hl]; simp
  unfold jcal
  simp only [if_true, hf, hna, e1, e2, if_pos hc]
end JR0
