/-! THE TIE: feed, end -/
/-- both tapes hold the same bytes -/
def fd_r (A B : Nat → Int32) (L : Nat) : Prop := ∀ p, p < L → ∃ n, n < 256 ∧ A p = nI n ∧ B p = sbt n
theorem fd_4 {A B : Nat → Int32} {t : Nat} {v : Int32} (H : fd_r A B t) : fd_r (cp4 A t v) (tp4 B t v) (t + 4) := by
  intro p hp
  unfold cp4 tp4
  rcases (by omega : p < t ∨ p = t ∨ p = t + 1 ∨ p = t + 2 ∨ p = t + 3) with e | e | e | e | e
  · rw [upd_n (by omega), upd_n (by omega), upd_n (by omega), upd_n (by omega), upd_n (by omega), upd_n (by omega), upd_n (by omega), upd_n (by omega)]
    exact H p e
  · subst e
    rw [upd_n (by omega), upd_n (by omega), upd_n (by omega), upd_s, upd_n (by omega), upd_n (by omega), upd_n (by omega), upd_s]
    exact byt _
  · subst e
    rw [upd_n (by omega), upd_n (by omega), upd_s, upd_n (by omega), upd_n (by omega), upd_s]
    exact byt _
  · subst e
    rw [upd_n (by omega), upd_s, upd_n (by omega), upd_s]
    exact byt _
  · subst e
    rw [upd_s, upd_s]
    exact byt _
theorem fd_20 {A B : Nat → Int32} {t : Nat} {a b c e f : Int32} (H : fd_r A B t) : fd_r (cp20 A t a b c e f) (tp20 B t a b c e f) (t + 20) := fd_4 (t := t + 16) (fd_4 (t := t + 12) (fd_4 (t := t + 8) (fd_4 (t := t + 4) (fd_4 H))))
/-- feed -/
theorem ty_s0 {a b c' e f : Int32} : ty_st 104 142 [.int a, .int b, .int c', .int e, .int f] := by
  intro d h x n Q I hQ
  have I' := I
  obtain ⟨⟨c, C, fs, S, F, X, ow, l, U, K, T, L, tK, tV, IM, A, P, R⟩, i1, i2⟩ := I
  have A' := A
  obtain ⟨⟨⟨s1, ⟨s2, s3, s4⟩, s5, s6, s7, s8, s9⟩, sc, hx⟩, ⟨a4, a5⟩, ⟨a6, a7⟩, ⟨a8, a9⟩, b1, ps, b3, ⟨⟨t1, t2, t3, t4, t5⟩, t6⟩, b5⟩ := A
  by_cases h20 : L + 20 ≤ 400
  · refine k104 s1.1 s1.2.1 t1 t2 t3 t6 t4 ?_
    rw [if_pos h20]
    have B : agx (fun a => a = x + 1 ∨ a = x + 2) h (ctH h (x + 1) (cp20 (jI h (x + 1 + 1)) L a b c' e f) (nI (L + 20))) := agx_trans (h1 := jwr h (x + 1 + 1) (cp20 (jI h (x + 1 + 1)) L a b c' e f)) (agx_wr (Or.inr rfl)) (agx_wr (Or.inl rfl))
    have eA : jI (ctH h (x + 1) (cp20 (jI h (x + 1 + 1)) L a b c' e f) (nI (L + 20))) (x + 1 + 1) = cp20 (jI h (x + 1 + 1)) L a b c' e f := by
      unfold ctH
      rw [jI_wr_n (by omega), jI_wr_s]
    have eL : jI (ctH h (x + 1) (cp20 (jI h (x + 1 + 1)) L a b c' e f) (nI (L + 20))) (x + 1) 1 = nI (L + 20) := by
      unfold ctH
      rw [jI_wr_s, upd_s]
    obtain ⟨lo, R1⟩ := ty_fi A' R B (fun a w => by omega)
    obtain ⟨⟨p1, ⟨p2, p2'⟩, p3⟩, r2, r3, ⟨f1, f2, f3, f4, f5, f6⟩, r5, r6⟩ := id R1
    have rel : fd_r (jI h (x + 1 + 1)) (jI (ctH h (x + 1) (cp20 (jI h (x + 1 + 1)) L a b c' e f) (nI (L + 20))) (x + 50 + 1)) L := fun p hp => ⟨T p, (t5 p hp).2, (t5 p hp).1, (p3 p hp).1⟩
    have rel2 := fd_20 (a := a) (b := b) (c := c') (e := e) (f := f) rel
    have hT : ∀ p, p < L + 20 → cp20 (jI h (x + 1 + 1)) L a b c' e f p = nI (cp20 (jI h (x + 1 + 1)) L a b c' e f p).toNatClampNeg ∧ (cp20 (jI h (x + 1 + 1)) L a b c' e f p).toNatClampNeg < 256 ∧ tp20 (jI (ctH h (x + 1) (cp20 (jI h (x + 1 + 1)) L a b c' e f) (nI (L + 20))) (x + 50 + 1)) L a b c' e f p = sbt (cp20 (jI h (x + 1 + 1)) L a b c' e f p).toNatClampNeg := fun p hp => by
      obtain ⟨n, n1, n2, n3⟩ := rel2 p hp
      rw [n2, nI_clamp (by omega)]
      exact ⟨rfl, n1, n3⟩
    have C1 : ty_C (ctH h (x + 1) (cp20 (jI h (x + 1 + 1)) L a b c' e f) (nI (L + 20))) x c C fs S F X ow l U K (fun p => (cp20 (jI h (x + 1 + 1)) L a b c' e f p).toNatClampNeg) (L + 20) tK tV IM := by
      have e8 := B.2.2 (x + 8) (by omega) (fun w => by omega)
      refine ty_C_J A' B rfl rfl (fun a w => by omega) (agx_stV B (by omega) (fun a h1 h2 w => by omega) a6) (agx_no B (by omega) (fun a h1 h2 w => by omega) ⟨s6, a7⟩).2 ty_eqM (by rw [e8.1]; exact a8) (by rw [e8.1]; exact a9) (ty_ps_ag B hx (fun _ _ => rfl) (fun a w g => by omega) ps) ⟨⟨t1, t2, t3, h20, fun p hp => ?_⟩, eL⟩
      rw [eA]
      exact ⟨(hT p hp).1, (hT p hp).2.1⟩
    have gn : jnx (ctH h (x + 1) (cp20 (jI h (x + 1 + 1)) L a b c' e f) (nI (L + 20))) = jnx h := rfl
    have gs : jsl (ctH h (x + 1) (cp20 (jI h (x + 1 + 1)) L a b c' e f) (nI (L + 20))) = jsl h := rfl
    generalize ctH h (x + 1) (cp20 (jI h (x + 1 + 1)) L a b c' e f) (nI (L + 20)) = g at *
    refine hQ _ g lo (fun Q2 hQ2 => (c142 p1 p2 p2').2 ?_)
    rw [if_pos h20]
    have g0 : jI (tH g (x + 50) (tp20 (jI g (x + 50 + 1)) L a b c' e f) (nI (L + 20))) (x + 50) = upd (jI g (x + 50)) 1 (nI (L + 20)) := by
      unfold tH
      rw [jI_wr_s]
    have g1 : jI (tH g (x + 50) (tp20 (jI g (x + 50 + 1)) L a b c' e f) (nI (L + 20))) (x + 50 + 1) = tp20 (jI g (x + 50 + 1)) L a b c' e f := by
      unfold tH
      rw [jI_wr_n (by omega), jI_wr_s]
    have gi : ∀ i, i ≠ 0 → i ≠ 1 → jI (tH g (x + 50) (tp20 (jI g (x + 50 + 1)) L a b c' e f) (nI (L + 20))) (x + 50 + i) = jI g (x + 50 + i) := fun i h1 h2 => by
      unfold tH
      rw [jI_wr_n (by omega), jI_wr_n (by omega)]
    have fr : frg (x + 50) (x + 75) g (tH g (x + 50) (tp20 (jI g (x + 50 + 1)) L a b c' e f) (nI (L + 20))) := frg_wr (by omega) (by omega) (frg_wr (by omega) (by omega) frg_refl)
    have R2 : ty_R (tH g (x + 50) (tp20 (jI g (x + 50 + 1)) L a b c' e f) (nI (L + 20))) (x + 50) C fs S F X U K (fun p => (cp20 (jI h (x + 1 + 1)) L a b c' e f p).toNatClampNeg) (L + 20) IM := ⟨⟨mInv_of (fun a _ _ => rfl) rfl p1, by rw [g0, upd_s]; exact ⟨rfl, h20⟩, fun p hp => by rw [g1]; exact ⟨(hT p hp).2.2, (hT p hp).2.1⟩⟩, by rw [gi 10 (by omega) (by omega)]; exact r2, mRs_of (by rw [g0, upd_n (by omega)]) (gi 2 (by omega) (by omega)) (gi 4 (by omega) (by omega)) (gi 5 (by omega) (by omega)) r3, by rw [g0, upd_n (by omega), upd_n (by omega), upd_n (by omega), upd_n (by omega), upd_n (by omega), upd_n (by omega)]; exact ⟨f1, f2, f3, f4, f5, f6⟩, by rw [gi 12 (by omega) (by omega)]; exact r5, fun k hk => ty_ri_of (fun i h1 h2 => gi i (by omega) (by omega)) (r6 k hk)⟩
    refine hQ2 _ ⟨⟨c, C, fs, S, F, X, ow, l, U, K, _, _, tK, tV, IM, ty_C_frg fr C1, P, R2⟩, ?_, ?_⟩ (ty_lo_trans lo (ty_lo_frg fr (by omega)))
    · rw [fr.1.1, gn]; omega
    · rw [fr.1.2.1, gs]; omega
  · refine ty_no (v := -1) I' hQ (fun q => k104 s1.1 s1.2.1 t1 t2 t3 t6 t4 ?_) (fun Q2 q => (c142 R.1.1 R.1.2.1.1 R.1.2.1.2).2 ?_)
    · rw [if_neg h20]; exact q
    · rw [if_neg h20]; exact q
/-- end -/
theorem ty_s1 {k : Int32} : ty_st 105 144 [.int k] := by
  intro d h x n Q I hQ
  have I' := I
  obtain ⟨⟨c, C, fs, S, F, X, ow, l, U, K, T, L, tK, tV, IM, A, P, R⟩, i1, i2⟩ := I
  have A' := A
  obtain ⟨⟨⟨s1, ⟨s2, s3, s4⟩, s5, s6, s7, s8, s9⟩, sc, hx⟩, ⟨a4, a5⟩, ⟨a6, a7⟩, ⟨a8, a9⟩, b1, ps, b3, ⟨⟨t1, t2, t3, t4, t5⟩, t6⟩, b5⟩ := A
  by_cases h0 : k < 0
  · refine ty_no (v := -1) I' hQ (fun q => (k105 s1.1 s1.2.1 t1).2 ?_) (fun Q2 q => (c144 R.1.1).2 ?_)
    · rw [if_pos h0]; exact q
    · rw [if_pos h0]; exact q
  · by_cases hL : k ≤ nI L
    · refine (k105 s1.1 s1.2.1 t1).2 ?_
      rw [if_neg h0, t6, if_pos hL]
      have ek := clamp_nI h0
      have hk : k.toNatClampNeg ≤ L := by
        rw [← ek, nI_leI (clamp_lt k) (by omega)] at hL
        exact hL
      have B : agx (fun a => a = x + 1) h (jwr h (x + 1) (upd (jI h (x + 1)) 1 k)) := agx_wr rfl
      obtain ⟨lo, R1⟩ := ty_fi A' R B (fun a w => by omega)
      have C1 : ty_C (jwr h (x + 1) (upd (jI h (x + 1)) 1 k)) x c C fs S F X ow l U K T k.toNatClampNeg tK tV IM := by
        have e8 := B.2.2 (x + 8) (by omega) (fun w => by omega)
        refine ty_C_J A' B rfl rfl (fun a w => by omega) (agx_stV B (by omega) (fun a h1 h2 w => by omega) a6) (agx_no B (by omega) (fun a h1 h2 w => by omega) ⟨s6, a7⟩).2 ty_eqM (by rw [e8.1]; exact a8) (by rw [e8.1]; exact a9) (ty_ps_ag B hx (fun _ _ => rfl) (fun a w g => by omega) ps) ⟨⟨t1, t2, t3, by omega, fun p hp => ?_⟩, by rw [jI_wr_s, upd_s, ek]⟩
        rw [jI_wr_n (by omega)]
        exact t5 p (by omega)
      refine hQ _ _ lo (fun Q2 hQ2 => (c144 R1.1.1).2 ?_)
      obtain ⟨⟨p1, ⟨p2, p2'⟩, p3⟩, r2, r3, ⟨f1, f2, f3, f4, f5, f6⟩, -⟩ := id R1
      rw [if_neg h0, p2, if_pos hL]
      obtain ⟨R2, fr⟩ := ty_R_m (S' := jI (jwr h (x + 1) (upd (jI h (x + 1)) 1 k)) (x + 50 + 10)) (f := upd (jI (jwr h (x + 1) (upd (jI h (x + 1)) 1 k)) (x + 50)) 1 k) (U' := U) (F' := F) (X' := X) (L' := k.toNatClampNeg) R1 (by rw [upd_s, ek]) hk (upd_n (by omega)) (by rw [upd_n (by omega)]; exact f1) (by rw [upd_n (by omega)]; exact f2) (by rw [upd_n (by omega)]; exact f3) (by rw [upd_n (by omega)]; exact f4) (by rw [upd_n (by omega)]; exact f5) (by rw [upd_n (by omega)]; exact f6) (Nat.le_refl _)
      rw [jwr_self] at R2 fr
      rw [r2] at R2
      refine hQ2 _ ⟨⟨c, C, fs, S, F, X, ow, l, U, K, T, _, tK, tV, IM, ty_C_frg fr C1, P, R2⟩, ?_, ?_⟩ (ty_lo_trans lo (ty_lo_frg fr (by omega)))
      · rw [fr.1.1]; show jnx h ≤ _; omega
      · rw [fr.1.2.1]; show jsl h ≤ _; omega
    · refine ty_no (v := -1) I' hQ (fun q => (k105 s1.1 s1.2.1 t1).2 ?_) (fun Q2 q => (c144 R.1.1).2 ?_)
      · rw [if_neg h0, t6, if_neg hL]; exact q
      · rw [if_neg h0, R.1.2.1.1, if_neg hL]; exact q
