/-! THE TIE: teach, undo, force, seed, feed, end -/
section
variable {h h' h1 h2 : jH} {x m n c C k p l l' U U' L L' : Nat} {W : Nat → Prop} {S S' : Nat → Int32} {ow ow' : Nat → Nat} {fs : Nat → (Nat → Int64) → Int64} {K K' : Nat → Nat → Int32} {T T' tK tV : Nat → Nat} {IM : tyI} {F X F' X' : Int32}
theorem ty_R_m (H : ty_R h m C fs S F X U K T L IM) {f : Nat → Int32} (g1 : f 1 = nI L') (hL : L' ≤ L) (g2 : f 2 = jI h m 2) (g21 : f 21 = F') (g22 : f 22 = X') (g23 : f 23 = -1) (g24 : f 24 = 0) (g25 : f 25 = 0) (g28 : f 28 = nI U') (hU : U' ≤ U) : ty_R (jwr (jwr h (m + 10) S') m f) m C fs S' F' X' U' K T L' IM ∧ frg m (m + 25) h (jwr (jwr h (m + 10) S') m f) := by
  obtain ⟨⟨p1, ⟨p2, p2'⟩, p3⟩, a2, a3, -, a5, a6⟩ := H
  have gi : ∀ i, i ≠ 0 → i ≠ 10 → jI (jwr (jwr h (m + 10) S') m f) (m + i) = jI h (m + i) := fun i h1 h2 => by rw [jI_wr_n (by omega), jI_wr_n (by omega)]
  have g0 : jI (jwr (jwr h (m + 10) S') m f) m = f := jI_wr_s
  refine ⟨⟨⟨mInv_of (fun a _ _ => rfl) rfl p1, by rw [g0]; exact ⟨g1, by omega⟩, fun p hp => by rw [gi 1 (by omega) (by omega)]; exact p3 p (by omega)⟩, by rw [jI_wr_n (by omega), jI_wr_s], mRs_of (by rw [g0]; exact g2) (gi 2 (by omega) (by omega)) (gi 4 (by omega) (by omega)) (gi 5 (by omega) (by omega)) a3, by rw [g0]; exact ⟨g21, g22, g23, g24, g25, g28⟩, fun i j hi hj => by rw [gi 12 (by omega) (by omega)]; exact a5 i j (by omega) hj, fun k hk => ty_ri_of (fun i h1 h2 => gi i (by omega) (by omega)) (a6 k hk)⟩, frg_wr (by omega) (by omega) (frg_wr (by omega) (by omega) frg_refl)⟩
/-- the class, where no cell is made -/
theorem ty_C_J (H : ty_C h x c C fs S F X ow l U K T L tK tV IM) (A : agx W h h') (hR : jR h' = jR h) (hK : jK h' = jK h) (hw : ∀ a, W a → (x + 1 ≤ a ∧ a ≤ x + 2) ∨ a = x + 8 ∨ (x + 13 ≤ a ∧ a < x + 25)) (V : stV h' (x + 13) S') (N : noV h' (x + 18) S') (e : eqM S S') (hF : jI h' (x + 8) 1 = F') (hX : jI h' (x + 8) 2 = X') (P : psI h' x ow l' U' K') (TP : ty_tp h' x T' L') : ty_C h' x c C fs S' F' X' ow l' U' K' T' L' tK tV IM := ty_C_I H A (fun _ _ => rfl) (fun a _ _ _ _ => by rw [hR]) (fun a w => by have := hw a w; omega) (ty_sc_jR hK hR H.1.2.1) V N e hF hX P TP
theorem ty_eqM : eqM S S := fun _ _ => rfl
/-- a call whose class leaves W, whose reference leaves its own -/
theorem ty_fi (A : ty_C h x c C fs S F X ow l U K T L tK tV IM) (R : ty_R h (x + 50) C fs S F X U K T L IM) (B : agx W h h1) (hW : ∀ a, W a → x ≤ a ∧ (a < x + 50 ∨ x + 75 ≤ a)) : ty_lo x h h1 ∧ ty_R h1 (x + 50) C fs S F X U K T L IM := by
  have hn := A.1.2.2
  exact ⟨ty_lo_ag B (by omega) (fun a w => (hW a w).1), ty_R_ag B (by omega) (fun a w g => by have := hW a w; omega) R⟩
end
/-- teach -/
theorem ty_s11 {s o k : Int32} : ty_st 118 213 [.int s, .int o, .int k] := by
  intro d h x n Q I hQ
  have I' := I
  obtain ⟨⟨c, C, fs, S, F, X, ow, l, U, K, T, L, tK, tV, IM, A, P, R⟩, i1, i2⟩ := I
  have hU : U ≤ 20 := A.2.2.2.2.2.1.2.2.1.2
  have W : mW S := P.1.1.1
  have Aw := ty_aw A
  have no : (isS S s && isK S k) = false ∨ isS S o = false → jC (d + 40) 118 [.ref x, .int s, .int o, .int k] h Q := fun hb => by
    refine ty_no I' hQ (k118n Aw hb).2 (fun Q2 q => (c213n R.1.1 (by rw [R.2.1]; exact W) ?_).2 q)
    rw [R.2.1]
    cases g1 : isS S s with
    | false => exact Or.inl (ty_noS g1)
    | true =>
      obtain ⟨s', e1, e2, -⟩ := ty_isS W g1
      refine Or.inr ⟨⟨s', e1, e2⟩, ?_⟩
      cases g2 : isS S o with
      | false => exact Or.inl (ty_noS g2)
      | true =>
        obtain ⟨o', f1, f2, -⟩ := ty_isS W g2
        refine Or.inr ⟨⟨o', f1, f2⟩, ty_noK ?_⟩
        rw [g1, g2] at hb
        rcases hb with hb | hb
        · exact hb
        · cases hb
  cases hn : (isS S s && isK S k) with
  | false => exact no (Or.inl hn)
  | true =>
    cases hn2 : isS S o with
    | false => exact no (Or.inr hn2)
    | true =>
      clear no
      obtain ⟨hA, hB⟩ := Bool.and_eq_true_iff.mp hn
      obtain ⟨s, rfl, hs, hs6⟩ := ty_isS W hA
      obtain ⟨o, rfl, ho, ho6⟩ := ty_isS W hn2
      obtain ⟨k, rfl, hk, hk6⟩ := ty_isK W hB
      obtain ⟨v, v1, v2⟩ := P.1.1.2.2.2.2.2 (6 * o + k) (by omega)
      obtain ⟨u, u1, u2⟩ := P.1.1.2.2.2.2.2 (6 * s + k) (by omega)
      rw [← Nat.add_assoc] at v2 u2
      have lt : S (29 + 6 * o + k) < S (29 + 6 * s + k) → v + 1 ≤ 50 := fun w => by
        rw [v2, u2, nI_ltI (by omega) (by omega)] at w
        omega
      have ev : S (29 + 6 * o + k) + 1 = nI (v + 1) := by rw [v2]; exact nI_add v 1
      have e := eqG_k (S := S) (s := o) (k := k) (v := S (29 + 6 * o + k) + 1) ho6 hk6
      have eD : sD (upd S (29 + 6 * o + k) (S (29 + 6 * o + k) + 1)) = sD S := by unfold sD; rw [upd_n (by omega)]
      have hc : ∀ g Q2, ty_R g (x + 50) C fs S F X U K T L IM → _ := fun g Q2 (R2 : ty_R g (x + 50) C fs S F X U K T L IM) => by
        have eS := R2.2.1
        have r := c213y (h := g) (m := x + 50) (d := d + 37) (Q := Q2) (s := s) (o := o) (k := k) R2.1.1 (by rw [eS]; exact W) (ty_mU R2 hU) (by rw [eS]; exact hs) (by rw [eS]; exact ho) (by rw [eS]; exact hk)
        rw [eS] at r
        exact r
      refine k118y Aw hs6 ho6 hk6 hn hn2 (fun w => by rw [ev]; exact nI_le (b := 50) (lt w) (by omega)) (fun no => hQ _ h ty_lo_refl (fun Q2 hQ2 => ((hc h Q2 R).1 no).2 (hQ2 h (ty_inv_s I') ty_lo_refl))) (fun yes h1 h2 ow' Ak how A1 m1 m2 G V => ?_)
      have gd := ty_gd_G P.1 e (by rw [ev]; exact oS_skl P.1.1 ho6 hk (lt yes)) (by rw [eD]; exact P.1.2.2.2.1)
      obtain ⟨lo, R2, fin⟩ := ty_fk (W := fun a => x + 13 ≤ a ∧ a < x + 18) A P R i1 i2 Ak m1 m2 (ty_C_kp A Ak how A1 G V e) (agx_frm G (fun a h1 h2 => ⟨h1, h2⟩)) (fun a w => by omega) G.1.1 G.1.2.1 e gd
      exact hQ _ h2 lo (fun Q2 hQ2 => ((hc h2 Q2 R2).2 yes).2 (hQ2 _ (fin _ rq_refl).1 (fin _ rq_refl).2))
theorem stV_und {h : jH} {p : Nat} {S Z : Nat → Int32} (V : stV h p Z) : stV h p (und S Z) := by
  have e : ∀ j, 10 ≤ j → j < 65 → und S Z j = Z j := fun j h1 h2 => by
    unfold und
    rw [jput_in h1 (by omega)]
    show Z (10 + (j - 10)) = Z j
    rw [show 10 + (j - 10) = j by omega]
  intro s hs
  obtain ⟨v0, v1, v2, v3, v4⟩ := V s hs
  exact ⟨by rw [e _ (by omega) (by omega)]; exact v0, by rw [e _ (by omega) (by omega)]; exact v1, by rw [e _ (by omega) (by omega)]; exact v2, by rw [e _ (by omega) (by omega)]; exact v3, fun k hk => by rw [e _ (by omega) (by omega)]; exact v4 k hk⟩
theorem und_eqG {S Z : Nat → Int32} : eqG S (und S Z) := fun j hj => jput_out (by omega)
/-- undo -/
theorem ty_s13 : ty_st 120 195 [] := by
  intro d h x n Q I hQ
  have I' := I
  obtain ⟨⟨c, C, fs, S, F, X, ow, l, U, K, T, L, tK, tV, IM, A, P, R⟩, i1, i2⟩ := I
  have A' := A
  obtain ⟨⟨⟨s1, ⟨s2, s3, s4⟩, s5, s6, s7, s8, s9⟩, sc, hx⟩, ⟨a4, a5⟩, ⟨a6, a7⟩, ⟨a8, a9⟩, b1, ps, b3, b4, b5⟩ := A
  have hU : U ≤ 20 := ps.2.2.1.2
  have hm : (jK h (x + 8)).1 = 23 := by rw [s2]
  have sUe : ∀ g, ty_R g (x + 50) C fs S F X U K T L IM → sU (jI g (x + 50)) = U := fun g R2 => by
    unfold sU
    rw [R2.2.2.2.1.2.2.2.2.2, nI_clamp (by omega)]
  by_cases h0 : U = 0
  · refine ty_no I' hQ (k120n s1 ps h0).2 (fun Q2 q => (c195 R.1.1 (ty_mU R hU)).2 ?_)
    rw [sUe h R, if_pos h0]
    exact q
  · refine k120y s1 hm s3 ps hx s5 (by omega) (fun h1 B V P1 n1 n2 n3 => ?_)
    obtain ⟨lo, R1⟩ := ty_fi A' R B (fun a w => by omega)
    obtain ⟨q1, q2⟩ := P.2.2.2.1 (U - 1) (by omega)
    have e : eqG S (und S (K (U - 1))) := und_eqG
    have nn : noV h1 (x + 18) S := (agx_no B (by omega) (fun a h1 h2 w => by omega) ⟨s6, a7⟩).2
    have e8 := B.2.2 (x + 8) (by omega) (fun w => by omega)
    have C1 : ty_C h1 x c C fs (und S (K (U - 1))) F X ow ((l + 19) % 20) (U - 1) K T L tK tV IM := ty_C_I A' B (fun _ _ => rfl) (fun a h1 h2 h3 h4 => by rw [n3]) (fun a w => by omega) (ty_sc_ag B hx (fun a w g => by omega) sc) (stV_und V) (noV_G e nn) (fun j hj => e j (by omega)) (by rw [e8.1]; exact a8) (by rw [e8.1]; exact a9) P1 (ty_tp_ag B hx (fun a w g => by omega) b4)
    refine hQ _ h1 lo (fun Q2 hQ2 => (c195 R1.1.1 (ty_mU R1 hU)).2 ?_)
    rw [sUe h1 R1, if_neg h0, R1.2.1]
    have er : jput S (fun j => jI h1 (x + 50 + 12) (55 * (U - 1) + j)) 10 55 = und S (K (U - 1)) := by
      funext j
      unfold und
      by_cases hj : 10 ≤ j ∧ j < 10 + 55
      · rw [jput_in hj.1 hj.2, jput_in hj.1 hj.2]
        exact R1.2.2.2.2.1 (U - 1) (j - 10) (by omega) (by omega)
      · rw [jput_out (by omega), jput_out (by omega)]
    rw [er]
    obtain ⟨⟨p1, ⟨p2, p2'⟩, p3⟩, r2, r3, ⟨f1, f2, f3, f4, f5, f6⟩, -⟩ := id R1
    obtain ⟨R2, fr⟩ := ty_R_m (S' := und S (K (U - 1))) (f := upd (jI h1 (x + 50)) 28 (nI (U - 1))) (U' := U - 1) (F' := F) (X' := X) R1 (by rw [upd_n (by omega)]; exact p2) (Nat.le_refl _) (upd_n (by omega)) (by rw [upd_n (by omega)]; exact f1) (by rw [upd_n (by omega)]; exact f2) (by rw [upd_n (by omega)]; exact f3) (by rw [upd_n (by omega)]; exact f4) (by rw [upd_n (by omega)]; exact f5) upd_s (by omega)
    refine hQ2 _ ⟨⟨c, C, fs, _, F, X, ow, _, _, K, T, L, tK, tV, IM, ty_C_frg fr C1, ⟨ty_gd_G P.1 e q1 q2, P.2.1, P.2.2.1, fun i hi => by rw [und_G e]; exact P.2.2.2.1 i (by omega), P.2.2.2.2⟩, R2⟩, ?_, ?_⟩ (ty_lo_trans lo (ty_lo_frg fr (by omega)))
    · rw [fr.1.1, n1]; omega
    · rw [fr.1.2.1, n2]; omega
/-- force -/
theorem ty_s4 {k : Int32} : ty_st 108 182 [.int k] := by
  intro d h x n Q I hQ
  have I' := I
  obtain ⟨⟨c, C, fs, S, F, X, ow, l, U, K, T, L, tK, tV, IM, A, P, R⟩, i1, i2⟩ := I
  have A' := A
  obtain ⟨⟨⟨s1, ⟨s2, s3, s4⟩, s5, s6, s7, s8, s9⟩, sc, hx⟩, ⟨a4, a5⟩, ⟨a6, a7⟩, ⟨a8, a9⟩, b1, ps, b3, b4, b5⟩ := A
  have hm : (jK h (x + 8)).1 = 23 := by rw [s2]
  have hC6 := b1.1.2
  have hC : jI h x 3 = nI C := b1.1.1
  have cI : (nI C).toInt = (C : Int) := nI_toInt (by omega)
  have m1 : (-1 : Int32).toInt = -1 := by decide
  have z0 : (0 : Int32).toInt = 0 := by decide
  by_cases ok : k = -1 ∨ (¬ k < 0 ∧ ¬ nI C ≤ k)
  · have k1 : ¬ k < -1 := by
      rw [Int32.lt_iff_toInt_lt, m1]
      rcases ok with e | ⟨e1, e2⟩
      · rw [e, m1]; omega
      · rw [Int32.lt_iff_toInt_lt, z0] at e1; omega
    have k2 : k < nI C := by
      rw [Int32.lt_iff_toInt_lt, cI]
      rcases ok with e | ⟨e1, e2⟩
      · rw [e, m1]; omega
      · rw [Int32.le_iff_toInt_le, cI] at e2; omega
    have kF : ty_F C k := by
      rcases ok with e | ⟨e1, e2⟩
      · exact Or.inl e
      · refine Or.inr ⟨k.toNatClampNeg, ?_, (clamp_nI e1).symm⟩
        rcases Nat.lt_or_ge k.toNatClampNeg C with g | g
        · exact g
        · exact absurd (by rw [← clamp_nI e1]; exact nI_le g (clamp_lt k)) e2
    refine k108 s1 hm ?_
    rw [if_neg k1, hC, if_pos k2, a8]
    have B : agx (fun a => a = x + 8) h (jwr h (x + 8) (upd (jI h (x + 8)) 1 k)) := agx_wr rfl
    obtain ⟨lo, R1⟩ := ty_fi A' R B (fun a w => by omega)
    have C1 : ty_C (jwr h (x + 8) (upd (jI h (x + 8)) 1 k)) x c C fs S k X ow l U K T L tK tV IM := ty_C_J A' B rfl rfl (fun a w => by omega) (agx_stV B (by omega) (fun a h1 h2 w => by omega) a6) (agx_no B (by omega) (fun a h1 h2 w => by omega) ⟨s6, a7⟩).2 ty_eqM (by rw [jI_wr_s, upd_s]) (by rw [jI_wr_s, upd_n (by omega)]; exact a9) (ty_ps_ag B hx (fun _ _ => rfl) (fun a w g => by omega) ps) (ty_tp_ag B hx (fun a w g => by omega) b4)
    refine hQ _ _ lo (fun Q2 hQ2 => (c182 R1.1.1).2 ?_)
    obtain ⟨⟨p1, ⟨p2, p2'⟩, p3⟩, r2, r3, ⟨f1, f2, f3, f4, f5, f6⟩, -⟩ := id R1
    rw [r3.1.1, if_pos ok, f1]
    obtain ⟨R2, fr⟩ := ty_R_m (S' := jI (jwr h (x + 8) (upd (jI h (x + 8)) 1 k)) (x + 50 + 10)) (f := upd (jI (jwr h (x + 8) (upd (jI h (x + 8)) 1 k)) (x + 50)) 21 k) (U' := U) (F' := k) (X' := X) R1 (by rw [upd_n (by omega)]; exact p2) (Nat.le_refl _) (upd_n (by omega)) upd_s (by rw [upd_n (by omega)]; exact f2) (by rw [upd_n (by omega)]; exact f3) (by rw [upd_n (by omega)]; exact f4) (by rw [upd_n (by omega)]; exact f5) (by rw [upd_n (by omega)]; exact f6) (Nat.le_refl _)
    rw [jwr_self] at R2 fr
    rw [r2] at R2
    refine hQ2 _ ⟨⟨c, C, fs, S, k, X, ow, l, U, K, T, L, tK, tV, IM, ty_C_frg fr C1, ⟨P.1, kF, P.2.2.1, P.2.2.2.1, P.2.2.2.2⟩, R2⟩, ?_, ?_⟩ (ty_lo_trans lo (ty_lo_frg fr (by omega)))
    · rw [fr.1.1]; show jnx h ≤ _; omega
    · rw [fr.1.2.1]; show jsl h ≤ _; omega
  · refine ty_no (v := -2) I' hQ (fun q => k108 s1 hm ?_) (fun Q2 q => (c182 R.1.1).2 ?_)
    · by_cases k1 : k < -1
      · rw [if_pos k1]; exact q
      · rw [if_neg k1, hC, if_neg ?_]
        · exact q
        · intro k2
          apply ok
          rw [Int32.lt_iff_toInt_lt, m1] at k1
          rw [Int32.lt_iff_toInt_lt, cI] at k2
          by_cases e : k.toInt = -1
          · exact Or.inl (Int32.toInt_inj.1 (by rw [e, m1]))
          · refine Or.inr ⟨?_, ?_⟩
            · rw [Int32.lt_iff_toInt_lt, z0]; omega
            · rw [Int32.le_iff_toInt_le, cI]; omega
    · rw [R.2.2.1.1.1, if_neg ok]
      exact q
/-- seed -/
theorem ty_s30 {k : Int32} : ty_st 138 249 [.int k] := by
  intro d h x n Q I hQ
  have I' := I
  obtain ⟨⟨c, C, fs, S, F, X, ow, l, U, K, T, L, tK, tV, IM, A, P, R⟩, i1, i2⟩ := I
  have A' := A
  obtain ⟨⟨⟨s1, ⟨s2, s3, s4⟩, s5, s6, s7, s8, s9⟩, sc, hx⟩, ⟨a4, a5⟩, ⟨a6, a7⟩, ⟨a8, a9⟩, b1, ps, b3, b4, b5⟩ := A
  have hm : (jK h (x + 8)).1 = 23 := by rw [s2]
  by_cases hk : k < 0
  · refine ty_no (v := -1) I' hQ (fun q => k138 s1 hm ?_) (fun Q2 q => (c249 R.1.1).2 ?_)
    · rw [if_pos hk]; exact q
    · rw [if_neg (by intro w; exact absurd hk (Int32.not_lt.mpr w))]; exact q
  · refine k138 s1 hm ?_
    rw [if_neg hk, a9]
    have B : agx (fun a => a = x + 8) h (jwr h (x + 8) (upd (jI h (x + 8)) 2 k)) := agx_wr rfl
    obtain ⟨lo, R1⟩ := ty_fi A' R B (fun a w => by omega)
    have C1 : ty_C (jwr h (x + 8) (upd (jI h (x + 8)) 2 k)) x c C fs S F k ow l U K T L tK tV IM := ty_C_J A' B rfl rfl (fun a w => by omega) (agx_stV B (by omega) (fun a h1 h2 w => by omega) a6) (agx_no B (by omega) (fun a h1 h2 w => by omega) ⟨s6, a7⟩).2 ty_eqM (by rw [jI_wr_s, upd_n (by omega)]; exact a8) (by rw [jI_wr_s, upd_s]) (ty_ps_ag B hx (fun _ _ => rfl) (fun a w g => by omega) ps) (ty_tp_ag B hx (fun a w g => by omega) b4)
    refine hQ _ _ lo (fun Q2 hQ2 => (c249 R1.1.1).2 ?_)
    obtain ⟨⟨p1, ⟨p2, p2'⟩, p3⟩, r2, r3, ⟨f1, f2, f3, f4, f5, f6⟩, -⟩ := id R1
    rw [if_pos (Int32.not_lt.mp hk), f2]
    obtain ⟨R2, fr⟩ := ty_R_m (S' := jI (jwr h (x + 8) (upd (jI h (x + 8)) 2 k)) (x + 50 + 10)) (f := upd (jI (jwr h (x + 8) (upd (jI h (x + 8)) 2 k)) (x + 50)) 22 k) (U' := U) (F' := F) (X' := k) R1 (by rw [upd_n (by omega)]; exact p2) (Nat.le_refl _) (upd_n (by omega)) (by rw [upd_n (by omega)]; exact f1) upd_s (by rw [upd_n (by omega)]; exact f3) (by rw [upd_n (by omega)]; exact f4) (by rw [upd_n (by omega)]; exact f5) (by rw [upd_n (by omega)]; exact f6) (Nat.le_refl _)
    rw [jwr_self] at R2 fr
    rw [r2] at R2
    refine hQ2 _ ⟨⟨c, C, fs, S, F, k, ow, l, U, K, T, L, tK, tV, IM, ty_C_frg fr C1, ⟨P.1, P.2.1, hk, P.2.2.2.1, P.2.2.2.2⟩, R2⟩, ?_, ?_⟩ (ty_lo_trans lo (ty_lo_frg fr (by omega)))
    · rw [fr.1.1]; show jnx h ≤ _; omega
    · rw [fr.1.2.1]; show jsl h ≤ _; omega
