/-! THE TIE: camp -/
section
variable {h h' : jH} {m C U L : Nat} {S S' : Nat → Int32} {fs : Nat → (Nat → Int64) → Int64} {K : Nat → Nat → Int32} {T T' : Nat → Nat} {IM : tyI} {F X : Int32}
/-- the reference, behind the text of a camp -/
theorem ty_R_kH (R : ty_R h m C fs S F X U K T L IM) {z : Nat → Nat} {nx w nb dp li od : Nat} : ty_R (kH h m z nx w nb dp li od) m C fs S F X U K T 0 IM ∧ frg m (m + 25) h (kH h m z nx w nb dp li od) := by
  obtain ⟨⟨p1, ⟨p2, p2'⟩, p3⟩, a2, a3, ⟨b1, b2, b3, b4, b5, b6⟩, a5, a6⟩ := R
  have gi : ∀ i, i ≠ 0 → i ≠ 3 → i ≠ 6 → jI (kH h m z nx w nb dp li od) (m + i) = jI h (m + i) := fun i h1 h2 h3 => by
    unfold kH
    rw [pH_c (by omega), jI_wr_n (by omega)]
    unfold bz
    rw [jI_wr_n (by omega), jI_wr_n (by omega), jI_wr_n (by omega)]
  have f : ∀ i, (i = 1 ∨ i = 2 ∨ (21 ≤ i ∧ i ≤ 25) ∨ i = 28) → jI (kH h m z nx w nb dp li od) m i = if i = 1 then 0 else jI h m i := fun i hi => by
    unfold kH
    rw [pH_m]
    have e : ∀ G : Nat → Int32, pF G nx w nb 0 dp li od i = G i := fun G => by
      unfold pF
      rw [if_neg (by omega), if_neg (by omega), if_neg (by omega), if_neg (by omega), if_neg (by omega), if_neg (by omega), if_neg (by omega)]
    rw [e, jI_wr_n (by omega)]
    unfold bz
    rw [jI_wr_s]
    by_cases e1 : i = 1
    · rw [e1, upd_s, if_pos rfl]
    · rw [upd_n e1, if_neg e1, jI_wr_n (by omega), jI_wr_s, upd_n (by omega)]
  have fr : frg m (m + 25) h (kH h m z nx w nb dp li od) := by
    unfold kH pH bz
    exact frg_wr (by omega) (by omega) (frg_wr (by omega) (by omega) (frg_wr (by omega) (by omega) (frg_wr (by omega) (by omega) (frg_wr (by omega) (by omega) frg_refl))))
  have gK : jK (kH h m z nx w nb dp li od) = jK h := rfl
  have gR : jR (kH h m z nx w nb dp li od) = jR h := rfl
  generalize kH h m z nx w nb dp li od = g at *
  have f1 : ∀ i, (i = 2 ∨ (21 ≤ i ∧ i ≤ 25) ∨ i = 28) → jI g m i = jI h m i := fun i hi => by rw [f i (by omega), if_neg (by omega)]
  exact ⟨⟨⟨mInv_of (fun a _ _ => by rw [gK]) (by rw [gR]) p1, ⟨by rw [f 1 (by omega), if_pos rfl]; rfl, by omega⟩, fun p hp => by omega⟩, by rw [gi 10 (by omega) (by omega) (by omega)]; exact a2, mRs_of (f1 2 (by omega)) (gi 2 (by omega) (by omega) (by omega)) (gi 4 (by omega) (by omega) (by omega)) (gi 5 (by omega) (by omega) (by omega)) a3, ⟨by rw [f1 21 (by omega)]; exact b1, by rw [f1 22 (by omega)]; exact b2, by rw [f1 23 (by omega)]; exact b3, by rw [f1 24 (by omega)]; exact b4, by rw [f1 25 (by omega)]; exact b5, by rw [f1 28 (by omega)]; exact b6⟩, by rw [gi 12 (by omega) (by omega) (by omega)]; exact a5, fun k hk => ty_ri_of (fun i h1 h2 => gi i (by omega) (by omega) (by omega)) (a6 k hk)⟩, fr⟩
end
/-- the class, behind a text: the tape is empty -/
theorem ty_tp_0 {h h' : jH} {x : Nat} {T : Nat → Nat} {L : Nat} (hK : jK h' (x + 1) = jK h (x + 1)) (hK2 : jK h' (x + 1 + 1) = jK h (x + 1 + 1)) (hR : jR h' (x + 1) = jR h (x + 1)) (e : jI h' (x + 1) 1 = 0) (H : ty_tp h x T L) : ty_tp h' x T 0 := by
  obtain ⟨⟨t1, t2, t3, t4, t5⟩, t6⟩ := H
  exact ⟨⟨by rw [hK]; exact t1, by rw [hR]; exact t2, by rw [hK2]; exact t3, by omega, fun p hp => by omega⟩, e⟩
/-- camp -/
theorem ty_s2 : ty_st 106 180 [] := by
  intro d h x n Q I hQ
  have I' := I
  obtain ⟨⟨c, C, fs, S, F, X, ow, l, U, K, T, L, tK, tV, IM, A, P, R⟩, i1, i2⟩ := I
  have A' := A
  obtain ⟨⟨⟨s1, ⟨s2, s3, s4⟩, s5, s6, s7, s8, s9⟩, sc, hx⟩, ⟨a4, a5⟩, ⟨a6, a7⟩, ⟨a8, a9⟩, b1, ps, b3, ⟨tp, tL⟩, ⟨tx, tv, x0⟩⟩ := A
  refine k106a s1 tp tx (fun i hi => by have := tv i hi; omega) tL hx (fun w hw h1 B n1 n2 rr e => ?_) (fun z hz h1 B n1 n2 rr cm zv c0 => ?_)
  · have o0 := B.2.2 x (by omega) (by omega)
    have t1 : jK h1 (x + 1) = (30, 7) := by rw [B.2.1 _ (by omega)]; exact tp.1
    refine l106e (w := w) (by rw [B.2.1 _ (by omega)]; exact s1.1) (by rw [o0.2.2]; exact s1.2.1) t1 e.2 ?_
    have B2 : agx (fun a => a = x + 1) h (jwr h1 (x + 1) (upd (jI h1 (x + 1)) 1 0)) := agx_trans B (agx_wr rfl)
    have rr' : ∀ a, a < jnx h → jR (jwr h1 (x + 1) (upd (jI h1 (x + 1)) 1 0)) a = jR h a := rr
    have L0 : jI (jwr h1 (x + 1) (upd (jI h1 (x + 1)) 1 0)) (x + 1) 1 = 0 := by rw [jI_wr_s, upd_s]
    have n1' : jnx (jwr h1 (x + 1) (upd (jI h1 (x + 1)) 1 0)) = jnx h + 4 := n1
    have n2' : jsl (jwr h1 (x + 1) (upd (jI h1 (x + 1)) 1 0)) = jsl h + 63 := n2
    generalize jwr h1 (x + 1) (upd (jI h1 (x + 1)) 1 0) = g at *
    have e8 := B2.2.2 (x + 8) (by omega) (by omega)
    have C1 : ty_C g x c C fs S F X ow l U K T 0 tK tV IM := ty_C_I A' B2 (fun _ _ => rfl) (fun a h1 h2 _ _ => rr' a (by omega)) (fun a w => by omega) (ty_sc_ag B2 hx (fun a w g => by omega) sc) (agx_stV B2 (by omega) (fun a h1 h2 w => by omega) a6) (agx_no B2 (by omega) (fun a h1 h2 w => by omega) ⟨s6, a7⟩).2 ty_eqM (by rw [e8.1]; exact a8) (by rw [e8.1]; exact a9) (ty_ps_ag B2 hx (fun _ _ => rfl) (fun a w g => by omega) ps) (ty_tp_0 (B2.2.1 _ (by omega)) (B2.2.1 _ (by omega)) (rr' _ (by omega)) L0 ⟨tp, tL⟩)
    obtain ⟨lo, R1⟩ := ty_fi A' R B2 (fun a w => by omega)
    refine hQ _ g lo (fun Q2 hQ2 => c180 R1.1 ?_)
    rw [hw]
    intro z nx nb dp li od
    obtain ⟨R2, fr⟩ := ty_R_kH (z := z) (nx := nx) (w := w) (nb := nb) (dp := dp) (li := li) (od := od) R1
    refine hQ2 _ ⟨⟨c, C, fs, S, F, X, ow, l, U, K, T, 0, tK, tV, IM, ty_C_frg fr C1, P, R2⟩, ?_, ?_⟩ (ty_lo_trans lo (ty_lo_frg fr (by omega)))
    · rw [fr.1.1]; omega
    · rw [fr.1.2.1]; omega
  · obtain ⟨zo, zg, z1⟩ := aCpl_zG (L + 1) 0 (fun _ => 0) 0 z (Nat.zero_le _) ⟨Nat.zero_le _, Nat.zero_le _, Nat.zero_le _, Nat.zero_le _⟩ ⟨⟨Nat.zero_le _, Nat.zero_le _⟩, fun _ _ => Nat.zero_le _, fun _ _ => Nat.zero_le _, fun _ _ => Nat.zero_le _, fun _ _ _ _ _ => rfl, fun _ _ _ => rfl⟩ hz
    have gd : ty_gd (mBeg (cS S z)) := cS_gd zo zg z1
    have eM : ∀ j, j < 10 ∨ (65 ≤ j ∧ j < 119) → mBeg (cS S z) j = nI (z j) := fun j hj => by rw [mBeg_G j (by omega), cS_lo (by omega)]
    have K1 : ∀ a, a < jnx h → jK h1 a = jK h a := fun a ha => B.2.1 a ha
    have st1 : stI h1 (x + 13) := agx_st B (by omega) (fun a h1 h2 w => by omega) s5
    refine l106o (S := cS S z) (by rw [K1 _ (by omega)]; exact s1.1) (by rw [rr _ (by omega)]; exact s1.2.1) (by rw [rr _ (by omega)]; exact s1.2.2.2.2.1) (by rw [rr _ (by omega)]; exact s1.2.2.2.2.2.1) (by rw [K1 _ (by omega)]; exact tp.1) (by rw [K1 _ (by omega), s2]) (by rw [rr _ (by omega)]; exact s3) (by rw [rr _ (by omega)]; exact s4) (by rw [K1 _ (by omega), s6.1]) (by rw [K1 _ (by omega), ps.1.1]) st1 cm hx zv (fun j hj => cS_lo (by omega)) (fun g h2 gK gI gJ gR gR8 gn gs G V => ?_)
    have fK : jK (jwr (jwr h2 (x + 18) (upd (jI h2 (x + 18)) 0 0)) (x + 23) (upd (jI h2 (x + 23)) 2 0)) = jK h1 := by show jK h2 = _; rw [G.1.2.2.1, gK]
    have fJ : jJ (jwr (jwr h2 (x + 18) (upd (jI h2 (x + 18)) 0 0)) (x + 23) (upd (jI h2 (x + 23)) 2 0)) = jJ h1 := by show jJ h2 = _; rw [G.1.2.2.2.2, gJ]
    have fR : ∀ a, a ≠ x + 8 → jR (jwr (jwr h2 (x + 18) (upd (jI h2 (x + 18)) 0 0)) (x + 23) (upd (jI h2 (x + 23)) 2 0)) a = jR h1 a := fun a ha => by show jR h2 a = _; rw [G.1.2.2.2.1, gR a ha]
    have fR8 : jR (jwr (jwr h2 (x + 18) (upd (jI h2 (x + 18)) 0 0)) (x + 23) (upd (jI h2 (x + 23)) 2 0)) (x + 8) = va_up (jR h1 (x + 8)) 0 (some (jnx h)) := by show jR h2 (x + 8) = _; rw [G.1.2.2.2.1, gR8]
    have fn : jnx (jwr (jwr h2 (x + 18) (upd (jI h2 (x + 18)) 0 0)) (x + 23) (upd (jI h2 (x + 23)) 2 0)) = jnx h + 4 := by show jnx h2 = _; rw [G.1.1, gn, n1]
    have fs' : jsl (jwr (jwr h2 (x + 18) (upd (jI h2 (x + 18)) 0 0)) (x + 23) (upd (jI h2 (x + 23)) 2 0)) = jsl h + 63 := by show jsl h2 = _; rw [G.1.2.1, gs, n2]
    have fI : ∀ a, a ≠ x + 1 → (a < x + 13 ∨ x + 24 ≤ a) → jI (jwr (jwr h2 (x + 18) (upd (jI h2 (x + 18)) 0 0)) (x + 23) (upd (jI h2 (x + 23)) 2 0)) a = jI h1 a := fun a h1 h2 => by rw [jI_wr_n (by omega), jI_wr_n (by omega), G.2 a (by omega), gI, jI_wr_n h1]
    have f1 : jI (jwr (jwr h2 (x + 18) (upd (jI h2 (x + 18)) 0 0)) (x + 23) (upd (jI h2 (x + 23)) 2 0)) (x + 1) 1 = 0 := by rw [jI_wr_n (by omega), jI_wr_n (by omega), G.2 (x + 1) (by omega), gI, jI_wr_s, upd_s]
    have f18 : jI (jwr (jwr h2 (x + 18) (upd (jI h2 (x + 18)) 0 0)) (x + 23) (upd (jI h2 (x + 23)) 2 0)) (x + 18) 0 = 0 := by rw [jI_wr_n (by omega), jI_wr_s, upd_s]
    have f23 : jI (jwr (jwr h2 (x + 18) (upd (jI h2 (x + 18)) 0 0)) (x + 23) (upd (jI h2 (x + 23)) 2 0)) (x + 23) = upd (jI h1 (x + 23)) 2 0 := by rw [jI_wr_s, G.2 (x + 23) (by omega), gI, jI_wr_n (by omega)]
    have fV : stV (jwr (jwr h2 (x + 18) (upd (jI h2 (x + 18)) 0 0)) (x + 23) (upd (jI h2 (x + 23)) 2 0)) (x + 13) (mBeg (cS S z)) := by
      unfold stV stV1 at *
      rw [jI_wr_n (by omega), jI_wr_n (by omega), jI_wr_n (by omega), jI_wr_n (by omega), jI_wr_n (by omega), jI_wr_n (by omega), jI_wr_n (by omega), jI_wr_n (by omega), jI_wr_n (by omega), jI_wr_n (by omega)]
      exact V
    generalize jwr (jwr h2 (x + 18) (upd (jI h2 (x + 18)) 0 0)) (x + 23) (upd (jI h2 (x + 23)) 2 0) = hf at *
    clear V G gI gK gJ gR gR8 gn gs
    have B2 : agx (fun a => a = x + 1 ∨ a = x + 8 ∨ (x + 13 ≤ a ∧ a < x + 24)) h hf := ⟨by rw [fn]; omega, fun a ha => by rw [fK]; exact K1 a ha, fun a ha w => by
      obtain ⟨q1, q2, q3⟩ := B.2.2 a ha (by omega)
      exact ⟨by rw [fI a (by omega) (by omega)]; exact q1, by rw [fJ]; exact q2, by rw [fR a (by omega)]; exact q3⟩⟩
    have how : ∀ a, a < jnx h → (if jnx h ≤ a then 1 else ow a) = ow a := fun a ha => if_neg (by omega)
    have e23 := B.2.2 (x + 23) (by omega) (by omega)
    have e8 := B.2.2 (x + 8) (by omega) (by omega)
    have C1 : ty_C hf x (jnx h) C fs (mBeg (cS S z)) F X (fun a => if jnx h ≤ a then 1 else ow a) l 0 K T 0 tK tV IM := by
      refine ⟨⟨ty_sk_of (fun a _ _ => by rw [fK]; exact K1 a (by omega)) (fun a _ _ _ h3 _ _ _ => by rw [fR a h3]; exact rr a (by omega)) (fun j hj => by rw [fR8, rr _ (by omega)]; unfold va_up; rw [if_neg hj]) ⟨s1, ⟨s2, s3, s4⟩, s5, s6, s7, s8, s9⟩, ty_sc_ag B2 hx (fun a w g => by omega) sc, by rw [fn]; omega⟩, ⟨by rw [fR8]; unfold va_up; rw [if_pos rfl], ⟨?_, ?_, ?_⟩, by rw [fn]; exact Nat.le_refl _, fun a h1 h2 => Or.inr ⟨by omega, if_pos h1⟩⟩, ⟨fV, ?_, fun i hi => ?_⟩, ⟨by rw [fI (x + 8) (by omega) (by omega), e8.1]; exact a8, by rw [fI (x + 8) (by omega) (by omega), e8.1]; exact a9⟩, ty_ru_ag B2 hx how (fun a w g => by omega) b1, ty_ps_0 B2 hx how (fun a w g => by omega) (by rw [f23, upd_n (by omega), e23.1]) (by rw [f23, upd_s]) (by rw [fR _ (by omega)]; exact rr _ (by omega)) ps, ty_im_ag B2 hx how (fun a w g => by omega) b3, ty_tp_0 (B2.2.1 _ (by omega)) (B2.2.1 _ (by omega)) (by rw [fR _ (by omega)]; exact rr _ (by omega)) f1 ⟨tp, tL⟩, ty_tx_ag B2 hx (fun a w => by omega) ⟨tx, tv, x0⟩⟩
      · unfold cmI at *
        rw [fK, fR (jnx h) (by omega)]
        exact cm
      · obtain ⟨⟨v1, v2, v3, v4, v5⟩, w1, w2, w3⟩ := zv
        exact ⟨by rw [fI _ (by omega) (by omega), eM 2 (by omega)]; exact v2, by rw [fI _ (by omega) (by omega), eM 3 (by omega)]; exact v3, by rw [fI _ (by omega) (by omega), eM 4 (by omega)]; exact v4, by rw [fI _ (by omega) (by omega), eM 5 (by omega)]; exact v5, fun i hi => by rw [fI _ (by omega) (by omega), eM _ (by omega)]; exact w1 i hi, fun i hi => by rw [fI _ (by omega) (by omega), eM _ (by omega)]; exact w2 i hi⟩
      · obtain ⟨⟨v1, v2, v3, v4, v5⟩, w1, w2, w3⟩ := zv
        exact ⟨by rw [fI _ (by omega) (by omega), eM 0 (by omega), c0, z1]; rfl, by rw [fI _ (by omega) (by omega), eM 1 (by omega)]; exact v1, fun i hi => by rw [fI _ (by omega) (by omega), eM _ (by omega)]; exact w3 i hi⟩
      · rw [f18, mBeg_G 159 (by omega), cS_hi (by omega) (by omega)]
      · have : sQ (mBeg (cS S z)) = 0 := by unfold sQ; rw [mBeg_G 159 (by omega), cS_hi (by omega) (by omega)]; rfl
        omega
    obtain ⟨lo, R1⟩ := ty_fi A' R B2 (fun a w => by omega)
    refine hQ _ hf lo (fun Q2 hQ2 => c180 R1.1 ?_)
    rw [hz]
    intro nx nb dp li od
    obtain ⟨R2, fr⟩ := ty_R_kH (z := z) (nx := nx) (w := 0) (nb := nb) (dp := dp) (li := li) (od := od) R1
    rw [R1.2.1]
    obtain ⟨⟨p1, ⟨p2, p2'⟩, p3⟩, r2, r3, ⟨k1, k2, k3, k4, k5, k6⟩, -⟩ := id R2
    obtain ⟨R3, fr3⟩ := ty_R_m (S' := mBeg (cS S z)) (f := upd (jI (kH hf (x + 50) z nx 0 nb dp li od) (x + 50)) 28 0) (U' := 0) (F' := F) (X' := X) (L' := 0) R2 (by rw [upd_n (by omega)]; exact p2) (Nat.le_refl _) (by rw [upd_n (by omega)]) (by rw [upd_n (by omega)]; exact k1) (by rw [upd_n (by omega)]; exact k2) (by rw [upd_n (by omega)]; exact k3) (by rw [upd_n (by omega)]; exact k4) (by rw [upd_n (by omega)]; exact k5) (by rw [upd_s]; rfl) (Nat.zero_le _)
    refine hQ2 _ ⟨⟨jnx h, C, fs, _, F, X, _, l, 0, K, T, 0, tK, tV, IM, ty_C_frg fr3 (ty_C_frg fr C1), ⟨gd, P.2.1, P.2.2.1, fun i hi => by omega, P.2.2.2.2⟩, R3⟩, ?_, ?_⟩ (ty_lo_trans lo (ty_lo_trans (ty_lo_frg fr (by omega)) (ty_lo_frg fr3 (by omega))))
    · rw [fr3.1.1, fr.1.1]; omega
    · rw [fr3.1.2.1, fr.1.2.1]; omega
