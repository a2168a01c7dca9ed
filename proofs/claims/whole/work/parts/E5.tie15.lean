/-! THE TIE: back -/
section
variable {h h' : jH} {x c C k p l U L : Nat} {S S' : Nat → Int32} {ow : Nat → Nat} {K : Nat → Nat → Int32} {W : Nat → Prop}
/-- nothing is to be undone any more -/
theorem ty_ps_0 (A : agx W h h') (hx : x + 75 ≤ jnx h) {ow' : Nat → Nat} (how : ∀ a, a < jnx h → ow' a = ow a) (hw : ∀ a, W a → ¬ (a = x + 24 ∨ (x + 75 ≤ a ∧ (2 ≤ ow a ∧ ow a < 22)))) (i1 : jI h' (x + 23) 1 = jI h (x + 23) 1) (i2 : jI h' (x + 23) 2 = 0) (r : jR h' (x + 23) = jR h (x + 23)) (H : psI h x ow l U K) : psI h' x ow' l 0 K := by
  obtain ⟨⟨a1, a2, a3⟩, a4, a5, a6, a7⟩ := H
  have e24 := A.2.2 (x + 24) (by omega) (fun w => hw _ w (Or.inl rfl))
  refine ⟨⟨by rw [A.2.1 _ (by omega)]; exact a1, by rw [r]; exact a2, by rw [A.2.1 _ (by omega)]; exact a3⟩, by rw [i1]; exact a4, ⟨i2, by omega⟩, fun i p hi hp => ?_, fun j hj => by omega⟩
  rw [e24.2.2] at hp
  obtain ⟨b1, b2, b3, b4⟩ := a6 i p hi hp
  refine ⟨b1, Nat.le_trans b2 A.1, agx_st A b2 (fun a h1 h2 w => hw a w (by have := b4 a h1 h2; omega)) b3, fun a h1 h2 => ?_⟩
  rw [how a (by omega)]
  exact b4 a h1 h2
end
/-- back -/
theorem ty_s34 {k : Int32} : ty_st 140 255 [.int k] := by
  intro d h x n Q I hQ
  have I' := I
  obtain ⟨⟨c, C, fs, S, F, X, ow, l, U, K, T, L, tK, tV, IM, A, P, R⟩, i1, i2⟩ := I
  have A' := A
  obtain ⟨⟨⟨s1, ⟨s2, s3, s4⟩, s5, s6, s7, s8, s9⟩, sc, hx⟩, ⟨a4, a5⟩, ⟨a6, a7⟩, ⟨a8, a9⟩, b1, ps, b3, b4, b5⟩ := A
  cases hn : inR k 0 3 with
  | false => exact ty_no I' hQ (k140n hn).2 (fun Q2 q => (c255n R.1.1 hn).2 q)
  | true =>
    obtain ⟨k, -, hk3, rfl⟩ := inR_nat (lo := 0) (hi := 3) (by omega) (by omega) hn
    have hk : k < 4 := by omega
    have b3k := b3 k hk
    have r6k := R.2.2.2.2.2 k hk
    cases ho : IM k with
    | none =>
      rw [ho] at b3k r6k
      exact ty_no I' hQ (k140z s1 s8 hk b3k).2 (fun Q2 q => (c255z R.1.1 hk3 r6k).2 q)
    | some q =>
      obtain ⟨g1, g2, g3⟩ := P.2.2.2.2 k q hk ho
      rw [ho] at b3k
      obtain ⟨p, c0, r1, M⟩ := b3k
      have gm := moI_mo M
      obtain ⟨⟨-, m0, -, -, m1, m2⟩, ⟨-, mV⟩, ⟨-, mN⟩, cm, hp, hp2, lab⟩ := M
      refine k140y s1 s8 ps.1.1 hk r1 gm (moI_now A') hp m0 mV mN g1.2.1.1.2 (fun g Mc => ?_)
      obtain ⟨⟨c1, c2, c3, c4⟩, c5, c6, c7, ⟨c8, c9⟩, c10, c11⟩ := Mc
      have hK : jK (jwr g (x + 23) (upd (jI g (x + 23)) 2 0)) = jK h := c3
      have hR : ∀ a, a ≠ x + 8 → jR (jwr g (x + 23) (upd (jI g (x + 23)) 2 0)) a = jR h a := fun a ha => c5 a ha
      have hR8 : jR (jwr g (x + 23) (upd (jI g (x + 23)) 2 0)) (x + 8) = va_up (jR h (x + 8)) 0 (some c0) := c6
      have hI : ∀ a, a ≠ x + 8 → (a < x + 13 ∨ x + 24 ≤ a) → jI (jwr g (x + 23) (upd (jI g (x + 23)) 2 0)) a = jI h a := fun a h1 h2 => by rw [jI_wr_n (by omega), c7 a h1 (by omega)]
      have h23 : jI (jwr g (x + 23) (upd (jI g (x + 23)) 2 0)) (x + 23) = upd (jI h (x + 23)) 2 0 := by rw [jI_wr_s, c7 (x + 23) (by omega) (by omega)]
      have h8 : jI (jwr g (x + 23) (upd (jI g (x + 23)) 2 0)) (x + 8) = jI g (x + 8) := jI_wr_n (by omega)
      have hJ : jJ (jwr g (x + 23) (upd (jI g (x + 23)) 2 0)) = jJ h := c4
      have hV : stV (jwr g (x + 23) (upd (jI g (x + 23)) 2 0)) (x + 13) q.1 := by
        have c10' : stV g (x + 13) q.1 := c10
        unfold stV stV1 at *
        rw [jI_wr_n (by omega), jI_wr_n (by omega), jI_wr_n (by omega), jI_wr_n (by omega), jI_wr_n (by omega)]
        exact c10'
      have hN : noV (jwr g (x + 23) (upd (jI g (x + 23)) 2 0)) (x + 18) q.1 := by
        have c11' : noV g (x + 18) q.1 := c11
        unfold noV at *
        rw [jI_wr_n (by omega), jI_wr_n (by omega), jI_wr_n (by omega), jI_wr_n (by omega), jI_wr_n (by omega)]
        exact c11'
      have hn : jnx (jwr g (x + 23) (upd (jI g (x + 23)) 2 0)) = jnx h := c1
      have hs : jsl (jwr g (x + 23) (upd (jI g (x + 23)) 2 0)) = jsl h := c2
      rw [← h8] at c8 c9
      generalize jwr g (x + 23) (upd (jI g (x + 23)) 2 0) = h1 at *
      have B : agx (fun a => a = x + 8 ∨ (x + 13 ≤ a ∧ a < x + 24)) h h1 := ⟨by rw [hn]; exact Nat.le_refl _, fun a _ => by rw [hK], fun a _ w => ⟨hI a (by omega) (by omega), by rw [hJ], hR a (by omega)⟩⟩
      obtain ⟨lo, R1⟩ := ty_fi A' R B (fun a w => by omega)
      have ho' : ∀ a, a < jnx h → ow a = ow a := fun _ _ => rfl
      have r6 := R1.2.2.2.2.2 k hk
      rw [ho] at r6
      obtain ⟨q1, q2, q3, q4⟩ := r6
      have eq : ∀ j, j < 160 → jput S q.1 0 160 j = q.1 j := fun j hj => by
        rw [jput_in (by omega) (by omega)]
        rfl
      have C1 : ty_C h1 x c0 C fs (jput S q.1 0 160) q.2.1 q.2.2 ow l 0 K T L tK tV IM := by
        refine ⟨⟨ty_sk_of (fun a _ _ => by rw [hK]) (fun a _ _ _ h3 _ _ _ => hR a h3) (fun j hj => by rw [hR8]; unfold va_up; rw [if_neg hj]) ⟨s1, ⟨s2, s3, s4⟩, s5, s6, s7, s8, s9⟩, ty_sc_ag B hx (fun a w g => by omega) sc, by rw [hn]; exact hx⟩, ⟨by rw [hR8]; unfold va_up; rw [if_pos rfl], ty_cm_M (fun j hj => eq j (by omega)) (ty_cm_ag B ho' (fun a w g => by omega) cm)⟩, ⟨stV_e eq hV, noV_e eq g1.2.1.1.2 hN⟩, ⟨by rw [c8]; exact m1, by rw [c9]; exact m2⟩, ty_ru_ag B hx ho' (fun a w g => by omega) b1, ty_ps_0 B hx ho' (fun a w g => by omega) (by rw [h23, upd_n (by omega)]) (by rw [h23, upd_s]) (hR _ (by omega)) ps, ty_im_ag B hx ho' (fun a w g => by omega) b3, ty_tp_ag B hx (fun a w g => by omega) b4, ty_tx_ag B hx (fun a w => by omega) b5⟩
      have e10 : jI h1 (x + 50 + 21) (160 * k + 10) = q.1 10 := q2 10 (by omega)
      refine hQ _ h1 lo (fun Q2 hQ2 => (c255y R1.1.1 hk3 q1).2 ?_)
      rw [e10]
      have es : jput (jI h1 (x + 50 + 10)) (fun i => jI h1 (x + 50 + 21) (160 * k + i)) 0 160 = jput S q.1 0 160 := by
        rw [R1.2.1]
        funext j
        by_cases hj : j < 160
        · rw [jput_in (by omega) (by omega), jput_in (by omega) (by omega)]
          exact q2 _ (by omega)
        · rw [jput_out (by omega), jput_out (by omega)]
      obtain ⟨⟨p1, ⟨p2, p2'⟩, p3⟩, r2, r3, ⟨f1, f2, f3, f4, f5, f6⟩, -⟩ := id R1
      obtain ⟨R2, fr⟩ := ty_R_m (S' := jput S q.1 0 160) (f := upd (upd (upd (jI h1 (x + 50)) 21 (jI h1 (x + 50 + 22) k)) 22 (jI h1 (x + 50 + 23) k)) 28 0) (U' := 0) (F' := q.2.1) (X' := q.2.2) R1 (by rw [upd_n (by omega), upd_n (by omega), upd_n (by omega)]; exact p2) (Nat.le_refl _) (by rw [upd_n (by omega), upd_n (by omega), upd_n (by omega)]) (by rw [upd_n (by omega), upd_n (by omega), upd_s]; exact q3) (by rw [upd_n (by omega), upd_s]; exact q4) (by rw [upd_n (by omega), upd_n (by omega), upd_n (by omega)]; exact f3) (by rw [upd_n (by omega), upd_n (by omega), upd_n (by omega)]; exact f4) (by rw [upd_n (by omega), upd_n (by omega), upd_n (by omega)]; exact f5) (by rw [upd_s]; rfl) (Nat.zero_le _)
      unfold mBack
      rw [es]
      refine hQ2 _ ⟨⟨c0, C, fs, _, _, _, ow, l, 0, K, T, L, tK, tV, IM, ty_C_frg fr C1, ⟨ty_gd_e eq g1, g2, g3, fun i hi => by omega, P.2.2.2.2⟩, R2⟩, ?_, ?_⟩ (ty_lo_trans lo (ty_lo_frg fr (by omega)))
      · rw [fr.1.1, hn]; omega
      · rw [fr.1.2.1, hs]; omega
