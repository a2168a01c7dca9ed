/-! THE TIE: image, back -/
section
variable {h h' : jH} {x m c C k p l U L : Nat} {S S' : Nat → Int32} {ow ow' : Nat → Nat} {fs : Nat → (Nat → Int64) → Int64} {K : Nat → Nat → Int32} {T tK tV : Nat → Nat} {IM : tyI} {F X : Int32}
theorem stV_e (e : ∀ j, j < 160 → S' j = S j) (V : stV h p S) : stV h p S' := by
  intro s hs
  obtain ⟨v0, v1, v2, v3, v4⟩ := V s hs
  exact ⟨by rw [e _ (by omega)]; exact v0, by rw [e _ (by omega)]; exact v1, by rw [e _ (by omega)]; exact v2, by rw [e _ (by omega)]; exact v3, fun k hk => by rw [e _ (by omega)]; exact v4 k hk⟩
theorem noV_e (e : ∀ j, j < 160 → S' j = S j) (hq : sQ S ≤ 10) (V : noV h p S) : noV h p S' := by
  have eq : sQ S' = sQ S := by unfold sQ; rw [e 159 (by omega)]
  refine ⟨by rw [e 159 (by omega)]; exact V.1, fun i hi => ?_⟩
  rw [eq] at hi
  rw [e _ (by omega), e _ (by omega), e _ (by omega), e _ (by omega)]
  exact V.2 i hi
theorem nO_e (e : ∀ j, j < 160 → S' j = S j) (N : nO S) : nO S' := by
  have eq : sQ S' = sQ S := by unfold sQ; rw [e 159 (by omega)]
  obtain ⟨⟨m1, m2⟩, n⟩ := N
  refine ⟨⟨by rw [eq, e 159 (by omega)]; exact m1, by rw [eq]; exact m2⟩, fun i hi => ?_⟩
  rw [eq] at hi
  rw [e _ (by omega), e _ (by omega), e _ (by omega), e _ (by omega)]
  exact n i hi
theorem ty_gd_e (e : ∀ j, j < 160 → S' j = S j) (G : ty_gd S) : ty_gd S' := ty_gd_N G (fun j hj => e j (by omega)) (nO_e e G.2.1)
/-- a moment that stays: its parts -/
theorem moI_of (hK : ∀ a, p ≤ a → a < p + 15 → jK h' a = jK h a) (hR : ∀ a, p ≤ a → a < p + 15 → a ≠ p → jR h' a = jR h a) (h0 : ∀ j, j ≠ 0 → jR h' p j = jR h p j) (H : moI h p) : moI h' p := by
  unfold moI stI noI at *
  rw [hK p (by omega) (by omega), h0 3 (by omega), h0 4 (by omega), hK (p + 5) (by omega) (by omega), hK (p + 5 + 1) (by omega) (by omega), hK (p + 5 + 2) (by omega) (by omega), hK (p + 5 + 3) (by omega) (by omega), hK (p + 5 + 4) (by omega) (by omega), hK (p + 10) (by omega) (by omega), hK (p + 10 + 1) (by omega) (by omega), hK (p + 10 + 2) (by omega) (by omega), hK (p + 10 + 3) (by omega) (by omega), hK (p + 10 + 4) (by omega) (by omega), hR (p + 5) (by omega) (by omega) (by omega), hR (p + 10) (by omega) (by omega) (by omega)]
  exact H
theorem moI_mo {q : (Nat → Int32) × Int32 × Int32} (H : ty_mo h x p c k q ow) : moI h p := ⟨H.1.1, H.1.2.2.1, H.1.2.2.2.1, H.2.1.1, H.2.2.1.1⟩
theorem moI_now (A : ty_C h x c C fs S F X ow l U K T L tK tV IM) : moI h (x + 8) := ⟨A.1.1.2.1.1, A.1.1.2.1.2.1, A.1.1.2.1.2.2, A.1.1.2.2.1, A.1.1.2.2.2.1⟩
/-- the reference keeps an image -/
theorem ty_R_img (R : ty_R h m C fs S F X U K T L IM) (hk : k < 4) : ty_R (mImg h m k) m C fs S F X U K T L (fun j => if j = k then some (S, F, X) else IM j) ∧ frg m (m + 25) h (mImg h m k) := by
  obtain ⟨⟨p1, p2, p3⟩, a2, a3, ⟨b1, b2, b3, b4, b5, b6⟩, a5, a6⟩ := R
  have gi : ∀ i, i ≠ 21 → i ≠ 22 → i ≠ 23 → i ≠ 24 → jI (mImg h m k) (m + i) = jI h (m + i) := fun i h1 h2 h3 h4 => by unfold mImg; rw [jI_wr_n (by omega), jI_wr_n (by omega), jI_wr_n (by omega), jI_wr_n (by omega)]
  have g0 : jI (mImg h m k) m = jI h m := gi 0 (by omega) (by omega) (by omega) (by omega)
  have g21 : jI (mImg h m k) (m + 21) = jput (jI h (m + 21)) (jI h (m + 10)) (160 * k) 160 := by unfold mImg; rw [jI_wr_n (by omega), jI_wr_n (by omega), jI_wr_n (by omega), jI_wr_s]
  have g22 : jI (mImg h m k) (m + 22) = upd (jI h (m + 22)) k (jI h m 21) := by unfold mImg; rw [jI_wr_n (by omega), jI_wr_n (by omega), jI_wr_s]
  have g23 : jI (mImg h m k) (m + 23) = upd (jI h (m + 23)) k (jI h m 22) := by unfold mImg; rw [jI_wr_n (by omega), jI_wr_s]
  have g24 : jI (mImg h m k) (m + 24) = upd (jI h (m + 24)) k 1 := by unfold mImg; rw [jI_wr_s]
  have fr : frg m (m + 25) h (mImg h m k) := frg_wr (by omega) (by omega) (frg_wr (by omega) (by omega) (frg_wr (by omega) (by omega) (frg_wr (by omega) (by omega) frg_refl)))
  have gK : jK (mImg h m k) = jK h := rfl
  have gR : jR (mImg h m k) = jR h := rfl
  generalize mImg h m k = g at *
  refine ⟨⟨⟨mInv_of (fun a _ _ => by rw [gK]) (by rw [gR]) p1, by rw [g0]; exact p2, by rw [gi 1 (by omega) (by omega) (by omega) (by omega)]; exact p3⟩, by rw [gi 10 (by omega) (by omega) (by omega) (by omega)]; exact a2, mRs_of (by rw [g0]) (gi 2 (by omega) (by omega) (by omega) (by omega)) (gi 4 (by omega) (by omega) (by omega) (by omega)) (gi 5 (by omega) (by omega) (by omega) (by omega)) a3, by rw [g0]; exact ⟨b1, b2, b3, b4, b5, b6⟩, by rw [gi 12 (by omega) (by omega) (by omega) (by omega)]; exact a5, fun j hj => ?_⟩, fr⟩
  by_cases e : j = k
  · subst e
    show ty_ri g m j (if j = j then some (S, F, X) else IM j)
    rw [if_pos rfl]
    refine ⟨by rw [g24, upd_s]; decide, fun i hi => ?_, by rw [g22, upd_s]; exact b1, by rw [g23, upd_s]; exact b2⟩
    rw [g21, jput_in (by omega) (by omega), show 160 * j + i - 160 * j = i by omega, a2]
  · show ty_ri g m j (if j = k then some (S, F, X) else IM j)
    rw [if_neg e]
    have H := a6 j hj
    cases ho : IM j with
    | none =>
      rw [ho] at H
      show jI g (m + 24) j = 0
      rw [g24, upd_n e]
      exact H
    | some q =>
      rw [ho] at H
      obtain ⟨q1, q2, q3, q4⟩ := H
      refine ⟨by rw [g24, upd_n e]; exact q1, fun i hi => ?_, by rw [g22, upd_n e]; exact q3, by rw [g23, upd_n e]; exact q4⟩
      rw [g21, jput_out (by omega)]
      exact q2 i hi
/-- the class keeps an image -/
theorem ty_C_img (A : ty_C h x c C fs S F X ow l U K T L tK tV IM) (hk : k < 4) {W : Nat → Prop} (B : agx W h h') (how : ∀ a, a < jnx h → ow' a = ow a) (hw : ∀ a, W a → a = x + 25 ∨ (x + 75 ≤ a ∧ ow a = 22 + k)) (e25 : ∀ j, j ≠ k → jR h' (x + 25) j = jR h (x + 25) j) (r25 : jR h' (x + 25) k = some p) (M : moI h' p) (m0 : jR h' p 0 = some c) (m1 : jI h' p 1 = F) (m2 : jI h' p 2 = X) (mV : stV h' (p + 5) S) (mN : noV h' (p + 10) S) (hp : x + 75 ≤ p) (hp2 : p + 15 ≤ jnx h') (lab : ∀ a, p ≤ a → a < p + 15 → ow' a = 22 + k) : ty_C h' x c C fs S F X ow' l U K T L tK tV (fun j => if j = k then some (S, F, X) else IM j) := by
  obtain ⟨⟨a1, a2, a3⟩, ⟨a4, a5⟩, ⟨a6, a7⟩, ⟨a8, a9⟩, b1, b2, b3, b4, b5⟩ := A
  have e8 := B.2.2 (x + 8) (by omega) (fun w => by have := hw _ w; omega)
  have cm : ty_cm h' x c S ow' := ty_cm_ag B how (fun a w g => by have := hw _ w; omega) a5
  refine ⟨⟨ty_sk_ag B a3 (fun a h1 h2 _ _ _ _ w => by have := hw _ w; omega) a1, ty_sc_ag B a3 (fun a w g => by have := hw _ w; omega) a2, Nat.le_trans a3 B.1⟩, ⟨by rw [e8.2.2]; exact a4, cm⟩, ⟨agx_stV B (by omega) (fun a h1 h2 w => by have := hw _ w; omega) a6, (agx_no B (by omega) (fun a h1 h2 w => by have := hw _ w; omega) ⟨a1.2.2.2.1, a7⟩).2⟩, ⟨by rw [e8.1]; exact a8, by rw [e8.1]; exact a9⟩, ty_ru_ag B a3 how (fun a w g => by have := hw _ w; omega) b1, ty_ps_ag B a3 how (fun a w g => by have := hw _ w; omega) b2, fun j hj => ?_, ty_tp_ag B a3 (fun a w g => by have := hw _ w; omega) b4, ty_tx_ag B a3 (fun a w => by have := hw _ w; omega) b5⟩
  by_cases e : j = k
  · subst e
    show ty_i1 h' x j ow' (if j = j then some (S, F, X) else IM j)
    rw [if_pos rfl]
    exact ⟨p, c, r25, ⟨M.1, m0, M.2.1, M.2.2.1, m1, m2⟩, ⟨M.2.2.2.1, mV⟩, ⟨M.2.2.2.2, mN⟩, cm, hp, hp2, lab⟩
  · show ty_i1 h' x j ow' (if j = k then some (S, F, X) else IM j)
    rw [if_neg e]
    exact ty_i1_ag B a3 how (e25 j e) (fun a w g => by have := hw _ w; omega) (b3 j hj)
end
/-- image -/
theorem ty_s33 {k : Int32} : ty_st 139 254 [.int k] := by
  intro d h x n Q I hQ
  have I' := I
  obtain ⟨⟨c, C, fs, S, F, X, ow, l, U, K, T, L, tK, tV, IM, A, P, R⟩, i1, i2⟩ := I
  have A' := A
  obtain ⟨⟨⟨s1, ⟨s2, s3, s4⟩, s5, s6, s7, s8, s9⟩, sc, hx⟩, ⟨a4, a5⟩, ⟨a6, a7⟩, ⟨a8, a9⟩, b1, ps, b3, b4, b5⟩ := A
  cases hn : inR k 0 3 with
  | false => exact ty_no I' hQ (k139n hn).2 (fun Q2 q => (c254n R.1.1 hn).2 q)
  | true =>
    obtain ⟨k, -, hk3, rfl⟩ := inR_nat (lo := 0) (hi := 3) (by omega) (by omega) hn
    have hk : k < 4 := by omega
    have hq := P.1.2.1.1.2
    have P' : ty_P C S F X U K (fun j => if j = k then some (S, F, X) else IM j) := ⟨P.1, P.2.1, P.2.2.1, P.2.2.2.1, fun j q hj e => by
      have e : (if j = k then some (S, F, X) else IM j) = some q := e
      by_cases ej : j = k
      · rw [if_pos ej] at e
        cases e
        exact ⟨P.1, P.2.1, P.2.2.1⟩
      · rw [if_neg ej] at e
        exact P.2.2.2.2 j q hj e⟩
    have fin : ∀ (h' : jH) (W : Nat → Prop) (ow' : Nat → Nat), agx W h h' → (∀ a, W a → a = x + 25 ∨ (x + 75 ≤ a ∧ ow a = 22 + k)) → ty_C h' x c C fs S F X ow' l U K T L tK tV (fun j => if j = k then some (S, F, X) else IM j) → jnx h' ≤ jnx h + 15 → jsl h' ≤ jsl h + 200 → Q (some (.int (S 10))) h' := by
      intro h' W ow' B hw C1 n1 n2
      obtain ⟨lo, R1⟩ := ty_fi A' R B (fun a w => by have := hw a w; omega)
      refine hQ _ h' lo (fun Q2 hQ2 => (c254y R1.1.1 hk3).2 ?_)
      obtain ⟨R2, fr⟩ := ty_R_img R1 hk
      rw [R1.2.1]
      refine hQ2 _ ⟨⟨c, C, fs, S, F, X, ow', l, U, K, T, L, tK, tV, _, ty_C_frg fr C1, P', R2⟩, ?_, ?_⟩ (ty_lo_trans lo (ty_lo_frg fr (by omega)))
      · rw [fr.1.1]; omega
      · rw [fr.1.2.1]; omega
    have b3k := b3 k hk
    cases ho : IM k with
    | none =>
      rw [ho] at b3k
      have hp : jR h (x + 25) k = none := b3k
      refine k139e s1 s8 hx hk hp (fun g M => ?_)
      obtain ⟨⟨m1, m2⟩, m3, ⟨m4, m5, m6, m7, m8, m9⟩, -, ⟨m10, -⟩, ⟨m11, -⟩⟩ := M
      have smh : ∀ b, b < jnx h → sm h g b := fun b hb => sm_trans (sm_new hb) (m3 b hb)
      have gB : agx (fun a => a = x + 25) h (jwR g (x + 25) k (some (jnx h))) := ⟨by show jnx h ≤ jnx g; omega, fun a ha => (smh a ha).1, fun a ha w => ⟨(smh a ha).2.1, (smh a ha).2.2.1, by rw [jR_wR_n w]; exact (smh a ha).2.2.2⟩⟩
      have gr : jR (jwR g (x + 25) k (some (jnx h))) (x + 25) = va_up (jR h (x + 25)) k (some (jnx h)) := by rw [jR_wR_s, (smh (x + 25) (by omega)).2.2.2]
      have gm : moI (jwR g (x + 25) k (some (jnx h))) (jnx h) := moI_of (h := g) (fun a _ _ => rfl) (fun a h1 h2 _ => jR_wR_n (by omega)) (fun j _ => by rw [jR_wR_n (by omega)]) ⟨m4, m6, m7, m10, m11⟩
      have gn : jnx (jwR g (x + 25) k (some (jnx h))) = jnx h + 15 := m1
      have gs : jsl (jwR g (x + 25) k (some (jnx h))) = jsl h + 172 := by show jsl g = _; rw [m2]; show jsl h + 5 + 167 = _; omega
      generalize jwR g (x + 25) k (some (jnx h)) = g' at *
      have nw : ∀ a, x ≤ a → a < x + 25 → ¬ a = x + 25 := fun a _ h2 => by omega
      have X1 : ty_sk g' x := ty_sk_ag gB hx (fun a h1 h2 _ _ _ h3 w => h3 w) ⟨s1, ⟨s2, s3, s4⟩, s5, s6, s7, s8, s9⟩
      have rk : jR g' (x + 25) k = some (jnx h) := by rw [gr]; unfold va_up; rw [if_pos rfl]
      have e8 := gB.2.2 (x + 8) (by omega) (by omega)
      refine l139 X1.1 (by rw [gB.2.1 _ (by omega)]; exact s8) hk rk gm ⟨X1.2.1.1, X1.2.1.2.1, X1.2.1.2.2, X1.2.2.1, X1.2.2.2.1⟩ hx (by rw [e8.2.2]; exact a4) (agx_stV gB (by omega) (fun a h1 h2 w => by omega) a6) (agx_no gB (by omega) (fun a h1 h2 w => by omega) ⟨s6, a7⟩).2 hq (fun h' M' => ?_)
      obtain ⟨⟨c1, c2, c3, c4⟩, c5, c6, c7, ⟨c8, c9⟩, c10, c11⟩ := M'
      have B : agx (fun a => a = x + 25) h h' := ⟨by rw [c1]; exact gB.1, fun a ha => by rw [c3]; exact gB.2.1 a ha, fun a ha w => by
        obtain ⟨z1, z2, z3⟩ := gB.2.2 a ha w
        exact ⟨by rw [c7 a (by omega) (by omega)]; exact z1, by rw [c4]; exact z2, by rw [c5 a (by omega)]; exact z3⟩⟩
      refine fin h' _ (fun a => if jnx h ≤ a then 22 + k else ow a) B (fun a w => Or.inl w) (ty_C_img A' hk B (fun a ha => if_neg (by omega)) (fun a w => Or.inl w) (fun j hj => ?_) (p := jnx h) ?_ (moI_of (h := g') (fun a _ _ => by rw [c3]) (fun a _ _ h3 => c5 a h3) (fun j hj => ?_) gm) ?_ ?_ ?_ c10 c11 hx (by rw [c1, gn]; omega) (fun a h1 _ => if_pos h1)) (by rw [c1, gn]; omega) (by rw [c2, gs]; omega)
      · rw [c5 (x + 25) (by omega), gr]; unfold va_up; rw [if_neg hj]
      · rw [c5 (x + 25) (by omega)]; exact rk
      · rw [c6]; unfold va_up; rw [if_neg hj]
      · rw [c6]; unfold va_up; rw [if_pos rfl]
      · rw [c8, e8.1]; exact a8
      · rw [c9, e8.1]; exact a9
    | some q =>
      rw [ho] at b3k
      obtain ⟨p, c0, r1, M⟩ := b3k
      have gm := moI_mo M
      obtain ⟨-, -, -, -, hp, hp2, lab⟩ := M
      refine k139o s1 s8 hk r1 ?_
      refine l139 s1 s8 hk r1 gm (moI_now A') hp a4 a6 a7 hq (fun h' M' => ?_)
      obtain ⟨⟨c1, c2, c3, c4⟩, c5, c6, c7, ⟨c8, c9⟩, c10, c11⟩ := M'
      have B : agx (fun a => x + 75 ≤ a ∧ ow a = 22 + k) h h' := ⟨by rw [c1]; exact Nat.le_refl _, fun a ha => by rw [c3], fun a ha w => by
        have hn : ¬ (p ≤ a ∧ a < p + 15) := fun g => w ⟨by omega, lab a g.1 g.2⟩
        exact ⟨c7 a (by omega) (by omega), by rw [c4], c5 a (by omega)⟩⟩
      refine fin h' _ ow B (fun a w => Or.inr w) (ty_C_img A' hk B (fun _ _ => rfl) (fun a w => Or.inr w) (fun j hj => by rw [c5 (x + 25) (by omega)]) (p := p) (by rw [c5 (x + 25) (by omega)]; exact r1) (moI_of (h := h) (fun a _ _ => by rw [c3]) (fun a _ _ h3 => c5 a h3) (fun j hj => ?_) gm) ?_ ?_ ?_ c10 c11 hp (by rw [c1]; exact hp2) lab) (by rw [c1]; omega) (by rw [c2]; omega)
      · rw [c6]; unfold va_up; rw [if_neg hj]
      · rw [c6]; unfold va_up; rw [if_pos rfl]
      · rw [c8]; exact a8
      · rw [c9]; exact a9
