/-! THE TIE: rule -/
section
variable {g h h' : jH} {x m c C l U L R : Nat} {S : Nat → Int32} {ow ow' : Nat → Nat} {fs fs' : Nat → (Nat → Int64) → Int64} {K : Nat → Nat → Int32} {T tK tV : Nat → Nat} {IM : tyI} {F X : Int32}
/-- the class, behind the text of a rule -/
theorem ty_C_ru {C' : Nat} (A : ty_C h x c C fs S F X ow l U K T L tK tV IM) (E : ruE x h h') (how : ∀ a, a < jnx h → ow' a = ow a) (hru : ty_ru h' x C' fs' ow') : ty_C h' x c C' fs' S F X ow' l U K T 0 tK tV IM := by
  obtain ⟨⟨a1, a2, a3⟩, ⟨a4, a5⟩, ⟨a6, a7⟩, ⟨a8, a9⟩, b1, b2, b3, b4, b5⟩ := A
  obtain ⟨B, eR, eJ, e1⟩ := E
  have hw : ∀ a, ruW x a → x ≤ a ∧ a < x + 8 ∧ a ≠ x + 2 := fun a w => by rcases w with w | w | w <;> omega
  have e8 := B.2.2 (x + 8) (by omega) (fun w => by have := hw _ w; omega)
  exact ⟨⟨ty_sk_of (fun a _ _ => B.2.1 a (by omega)) (fun a _ _ h7 _ _ _ _ => eR a (by omega) h7) (fun j _ => by rw [e8.2.2]) a1, ty_sc_ag B a3 (fun a w g => by have := hw _ w; omega) a2, Nat.le_trans a3 B.1⟩, ⟨by rw [e8.2.2]; exact a4, ty_cm_ag B how (fun a w g => by have := hw _ w; omega) a5⟩, ⟨agx_stV B (by omega) (fun a h1 h2 w => by have := hw _ w; omega) a6, (agx_no B (by omega) (fun a h1 h2 w => by have := hw _ w; omega) ⟨a1.2.2.2.1, a7⟩).2⟩, ⟨by rw [e8.1]; exact a8, by rw [e8.1]; exact a9⟩, hru, ty_ps_ag B a3 how (fun a w g => by have := hw _ w; omega) b2, ty_im_ag B a3 how (fun a w g => by have := hw _ w; omega) b3, ty_tp_0 (B.2.1 _ (by omega)) (B.2.1 _ (by omega)) (eR _ (by omega) (by omega)) e1 b4, ty_tx_ag B a3 (fun a w => by have := hw _ w; omega) b5⟩
/-- the reference, behind the text of a rule -/
theorem ty_R_ru {C' : Nat} (H : ty_R h m C fs S F X U K T L IM) (gK : jK g = jK h) (gR : jR g = jR h) (gi : ∀ i, (i = 1 ∨ i = 10 ∨ i = 12 ∨ (21 ≤ i ∧ i ≤ 24)) → jI g (m + i) = jI h (m + i)) (gf : ∀ i, ((21 ≤ i ∧ i ≤ 25) ∨ i = 28) → jI g m i = jI h m i) (g1 : jI g m 1 = 0) (Rs : mRs g m C' fs') : ty_R g m C' fs' S F X U K T 0 IM := by
  obtain ⟨⟨p1, ⟨p2, p2'⟩, p3⟩, a2, a3, ⟨b1, b2, b3, b4, b5, b6⟩, a5, a6⟩ := H
  exact ⟨⟨mInv_of (fun a _ _ => by rw [gK]) (by rw [gR]) p1, ⟨g1, by omega⟩, fun p hp => by omega⟩, by rw [gi 10 (by omega)]; exact a2, Rs, ⟨by rw [gf 21 (by omega)]; exact b1, by rw [gf 22 (by omega)]; exact b2, by rw [gf 23 (by omega)]; exact b3, by rw [gf 24 (by omega)]; exact b4, by rw [gf 25 (by omega)]; exact b5, by rw [gf 28 (by omega)]; exact b6⟩, by rw [gi 12 (by omega)]; exact a5, fun k hk => ty_ri_of (fun i h1 h2 => gi i (by omega)) (a6 k hk)⟩
end
theorem pSg_lo {f : Nat → Int32} {t j : Nat} {c : List Nat} (h : j < 400 * t) : pSg f t c j = f j := by
  unfold pSg
  rw [jput_out (by omega)]
theorem bz_i {g : jH} {m j : Nat} {v : Int32} : ∀ a, a ≠ m → jI (bz g m j v) a = jI g a := fun a ha => jI_wr_n ha
theorem bz_m {g : jH} {m j : Nat} {v : Int32} : jI (bz g m j v) m = upd (jI g m) j v := jI_wr_s
theorem bz_f {g : jH} {m j : Nat} {v : Int32} : frg m (m + 25) g (bz g m j v) := frg_wr (by omega) (by omega) frg_refl
/-- rule -/
theorem ty_s3 : ty_st 107 145 [] := by
  intro d h x n Q I hQ
  have I' := I
  obtain ⟨⟨c, C, fs, S, F, X, ow, l, U, K, T, L, tK, tV, IM, A, P, R⟩, i1, i2⟩ := I
  have A' := A
  obtain ⟨⟨⟨s1, ⟨s2, s3, s4⟩, s5, s6, s7, s8, s9⟩, sc, hx⟩, ⟨a4, a5⟩, ⟨a6, a7⟩, ⟨a8, a9⟩, ⟨⟨b1, b1'⟩, b1r, b1n⟩, ps, b3, ⟨tp, tL⟩, ⟨tx, tv, x0⟩⟩ := A
  have hL4 : L ≤ 400 := tp.2.2.2.1
  by_cases h6 : C = 6
  · exact ty_no I' hQ (k107n s1 (by rw [b1, h6]; rfl)).2 (fun Q2 q => (c145n R.1.1 (by rw [R.2.2.1.1.1, h6]; rfl)).2 q)
  · have hC6 : C < 6 := by omega
    have hw : ∀ a, ruW x a → x ≤ a ∧ a < x + 8 ∧ a ≠ x + 2 := fun a w => by rcases w with w | w | w <;> omega
    refine k107 s1 ⟨s9, tp, tx⟩ (fun i hi => by have := tv i hi; omega) tL b1 hC6 s7 hx (fun w hw' h1 E n1 n2 r7 ix i7 => ?_) (fun q hq g0 h1 E n1 n2 r7 ix gn CD SK MK => ?_)
    · have B := E.1
      obtain ⟨lo, R1⟩ := ty_fi A' R B (fun a w => by have := hw a w; omega)
      have ru : ty_ru h1 x C fs ow := by
        refine ⟨⟨by rw [ix]; exact b1, b1'⟩, fun t ht => ?_, fun t ht1 ht2 => by rw [r7]; exact b1n t ht1 ht2⟩
        obtain ⟨r, q1, q2, q3, q4, q5⟩ := b1r t ht
        exact ⟨r, by rw [r7]; exact q1, agx_xRl B q4 (fun a h1 h2 w => by have := hw a w; omega) q2, q3, by omega, q5⟩
      have C1 := ty_C_ru A' E (fun _ _ => rfl) ru
      refine hQ _ h1 lo (fun Q2 hQ2 => c145y R1.1 R1.2.2.1.1.1 hC6 ?_)
      rw [hw']
      intro nx nb md cc dp li od f cl' nn hcl
      obtain ⟨⟨g2, g4, g5⟩, gi, gf, fr, gK, gR⟩ := ru_H (g := h1) (m := x + 50) (cl := cl') (cs := upd (jI h1 (x + 50 + 5)) C (nI nn)) (f := f) (R := C) (c := cc) (nx := nx) (w := w) (nb := nb) (md := md) (dp := dp) (li := li) (od := od) (g2 := bz (bz h1 (x + 50) 11 (nI C)) (x + 50) 1 0) (fun a ha => by rw [bz_i a ha, bz_i a ha]) rfl rfl (frg_trans bz_f bz_f)
      have gf2 : ∀ i, i ≠ 1 → i ≠ 11 → jI (bz (bz h1 (x + 50) 11 (nI C)) (x + 50) 1 0) (x + 50) i = jI h1 (x + 50) i := fun i q1 q2 => by rw [bz_m, bz_m, upd_n q1, upd_n q2]
      have gf1 : jI (bz (bz h1 (x + 50) 11 (nI C)) (x + 50) 1 0) (x + 50) 1 = 0 := by rw [bz_m, upd_s]
      generalize pH (rG (kG (bz (bz h1 (x + 50) 11 (nI C)) (x + 50) 1 0) (x + 50) cl' (upd (jI h1 (x + 50 + 5)) C (nI nn)) f) (x + 50) C cc) (x + 50) nx w nb md dp li od = G at *
      have Rs : mRs G (x + 50) C fs := by
        refine ⟨⟨by rw [gf 2 (by omega), gf2 2 (by omega) (by omega)]; exact R1.2.2.1.1.1, b1'⟩, fun t ht => mRl_of (h := h1) (fun i hi => by rw [g2, pSg_lo (by omega)]) (fun i hi => by rw [g4, hcl _ (by omega)]) (by rw [g5, upd_n (by omega)]) (R1.2.2.1.2 t ht)⟩
      have R2 := ty_R_ru R1 gK gR gi (fun i hi => by rw [gf i (by omega), gf2 i (by omega) (by omega)]) (by rw [gf 1 (by omega)]; exact gf1) Rs
      refine hQ2 _ ⟨⟨c, C, fs, S, F, X, ow, l, U, K, T, 0, tK, tV, IM, ty_C_frg fr C1, P, R2⟩, ?_, ?_⟩ (ty_lo_trans lo (ty_lo_frg fr (by omega)))
      · rw [fr.1.1]; omega
      · rw [fr.1.2.1]; omega
    · have B := E.1
      obtain ⟨lo, R1⟩ := ty_fi A' R B (fun a w => by have := hw a w; omega)
      obtain ⟨⟨l1, l2, l3, l4⟩, f, hf⟩ := ru_ok hq
      obtain ⟨md0, CD⟩ := CD
      have MK' : ∃ h2, mkR g0 h2 (x + 3) q.1.length (nI q.2.length) ∧ ∀ b, jnx h ≤ b → jK h1 b = jK h2 b ∧ jI h1 b = jI h2 b ∧ jR h1 b = jR h2 b := by
        rcases MK with M | M
        · exact ⟨h1, M, fun b _ => ⟨rfl, rfl, rfl⟩⟩
        · exact M
      obtain ⟨h2, M, eM⟩ := MK'
      have xr : xRl h1 (jnx h) f := xRl_mk hL4 hq CD SK gn M eM hf
      have how : ∀ a, a < jnx h → (if jnx h ≤ a then 1 else ow a) = ow a := fun a ha => if_neg (by omega)
      have ru : ty_ru h1 x (C + 1) (fun t => if t = C then f else fs t) (fun a => if jnx h ≤ a then 1 else ow a) := by
        refine ⟨⟨by rw [ix, upd_s], by omega⟩, fun t ht => ?_, fun t ht1 ht2 => ?_⟩
        · by_cases e : t = C
          · refine ⟨jnx h, by rw [r7, e]; unfold va_up; rw [if_pos rfl], ?_, hx, by omega, fun a h1 _ => if_pos h1⟩
            show xRl h1 (jnx h) (if t = C then f else fs t)
            rw [if_pos e]
            exact xr
          · obtain ⟨r, q1, q2, q3, q4, q5⟩ := b1r t (by omega)
            refine ⟨r, by rw [r7]; unfold va_up; rw [if_neg e]; exact q1, ?_, q3, by omega, fun a h1 h2 => by
              show (if jnx h ≤ a then 1 else ow a) = 1
              rw [if_neg (by omega)]
              exact q5 a h1 h2⟩
            show xRl h1 r (if t = C then f else fs t)
            rw [if_neg e]
            exact agx_xRl B q4 (fun a h1 h2 w => by have := hw a w; omega) q2
        · rw [r7]; unfold va_up; rw [if_neg (by omega)]
          exact b1n t (by omega) ht2
      have C1 := ty_C_ru (fs' := fun t => if t = C then f else fs t) A' E how ru
      refine hQ _ h1 lo (fun Q2 hQ2 => c145y R1.1 R1.2.2.1.1.1 hC6 ?_)
      rw [hq]
      intro nx nb md dp li od fw cl' hcl
      obtain ⟨⟨g2, g4, g5⟩, gi, gf, fr, gK, gR⟩ := ru_H (g := h1) (m := x + 50) (cl := cl') (cs := upd (jI h1 (x + 50 + 5)) C (nI q.2.length)) (f := fw) (R := C) (c := q.1) (nx := nx) (w := 0) (nb := nb) (md := md) (dp := dp) (li := li) (od := od) (g2 := bz (bz (bz h1 (x + 50) 11 (nI C)) (x + 50) 1 0) (x + 50) 2 (nI (C + 1))) (fun a ha => by rw [bz_i a ha, bz_i a ha, bz_i a ha]) rfl rfl (frg_trans bz_f (frg_trans bz_f bz_f))
      have gf2 : ∀ i, i ≠ 1 → i ≠ 11 → i ≠ 2 → jI (bz (bz (bz h1 (x + 50) 11 (nI C)) (x + 50) 1 0) (x + 50) 2 (nI (C + 1))) (x + 50) i = jI h1 (x + 50) i := fun i q1 q2 q3 => by rw [bz_m, bz_m, bz_m, upd_n q3, upd_n q1, upd_n q2]
      have gf1 : jI (bz (bz (bz h1 (x + 50) 11 (nI C)) (x + 50) 1 0) (x + 50) 2 (nI (C + 1))) (x + 50) 1 = 0 := by rw [bz_m, bz_m, upd_n (by omega), upd_s]
      have gf3 : jI (bz (bz (bz h1 (x + 50) 11 (nI C)) (x + 50) 1 0) (x + 50) 2 (nI (C + 1))) (x + 50) 2 = nI (C + 1) := by rw [bz_m, upd_s]
      generalize pH (rG (kG (bz (bz (bz h1 (x + 50) 11 (nI C)) (x + 50) 1 0) (x + 50) 2 (nI (C + 1))) (x + 50) cl' (upd (jI h1 (x + 50 + 5)) C (nI q.2.length)) fw) (x + 50) C q.1) (x + 50) nx 0 nb md dp li od = G at *
      have Rs : mRs G (x + 50) (C + 1) (fun t => if t = C then f else fs t) := by
        refine ⟨⟨by rw [gf 2 (by omega)]; exact gf3, by omega⟩, fun t ht => ?_⟩
        show mRl G (x + 50) t (if t = C then f else fs t)
        by_cases e : t = C
        · rw [if_pos e, e]
          exact mRl_mk hL4 hq g2 g4 hcl (by rw [g5, upd_s]) hf
        · rw [if_neg e]
          exact mRl_of (h := h1) (fun i hi => by rw [g2, pSg_lo (by omega)]) (fun i hi => by rw [g4, hcl.1 _ (by omega)]) (by rw [g5, upd_n (by omega)]) (R1.2.2.1.2 t (by omega))
      have R2 := ty_R_ru (fs' := fun t => if t = C then f else fs t) R1 gK gR gi (fun i hi => by rw [gf i (by omega), gf2 i (by omega) (by omega) (by omega)]) (by rw [gf 1 (by omega)]; exact gf1) Rs
      have eF : ∀ Z, ty_F C Z → ty_F (C + 1) Z := fun Z hZ => hZ.imp id (fun ⟨t, ht, e⟩ => ⟨t, by omega, e⟩)
      refine hQ2 _ ⟨⟨c, C + 1, _, S, F, X, _, l, U, K, T, 0, tK, tV, IM, ty_C_frg fr C1, ⟨P.1, eF F P.2.1, P.2.2.1, P.2.2.2.1, fun k q hk hq => ⟨(P.2.2.2.2 k q hk hq).1, eF _ (P.2.2.2.2 k q hk hq).2.1, (P.2.2.2.2 k q hk hq).2.2⟩⟩, R2⟩, ?_, ?_⟩ (ty_lo_trans lo (ty_lo_frg fr (by omega)))
      · rw [fr.1.1]; omega
      · rw [fr.1.2.1]; omega
