/-! THE TIE: day -/
theorem ty_s8 : ty_st 113 196 [] := by
  intro d h x n Q I hQ
  have I' := I
  obtain ⟨⟨c, C, fs, S, F, X, ow, l, U, K, T, L, tK, tV, IM, A, P, R⟩, i1, i2⟩ := I
  obtain ⟨rr, rv, Wx, V⟩ := ty_wx A P.1 P.2.1
  have Aw := ty_aw A
  have A' := A
  obtain ⟨⟨⟨s1, ⟨s2, s3, s4⟩, s5, s6, s7, s8, s9⟩, sc, hx⟩, ⟨a4, a5⟩, ⟨a6, a7⟩, ⟨a8, a9⟩, b1, ps, b3, b4, b5⟩ := A
  have hU : U ≤ 20 := ps.2.2.1.2
  have W : mW S := P.1.1.1
  have B : mB S := P.1.1.2.1
  cases hn : okDay S with
  | false => exact ty_no I' hQ (k113n Wx hn).2 (fun Q2 q => (c196n R.1.1 (by rw [R.2.1]; exact hn)).2 q)
  | true =>
    have h9 : sD S < 999 := by
      have := P.1.2.2.2.1
      rcases Nat.lt_or_ge (sD S) 999 with g | g
      · exact g
      · exfalso
        have e : S 10 = 999 := by rw [W.2.2.2.1, show sD S = 999 by omega]; rfl
        unfold okDay at hn
        simp [e] at hn
    refine k113h Wx hn (by rw [ps.1.1]) ?_
    refine k48 ps hx s5 a6 (by omega) (fun h1 ow' Ak how P1 m1 m2 => ?_)
    have Aw1 := aw_kp Aw Ak how P1
    have C1 := ty_C_kp (S' := S) A' Ak how Aw1 frm_refl Aw1.2.2.1.2 (fun _ _ => rfl)
    obtain ⟨rr1, rv1, Wx1, V1⟩ := ty_wx C1 P.1 P.2.1
    simp only [Option.toList, List.nil_append]
    refine k113g Wx1 (fun h2 h3 G1 G2 G3 Vs => ?_)
    obtain ⟨o1, o2, o3⟩ := oS_nxt (rv := rv1) (lf := 0) (dr := -1) P.1.1 (by omega)
    have hx2 : x + 75 ≤ jnx h2 := by rw [G1.1.1]; exact C1.1.2.2
    have C2 := ty_C_scr (scr_l Wx1 G1 G2) C1
    have B3 : agx (fun a => x + 13 ≤ a ∧ a < x + 18) h2 h3 := agx_frm G3 (fun a h1 h2 => ⟨h1, h2⟩)
    have e8 := B3.2.2 (x + 8) (by omega) (fun w => by omega)
    have C3 : ty_C h3 x c C fs (mnxt rv1 0 noP (-1) S) F X ow' ((l + 1) % 20) (kpU U) (kpK K S U) T L tK tV IM := ty_C_J C2 B3 G3.1.2.2.2.1 G3.1.2.2.1 (fun a w => by omega) Vs (noV_G o2 (agx_no B3 (by omega) (fun a h1 h2 w => by omega) ⟨C2.1.1.2.2.2.1, C2.2.2.1.2⟩).2) (fun j hj => o2 j (by omega)) (by rw [e8.1]; exact C2.2.2.2.1.1) (by rw [e8.1]; exact C2.2.2.2.1.2) (ty_ps_ag B3 hx2 (fun _ _ => rfl) (fun a w g => by omega) C2.2.2.2.2.2.1) (ty_tp_ag B3 hx2 (fun a w g => by omega) C2.2.2.2.2.2.2.2.1)
    obtain ⟨lo, R2, fin⟩ := ty_fk (W := fun a => (x + 35 ≤ a ∧ a < x + 50) ∨ (x + 13 ≤ a ∧ a < x + 18)) A' P R i1 i2 Ak m1 m2 C3 (agx_trans (agx_frg G1 (fun a h1 h2 => Or.inl ⟨h1, h2⟩)) (agx_frm G3 (fun a h1 h2 => Or.inr ⟨h1, h2⟩))) (fun a w => by omega) (by rw [G3.1.1, G1.1.1]) (by rw [G3.1.2.1, G1.1.2.1]) o2 (ty_gd_G P.1 o2 o1 (by omega))
    refine hQ _ h3 lo (fun Q2 hQ2 => ?_)
    have eS := R2.2.1
    rw [← mSc_self (h := h3) (m := x + 50)]
    refine c196y (ty_mb R2 V1) (by rw [eS]; exact W) (by rw [eS]; exact B) (ty_mU R2 hU) (by rw [eS]; exact hn) (fun tp st wd => ?_)
    rw [eS]
    exact hQ2 _ (fin _ rq_sc).1 (fin _ rq_sc).2
