/-! THE TIE: more questions -/
theorem ty_a18 {w : Int32} : ty_ans 129 224 [.int w] := by
  intro d h x c C fs S F X rr rv U L Wx hX hX0 hU hL
  have O : oS S := Wx.2.1.2.2.2.2.2.1
  have W : mW S := O.1
  have B : mB S := O.2.1
  have hD : sD S ≤ 1000 := Nat.le_trans Wx.2.2.2.2.2.2.2.1 (by omega)
  cases hn : okMatch S w with
  | false => exact ⟨-3, fun Q q => (k129n Wx hn).2 (q h (scr_refl Wx)), fun h1 Q b e _ _ q => by subst e; exact (c224n b.1 hn).2 (q h1 rq_refl)⟩
  | true => exact ⟨_, fun Q q => k129y Wx hn q, fun h1 Q b e _ _ q => by
      subst e
      have e3 : jI h1 (x + 50) 23 = -1 := b.2.2.2.2.1
      refine c224y b.1 rfl W hn (fun row => ?_)
      rw [e3, mday0, mtA_ok W]
      refine q _ (rq_trans (rq_wr (j := 14) (by omega) (by omega)) (rq_trans (rq_wr (j := 15) (by omega) (by omega)) (rq_wm (fun i hi => ?_))))
      rw [upd_n (by omega), jI_wr_n (by omega), jI_wr_n (by omega)]⟩
theorem ty_a20 {s n w : Int32} : ty_ans 133 229 [.int s, .int n, .int w] := by
  intro d h x c C fs S F X rr rv U L Wx hX hX0 hU hL
  have O : oS S := Wx.2.1.2.2.2.2.2.1
  have W : mW S := O.1
  have B : mB S := O.2.1
  have hD : sD S ≤ 1000 := Nat.le_trans Wx.2.2.2.2.2.2.2.1 (by omega)
  cases hn : okRow S s n w with
  | false => exact ⟨-3, fun Q q => (k133n Wx hn).2 (q h (scr_refl Wx)), fun h1 Q b e _ _ q => by subst e; exact (c229n b.1 hn).2 (q h1 rq_refl)⟩
  | true =>
    unfold okRow at hn
    simp only [Bool.and_eq_true] at hn
    obtain ⟨⟨hA, h2⟩, h3⟩ := hn
    obtain ⟨s, rfl, hs, -⟩ := ty_isS W hA
    obtain ⟨n, hn1, hn, rfl⟩ := inR_nat (lo := 1) (hi := 4) (by omega) (by omega) h2
    obtain ⟨w, -, hw, rfl⟩ := inR_nat (lo := 0) (hi := 4) (by omega) (by omega) h3
    exact ⟨_, fun Q q => k133y Wx hs hn1 hn hw q, fun h1 Q b e _ fl q => by
      subst e
      rw [← mSc_self (h := h1) (m := x + 50)]
      exact c229y b fl.2.2.1 W B hD hs hn1 hn hw (fun K P R tp st wd => q _ (rq_trans (rq_wr (j := 13) (by omega) (by omega)) (rq_trans (rq_wr (j := 11) (by omega) (by omega)) (rq_trans (rq_wr (j := 16) (by omega) (by omega)) rq_sc))))⟩
theorem ty_a24 {o1 o2 n w : Int32} : ty_ans 134 236 [.int o1, .int o2, .int n, .int w] := by
  intro d h x c C fs S F X rr rv U L Wx hX hX0 hU hL
  have O : oS S := Wx.2.1.2.2.2.2.2.1
  have W : mW S := O.1
  have B : mB S := O.2.1
  have hD : sD S ≤ 1000 := Nat.le_trans Wx.2.2.2.2.2.2.2.1 (by omega)
  cases hn : okRests S o1 o2 n w with
  | false => exact ⟨-1000, fun Q q => (k134n Wx hn).2 (q h (scr_refl Wx)), fun h1 Q b e _ _ q => by subst e; exact (c236n b.1 hn).2 (q h1 rq_refl)⟩
  | true =>
    unfold okRests at hn
    simp only [Bool.and_eq_true, Bool.not_eq_true', decide_eq_false_iff_not] at hn
    obtain ⟨⟨⟨⟨hA, h2⟩, h3⟩, h4⟩, h5⟩ := hn
    obtain ⟨a, rfl, ha, -⟩ := ty_isS W hA
    obtain ⟨b', rfl, hb, -⟩ := ty_isS W h2
    obtain ⟨n, hn1, hn, rfl⟩ := inR_nat (lo := 1) (hi := 20) (by omega) (by omega) h4
    obtain ⟨w, -, hw, rfl⟩ := inR_nat (lo := 0) (hi := 2) (by omega) (by omega) h5
    have hne : a ≠ b' := fun e => h3 (by rw [e])
    exact ⟨_, fun Q q => k134y Wx ha hb hne hn1 hn hw q, fun h1 Q b e _ fl q => by
      subst e
      rw [← mSc_self (h := h1) (m := x + 50)]
      refine c236y b fl.2.2.1 rfl W B hD ha hb hne hn1 hn hw (fun K P X tp st wd => q _ (rq_trans (rq_wr (j := 13) (by omega) (by omega)) (rq_trans (rq_wr (j := 11) (by omega) (by omega)) (rq_trans (rq_wr (j := 17) (by omega) (by omega)) (rq_trans (rq_wm (fun i hi => ?_)) rq_sc)))))
      rw [jI_wr_n (by omega), jI_wr_n (by omega), jI_wr_n (by omega)]⟩
theorem ty_a31 {M n p w : Int32} : ty_ans 127 250 [.int M, .int n, .int p, .int w] := by
  intro d h x c C fs S F X rr rv U L Wx hX hX0 hU hL
  have O : oS S := Wx.2.1.2.2.2.2.2.1
  have W : mW S := O.1
  have B : mB S := O.2.1
  have hD : sD S ≤ 1000 := Nat.le_trans Wx.2.2.2.2.2.2.2.1 (by omega)
  cases hn : okCamps S M n p w with
  | false => exact ⟨-1, fun Q q => (k127n Wx hn).2 (q h (scr_refl Wx)), fun h1 Q b e _ _ q => by subst e; exact (c250n b.1 hn).2 (q h1 rq_refl)⟩
  | true =>
    unfold okCamps at hn
    simp only [Bool.and_eq_true] at hn
    obtain ⟨⟨⟨⟨hC, h2⟩, h3⟩, h4⟩, h5⟩ := hn
    obtain ⟨M, hM1, hM, rfl⟩ := inR_nat (lo := 1) (hi := 10) (by omega) (by omega) h2
    obtain ⟨n, hn1, hn, rfl⟩ := inR_nat (lo := 1) (hi := 60) (by omega) (by omega) h3
    obtain ⟨p, -, hp, rfl⟩ := inR_nat (lo := 0) (hi := 100) (by omega) (by omega) h4
    obtain ⟨w, -, hw, rfl⟩ := inR_nat (lo := 0) (hi := 1) (by omega) (by omega) h5
    have eX := clamp_nI hX0
    exact ⟨_, fun Q q => k127y Wx hC hM1 hM hn1 hn hp hw (clamp_lt X) (hX.trans eX.symm) q, fun h1 Q b e _ fl q => by
      subst e
      rw [eX, ← fl.2.1] at q
      rw [← mSc_self (h := h1) (m := x + 50)]
      exact c250y b rfl W B hD hC hM1 hM hn1 hn hp hw (fun K u tp st wd => q _ (rq_trans rq_wJ (rq_trans (rq_wr (j := 13) (by omega) (by omega)) rq_sc)))⟩
theorem ty_a32 {w : Int32} : ty_ans 112 253 [.int w] := by
  intro d h x c C fs S F X rr rv U L Wx hX hX0 hU hL
  have O : oS S := Wx.2.1.2.2.2.2.2.1
  have W : mW S := O.1
  have B : mB S := O.2.1
  have hD : sD S ≤ 1000 := Nat.le_trans Wx.2.2.2.2.2.2.2.1 (by omega)
  rcases ty_w (hi := 14) (by omega) w with hw | ⟨k, hk, rfl⟩
  · exact ⟨-1, fun Q q => (k112d Wx hw).2 (q h (scr_refl Wx)), fun h1 Q b e _ _ q => by subst e; exact (c253d b.1 hw).2 (q h1 rq_refl)⟩
  · rcases Nat.lt_or_ge k 5 with g | g
    · exact ⟨_, fun Q q => (k112t Wx g).2 (q h (scr_refl Wx)), fun h1 Q b e _ _ q => by subst e; exact (c253t b.1 g).2 (q h1 rq_refl)⟩
    · rcases (by omega : k = 5 ∨ k = 6 ∨ k = 7 ∨ k = 8 ∨ k = 9 ∨ k = 10 ∨ k = 11 ∨ k = 12 ∨ k = 13 ∨ k = 14) with e | e | e | e | e | e | e | e | e | e <;> subst e
      · exact ⟨nI C, fun Q q => (k112e Wx).1.2 (q h (scr_refl Wx)), fun h1 Q b e Rs fl q => by subst e; refine (c253e b.1 W B).1.2 ?_; rw [Rs.1.1]; exact q h1 rq_refl⟩
      · exact ⟨F, fun Q q => (k112e Wx).2.1.2 (q h (scr_refl Wx)), fun h1 Q b e Rs fl q => by subst e; refine (c253e b.1 W B).2.1.2 ?_; rw [fl.1]; exact q h1 rq_refl⟩
      · exact ⟨S 10, fun Q q => (k112e Wx).2.2.1.2 (q h (scr_refl Wx)), fun h1 Q b e Rs fl q => by subst e; refine (c253e b.1 W B).2.2.1.2 ?_; exact q h1 rq_refl⟩
      · exact ⟨calmS S (sD S), fun Q q => (k112e Wx).2.2.2.1.2 (q h (scr_refl Wx)), fun h1 Q b e Rs fl q => by subst e; refine (c253e b.1 W B).2.2.2.1.2 ?_; rw [show jI h1 (x + 50) 23 = -1 from b.2.2.2.2.1, mday0]; exact q h1 rq_refl⟩
      · exact ⟨nI (bsum S (sN S)), fun Q q => (k112e Wx).2.2.2.2.1.2 (q h (scr_refl Wx)), fun h1 Q b e Rs fl q => by subst e; refine (c253e b.1 W B).2.2.2.2.1.2 ?_; exact q h1 rq_refl⟩
      · exact ⟨psum S (sN S), fun Q q => (k112e Wx).2.2.2.2.2.1.2 (q h (scr_refl Wx)), fun h1 Q b e Rs fl q => by subst e; refine (c253e b.1 W B).2.2.2.2.2.1.2 ?_; exact q h1 rq_refl⟩
      · exact ⟨S 159, fun Q q => (k112e Wx).2.2.2.2.2.2.2 (q h (scr_refl Wx)), fun h1 Q b e Rs fl q => by subst e; refine (c253e b.1 W B).2.2.2.2.2.2.1.2 ?_; exact q h1 rq_refl⟩
      · exact ⟨jI h (x + 23) 2, fun Q q => (k112f Wx hU.2 hL.2).1.2 (q h (scr_refl Wx)), fun h1 Q b e Rs fl q => by subst e; refine (c253e b.1 W B).2.2.2.2.2.2.2.1.2 ?_; rw [fl.2.2.2.1, ← hU.1]; exact q h1 rq_refl⟩
      · exact ⟨jI h (x + 8) 2, fun Q q => (k112f Wx hU.2 hL.2).2.1.2 (q h (scr_refl Wx)), fun h1 Q b e Rs fl q => by subst e; refine (c253e b.1 W B).2.2.2.2.2.2.2.2.1.2 ?_; rw [fl.2.1, ← hX]; exact q h1 rq_refl⟩
      · exact ⟨jI h (x + 1) 1, fun Q q => (k112f Wx hU.2 hL.2).2.2.2 (q h (scr_refl Wx)), fun h1 Q b e Rs fl q => by subst e; refine (c253e b.1 W B).2.2.2.2.2.2.2.2.2.2 ?_; rw [fl.2.2.2.2, ← hL.1]; exact q h1 rq_refl⟩
