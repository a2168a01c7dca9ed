/-! THE TIE: a call of both; questions -/
def ty_inv (h : jH) (x n : Nat) : Prop := (∃ c C fs S F X ow l U K T L tK tV IM, ty_C h x c C fs S F X ow l U K T L tK tV IM ∧ ty_P C S F X U K IM ∧ ty_R h (x + 50) C fs S F X U K T L IM) ∧ jnx h ≤ x + 75 + 20 * n ∧ jsl h ≤ 20000 + 500 * n
def ty_lo (x : Nat) (h h' : jH) : Prop := (∀ a, a < x → jK h' a = jK h a ∧ jI h' a = jI h a) ∧ jK h' (x + 50) = jK h (x + 50)
def ty_st (kc kr : Nat) (as : List Value) : Prop := ∀ (d : Nat) (h : jH) (x n : Nat) (Q : Option Value → jH → Prop), ty_inv h x n → (∀ v h1, ty_lo x h h1 → (∀ Q2 : Option Value → jH → Prop, (∀ h2, ty_inv h2 x (n + 1) → ty_lo x h h2 → Q2 (some (.int v)) h2) → jC (d + 40) kr (.ref (x + 50) :: as) h1 Q2) → Q (some (.int v)) h1) → jC (d + 40) kc (.ref x :: as) h Q
theorem ty_lo_ag {W : Nat → Prop} {x : Nat} {h h' : jH} (A : agx W h h') (hn : x + 51 ≤ jnx h) (hw : ∀ a, W a → x ≤ a) : ty_lo x h h' := ⟨fun a ha => ⟨A.2.1 a (by omega), (A.2.2 a (by omega) (fun w => by have := hw _ w; omega)).1⟩, A.2.1 _ (by omega)⟩
theorem ty_lo_trans {x : Nat} {h h1 h2 : jH} (A : ty_lo x h h1) (B : ty_lo x h1 h2) : ty_lo x h h2 := ⟨fun a ha => ⟨(B.1 a ha).1.trans (A.1 a ha).1, (B.1 a ha).2.trans (A.1 a ha).2⟩, B.2.trans A.2⟩
theorem ty_lo_frg {x lo hi : Nat} {h h' : jH} (A : frg lo hi h h') (hw : x ≤ lo) : ty_lo x h h' := ⟨fun a ha => ⟨by rw [A.1.2.2], (A.2 a (by omega)).1⟩, by rw [A.1.2.2]⟩
/-- a question: nothing is changed but scratch -/
def ty_ans (kc kr : Nat) (as : List Value) : Prop := ∀ (d : Nat) (h : jH) (x c C : Nat) (fs : Nat → (Nat → Int64) → Int64) (S : Nat → Int32) (F X : Int32) (rr : Option Nat) (rv : Option ((Nat → Int64) → Int64)) (U : Nat) (L : Nat), wx h x c C fs S F rr rv → jI h (x + 8) 2 = X → ¬ X < 0 → (jI h (x + 23) 2 = nI U ∧ jK h (x + 23) = (25, 3)) → (jI h (x + 1) 1 = nI L ∧ jK h (x + 1) = (30, 7)) → ∃ v, (∀ Q : Option Value → jH → Prop, (∀ h1, scr x h h1 → Q (some (.int v)) h1) → jC (d + 40) kc (.ref x :: as) h Q) ∧ ∀ (h1 : jH) (Q : Option Value → jH → Prop), mBase h1 (x + 50) rv 0 noP → jI h1 (x + 50 + 10) = S → mRs h1 (x + 50) C fs → (jI h1 (x + 50) 21 = F ∧ jI h1 (x + 50) 22 = X ∧ jI h1 (x + 50) 25 = 0 ∧ jI h1 (x + 50) 28 = nI U ∧ jI h1 (x + 50) 1 = nI L) → (∀ h2, rq (x + 50) h1 h2 → Q (some (.int v)) h2) → jC (d + 40) kr (.ref (x + 50) :: as) h1 Q
theorem ty_ask {kc kr : Nat} {as : List Value} (H : ty_ans kc kr as) : ty_st kc kr as := by
  intro d h x n Q I hQ
  obtain ⟨⟨c, C, fs, S, F, X, ow, l, U, K, T, L, tK, tV, IM, A, P, R⟩, i1, i2⟩ := I
  obtain ⟨rr, rv, Wx, V⟩ := ty_wx A P.1 P.2.1
  have aw := ty_aw A
  have ps := aw.2.2.2.1
  have tp : ty_tp h x T L := A.2.2.2.2.2.2.2.1
  have hn := A.1.2.2
  obtain ⟨v, v1, v2⟩ := H d h x c C fs S F X rr rv U L Wx A.2.2.2.1.2 P.2.2.1 ⟨ps.2.2.1.1, ps.1.1⟩ ⟨tp.2, tp.1.1⟩
  refine v1 Q (fun h1 G => ?_)
  have lo1 : ty_lo x h h1 := ty_lo_frg G.1 (by omega)
  refine hQ v h1 lo1 (fun Q2 hQ2 => ?_)
  have A1 := ty_C_scr G A
  have R1 : ty_R h1 (x + 50) C fs S F X U K T L IM := ty_R_ag (W := fun a => x + 26 ≤ a ∧ a < x + 50) (agx_frg G.1 (fun a h1 h2 => ⟨h1, h2⟩)) (by omega) (fun a w g => by omega) R
  have mb := ty_mb R1 V
  have g1 := G.1.1
  obtain ⟨⟨p1, p2, p3⟩, r2, r3, ⟨b1, b2, b3, b4, b5, b6⟩, r5⟩ := id R1
  refine v2 h1 Q2 mb r2 r3 ⟨b1, b2, b5, b6, p2.1⟩ (fun h2 E => ?_)
  have f1 := E.1.1
  refine hQ2 h2 ⟨⟨c, C, fs, S, F, X, ow, l, U, K, T, L, tK, tV, IM, ty_C_frg E.1 A1, P, ty_R_rq E R1⟩, ?_, ?_⟩ (ty_lo_trans lo1 (ty_lo_frg E.1 (by omega)))
  · rw [f1.1, g1.1]; omega
  · rw [f1.2.1, g1.2.1]; omega
section
variable {S : Nat → Int32}
/-- a scout, a kind: there, or not -/
theorem ty_isS (W : mW S) {s : Int32} (h : isS S s = true) : ∃ n, s = nI n ∧ n < sN S ∧ n < 6 := by
  unfold isS at h
  simp only [Bool.and_eq_true, Bool.not_eq_true', decide_eq_false_iff_not] at h
  obtain ⟨h1, h2⟩ := h
  have e := clamp_nI h1
  have b := clamp_lt s
  obtain ⟨w1, w2⟩ := W.2.2.1
  refine ⟨s.toNatClampNeg, e.symm, ?_⟩
  rw [← e, w1] at h2
  have : s.toNatClampNeg < sN S := by
    rcases Nat.lt_or_ge s.toNatClampNeg (sN S) with g | g
    · exact g
    · exact absurd (nI_le g b) h2
  omega
theorem ty_isK (W : mW S) {s : Int32} (h : isK S s = true) : ∃ n, s = nI n ∧ n < sK S ∧ n < 6 := by
  unfold isK at h
  simp only [Bool.and_eq_true, Bool.not_eq_true', decide_eq_false_iff_not] at h
  obtain ⟨h1, h2⟩ := h
  have e := clamp_nI h1
  have b := clamp_lt s
  obtain ⟨w1, w2⟩ := W.2.1
  refine ⟨s.toNatClampNeg, e.symm, ?_⟩
  rw [← e, w1] at h2
  have : s.toNatClampNeg < sK S := by
    rcases Nat.lt_or_ge s.toNatClampNeg (sK S) with g | g
    · exact g
    · exact absurd (nI_le g b) h2
  omega
theorem ty_noS {s : Int32} (h : isS S s = false) : noS S s := by
  unfold isS at h
  unfold noS
  by_cases h1 : s < 0
  · exact Or.inl h1
  · by_cases h2 : S 5 ≤ s
    · exact Or.inr h2
    · simp [h1, h2] at h
theorem ty_noK {s : Int32} (h : isK S s = false) : noK S s := by
  unfold isK at h
  unfold noK
  by_cases h1 : s < 0
  · exact Or.inl h1
  · by_cases h2 : S 4 ≤ s
    · exact Or.inr h2
    · simp [h1, h2] at h
theorem ty_noB (W : mW S) {s k : Int32} (h : (isS S s && isK S k) = false) : noS S s ∨ (∃ s', s = nI s' ∧ s' < sN S) ∧ noK S k := by
  cases h1 : isS S s with
  | false => exact Or.inl (ty_noS h1)
  | true =>
    rw [h1] at h
    obtain ⟨n, e, b, -⟩ := ty_isS W h1
    exact Or.inr ⟨⟨n, e, b⟩, ty_noK h⟩
end
theorem ty_w {hi : Nat} (hh : hi < 2 ^ 31) (w : Int32) : (w.toInt < 0 ∨ (hi : Int) < w.toInt) ∨ ∃ k, k ≤ hi ∧ w = nI k := by
  by_cases h : w < 0
  · rw [Int32.lt_iff_toInt_lt] at h
    exact Or.inl (Or.inl h)
  · have e := clamp_nI h
    have b := clamp_lt w
    by_cases g : w.toNatClampNeg ≤ hi
    · exact Or.inr ⟨_, g, e.symm⟩
    · refine Or.inl (Or.inr ?_)
      have := nI_toInt b
      rw [e] at this
      omega
