/-! THE TIE: both halves -/
def ty_C (h : jH) (x c C : Nat) (fs : Nat → (Nat → Int64) → Int64) (S : Nat → Int32) (F X : Int32) (ow : Nat → Nat) (l U : Nat) (K : Nat → Nat → Int32) (T : Nat → Nat) (L : Nat) (tK tV : Nat → Nat) (IM : tyI) : Prop := (ty_sk h x ∧ ty_sc h x ∧ x + 75 ≤ jnx h) ∧ (jR h (x + 8) 0 = some c ∧ ty_cm h x c S ow) ∧ (stV h (x + 13) S ∧ noV h (x + 18) S) ∧ (jI h (x + 8) 1 = F ∧ jI h (x + 8) 2 = X) ∧ ty_ru h x C fs ow ∧ psI h x ow l U K ∧ ty_im h x IM ow ∧ ty_tp h x T L ∧ ty_tx h x tK tV
def und (S K : Nat → Int32) : Nat → Int32 := jput S (fun j => K (10 + j)) 10 55
def ty_gd (S : Nat → Int32) : Prop := oS S ∧ nO S ∧ tS S ∧ sD S ≤ 999 ∧ (S 0 = 0 ∨ S 0 = 1)
def ty_F (C : Nat) (F : Int32) : Prop := F = -1 ∨ ∃ t, t < C ∧ F = nI t
def ty_P (C : Nat) (S : Nat → Int32) (F X : Int32) (U : Nat) (K : Nat → Nat → Int32) (IM : tyI) : Prop := ty_gd S ∧ ty_F C F ∧ ¬ X < 0 ∧ (∀ i, i < U → oS (und S (K i)) ∧ sD (und S (K i)) ≤ 999) ∧ ∀ k q, k < 4 → IM k = some q → ty_gd q.1 ∧ ty_F C q.2.1 ∧ ¬ q.2.2 < 0
def ty_ri (h : jH) (m k : Nat) : Option ((Nat → Int32) × Int32 × Int32) → Prop
  | none => jI h (m + 24) k = 0
  | some q => ¬ jI h (m + 24) k = 0 ∧ (∀ i, i < 160 → jI h (m + 21) (160 * k + i) = q.1 i) ∧ jI h (m + 22) k = q.2.1 ∧ jI h (m + 23) k = q.2.2
def ty_R (h : jH) (m C : Nat) (fs : Nat → (Nat → Int64) → Int64) (S : Nat → Int32) (F X : Int32) (U : Nat) (K : Nat → Nat → Int32) (T : Nat → Nat) (L : Nat) (IM : tyI) : Prop := pX h m T L ∧ jI h (m + 10) = S ∧ mRs h m C fs ∧ (jI h m 21 = F ∧ jI h m 22 = X ∧ jI h m 23 = -1 ∧ jI h m 24 = 0 ∧ jI h m 25 = 0 ∧ jI h m 28 = nI U) ∧ (∀ i j, i < U → j < 55 → jI h (m + 12) (55 * i + j) = K i (10 + j)) ∧ ∀ k, k < 4 → ty_ri h m k (IM k)
def ty_rv (C : Nat) (fs : Nat → (Nat → Int64) → Int64) (F : Int32) (rv : Option ((Nat → Int64) → Int64)) : Prop := (F = -1 ∧ rv = none) ∨ ∃ t, t < C ∧ F = nI t ∧ rv = some (fs t)
/-- scratch of the reference -/
def rq (m : Nat) (h h' : jH) : Prop := frg m (m + 25) h h' ∧ jR h' = jR h ∧ (∀ i, (i = 1 ∨ i = 2 ∨ (21 ≤ i ∧ i ≤ 25) ∨ i = 28) → jI h' m i = jI h m i) ∧ ∀ i, (i = 1 ∨ i = 2 ∨ i = 4 ∨ i = 5 ∨ i = 10 ∨ i = 12 ∨ (21 ≤ i ∧ i ≤ 24)) → jI h' (m + i) = jI h (m + i)
section
variable {h h' h1 : jH} {x m c C k p l U L : Nat} {W : Nat → Prop} {S : Nat → Int32} {ow ow' : Nat → Nat} {fs : Nat → (Nat → Int64) → Int64} {K : Nat → Nat → Int32} {T tK tV : Nat → Nat} {IM : tyI} {F X : Int32}
theorem rq_refl : rq m h h := ⟨frg_refl, rfl, fun _ _ => rfl, fun _ _ => rfl⟩
theorem rq_trans (A : rq m h h1) (B : rq m h1 h') : rq m h h' := ⟨frg_trans A.1 B.1, B.2.1.trans A.2.1, fun i hi => (B.2.2.1 i hi).trans (A.2.2.1 i hi), fun i hi => (B.2.2.2 i hi).trans (A.2.2.2 i hi)⟩
theorem rq_sc {tp : Int32} {st wd : Nat → Int64} : rq m h (mSc m h tp st wd) := by
  refine ⟨⟨⟨rfl, rfl, rfl⟩, fun a ha => ⟨jur_ne (by omega), ?_, rfl⟩⟩, rfl, fun i hi => ?_, fun i hi => jur_ne (by omega)⟩
  · show jur (jur (jJ h) (m + 8) st) (m + 9) wd a = _
    rw [jur_ne (by omega), jur_ne (by omega)]
  · show jur (jI h) m (upd (jI h m) 18 tp) m i = _
    rw [jur_eq, upd_n (by omega)]
theorem rq_wr {j : Nat} {f : Nat → Int32} (hj : j < 25) (hn : ¬ (j = 0 ∨ j = 1 ∨ j = 2 ∨ j = 4 ∨ j = 5 ∨ j = 10 ∨ j = 12 ∨ (21 ≤ j ∧ j ≤ 24))) : rq m h (jwr h (m + j) f) := ⟨frg_wr (by omega) (by omega) frg_refl, rfl, fun i hi => by rw [jI_wr_n (by omega)], fun i hi => by rw [jI_wr_n (by omega)]⟩
theorem rq_wm {f : Nat → Int32} (hf : ∀ i, (i = 1 ∨ i = 2 ∨ (21 ≤ i ∧ i ≤ 25) ∨ i = 28) → f i = jI h m i) : rq m h (jwr h m f) := ⟨frg_wr (by omega) (by omega) frg_refl, rfl, fun i hi => by rw [jI_wr_s]; exact hf i hi, fun i hi => by rw [jI_wr_n (by omega)]⟩
theorem rq_wJ {k : Nat} {v : Int64} : rq m h (jwJ h m k v) := by
  rw [jwJ_row]
  exact ⟨frg_wj (by omega) (by omega) frg_refl, rfl, fun i _ => rfl, fun i _ => rfl⟩
theorem mInv_of (hK : ∀ a, m ≤ a → a < m + 25 → jK h' a = jK h a) (hR : jR h' m = jR h m) (H : mInv h m) : mInv h' m := by
  have hb : ∀ q ∈ mArr, q.2.1 < 25 := by decide
  refine ⟨by rw [hK m (by omega) (by omega)]; exact H.1, fun q hq => ?_⟩
  have := hb q hq
  rw [hR, hK (m + q.2.1) (by omega) (by omega)]
  exact H.2 q hq
theorem mRs_of (e : jI h' m 2 = jI h m 2) (e2 : jI h' (m + 2) = jI h (m + 2)) (e4 : jI h' (m + 4) = jI h (m + 4)) (e5 : jI h' (m + 5) = jI h (m + 5)) (H : mRs h m C fs) : mRs h' m C fs := by
  unfold mRs mRl mRul at *
  rw [e, e2, e4, e5]
  exact H
theorem ty_ri_of {o : Option ((Nat → Int32) × Int32 × Int32)} (e : ∀ i, 21 ≤ i → i ≤ 24 → jI h' (m + i) = jI h (m + i)) (H : ty_ri h m k o) : ty_ri h' m k o := by
  cases o with
  | none =>
    show jI h' (m + 24) k = 0
    rw [e 24 (by omega) (by omega)]
    exact H
  | some q =>
    unfold ty_ri at *
    simp only [e 24 (by omega) (by omega), e 21 (by omega) (by omega), e 22 (by omega) (by omega), e 23 (by omega) (by omega)]
    exact H
theorem ty_R_of (hK : ∀ a, m ≤ a → a < m + 25 → jK h' a = jK h a) (hR : jR h' m = jR h m) (hf : ∀ i, (i = 1 ∨ i = 2 ∨ (21 ≤ i ∧ i ≤ 25) ∨ i = 28) → jI h' m i = jI h m i) (hr : ∀ i, (i = 1 ∨ i = 2 ∨ i = 4 ∨ i = 5 ∨ i = 10 ∨ i = 12 ∨ (21 ≤ i ∧ i ≤ 24)) → jI h' (m + i) = jI h (m + i)) (H : ty_R h m C fs S F X U K T L IM) : ty_R h' m C fs S F X U K T L IM := by
  obtain ⟨⟨p1, p2, p3⟩, a2, a3, ⟨b1, b2, b3, b4, b5, b6⟩, a5, a6⟩ := H
  refine ⟨⟨mInv_of hK hR p1, by rw [hf 1 (by omega)]; exact p2, by rw [hr 1 (by omega)]; exact p3⟩, by rw [hr 10 (by omega)]; exact a2, mRs_of (hf 2 (by omega)) (hr 2 (by omega)) (hr 4 (by omega)) (hr 5 (by omega)) a3, ⟨by rw [hf 21 (by omega)]; exact b1, by rw [hf 22 (by omega)]; exact b2, by rw [hf 23 (by omega)]; exact b3, by rw [hf 24 (by omega)]; exact b4, by rw [hf 25 (by omega)]; exact b5, by rw [hf 28 (by omega)]; exact b6⟩, by rw [hr 12 (by omega)]; exact a5, fun k hk => ty_ri_of (fun i h1 h2 => hr i (by omega)) (a6 k hk)⟩
theorem ty_R_rq (A : rq m h h') (H : ty_R h m C fs S F X U K T L IM) : ty_R h' m C fs S F X U K T L IM := ty_R_of (fun a _ _ => by rw [A.1.1.2.2]) (by rw [A.2.1]) A.2.2.1 A.2.2.2 H
theorem ty_R_ag (A : agx W h h') (hn : m + 25 ≤ jnx h) (hw : ∀ a, W a → ¬ (m ≤ a ∧ a < m + 25)) (H : ty_R h m C fs S F X U K T L IM) : ty_R h' m C fs S F X U K T L IM := by
  have e : ∀ a, m ≤ a → a < m + 25 → jI h' a = jI h a ∧ jJ h' a = jJ h a ∧ jR h' a = jR h a := fun a h1 h2 => A.2.2 a (by omega) (fun w => hw a w ⟨h1, h2⟩)
  exact ty_R_of (fun a h1 h2 => A.2.1 a (by omega)) (e m (by omega) (by omega)).2.2 (fun i _ => by rw [(e m (by omega) (by omega)).1]) (fun i hi => (e (m + i) (by omega) (by omega)).1) H
/-- what the reference writes leaves the class -/
theorem ty_C_ag (A : agx W h h') (hw : ∀ a, W a → x + 50 ≤ a ∧ a < x + 75) (H : ty_C h x c C fs S F X ow l U K T L tK tV IM) : ty_C h' x c C fs S F X ow l U K T L tK tV IM := by
  obtain ⟨⟨a1, a2, a3⟩, ⟨a4, a5⟩, ⟨a6, a7⟩, ⟨a8, a9⟩, b1, b2, b3, b4, b5⟩ := H
  have ho : ∀ a, a < jnx h → ow a = ow a := fun _ _ => rfl
  have e8 := A.2.2 (x + 8) (by omega) (fun w => by have := hw _ w; omega)
  exact ⟨⟨ty_sk_ag A a3 (fun a h1 h2 _ _ _ _ w => by have := hw _ w; omega) a1, ty_sc_ag A a3 (fun a w g => by have := hw _ w; omega) a2, Nat.le_trans a3 A.1⟩, ⟨by rw [e8.2.2]; exact a4, ty_cm_ag A ho (fun a w g => by have := hw _ w; omega) a5⟩, ⟨agx_stV A (by omega) (fun a h1 h2 w => by have := hw _ w; omega) a6, (agx_no A (by omega) (fun a h1 h2 w => by have := hw _ w; omega) ⟨a1.2.2.2.1, a7⟩).2⟩, ⟨by rw [e8.1]; exact a8, by rw [e8.1]; exact a9⟩, ty_ru_ag A a3 ho (fun a w g => by have := hw _ w; omega) b1, ty_ps_ag A a3 ho (fun a w g => by have := hw _ w; omega) b2, ty_im_ag A a3 ho (fun a w g => by have := hw _ w; omega) b3, ty_tp_ag A a3 (fun a w g => by have := hw _ w; omega) b4, ty_tx_ag A a3 (fun a w => by have := hw _ w; omega) b5⟩
theorem ty_C_frg (G : frg (x + 50) (x + 75) h h') (H : ty_C h x c C fs S F X ow l U K T L tK tV IM) : ty_C h' x c C fs S F X ow l U K T L tK tV IM := ty_C_ag (W := fun a => x + 50 ≤ a ∧ a < x + 75) (agx_frg G (fun a h1 h2 => ⟨h1, h2⟩)) (fun a w => w) H
/-- what questions leave -/
theorem ty_C_scr (G : scr x h h') (H : ty_C h x c C fs S F X ow l U K T L tK tV IM) : ty_C h' x c C fs S F X ow l U K T L tK tV IM := by
  obtain ⟨G, p1, p2⟩ := G
  have A : agx (fun a => x + 26 ≤ a ∧ a < x + 50) h h' := agx_frg G (fun a h1 h2 => ⟨h1, h2⟩)
  obtain ⟨⟨a1, a2, a3⟩, ⟨a4, a5⟩, ⟨a6, a7⟩, ⟨a8, a9⟩, b1, b2, b3, b4, b5⟩ := H
  have ho : ∀ a, a < jnx h → ow a = ow a := fun _ _ => rfl
  have e8 := A.2.2 (x + 8) (by omega) (fun w => by omega)
  exact ⟨⟨ty_sk_ag A a3 (fun a h1 h2 _ _ _ _ w => by omega) a1, ⟨p1, p2⟩, Nat.le_trans a3 A.1⟩, ⟨by rw [e8.2.2]; exact a4, ty_cm_ag A ho (fun a w g => by omega) a5⟩, ⟨agx_stV A (by omega) (fun a h1 h2 w => by omega) a6, (agx_no A (by omega) (fun a h1 h2 w => by omega) ⟨a1.2.2.2.1, a7⟩).2⟩, ⟨by rw [e8.1]; exact a8, by rw [e8.1]; exact a9⟩, ty_ru_ag A a3 ho (fun a w g => by omega) b1, ty_ps_ag A a3 ho (fun a w g => by omega) b2, ty_im_ag A a3 ho (fun a w g => by omega) b3, ty_tp_ag A a3 (fun a w g => by omega) b4, ty_tx_ag A a3 (fun a w => by omega) b5⟩
/-- the world of the questions -/
theorem ty_wx (H : ty_C h x c C fs S F X ow l U K T L tK tV IM) (G : ty_gd S) (E : ty_F C F) : ∃ rr rv, wx h x c C fs S F rr rv ∧ ty_rv C fs F rv := by
  obtain ⟨⟨⟨s1, ⟨s2, s3, s4⟩, s5, s6, s7, s8, s9⟩, ⟨a2, a2'⟩, a3⟩, ⟨a4, a5⟩, ⟨a6, a7⟩, ⟨a8, a9⟩, ⟨b1, b2, b3⟩, -, -, -, -⟩ := H
  obtain ⟨g1, g2, g3, g4, g5⟩ := G
  obtain ⟨c1, c2, c3⟩ := a5
  have hc : c + 4 ≤ x + 26 ∨ x + 50 ≤ c := by
    have w0 := c3 c (Nat.le_refl _) (by omega)
    have w3 := c3 (c + 3) (by omega) (by omega)
    omega
  have rl : rlI h (x + 7) C fs (x + 35) := ⟨s7, b1.2, fun t ht => by
    obtain ⟨r, r1, r2, r3, r4, r5⟩ := b2 t ht
    exact ⟨r, r1, r2, by omega⟩, b3, by omega⟩
  have mk : ∀ rr rv, rvI h (x + 35 + 1) rr rv → fcI h x C fs F rr rv → (∀ r, rr = some r → r + 4 ≤ x + 35 ∨ x + 35 + 15 ≤ r) → wx h x c C fs S F rr rv := fun rr rv v1 v2 v3 => ⟨⟨s1, b1.1⟩, ⟨⟨s2, a4, s3⟩, ⟨s5, a6⟩, c1, a2', v1, g1, by omega, by omega, v3⟩, ⟨s4, s6, a7, g2, g3⟩, rl, a2, by omega, ⟨a8, v2⟩, g4, g5⟩
  rcases E with e | ⟨t, ht, e⟩
  · exact ⟨none, none, mk _ _ trivial (Or.inl ⟨e, rfl, rfl⟩) (fun r hr => by cases hr), Or.inl ⟨e, rfl⟩⟩
  · obtain ⟨r, r1, r2, r3, r4, r5⟩ := b2 t ht
    exact ⟨some r, some (fs t), mk _ _ ⟨r2, by omega⟩ (Or.inr ⟨t, ht, e, r1, rfl⟩) (fun r' hr => by cases hr; omega), Or.inr ⟨t, ht, e, rfl⟩⟩
/-- the world of the acts -/
theorem ty_aw (H : ty_C h x c C fs S F X ow l U K T L tK tV IM) : aw h x c S ow l U K := by
  obtain ⟨⟨⟨s1, ⟨s2, s3, s4⟩, s5, s6, s7, s8, s9⟩, ⟨a2, a2'⟩, a3⟩, ⟨a4, a5⟩, ⟨a6, a7⟩, ⟨a8, a9⟩, ⟨b1, b2, b3⟩, ps, -, -, -⟩ := H
  exact ⟨⟨s1, by rw [s2], a4, s3⟩, a5.1, ⟨s5, a6⟩, ps, ⟨a3, a5.2.1⟩, a5.2.2⟩
/-- the reference's world -/
theorem ty_mb {rv : Option ((Nat → Int64) → Int64)} (H : ty_R h m C fs S F X U K T L IM) (V : ty_rv C fs F rv) : mBase h m rv 0 noP := by
  obtain ⟨⟨p1, p2, p3⟩, a2, ⟨⟨a3, a3'⟩, a4⟩, ⟨b1, b2, b3, b4, b5, b6⟩, -, -⟩ := H
  refine ⟨p1, ?_, fun s hs => ?_, fun s k w => (by cases w), b3, b4⟩
  · rcases V with ⟨e, v⟩ | ⟨t, ht, e, v⟩
    · subst v
      exact b1.trans e
    · subst v
      exact ⟨t, by omega, b1.trans e, a4 t ht⟩
  · show ¬ (jI h m 25 >>> (nI s &&& 31) &&& 1 = 1)
    rw [b5]
    rcases (by omega : s = 0 ∨ s = 1 ∨ s = 2 ∨ s = 3 ∨ s = 4 ∨ s = 5) with e | e | e | e | e | e <;> subst e <;> decide
end
