/-! THE TIE: acts: what both keep -/
section
variable {h h' h1 h2 : jH} {x m c C k p l l' U U' L L' : Nat} {W : Nat → Prop} {S S' : Nat → Int32} {ow ow' : Nat → Nat} {fs : Nat → (Nat → Int64) → Int64} {K K' : Nat → Nat → Int32} {T T' tK tV : Nat → Nat} {IM : tyI} {F X F' X' : Int32}
theorem agx_wr {a : Nat} {f : Nat → Int32} (hw : W a) : agx W h (jwr h a f) := ⟨Nat.le_refl _, fun _ _ => rfl, fun b _ hn => ⟨jI_wr_n (fun e => hn (by rw [e]; exact hw)), rfl, rfl⟩⟩
theorem ty_sc_jR (hK : jK h' = jK h) (hR : jR h' = jR h) (H : ty_sc h x) : ty_sc h' x := by
  unfold ty_sc prI fsI crI stI at *
  rw [hK, hR]
  exact H
/-- cells of the camp -/
def eqM (S S' : Nat → Int32) : Prop := ∀ j, j < 10 ∨ (65 ≤ j ∧ j < 119) → S' j = S j
theorem ty_cm_M (e : eqM S S') (H : ty_cm h x c S ow) : ty_cm h x c S' ow := by
  obtain ⟨⟨a1, ⟨b1, b2, b3, b4, b5, b6⟩, ⟨d1, d2, d3⟩⟩, a3⟩ := H
  exact ⟨⟨a1, ⟨by rw [e 2 (by omega)]; exact b1, by rw [e 3 (by omega)]; exact b2, by rw [e 4 (by omega)]; exact b3, by rw [e 5 (by omega)]; exact b4, fun i hi => by rw [e _ (by omega)]; exact b5 i hi, fun i hi => by rw [e _ (by omega)]; exact b6 i hi⟩, ⟨by rw [e 0 (by omega)]; exact d1, by rw [e 1 (by omega)]; exact d2, fun i hi => by rw [e _ (by omega)]; exact d3 i hi⟩⟩, a3⟩
theorem ty_C_I (H : ty_C h x c C fs S F X ow l U K T L tK tV IM) (A : agx W h h') (how : ∀ a, a < jnx h → ow' a = ow a) (hR : ∀ a, x ≤ a → a < x + 26 → a ≠ x + 23 → a ≠ x + 24 → jR h' a = jR h a) (hw : ∀ a, W a → (x + 1 ≤ a ∧ a ≤ x + 2) ∨ a = x + 8 ∨ (x + 13 ≤ a ∧ a < x + 25) ∨ (x + 26 ≤ a ∧ a < x + 50) ∨ (x + 75 ≤ a ∧ 2 ≤ ow a ∧ ow a < 22)) (SC : ty_sc h' x) (V : stV h' (x + 13) S') (N : noV h' (x + 18) S') (e : eqM S S') (hF : jI h' (x + 8) 1 = F') (hX : jI h' (x + 8) 2 = X') (P : psI h' x ow' l' U' K') (TP : ty_tp h' x T' L') : ty_C h' x c C fs S' F' X' ow' l' U' K' T' L' tK tV IM := by
  obtain ⟨⟨a1, a2, a3⟩, ⟨a4, a5⟩, ⟨a6, a7⟩, ⟨a8, a9⟩, b1, b2, b3, b4, b5⟩ := H
  refine ⟨⟨ty_sk_of (fun a h1 h2 => A.2.1 a (by omega)) (fun a h1 h2 h3 h4 h5 h6 h7 => hR a h1 h2 h5 h6) (fun j _ => by rw [hR (x + 8) (by omega) (by omega) (by omega) (by omega)]) a1, SC, Nat.le_trans a3 A.1⟩, ⟨by rw [hR (x + 8) (by omega) (by omega) (by omega) (by omega)]; exact a4, ty_cm_M e (ty_cm_ag A how (fun a w g => by have := hw _ w; omega) a5)⟩, ⟨V, N⟩, ⟨hF, hX⟩, ty_ru_ag A a3 how (fun a w g => by have := hw _ w; omega) b1, P, ty_im_ag A a3 how (fun a w g => by have := hw _ w; omega) b3, TP, ty_tx_ag A a3 (fun a w => by have := hw _ w; omega) b5⟩
/-- what is undone -/
theorem und_G (e : eqG S S') {Z : Nat → Int32} : und S' Z = und S Z := by
  funext j
  unfold und
  by_cases hj : 10 ≤ j ∧ j < 10 + 55
  · rw [jput_in hj.1 hj.2, jput_in hj.1 hj.2]
  · rw [jput_out (by omega), jput_out (by omega)]
    exact e j (by omega)
theorem und_self (e : eqG S S') : und S' S = S := by
  funext j
  unfold und
  by_cases hj : 10 ≤ j ∧ j < 10 + 55
  · rw [jput_in hj.1 hj.2]
    show S (10 + (j - 10)) = S j
    rw [show 10 + (j - 10) = j by omega]
  · rw [jput_out (by omega)]
    exact e j (by omega)
theorem kp_P {G : (Nat → Int32) → Prop} (e : eqG S S') (hU : U ≤ 20) (g : ∀ i, i < U → G (und S (K i))) (gS : G S) : ∀ i, i < kpU U → G (und S' (kpK K S U i)) := by
  intro i hi
  unfold kpU at hi
  unfold kpK
  by_cases h20 : U = 20
  · rw [if_pos h20] at hi ⊢
    by_cases h19 : i = 19
    · rw [if_pos h19, und_self e]; exact gS
    · rw [if_neg h19, und_G e]; exact g (i + 1) (by omega)
  · rw [if_neg h20] at hi ⊢
    by_cases hu : i = U
    · rw [if_pos hu, und_self e]; exact gS
    · rw [if_neg hu, und_G e]; exact g i (by omega)
theorem kp_R {w : Nat → Int32} (hU : U ≤ 20) (g : ∀ i j, i < U → j < 55 → w (55 * i + j) = K i (10 + j)) : ∀ i j, i < kpU U → j < 55 → mkRow w S U (55 * i + j) = kpK K S U i (10 + j) := by
  intro i j hi hj
  unfold kpU at hi
  unfold kpK mkRow
  by_cases h20 : U = 20
  · rw [if_pos h20] at hi
    rw [if_pos h20, if_pos h20]
    by_cases h19 : i = 19
    · subst h19
      rw [jput_in (by omega) (by omega), if_pos rfl]
      show S (10 + (55 * 19 + j - 1045)) = S (10 + j)
      rw [show 55 * 19 + j - 1045 = j by omega]
    · rw [jput_out (by omega), jput_in (by omega) (by omega), if_neg h19]
      show w (55 * i + j - 0 + 55) = _
      rw [show 55 * i + j - 0 + 55 = 55 * (i + 1) + j by omega]
      exact g (i + 1) j (by omega) hj
  · rw [if_neg h20] at hi
    rw [if_neg h20, if_neg h20]
    by_cases hu : i = U
    · subst hu
      rw [jput_in (by omega) (by omega), if_pos rfl]
      show S (10 + (55 * i + j - 55 * i)) = S (10 + j)
      rw [show 55 * i + j - 55 * i = j by omega]
    · rw [jput_out (by omega), if_neg hu]
      exact g i j (by omega) hj
/-- the reference, behind an act -/
theorem ty_R_kp (H : ty_R h m C fs S F X U K T L IM) (hU : U ≤ 20) : ty_R (jwr (mKeep h m) (m + 10) S') m C fs S' F X (kpU U) (kpK K S U) T L IM ∧ frg m (m + 25) h (jwr (mKeep h m) (m + 10) S') := by
  obtain ⟨⟨p1, p2, p3⟩, a2, a3, ⟨b1, b2, b3, b4, b5, b6⟩, a5, a6⟩ := H
  have eU : sU (jI h m) = U := by
    unfold sU
    rw [b6]
    exact nI_clamp (by omega)
  have eU2 : mkU U = kpU U := rfl
  unfold mKeep
  rw [eU, a2, eU2]
  generalize hg : jwr (jwr (jwr h (m + 12) (mkRow (jI h (m + 12)) S U)) m (upd (jI h m) 28 (nI (kpU U)))) (m + 10) S' = g
  have gK : jK g = jK h := by rw [← hg]; rfl
  have gR : jR g = jR h := by rw [← hg]; rfl
  have g0 : jI g m = upd (jI h m) 28 (nI (kpU U)) := by rw [← hg, jI_wr_n (by omega), jI_wr_s]
  have g10 : jI g (m + 10) = S' := by rw [← hg, jI_wr_s]
  have g12 : jI g (m + 12) = mkRow (jI h (m + 12)) S U := by rw [← hg, jI_wr_n (by omega), jI_wr_n (by omega), jI_wr_s]
  have gi : ∀ i, i ≠ 0 → i ≠ 10 → i ≠ 12 → jI g (m + i) = jI h (m + i) := fun i h1 h2 h3 => by rw [← hg, jI_wr_n (by omega), jI_wr_n (by omega), jI_wr_n (by omega)]
  have fr : frg m (m + 25) h g := by
    rw [← hg]
    exact frg_wr (by omega) (by omega) (frg_wr (by omega) (by omega) (frg_wr (by omega) (by omega) frg_refl))
  clear hg
  have f : ∀ i, i ≠ 28 → jI g m i = jI h m i := fun i hi => by rw [g0, upd_n hi]
  refine ⟨⟨⟨mInv_of (fun a _ _ => by rw [gK]) (by rw [gR]) p1, by rw [f 1 (by omega)]; exact p2, by rw [gi 1 (by omega) (by omega) (by omega)]; exact p3⟩, g10, mRs_of (f 2 (by omega)) (gi 2 (by omega) (by omega) (by omega)) (gi 4 (by omega) (by omega) (by omega)) (gi 5 (by omega) (by omega) (by omega)) a3, ⟨by rw [f 21 (by omega)]; exact b1, by rw [f 22 (by omega)]; exact b2, by rw [f 23 (by omega)]; exact b3, by rw [f 24 (by omega)]; exact b4, by rw [f 25 (by omega)]; exact b5, by rw [g0, upd_s]⟩, fun i j hi hj => by rw [g12]; exact kp_R hU a5 i j hi hj, fun k hk => ty_ri_of (fun i h1 h2 => gi i (by omega) (by omega) (by omega)) (a6 k hk)⟩, fr⟩
/-- both, behind an act -/
theorem ty_C_kp (H : ty_C h x c C fs S F X ow l U K T L tK tV IM) (A : agx (kW x ow l) h h1) (how : ∀ a, a < jnx h → ow' a = ow a) (A1 : aw h1 x c S ow' ((l + 1) % 20) (kpU U) (kpK K S U)) (G : frm (x + 13) (x + 18) h1 h2) (V : stV h2 (x + 13) S') (e : eqG S S') : ty_C h2 x c C fs S' F X ow' ((l + 1) % 20) (kpU U) (kpK K S U) T L tK tV IM := by
  have H' := H
  obtain ⟨⟨a1, a2, a3⟩, ⟨a4, a5⟩, ⟨a6, a7⟩, ⟨a8, a9⟩, b1, b2, b3, b4, b5⟩ := H
  have hl : (l + 1) % 20 < 20 := Nat.mod_lt _ (by omega)
  have A2 : agx (fun a => kW x ow l a ∨ (x + 13 ≤ a ∧ a < x + 18)) h h2 := agx_trans (agx_wid A (fun a _ w => Or.inl w)) (agx_frm G (fun a h1 h2 => Or.inr ⟨h1, h2⟩))
  have kw : ∀ a, kW x ow l a → a = x + 23 ∨ a = x + 24 ∨ (x + 75 ≤ a ∧ 2 ≤ ow a ∧ ow a < 22) := fun a w => by
    rcases w with w | w | w
    · exact Or.inl w
    · exact Or.inr (Or.inl w)
    · exact Or.inr (Or.inr (by omega))
  have nw : ∀ a, a < x + 23 → ¬ kW x ow l a := fun a ha w => by have := kw a w; omega
  have nn : noV h1 (x + 18) S := (agx_no A (by omega) (fun a h1 h2 => nw a (by omega)) ⟨a1.2.2.2.1, a7⟩).2
  refine ty_C_I H' A2 how (fun a h1 h2 h3 h4 => ?_) (fun a w => ?_) (ty_sc_ag A2 a3 (fun a w g => ?_) a2) V ?_ (fun j hj => e j (by omega)) ?_ ?_ ?_ (ty_tp_ag A2 a3 (fun a w g => ?_) b4)
  · rw [G.1.2.2.2.1]
    exact (A.2.2 a (by omega) (fun w => by have := kw a w; omega)).2.2
  · rcases w with w | w
    · have := kw a w; omega
    · omega
  · rcases w with w | w
    · have := kw a w; omega
    · omega
  · have := noV_G (T := S') e nn
    unfold noV at *
    rw [G.2 (x + 18) (by omega), G.2 (x + 18 + 1) (by omega), G.2 (x + 18 + 2) (by omega), G.2 (x + 18 + 3) (by omega), G.2 (x + 18 + 4) (by omega)]
    exact this
  · rw [G.2 (x + 8) (by omega), (A.2.2 (x + 8) (by omega) (nw _ (by omega))).1]; exact a8
  · rw [G.2 (x + 8) (by omega), (A.2.2 (x + 8) (by omega) (nw _ (by omega))).1]; exact a9
  · have ps := A1.2.2.2.1
    refine ty_ps_ag (W := fun a => x + 13 ≤ a ∧ a < x + 18) (agx_frm G (fun a h1 h2 => ⟨h1, h2⟩)) A1.2.2.2.2.1.1 (fun _ _ => rfl) (fun a w g => by omega) ps
  · rcases w with w | w
    · have := kw a w; omega
    · omega
end
