/-! THE TIE: a rule, in both -/
section
variable {g h h' : jH} {m R t : Nat} {cl cs f : Nat → Int32} {c : List Nat} {nx w nb md dp li od : Nat} {F : (Nat → Int64) → Int64}
theorem ru_H {g2 : jH} (e2 : ∀ a, a ≠ m → jI g2 a = jI g a) (eK : jK g2 = jK g) (eR : jR g2 = jR g) (eF : frg m (m + 25) g g2) : (jI (pH (rG (kG g2 m cl cs f) m R c) m nx w nb md dp li od) (m + 2) = pSg (jI g (m + 2)) R c ∧ jI (pH (rG (kG g2 m cl cs f) m R c) m nx w nb md dp li od) (m + 4) = cl ∧ jI (pH (rG (kG g2 m cl cs f) m R c) m nx w nb md dp li od) (m + 5) = cs) ∧ (∀ i, (i = 1 ∨ i = 10 ∨ i = 12 ∨ (21 ≤ i ∧ i ≤ 24)) → jI (pH (rG (kG g2 m cl cs f) m R c) m nx w nb md dp li od) (m + i) = jI g (m + i)) ∧ (∀ i, (i = 1 ∨ i = 2 ∨ (21 ≤ i ∧ i ≤ 25) ∨ i = 28) → jI (pH (rG (kG g2 m cl cs f) m R c) m nx w nb md dp li od) m i = jI g2 m i) ∧ frg m (m + 25) g (pH (rG (kG g2 m cl cs f) m R c) m nx w nb md dp li od) ∧ jK (pH (rG (kG g2 m cl cs f) m R c) m nx w nb md dp li od) = jK g ∧ jR (pH (rG (kG g2 m cl cs f) m R c) m nx w nb md dp li od) = jR g := by
  refine ⟨⟨?_, ?_, ?_⟩, fun i hi => ?_, fun i hi => ?_, ?_, eK, eR⟩
  · unfold pH rG kG
    rw [jI_wr_n (by omega), jI_wr_n (by omega), jI_wr_s, jI_wr_n (by omega), jI_wr_n (by omega), jI_wr_n (by omega), e2 _ (by omega)]
  · unfold pH rG kG
    rw [jI_wr_n (by omega), jI_wr_n (by omega), jI_wr_n (by omega), jI_wr_n (by omega), jI_wr_n (by omega), jI_wr_s]
  · unfold pH rG kG
    rw [jI_wr_n (by omega), jI_wr_n (by omega), jI_wr_n (by omega), jI_wr_n (by omega), jI_wr_s]
  · unfold pH rG kG
    rw [jI_wr_n (by omega), jI_wr_n (by omega), jI_wr_n (by omega), jI_wr_n (by omega), jI_wr_n (by omega), jI_wr_n (by omega), e2 _ (by omega)]
  · rw [pH_m]
    have e : ∀ G : Nat → Int32, pF G nx w nb md dp li od i = G i := fun G => by
      unfold pF
      rw [if_neg (by omega), if_neg (by omega), if_neg (by omega), if_neg (by omega), if_neg (by omega), if_neg (by omega), if_neg (by omega)]
    rw [e]
    unfold rG kG
    rw [jI_wr_n (by omega), jI_wr_n (by omega), jI_wr_n (by omega), jI_wr_n (by omega), jI_wr_n (by omega)]
  · unfold pH rG kG
    exact frg_trans eF (frg_wr (by omega) (by omega) (frg_wr (by omega) (by omega) (frg_wr (by omega) (by omega) (frg_wr (by omega) (by omega) (frg_wr (by omega) (by omega) (frg_wr (by omega) (by omega) frg_refl))))))
theorem mRl_of (e2 : ∀ i, i < 400 → jI h' (m + 2) (400 * t + i) = jI h (m + 2) (400 * t + i)) (e4 : ∀ i, i < 48 → jI h' (m + 4) (48 * t + i) = jI h (m + 4) (48 * t + i)) (e5 : jI h' (m + 5) t = jI h (m + 5) t) (H : mRl h m t F) : mRl h' m t F := by
  obtain ⟨n, cd, cl, ⟨⟨a1, a2⟩, M, hM, a3, a4⟩, hf⟩ := H
  refine ⟨n, cd, cl, ⟨⟨by rw [e5]; exact a1, a2⟩, M, hM, fun i hi => by rw [e2 i (by omega)]; exact a3 i hi, fun k hk => ?_⟩, hf⟩
  obtain ⟨⟨b1, b2, b3, b4⟩, b5⟩ := a4 k hk
  refine ⟨⟨by rw [e4 (4 * k) (by omega)]; exact b1, by rw [Nat.add_assoc, e4 (4 * k + 1) (by omega)]; exact b2, b3, b4⟩, ?_⟩
  cases hq : (cl k).2.2 with
  | none =>
    rw [hq] at b5
    show jI h' (m + 4) (48 * t + 4 * k + 2) = -1
    rw [Nat.add_assoc, e4 (4 * k + 2) (by omega)]
    exact b5
  | some q =>
    rw [hq] at b5
    obtain ⟨c1, c2, c3, c4⟩ := b5
    exact ⟨by rw [Nat.add_assoc, e4 (4 * k + 2) (by omega)]; exact c1, by rw [Nat.add_assoc, e4 (4 * k + 3) (by omega)]; exact c2, c3, c4⟩
/-- a rule that was read, as the reference keeps it -/
theorem mRl_mk {T : Nat → Nat} {L : Nat} (hL : L ≤ 400) {q : List Nat × List ruC} (hq : aRul T L (L + 1) 0 0 [] [] = .ok q) {cl0 : Nat → Int32} {f2 : Nat → Int32} (e2 : jI h' (m + 2) = pSg f2 R q.1) (e4 : jI h' (m + 4) = cl) (hc : clR cl0 cl R q.2) (e5 : jI h' (m + 5) R = nI q.2.length) {f : (Nat → Int64) → Int64} (hf : ∀ wd, mcx (fun j => q.1.getD j 0) (fun i => q.2.getD i (0, 0, none)) wd q.2.length 0 = some (f (w12 wd))) : mRl h' m R f := by
  obtain ⟨⟨l1, l2, l3, l4⟩, -⟩ := ru_ok hq
  refine ⟨q.2.length, _, _, ⟨⟨e5, l2⟩, q.1.length, by omega, fun i hi => ⟨?_, ?_⟩, fun k hk => ?_⟩, fun wd => mcx_mcl _ _ (hf wd)⟩
  · rw [e2]
    unfold pSg
    rw [jput_in (by omega) (by omega)]
    show nI (q.1.getD (400 * R + i - 400 * R) 0) = _
    rw [show 400 * R + i - 400 * R = i by omega]
  · have : q.1.getD i 0 ∈ q.1 := by
      rw [List.getD_eq_getElem?_getD, List.getElem?_eq_getElem hi]
      exact List.getElem_mem hi
    exact l3 _ this
  · have hk' : q.2[k]? = some (q.2.getD k (0, 0, none)) := by
      rw [List.getD_eq_getElem?_getD, List.getElem?_eq_getElem hk]
      rfl
    have hm : q.2.getD k (0, 0, none) ∈ q.2 := by
      rw [List.getD_eq_getElem?_getD, List.getElem?_eq_getElem hk]
      exact List.getElem_mem hk
    obtain ⟨c1, c2, -, c4⟩ := l4 _ hm
    obtain ⟨⟨d1, d2⟩, d3⟩ := hc.2 k _ hk'
    show (jI h' (m + 4) (48 * R + 4 * k) = nI (q.2.getD k (0, 0, none)).1 ∧ _) ∧ _
    rw [e4]
    refine ⟨⟨d1, d2, c1, c2⟩, ?_⟩
    generalize q.2.getD k (0, 0, none) = e at *
    obtain ⟨x1, x2, o⟩ := e
    cases o with
    | none => exact d3
    | some y =>
      obtain ⟨t1, t2, t3, t4⟩ := c4
      have t1 : y.1 = x2 := t1
      exact ⟨d3.1, d3.2, by omega, t3⟩
/-- a rule that was read, as the class keeps it -/
theorem xRl_mk {r a L : Nat} {T : Nat → Nat} (hL : L ≤ 400) {q : List Nat × List ruC} (hq : aRul T L (L + 1) 0 0 [] [] = .ok q) {md : Nat} (C : cdI g r md q.1) (S : sKl g r q.2) {h2 : jH} (ha : jnx g = a) (M : mkR g h2 r q.1.length (nI q.2.length)) (e : ∀ b, a ≤ b → jK h' b = jK h2 b ∧ jI h' b = jI h2 b ∧ jR h' b = jR h2 b) {f : (Nat → Int64) → Int64} (hf : ∀ wd, mcx (fun j => q.1.getD j 0) (fun i => q.2.getD i (0, 0, none)) wd q.2.length 0 = some (f (w12 wd))) : xRl h' a f := by
  obtain ⟨⟨l1, l2, l3, l4⟩, -⟩ := ru_ok hq
  obtain ⟨-, ⟨m1, m2, m3, m4, m5⟩, ⟨m6, m7⟩, ⟨m8, m9⟩, m10, m11⟩ := M
  rw [ha] at m1 m2 m3 m4 m5 m6 m7 m8 m9 m10 m11
  refine ⟨q.2.length, q.1.length, _, _, ⟨by rw [(e a (by omega)).1]; exact m1, ⟨by rw [(e a (by omega)).2.2]; exact m3, by rw [(e (a + 1) (by omega)).1]; exact m6, by omega, fun i hi => ⟨?_, ?_⟩⟩, ⟨by rw [(e a (by omega)).2.2]; exact m4, by rw [(e (a + 2) (by omega)).1]; exact m8⟩, ⟨by rw [(e a (by omega)).2.2]; exact m5, by rw [(e (a + 3) (by omega)).1]; exact m10⟩, ⟨by rw [(e a (by omega)).2.1]; exact m2, l2⟩, fun k hk => ?_⟩, hf⟩
  · rw [(e (a + 1) (by omega)).2.1, m7 i hi]
    exact C.2.2.2 i hi
  · have : q.1.getD i 0 ∈ q.1 := by
      rw [List.getD_eq_getElem?_getD, List.getElem?_eq_getElem hi]
      exact List.getElem_mem hi
    exact l3 _ this
  · have hk' : q.2[k]? = some (q.2.getD k (0, 0, none)) := by
      rw [List.getD_eq_getElem?_getD, List.getElem?_eq_getElem hk]
      rfl
    have hm : q.2.getD k (0, 0, none) ∈ q.2 := by
      rw [List.getD_eq_getElem?_getD, List.getElem?_eq_getElem hk]
      exact List.getElem_mem hk
    obtain ⟨c1, c2, -, c4⟩ := l4 _ hm
    obtain ⟨d1, d2, d3⟩ := S k _ hk'
    rw [← m9, ← (e (a + 2) (by omega)).2.1] at d1 d3
    rw [← m11, ← (e (a + 3) (by omega)).2.1] at d2
    show jI h' (a + 2) k = nI (q.2.getD k (0, 0, none)).1 ∧ jI h' (a + 3) k = nI (q.2.getD k (0, 0, none)).2.1 ∧ _
    refine ⟨d1, d2, c1, c2, ?_⟩
    generalize q.2.getD k (0, 0, none) = e at *
    obtain ⟨x1, x2, o⟩ := e
    cases o with
    | none => exact d3
    | some y =>
      obtain ⟨t1, t2, t3, t4⟩ := c4
      exact ⟨t1, d3, t2, t3⟩
end
