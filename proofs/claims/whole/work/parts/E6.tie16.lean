/-! THE TIE: a camp read is a good one -/
theorem inR_v {v hi : Nat} (hv : v ≤ 99999) (hh : hi < 2 ^ 31) (h : inR (nI v) 0 (nI hi) = true) : v ≤ hi := by
  obtain ⟨n, -, h1, h2⟩ := inR_nat (lo := 0) (hi := hi) hh (Nat.zero_le _) h
  have := (nI_eq (by omega) (by omega)).mp h2
  omega
def zG (z : Nat → Nat) : Prop := (z 1 ≤ 5 ∧ z 2 ≤ 9) ∧ (∀ i, i < 12 → z (65 + i) ≤ 9) ∧ (∀ i, i < 6 → z (77 + i) ≤ 30) ∧ (∀ j, j < 36 → z (83 + j) ≤ 20) ∧ (∀ s k, s < 6 → k < 6 → z 4 ≤ k → z (83 + 6 * s + k) = 0) ∧ ∀ j, 6 ≤ j → j < 65 → z j = 0
theorem zG_u {z : Nat → Nat} (g : zG z) {i v : Nat} (h1 : i = 1 → v ≤ 5) (h2 : i = 2 → v ≤ 9) (h3 : 65 ≤ i → i < 77 → v ≤ 9) (h4 : 77 ≤ i → i < 83 → v ≤ 30) (h5 : 83 ≤ i → i < 119 → v ≤ 20 ∧ (i - 83) % 6 < z 4) (h6 : i = 4 → z 4 ≤ v) (h7 : ¬ (6 ≤ i ∧ i < 65)) : zG (uN z i v) := by
  obtain ⟨⟨g1, g2⟩, g3, g4, g5, g6, g7⟩ := g
  have e : ∀ j, uN z i v j = if j = i then v else z j := fun j => rfl
  refine ⟨⟨?_, ?_⟩, fun j hj => ?_, fun j hj => ?_, fun j hj => ?_, fun s k hs hk h => ?_, fun j h1 h2 => ?_⟩
  · rw [e]; split
    · exact h1 (by omega)
    · exact g1
  · rw [e]; split
    · exact h2 (by omega)
    · exact g2
  · rw [e]; split
    · exact h3 (by omega) (by omega)
    · exact g3 j hj
  · rw [e]; split
    · exact h4 (by omega) (by omega)
    · exact g4 j hj
  · rw [e]; split
    · exact (h5 (by omega) (by omega)).1
    · exact g5 j hj
  · have hz : z 4 ≤ k := by
      rw [e] at h
      split at h
      · next q => have := h6 q.symm; omega
      · exact h
    rw [e, if_neg]
    · exact g6 s k hs hk hz
    · intro q
      have := (h5 (by omega) (by omega)).2
      omega
  · rw [e, if_neg (by omega)]
    exact g7 j h1 h2
theorem aLin_zG {T : Nat → Nat} {L q : Nat} {z : Nat → Nat} {r : Nat × (Nat → Nat)} (hq : q ≤ L) (hz : zOk z) (g : zG z) (h : aLin T L q z = .ok r) : zG r.2 ∧ r.2 0 = 1 := by
  have b3 := lnd_le (T := T) hq
  obtain ⟨z0, z3, z4, z5⟩ := hz
  unfold aLin at h
  split at h
  · unfold aCamp at h
    split at h
    · cases h
    · split at h
      · cases h
      · next r1 h1 =>
        obtain ⟨a1, a2, v, a4, a5, a3⟩ := aCel_gd b3 h1
        split at h
        · cases h
        · next r2 h2 =>
          obtain ⟨c1, c2, v2, c4, c5, c3⟩ := aCel_gd a2 h2
          cases h
          have w1 := inR_v (hi := 5) a4 (by omega) a5
          have w2 := inR_v (hi := 9) c4 (by omega) c5
          refine ⟨?_, show uN r2.2 0 1 0 = 1 from uN_s⟩
          show zG (uN r2.2 0 1)
          rw [c3, a3]
          refine zG_u (zG_u (zG_u g (fun _ => w1) (by omega) (by omega) (by omega) (by omega) (by omega) (by omega)) (by omega) (fun _ => w2) (by omega) (by omega) (by omega) (by omega) (by omega)) (by omega) (by omega) (by omega) (by omega) (by omega) (by omega) (by omega)
  · split at h
    · cases h
    · next hz0 =>
      have e0 : z 0 = 1 := by omega
      split at h
      · unfold aMor at h
        split at h
        · cases h
        · next h12 =>
          split at h
          · cases h
          · next r1 h1 =>
            obtain ⟨a1, a2, v, a4, a5, a3⟩ := aCel_gd b3 h1
            cases h
            have w1 := inR_v (hi := 9) a4 (by omega) a5
            constructor
            · show zG (uN r1.2 3 (z 3 + 1))
              rw [a3]
              exact zG_u (zG_u g (by omega) (by omega) (fun _ _ => w1) (by omega) (by omega) (by omega) (by omega)) (by omega) (by omega) (by omega) (by omega) (by omega) (by omega) (by omega)
            · show uN r1.2 3 (z 3 + 1) 0 = 1
              rw [a3, uN_n (by omega), uN_n (by omega)]
              exact e0
      · split at h
        · unfold aMor at h
          split at h
          · cases h
          · next h6 =>
            split at h
            · cases h
            · next r1 h1 =>
              obtain ⟨a1, a2, v, a4, a5, a3⟩ := aCel_gd b3 h1
              cases h
              have w1 := inR_v (hi := 30) a4 (by omega) a5
              constructor
              · show zG (uN r1.2 4 (z 4 + 1))
                rw [a3]
                refine zG_u (zG_u g (by omega) (by omega) (by omega) (fun _ _ => w1) (by omega) (by omega) (by omega)) (by omega) (by omega) (by omega) (by omega) (by omega) (fun _ => ?_) (by omega)
                rw [uN_n (by omega)]
                omega
              · show uN r1.2 4 (z 4 + 1) 0 = 1
                rw [a3, uN_n (by omega), uN_n (by omega)]
                exact e0
        · split at h
          · unfold aSct at h
            split at h
            · cases h
            · cases h
              constructor
              · exact zG_u g (by omega) (by omega) (by omega) (by omega) (by omega) (by omega) (by omega)
              · show uN z 5 (z 5 + 1) 0 = 1
                rw [uN_n (by omega)]
                exact e0
          · unfold aCan at h
            split at h
            · cases h
            · next r1 h1 =>
              obtain ⟨c1, c2, c3, c4⟩ := numN_gd b3 h1
              have w1 := inR_pred c3 z5 c4
              split at h
              · cases h
              · next r2 h2 =>
                obtain ⟨d1, d2, d3, d4⟩ := numN_gd c2 h2
                have w2 := inR_pred d3 z4 d4
                obtain ⟨a1, a2, v, a4, a5, a3⟩ := aCel_gd d2 h
                have w3 := inR_v (hi := 20) a4 (by omega) a5
                rw [a3]
                exact ⟨zG_u g (by omega) (by omega) (by omega) (by omega) (fun _ _ => ⟨w3, by omega⟩) (by omega) (by omega), by rw [uN_n (by omega)]; exact e0⟩
theorem aCpl_zG {T : Nat → Nat} {L : Nat} : ∀ (n p : Nat) (z : Nat → Nat) (k : Nat) (y : Nat → Nat), p ≤ L → zOk z → zG z → aCpl T L n p z k = .ok y → zOk y ∧ zG y ∧ y 0 = 1 := by
  intro n
  induction n with
  | zero => intro p z k y _ _ _ h; unfold aCpl at h; cases h
  | succ n ih =>
    intro p z k y hp hz g h
    unfold aCpl at h
    split at h
    · cases h
    · next r hr =>
      obtain ⟨a1, a2, a3, a4⟩ := aCln_gd hp hz hr
      have h1 := skp_le (T := T) hp
      have hl : zG r.2 ∧ r.2 0 = 1 := by
        unfold aCln at hr
        split at hr
        · exact aLin_zG h1 hz g hr
        · cases hr
      split at h
      · next e => exact ih _ _ _ _ (chrL e) a3 hl.1 h
      · split at h
        · cases h; exact ⟨a3, hl.1, hl.2⟩
        · cases h
theorem cS_lo {S : Nat → Int32} {z : Nat → Nat} {j : Nat} (h : j < 119) : cS S z j = nI (z j) := by
  unfold cS
  rw [jput_in (by omega) (by omega)]
  show (if j - 0 < 119 then nI (z (j - 0)) else 0) = _
  rw [if_pos (by omega)]
  rfl
theorem cS_hi {S : Nat → Int32} {z : Nat → Nat} {j : Nat} (h1 : 119 ≤ j) (h2 : j < 160) : cS S z j = 0 := by
  unfold cS
  rw [jput_in (by omega) (by omega)]
  show (if j - 0 < 119 then nI (z (j - 0)) else 0) = _
  rw [if_neg (by omega)]
/-- the row of a camp that was read -/
theorem cS_gd {S : Nat → Int32} {z : Nat → Nat} (O : zOk z) (g : zG z) (z0 : z 0 = 1) : ty_gd (mBeg (cS S z)) := by
  obtain ⟨o0, o3, o4, o5⟩ := O
  obtain ⟨⟨g1, g2⟩, g3, g4, g5, g6, g7⟩ := g
  have eC : sC (cS S z) = z 3 := by unfold sC; rw [cS_lo (by omega)]; exact nI_clamp (by omega)
  have eK : sK (cS S z) = z 4 := by unfold sK; rw [cS_lo (by omega)]; exact nI_clamp (by omega)
  have eN : sN (cS S z) = z 5 := by unfold sN; rw [cS_lo (by omega)]; exact nI_clamp (by omega)
  have z_ : ∀ j, 6 ≤ j → j < 65 → cS S z j = 0 := fun j h1 h2 => by rw [cS_lo (by omega), g7 j h1 h2]; rfl
  have eD : sD (cS S z) = 0 := by unfold sD; rw [z_ 10 (by omega) (by omega)]; rfl
  have eB : ∀ s, s < 6 → sB (cS S z) s = 0 := fun s hs => by unfold sB; rw [z_ _ (by omega) (by omega)]; rfl
  have oo : oS (cS S z) := by
    refine ⟨⟨⟨by rw [eC, cS_lo (by omega)], by omega⟩, ⟨by rw [eK, cS_lo (by omega)], by omega⟩, ⟨by rw [eN, cS_lo (by omega)], by omega⟩, ⟨by rw [eD, z_ 10 (by omega) (by omega)]; rfl, by omega⟩⟩, fun s hs => ⟨by rw [eB s hs, z_ _ (by omega) (by omega)]; rfl, by rw [eB s hs]; omega⟩, ⟨fun s hs _ => ⟨z_ _ (by omega) (by omega), z_ _ (by omega) (by omega)⟩, fun s k hs hk _ => z_ _ (by omega) (by omega), fun s hs => by rw [eB s hs]; exact Nat.two_pow_pos _⟩, ⟨fun k hk => ⟨z (77 + k), g4 k hk, cS_lo (by omega)⟩, ⟨z 1, by omega, cS_lo (by omega)⟩, fun j hj => ⟨0, by omega, by rw [z_ _ (by omega) (by omega)]; rfl⟩⟩⟩
  have tt : tS (cS S z) := ⟨fun j hj => ⟨z (83 + j), by have := g5 j hj; omega, cS_lo (by omega)⟩, fun s k hs hk h => by
    rw [eK] at h
    rw [cS_lo (by omega), g6 s k hs hk h]
    rfl⟩
  have eG := mBeg_G (S := cS S z)
  obtain ⟨q1, q2⟩ := oS_beg oo tt
  have eQ : sQ (mBeg (cS S z)) = 0 := by unfold sQ; rw [eG 159 (by omega), cS_hi (by omega) (by omega)]; rfl
  refine ⟨q1, ⟨⟨by rw [eQ, eG 159 (by omega), cS_hi (by omega) (by omega)]; rfl, by omega⟩, fun i hi => by omega⟩, ⟨fun j hj => by rw [eG _ (by omega)]; exact tt.1 j hj, fun s k hs hk h => by rw [eG _ (by omega)]; exact tt.2 s k hs hk (by rw [eG.K] at h; exact h)⟩, by omega, Or.inr ?_⟩
  rw [eG 0 (by omega), cS_lo (by omega), z0]
  rfl
