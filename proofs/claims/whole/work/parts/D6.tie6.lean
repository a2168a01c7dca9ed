/-! THE TIE: attempt, sham, teach, cut -/
section
variable {S : Nat → Int32}
/-- good rows -/
theorem oS_bdg (O : oS S) {s b : Nat} (hs : s < sN S) (hb : b < 2 ^ sK S) : oS (upd S (11 + 3 * s) (nI b)) := by
  obtain ⟨W, B, ⟨z1, z2, z3⟩, ⟨g1, g2, g3⟩⟩ := O
  have hN := W.2.2.1.2
  have hK := W.2.1.2
  have b64 : b < 64 := by
    have : 2 ^ sK S ≤ 2 ^ 6 := Nat.pow_le_pow_right (by omega) hK
    omega
  have n : ∀ j, j ≠ 11 + 3 * s → upd S (11 + 3 * s) (nI b) j = S j := fun j hj => upd_n hj
  have eC : sC (upd S (11 + 3 * s) (nI b)) = sC S := by unfold sC; rw [n 3 (by omega)]
  have eK : sK (upd S (11 + 3 * s) (nI b)) = sK S := by unfold sK; rw [n 4 (by omega)]
  have eN : sN (upd S (11 + 3 * s) (nI b)) = sN S := by unfold sN; rw [n 5 (by omega)]
  have eD : sD (upd S (11 + 3 * s) (nI b)) = sD S := by unfold sD; rw [n 10 (by omega)]
  have eB : ∀ t, t < 6 → sB (upd S (11 + 3 * s) (nI b)) t = if t = s then b else sB S t := fun t ht => by
    unfold sB
    by_cases e : t = s
    · rw [e, upd_s, if_pos rfl, nI_clamp (by omega)]
    · rw [n _ (by omega), if_neg e]
  refine ⟨?_, fun t ht => ?_, ⟨fun t ht h1 => ?_, fun t k ht hk h1 => ?_, fun t ht => ?_⟩, ⟨fun k hk => ?_, ?_, fun j hj => ?_⟩⟩
  · unfold mW
    rw [eC, eK, eN, eD, n 3 (by omega), n 4 (by omega), n 5 (by omega), n 10 (by omega)]
    exact W
  · rw [eB t ht]
    by_cases e : t = s
    · rw [if_pos e, e, upd_s]; exact ⟨rfl, b64⟩
    · rw [if_neg e, n _ (by omega)]; exact B t ht
  · rw [eN] at h1
    rw [n _ (by omega), n _ (by omega)]
    exact z1 t ht h1
  · rw [eK] at h1
    rw [n _ (by omega)]
    exact z2 t k ht hk h1
  · rw [eB t ht, eK]
    by_cases e : t = s
    · rw [if_pos e]; exact hb
    · rw [if_neg e]; exact z3 t ht
  · rw [n _ (by omega)]; exact g1 k hk
  · rw [n 1 (by omega)]; exact g2
  · rw [n _ (by omega)]; exact g3 j hj
theorem oS_skl (O : oS S) {s k v : Nat} (hs : s < 6) (hk : k < sK S) (hv : v ≤ 50) : oS (upd S (29 + 6 * s + k) (nI v)) := by
  obtain ⟨W, B, ⟨z1, z2, z3⟩, ⟨g1, g2, g3⟩⟩ := O
  have hN := W.2.2.1.2
  have hK := W.2.1.2
  have n : ∀ j, j ≠ 29 + 6 * s + k → upd S (29 + 6 * s + k) (nI v) j = S j := fun j hj => upd_n hj
  have eC : sC (upd S (29 + 6 * s + k) (nI v)) = sC S := by unfold sC; rw [n 3 (by omega)]
  have eK : sK (upd S (29 + 6 * s + k) (nI v)) = sK S := by unfold sK; rw [n 4 (by omega)]
  have eN : sN (upd S (29 + 6 * s + k) (nI v)) = sN S := by unfold sN; rw [n 5 (by omega)]
  have eD : sD (upd S (29 + 6 * s + k) (nI v)) = sD S := by unfold sD; rw [n 10 (by omega)]
  have eB : ∀ t, t < 6 → sB (upd S (29 + 6 * s + k) (nI v)) t = sB S t := fun t ht => by unfold sB; rw [n _ (by omega)]
  refine ⟨?_, fun t ht => ?_, ⟨fun t ht h1 => ?_, fun t k' ht hk' h1 => ?_, fun t ht => ?_⟩, ⟨fun k' hk' => ?_, ?_, fun j hj => ?_⟩⟩
  · unfold mW
    rw [eC, eK, eN, eD, n 3 (by omega), n 4 (by omega), n 5 (by omega), n 10 (by omega)]
    exact W
  · rw [eB t ht, n _ (by omega)]; exact B t ht
  · rw [eN] at h1
    rw [n _ (by omega), n _ (by omega)]
    exact z1 t ht h1
  · rw [eK] at h1
    rw [n _ (by omega)]
    exact z2 t k' ht hk' h1
  · rw [eB t ht, eK]; exact z3 t ht
  · rw [n _ (by omega)]; exact g1 k' hk'
  · rw [n 1 (by omega)]; exact g2
  · by_cases e : 29 + j = 29 + 6 * s + k
    · rw [e, upd_s]; exact ⟨v, hv, rfl⟩
    · rw [n _ e]; exact g3 j hj
theorem ty_gd_G {S' : Nat → Int32} (G : ty_gd S) (e : eqG S S') (O : oS S') (hD : sD S' ≤ 999) : ty_gd S' := by
  obtain ⟨g1, g2, ⟨g3, g4⟩, g5, g6⟩ := G
  refine ⟨O, nO_G e g2, ⟨fun j hj => by rw [e _ (by omega)]; exact g3 j hj, fun s k hs hk h1 => by rw [e _ (by omega)]; exact g4 s k hs hk (by rw [e.K] at h1; exact h1)⟩, hD, by rw [e 0 (by omega)]; exact g6⟩
theorem bits_or : ∀ K, K < 7 → ∀ b, b < 64 → b < 2 ^ K → ∀ k, k < K → nI b ||| (1 : Int32) <<< (nI k &&& 31) = nI (b ||| 2 ^ k) ∧ b ||| 2 ^ k < 2 ^ K := by decide +kernel
theorem bits_an : ∀ K, K < 7 → ∀ b, b < 64 → b < 2 ^ K → ∀ k, k < 6 → nI b &&& ((1 : Int32) <<< (nI k &&& 31) ^^^ (-1)) = nI (b &&& (63 - 2 ^ k)) ∧ b &&& (63 - 2 ^ k) < 2 ^ K := by decide +kernel
end
theorem ty_inv_s {h : jH} {x n : Nat} (I : ty_inv h x n) : ty_inv h x (n + 1) := ⟨I.1, by have := I.2.1; omega, by have := I.2.2; omega⟩
theorem ty_lo_refl {x : Nat} {h : jH} : ty_lo x h h := ⟨fun _ _ => ⟨rfl, rfl⟩, rfl⟩
/-- a call refused -/
theorem ty_no {kc kr : Nat} {as : List Value} {d : Nat} {h : jH} {x n : Nat} {Q : Option Value → jH → Prop} {v : Int32} (I : ty_inv h x n) (hQ : ∀ v h1, ty_lo x h h1 → (∀ Q2 : Option Value → jH → Prop, (∀ h2, ty_inv h2 x (n + 1) → ty_lo x h h2 → Q2 (some (.int v)) h2) → jC (d + 40) kr (.ref (x + 50) :: as) h1 Q2) → Q (some (.int v)) h1) (c1 : Q (some (.int v)) h → jC (d + 40) kc (.ref x :: as) h Q) (c2 : ∀ Q2 : Option Value → jH → Prop, Q2 (some (.int v)) h → jC (d + 40) kr (.ref (x + 50) :: as) h Q2) : jC (d + 40) kc (.ref x :: as) h Q := c1 (hQ v h ty_lo_refl (fun Q2 hQ2 => c2 Q2 (hQ2 h (ty_inv_s I) ty_lo_refl)))
section
variable {h h' h1 h2 : jH} {x m n c C k p l l' U U' L L' : Nat} {W : Nat → Prop} {S S' : Nat → Int32} {ow ow' : Nat → Nat} {fs : Nat → (Nat → Int64) → Int64} {K K' : Nat → Nat → Int32} {T T' tK tV : Nat → Nat} {IM : tyI} {F X F' X' : Int32}
theorem ty_mU (R : ty_R h m C fs S F X U K T L IM) (hU : U ≤ 20) : mU (jI h m) := by
  have b6 := R.2.2.2.1.2.2.2.2.2
  unfold mU sU
  rw [b6, nI_clamp (by omega)]
  exact ⟨rfl, hU⟩
/-- an act: both behind it -/
theorem ty_fk (A : ty_C h x c C fs S F X ow l U K T L tK tV IM) (P : ty_P C S F X U K IM) (R : ty_R h (x + 50) C fs S F X U K T L IM) (i1 : jnx h ≤ x + 75 + 20 * n) (i2 : jsl h ≤ 20000 + 500 * n) (Ak : agx (kW x ow l) h h1) (m1 : jnx h1 ≤ jnx h + 5) (m2 : jsl h1 ≤ jsl h + 59) (C2 : ty_C h2 x c C fs S' F X ow' ((l + 1) % 20) (kpU U) (kpK K S U) T L tK tV IM) (B : agx W h1 h2) (hW : ∀ a, W a → x ≤ a ∧ a < x + 50) (n1 : jnx h2 = jnx h1) (n2 : jsl h2 = jsl h1) (e : eqG S S') (gd : ty_gd S') : ty_lo x h h2 ∧ ty_R h2 (x + 50) C fs S F X U K T L IM ∧ ∀ h3, rq (x + 50) (jwr (mKeep h2 (x + 50)) (x + 50 + 10) S') h3 → ty_inv h3 x (n + 1) ∧ ty_lo x h h3 := by
  have hn := A.1.2.2
  have hU : U ≤ 20 := A.2.2.2.2.2.1.2.2.1.2
  have D : agx (fun a => kW x ow l a ∨ (x ≤ a ∧ a < x + 50)) h h2 := agx_trans (agx_wid Ak (fun a _ w => Or.inl w)) (agx_wid B (fun a _ w => Or.inr (hW a w)))
  have kw : ∀ a, kW x ow l a → x ≤ a ∧ (a < x + 50 ∨ x + 75 ≤ a) := fun a w => by
    rcases w with w | w | w <;> omega
  have R2 : ty_R h2 (x + 50) C fs S F X U K T L IM := ty_R_ag D (by omega) (fun a w g => by
    rcases w with w | w
    · have := kw a w; omega
    · omega) R
  have lo : ty_lo x h h2 := ty_lo_ag D (by omega) (fun a w => by
    rcases w with w | w
    · have := kw a w; omega
    · omega)
  obtain ⟨R3, f3⟩ := ty_R_kp (S' := S') R2 hU
  refine ⟨lo, R2, fun h3 E => ⟨⟨⟨c, C, fs, S', F, X, ow', _, _, _, T, L, tK, tV, IM, ty_C_frg E.1 (ty_C_frg f3 C2), ⟨gd, P.2.1, P.2.2.1, kp_P (G := fun Z => oS Z ∧ sD Z ≤ 999) e hU P.2.2.2.1 ⟨P.1.1, P.1.2.2.2.1⟩, P.2.2.2.2⟩, ty_R_rq E R3⟩, ?_, ?_⟩, ty_lo_trans lo (ty_lo_trans (ty_lo_frg f3 (by omega)) (ty_lo_frg E.1 (by omega)))⟩⟩
  · rw [E.1.1.1, f3.1.1, n1]; omega
  · rw [E.1.1.2.1, f3.1.2.1, n2]; omega
end
theorem eqG_b {S : Nat → Int32} {s : Nat} {v : Int32} (hs : s < 6) : eqG S (upd S (11 + 3 * s) v) := fun j hj => upd_n (by omega)
theorem eqG_k {S : Nat → Int32} {s k : Nat} {v : Int32} (hs : s < 6) (hk : k < 6) : eqG S (upd S (29 + 6 * s + k) v) := fun j hj => upd_n (by omega)
/-- attempt -/
theorem ty_s9 {s k : Int32} : ty_st 116 211 [.int s, .int k] := by
  intro d h x n Q I hQ
  have I' := I
  obtain ⟨⟨c, C, fs, S, F, X, ow, l, U, K, T, L, tK, tV, IM, A, P, R⟩, i1, i2⟩ := I
  have hU : U ≤ 20 := A.2.2.2.2.2.1.2.2.1.2
  have W : mW S := P.1.1.1
  have Aw := ty_aw A
  cases hn : (isS S s && isK S k) with
  | false => exact ty_no I' hQ (k116n Aw hn).2 (fun Q2 q => (c211n R.1.1 (by rw [R.2.1]; exact W) (by rw [R.2.1]; exact ty_noB W hn)).2 q)
  | true =>
    obtain ⟨hA, hB⟩ := Bool.and_eq_true_iff.mp hn
    obtain ⟨s, rfl, hs, hs6⟩ := ty_isS W hA
    obtain ⟨k, rfl, hk, hk6⟩ := ty_isK W hB
    have e := eqF_G (mtry_eqF (S := S) (c := calmS S (sD S)) hs6 hk6)
    have eD' : ∀ c, sD (mtry S s k c) = sD S := fun c => by unfold sD; rw [mtry_eqF (S := S) (c := c) hs6 hk6 10 (by omega)]
    have eD := eD' (calmS S (sD S))
    have gd := ty_gd_G P.1 e (oS_try P.1.1 hs hk) (by rw [eD]; exact P.1.2.2.2.1)
    refine k116y Aw W.1.1 W.1.2 W.2.2.2.1 (by have := W.2.2.2.2; omega) hs6 hk6 hn (fun h1 h2 ow' Ak how A1 m1 m2 G V => ?_)
    obtain ⟨lo, R2, fin⟩ := ty_fk (S' := mtry S s k (calmS S (sD S))) (W := fun a => x + 13 ≤ a ∧ a < x + 18) A P R i1 i2 Ak m1 m2 (ty_C_kp A Ak how A1 G V e) (agx_frm G (fun a h1 h2 => ⟨h1, h2⟩)) (fun a w => by omega) G.1.1 G.1.2.1 e gd
    refine hQ _ h2 lo (fun Q2 hQ2 => ?_)
    have e3 : jI h2 (x + 50) 23 = -1 := R2.2.2.2.1.2.2.1
    have eS := R2.2.1
    have r := c211y (h := h2) (m := x + 50) (d := d + 36) (Q := Q2) (s := s) (k := k) R2.1.1 (by rw [eS]; exact W) (ty_mU R2 hU) (by rw [eS]; exact hs) (by rw [eS]; exact hk)
    rw [eS, e3, mday0] at r
    exact r.2 (hQ2 _ (fin _ rq_refl).1 (fin _ rq_refl).2)
/-- sham -/
theorem ty_s10 {s k : Int32} : ty_st 117 212 [.int s, .int k] := by
  intro d h x n Q I hQ
  have I' := I
  obtain ⟨⟨c, C, fs, S, F, X, ow, l, U, K, T, L, tK, tV, IM, A, P, R⟩, i1, i2⟩ := I
  have hU : U ≤ 20 := A.2.2.2.2.2.1.2.2.1.2
  have W : mW S := P.1.1.1
  have B : mB S := P.1.1.2.1
  have Aw := ty_aw A
  cases hn : (isS S s && isK S k) with
  | false => exact ty_no I' hQ (k117n Aw hn).2 (fun Q2 q => (c212n R.1.1 (by rw [R.2.1]; exact W) (by rw [R.2.1]; exact ty_noB W hn)).2 q)
  | true =>
    obtain ⟨hA, hB⟩ := Bool.and_eq_true_iff.mp hn
    obtain ⟨s, rfl, hs, hs6⟩ := ty_isS W hA
    obtain ⟨k, rfl, hk, hk6⟩ := ty_isK W hB
    have b1 := B s hs6
    have hz := P.1.1.2.2.1.2.2 s hs6
    obtain ⟨o1, o2⟩ := bits_or (sK S) (by have := W.2.1.2; omega) (sB S s) b1.2 hz k hk
    rw [← b1.1] at o1
    have e := eqG_b (S := S) (s := s) (v := S (11 + 3 * s) ||| (1 : Int32) <<< (nI k &&& 31)) hs6
    have eD : sD (upd S (11 + 3 * s) (S (11 + 3 * s) ||| (1 : Int32) <<< (nI k &&& 31))) = sD S := by unfold sD; rw [upd_n (by omega)]
    have gd := ty_gd_G P.1 e (by rw [o1]; exact oS_bdg P.1.1 hs o2) (by rw [eD]; exact P.1.2.2.2.1)
    have hc : ∀ g Q2, ty_R g (x + 50) C fs S F X U K T L IM → _ := fun g Q2 (R2 : ty_R g (x + 50) C fs S F X U K T L IM) => by
      have e3 : jI g (x + 50) 23 = -1 := R2.2.2.2.1.2.2.1
      have eS := R2.2.1
      have r := c212y (h := g) (m := x + 50) (d := d + 37) (Q := Q2) (s := s) (k := k) R2.1.1 (by rw [eS]; exact W) (ty_mU R2 hU) (by rw [eS]; exact hs) (by rw [eS]; exact hk)
      rw [eS, e3, mday0] at r
      exact r
    refine k117y Aw W B W.2.1.2 hs6 hk hn (fun no => hQ _ h ty_lo_refl (fun Q2 hQ2 => ((hc h Q2 R).1 no).2 (hQ2 h (ty_inv_s I') ty_lo_refl))) (fun yes h1 h2 ow' Ak how A1 m1 m2 G V => ?_)
    obtain ⟨lo, R2, fin⟩ := ty_fk (W := fun a => x + 13 ≤ a ∧ a < x + 18) A P R i1 i2 Ak m1 m2 (ty_C_kp A Ak how A1 G V e) (agx_frm G (fun a h1 h2 => ⟨h1, h2⟩)) (fun a w => by omega) G.1.1 G.1.2.1 e gd
    exact hQ _ h2 lo (fun Q2 hQ2 => ((hc h2 Q2 R2).2 yes).2 (hQ2 _ (fin _ rq_refl).1 (fin _ rq_refl).2))
/-- cut -/
theorem ty_s12 {s k : Int32} : ty_st 119 214 [.int s, .int k] := by
  intro d h x n Q I hQ
  have I' := I
  obtain ⟨⟨c, C, fs, S, F, X, ow, l, U, K, T, L, tK, tV, IM, A, P, R⟩, i1, i2⟩ := I
  have hU : U ≤ 20 := A.2.2.2.2.2.1.2.2.1.2
  have W : mW S := P.1.1.1
  have B : mB S := P.1.1.2.1
  have Aw := ty_aw A
  cases hn : (isS S s && isK S k) with
  | false => exact ty_no I' hQ (k119n Aw hn).2 (fun Q2 q => (c214n R.1.1 (by rw [R.2.1]; exact W) (by rw [R.2.1]; exact ty_noB W hn)).2 q)
  | true =>
    obtain ⟨hA, hB⟩ := Bool.and_eq_true_iff.mp hn
    obtain ⟨s, rfl, hs, hs6⟩ := ty_isS W hA
    obtain ⟨k, rfl, hk, hk6⟩ := ty_isK W hB
    have b1 := B s hs6
    have hz := P.1.1.2.2.1.2.2 s hs6
    obtain ⟨o1, o2⟩ := bits_an (sK S) (by have := W.2.1.2; omega) (sB S s) b1.2 hz k hk6
    rw [← b1.1] at o1
    have e := eqG_b (S := S) (s := s) (v := S (11 + 3 * s) &&& ((1 : Int32) <<< (nI k &&& 31) ^^^ (-1))) hs6
    have eD : sD (upd S (11 + 3 * s) (S (11 + 3 * s) &&& ((1 : Int32) <<< (nI k &&& 31) ^^^ (-1)))) = sD S := by unfold sD; rw [upd_n (by omega)]
    have gd := ty_gd_G P.1 e (by rw [o1]; exact oS_bdg P.1.1 hs o2) (by rw [eD]; exact P.1.2.2.2.1)
    have hc : ∀ g Q2, ty_R g (x + 50) C fs S F X U K T L IM → _ := fun g Q2 (R2 : ty_R g (x + 50) C fs S F X U K T L IM) => by
      have eS := R2.2.1
      have r := c214y (h := g) (m := x + 50) (d := d + 37) (Q := Q2) (s := s) (k := k) R2.1.1 (by rw [eS]; exact W) (ty_mU R2 hU) (by rw [eS]; exact hs) (by rw [eS]; exact hk)
      rw [eS] at r
      exact r
    refine k119y Aw B hs6 hk6 hn (fun no => hQ _ h ty_lo_refl (fun Q2 hQ2 => ((hc h Q2 R).1 (of_decide_eq_false no)).2 (hQ2 h (ty_inv_s I') ty_lo_refl))) (fun yes h1 h2 ow' Ak how A1 m1 m2 G V => ?_)
    obtain ⟨lo, R2, fin⟩ := ty_fk (W := fun a => x + 13 ≤ a ∧ a < x + 18) A P R i1 i2 Ak m1 m2 (ty_C_kp A Ak how A1 G V e) (agx_frm G (fun a h1 h2 => ⟨h1, h2⟩)) (fun a w => by omega) G.1.1 G.1.2.1 e gd
    exact hQ _ h2 lo (fun Q2 hQ2 => ((hc h2 Q2 R2).2 (of_decide_eq_true yes)).2 (hQ2 _ (fin _ rq_refl).1 (fin _ rq_refl).2))
