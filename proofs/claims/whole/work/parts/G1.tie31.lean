/-! THE LAW: its loop -/
theorem lw_nx {h : jH} {x b i : Nat} {Q : Option Value → jH → Prop} (H : jW 2047 jlaw 18 [some (.ref b), some (.ref x), some (.ref (x + 50)), some (.int (nI (i + 6)))] [] h Q) : jW 2047 jlaw 1223 [some (.ref b), some (.ref x), some (.ref (x + 50)), some (.int (nI i))] [] h Q := by
  have e : nI i + 6 = nI (i + 6) := nI_add i 6
  rw [s267_1223, jcl1_r, s267_1226, e]
  exact H
theorem lw_loop {x b L : Nat} {Q : Option Value → jH → Prop} (hb : b < x) (hL : L ≤ 3072) (hQ : ∀ h n, ty_inv h x n → n ≤ 512 → Q (some (.int 1)) h) : ∀ (r n : Nat) (h : jH), L ≤ 6 * (n + r) + 5 → 6 * n ≤ L → ty_inv h x n → jK h b = (8, L) → jW 2047 jlaw 18 [some (.ref b), some (.ref x), some (.ref (x + 50)), some (.int (nI (6 * n)))] [] h Q := by
  intro r
  induction r with
  | zero =>
    intro n h h1 h2 I kb
    have k8 : (jK h b).1 = 8 := by rw [kb]
    have lt : Int32.ofNat (jK h b).2 - 6 < nI (6 * n) := by
      rw [kb, Int32.lt_iff_toInt_lt, nI_toInt (by omega)]
      show (nI L - nI 6).toInt < _
      rw [pk_sub_toInt (by omega) (by omega)]
      omega
    rw [s267_18, s267_19, s267_20 (Or.inr (Or.inl ⟨k8, rfl⟩)), s267_21, s267_23, s267_24, if_pos lt, s267_1229, s267_1230 (Or.inr rfl)]
    exact hQ h n I (by omega)
  | succ r ih =>
    intro n h h1 h2 I kb
    have k8 : (jK h b).1 = 8 := by rw [kb]
    by_cases hi : 6 * n + 6 ≤ L
    · have ge : ¬ Int32.ofNat (jK h b).2 - 6 < nI (6 * n) := by
        rw [kb, Int32.lt_iff_toInt_lt, nI_toInt (by omega)]
        show ¬ (nI L - nI 6).toInt < _
        rw [pk_sub_toInt (by omega) (by omega)]
        omega
      have q0 : jinb (nI (6 * n)) (jK h b).2 = true := by rw [kb]; exact jinb_nI (by omega) (by omega)
      rw [s267_18, s267_19, s267_20 (Or.inr (Or.inl ⟨k8, rfl⟩)), s267_21, s267_23, s267_24, if_neg ge, s267_27, s267_28, s267_29 k8 q0, s267_30, s267_32]
      have nxt : ∀ h2, ty_inv h2 x (n + 1) → jK h2 b = (8, L) → jI h2 b = jI h b → jW 2047 jlaw 1223 [some (.ref b), some (.ref x), some (.ref (x + 50)), some (.int (nI (6 * n)))] [] h2 Q := fun h2 I2 kb2 _ => lw_nx (by
        have := ih (n + 1) h2 (by omega) (by omega) I2 kb2
        rw [show 6 * (n + 1) = 6 * n + 6 by omega] at this
        exact this)
      generalize jI h b (nI (6 * n)).toNatClampNeg &&& 63 = v
      rcases ty_w (hi := 34) (by omega) v with hv | ⟨k, hk, rfl⟩
      · rw [s267_33_d hv]
        exact lw_nx (by
          have := ih (n + 1) h (by omega) (by omega) (ty_inv_s I) kb
          rw [show 6 * (n + 1) = 6 * n + 6 by omega] at this
          exact this)
      · rcases (by omega : k = 0 ∨ k = 1 ∨ k = 2 ∨ k = 3 ∨ k = 4 ∨ k = 5 ∨ k = 6 ∨ k = 7 ∨ k = 8 ∨ k = 9 ∨ k = 10 ∨ k = 11 ∨ k = 12 ∨ k = 13 ∨ k = 14 ∨ k = 15 ∨ k = 16 ∨ k = 17 ∨ k = 18 ∨ k = 19 ∨ k = 20 ∨ k = 21 ∨ k = 22 ∨ k = 23 ∨ k = 24 ∨ k = 25 ∨ k = 26 ∨ k = 27 ∨ k = 28 ∨ k = 29 ∨ k = 30 ∨ k = 31 ∨ k = 32 ∨ k = 33 ∨ k = 34) with e | e | e | e | e | e | e | e | e | e | e | e | e | e | e | e | e | e | e | e | e | e | e | e | e | e | e | e | e | e | e | e | e | e | e <;> subst e
        · rw [show nI 0 = (0 : Int32) from rfl, s267_33_0]; exact lw_c0 I hb kb hi hL nxt
        · rw [show nI 1 = (1 : Int32) from rfl, s267_33_1]; exact lw_c1 I hb kb hi hL nxt
        · rw [show nI 2 = (2 : Int32) from rfl, s267_33_2]; exact lw_c2 I hb kb hi hL nxt
        · rw [show nI 3 = (3 : Int32) from rfl, s267_33_3]; exact lw_c3 I hb kb hi hL nxt
        · rw [show nI 4 = (4 : Int32) from rfl, s267_33_4]; exact lw_c4 I hb kb hi hL nxt
        · rw [show nI 5 = (5 : Int32) from rfl, s267_33_5]; exact lw_c5 I hb kb hi hL nxt
        · rw [show nI 6 = (6 : Int32) from rfl, s267_33_6]; exact lw_c6 I hb kb hi hL nxt
        · rw [show nI 7 = (7 : Int32) from rfl, s267_33_7]; exact lw_c7 I hb kb hi hL nxt
        · rw [show nI 8 = (8 : Int32) from rfl, s267_33_8]; exact lw_c8 I hb kb hi hL nxt
        · rw [show nI 9 = (9 : Int32) from rfl, s267_33_9]; exact lw_c9 I hb kb hi hL nxt
        · rw [show nI 10 = (10 : Int32) from rfl, s267_33_10]; exact lw_c10 I hb kb hi hL nxt
        · rw [show nI 11 = (11 : Int32) from rfl, s267_33_11]; exact lw_c11 I hb kb hi hL nxt
        · rw [show nI 12 = (12 : Int32) from rfl, s267_33_12]; exact lw_c12 I hb kb hi hL nxt
        · rw [show nI 13 = (13 : Int32) from rfl, s267_33_13]; exact lw_c13 I hb kb hi hL nxt
        · rw [show nI 14 = (14 : Int32) from rfl, s267_33_14]; exact lw_c14 I hb kb hi hL nxt
        · rw [show nI 15 = (15 : Int32) from rfl, s267_33_15]; exact lw_c15 I hb kb hi hL nxt
        · rw [show nI 16 = (16 : Int32) from rfl, s267_33_16]; exact lw_c16 I hb kb hi hL nxt
        · rw [show nI 17 = (17 : Int32) from rfl, s267_33_17]; exact lw_c17 I hb kb hi hL nxt
        · rw [show nI 18 = (18 : Int32) from rfl, s267_33_18]; exact lw_c18 I hb kb hi hL nxt
        · rw [show nI 19 = (19 : Int32) from rfl, s267_33_19]; exact lw_c19 I hb kb hi hL nxt
        · rw [show nI 20 = (20 : Int32) from rfl, s267_33_20]; exact lw_c20 I hb kb hi hL nxt
        · rw [show nI 21 = (21 : Int32) from rfl, s267_33_21]; exact lw_c21 I hb kb hi hL nxt
        · rw [show nI 22 = (22 : Int32) from rfl, s267_33_22]; exact lw_c22 I hb kb hi hL nxt
        · rw [show nI 23 = (23 : Int32) from rfl, s267_33_23]; exact lw_c23 I hb kb hi hL nxt
        · rw [show nI 24 = (24 : Int32) from rfl, s267_33_24]; exact lw_c24 I hb kb hi hL nxt
        · rw [show nI 25 = (25 : Int32) from rfl, s267_33_25]; exact lw_c25 I hb kb hi hL nxt
        · rw [show nI 26 = (26 : Int32) from rfl, s267_33_26]; exact lw_c26 I hb kb hi hL nxt
        · rw [show nI 27 = (27 : Int32) from rfl, s267_33_27]; exact lw_c27 I hb kb hi hL nxt
        · rw [show nI 28 = (28 : Int32) from rfl, s267_33_28]; exact lw_c28 I hb kb hi hL nxt
        · rw [show nI 29 = (29 : Int32) from rfl, s267_33_29]; exact lw_c29 I hb kb hi hL nxt
        · rw [show nI 30 = (30 : Int32) from rfl, s267_33_30]; exact lw_c30 I hb kb hi hL nxt
        · rw [show nI 31 = (31 : Int32) from rfl, s267_33_31]; exact lw_c31 I hb kb hi hL nxt
        · rw [show nI 32 = (32 : Int32) from rfl, s267_33_32]; exact lw_c32 I hb kb hi hL nxt
        · rw [show nI 33 = (33 : Int32) from rfl, s267_33_33]; exact lw_c33 I hb kb hi hL nxt
        · rw [show nI 34 = (34 : Int32) from rfl, s267_33_34]; exact lw_c34 I hb kb hi hL nxt
    · have lt : Int32.ofNat (jK h b).2 - 6 < nI (6 * n) := by
        rw [kb, Int32.lt_iff_toInt_lt, nI_toInt (by omega)]
        show (nI L - nI 6).toInt < _
        rw [pk_sub_toInt (by omega) (by omega)]
        omega
      rw [s267_18, s267_19, s267_20 (Or.inr (Or.inl ⟨k8, rfl⟩)), s267_21, s267_23, s267_24, if_pos lt, s267_1229, s267_1230 (Or.inr rfl)]
      exact hQ h n I (by omega)
