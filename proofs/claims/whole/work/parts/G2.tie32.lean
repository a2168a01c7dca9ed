/-! THE LAW: its start -/
theorem ty_z : ty_gd (fun _ => (0 : Int32)) := by
  have c0 : (0 : Int32).toNatClampNeg = 0 := by decide
  have eC : sC (fun _ => (0 : Int32)) = 0 := c0
  have eK : sK (fun _ => (0 : Int32)) = 0 := c0
  have eN : sN (fun _ => (0 : Int32)) = 0 := c0
  have eD : sD (fun _ => (0 : Int32)) = 0 := c0
  have eQ : sQ (fun _ => (0 : Int32)) = 0 := c0
  have eB : ∀ s, sB (fun _ => (0 : Int32)) s = 0 := fun _ => c0
  exact ⟨⟨⟨⟨by rw [eC]; rfl, by omega⟩, ⟨by rw [eK]; rfl, by omega⟩, ⟨by rw [eN]; rfl, by omega⟩, ⟨by rw [eD]; rfl, by omega⟩⟩, fun s hs => ⟨by rw [eB s]; rfl, by rw [eB s]; omega⟩, ⟨fun s hs _ => ⟨rfl, rfl⟩, fun s k _ _ _ => rfl, fun s hs => by rw [eB s]; exact Nat.two_pow_pos _⟩, ⟨fun k hk => ⟨0, by omega, rfl⟩, ⟨0, by omega, rfl⟩, fun j hj => ⟨0, by omega, rfl⟩⟩⟩, ⟨⟨by rw [eQ]; rfl, by omega⟩, fun i hi => by omega⟩, ⟨fun j hj => ⟨0, by omega, rfl⟩, fun s k _ _ _ => rfl⟩, by omega, Or.inl rfl⟩
/-- both made -/
theorem ty_start {h0 h1 h2 : jH} {x : Nat} {tK tV : Nat → Nat} (M : mk103 h0 h1 x) (A : mMk (jnew h1 32 43) h2 (x + 50) 24 (upd (upd (fun _ => 0) 21 (-1)) 23 (-1))) (hs : jsl h1 ≤ 2200) (tx : ty_tx h2 x tK tV) : ty_inv h2 x 0 := by
  obtain ⟨⟨n1, s1⟩, -, ⟨mx, m3⟩, mt, mr, ⟨m7, r7⟩, mo, mp, ⟨m25, r25⟩, mpr, mfs⟩ := M
  have e : ∀ b, b < x + 50 → sm h1 h2 b := fun b hb => sm_trans (sm_new (k := 32) (n := 43) (by omega)) (A.2.2.2.1 b hb)
  have inv := mMk_inv A
  obtain ⟨⟨a1, a2⟩, a3, a4, -, a5, -⟩ := A
  have z10 : jI h2 (x + 50 + 10) = fun _ => 0 := (a5 (20, 10, 1, 160) (by decide)).2.2.1
  have z24 : jI h2 (x + 50 + 24) = fun _ => 0 := (a5 (42, 24, 2, 4) (by decide)).2.2.1
  have as : asum 24 = 8369 := by decide
  have sn : jsl (jnew h1 32 43) = jsl h1 + 43 := rfl
  have E : moQ h2 (x + 8) := moQ_sm (fun b _ _ => e b (by omega)) mo
  have P : paQ h2 (x + 23) := paQ_sm (fun b _ _ => e b (by omega)) mp
  have T : tpQ h2 (x + 1) := tpQ_sm (fun b _ _ => e b (by omega)) mt
  have R : rdI h2 (x + 3) (x + 1) := rdI_sm (fun b _ _ => e b (by omega)) mr
  have sc : ty_sc h2 x := ⟨prI_sm (fun b _ _ => e b (by omega)) mpr, fsI_sm (fun b _ _ => e b (by omega)) mfs⟩
  have e0 := e x (by omega)
  have e7 := e (x + 7) (by omega)
  have e25 := e (x + 25) (by omega)
  obtain ⟨⟨o1, o2, o3, o4, o5, o6⟩, ⟨c1, c2⟩, ⟨t1, t2⟩, ⟨u1, u2⟩⟩ := E
  have zv : ∀ a j, x + 9 ≤ a → a < x + 23 → jI h2 a j = 0 := fun a j g1 g2 => by
    rcases (by omega : a < x + 13 ∨ (x + 13 ≤ a ∧ a < x + 18) ∨ x + 18 ≤ a) with g | g | g
    · exact congrFun (c2 a (by omega) (by omega)) j
    · exact congrFun (t2 a (by omega) (by omega)) j
    · exact congrFun (u2 a (by omega) (by omega)) j
  have p5 : jR h2 (x + 24) = fun _ => none := P.2.2.2.2.2
  have X : xI h2 x := by
    unfold xI at *
    rw [e0.1, e0.2.2.2]
    exact mx
  have K3 : jI h2 x 3 = nI 0 := by rw [e0.2.1]; exact m3
  have cm : ty_cm h2 x (x + 9) (fun _ => 0) (fun _ => 0) := ⟨⟨c1, ⟨zv _ _ (by omega) (by omega), zv _ _ (by omega) (by omega), zv _ _ (by omega) (by omega), zv _ _ (by omega) (by omega), fun i _ => zv _ _ (by omega) (by omega), fun k _ => zv _ _ (by omega) (by omega)⟩, zv _ _ (by omega) (by omega), zv _ _ (by omega) (by omega), fun j _ => zv _ _ (by omega) (by omega)⟩, by omega, fun a g1 g2 => Or.inl ⟨by omega, by omega⟩⟩
  have sv : stV h2 (x + 13) (fun _ => 0) := fun s _ => ⟨zv _ _ (by omega) (by omega), zv _ _ (by omega) (by omega), zv _ _ (by omega) (by omega), zv _ _ (by omega) (by omega), fun k _ => zv _ _ (by omega) (by omega)⟩
  have nv : noV h2 (x + 18) (fun _ => 0) := ⟨zv _ _ (by omega) (by omega), fun i _ => ⟨zv _ _ (by omega) (by omega), zv _ _ (by omega) (by omega), zv _ _ (by omega) (by omega), zv _ _ (by omega) (by omega)⟩⟩
  have ru : ty_ru h2 x 0 (fun _ _ => 0) (fun _ => 0) := ⟨⟨K3, by omega⟩, fun t ht => absurd ht (Nat.not_lt_zero _), fun t _ _ => by rw [e7.2.2.2, r7]⟩
  have ps : psI h2 x (fun _ => 0) 0 0 (fun _ _ => 0) := ⟨⟨P.1, P.2.1, P.2.2.1⟩, ⟨P.2.2.2.1, by omega⟩, ⟨P.2.2.2.2.1, by omega⟩, fun i p hi hp => (by rw [p5] at hp; cases hp), fun j hj => absurd hj (Nat.not_lt_zero _)⟩
  have im : ty_im h2 x (fun _ => none) (fun _ => 0) := fun k _ => (by
    show jR h2 (x + 25) k = none
    rw [e25.2.2.2, r25])
  have tp : ty_tp h2 x (fun _ => 0) 0 := ⟨⟨T.1, T.2.1, T.2.2.1, by omega, fun p hp => absurd hp (Nat.not_lt_zero _)⟩, T.2.2.2⟩
  have C : ty_C h2 x (x + 9) 0 (fun _ _ => 0) (fun _ => 0) (-1) 0 (fun _ => 0) 0 0 (fun _ _ => 0) (fun _ => 0) 0 tK tV (fun _ => none) := ⟨⟨⟨X, ⟨o1, o3, o4⟩, t1, u1, by rw [e7.1]; exact m7, by rw [e25.1]; exact m25, R⟩, sc, by omega⟩, ⟨o2, cm⟩, ⟨sv, nv⟩, ⟨o5, o6⟩, ru, ps, im, tp, tx⟩
  have PP : ty_P 0 (fun _ => 0) (-1) 0 0 (fun _ _ => 0) (fun _ => none) := ⟨ty_z, Or.inl rfl, by decide, fun i hi => absurd hi (Nat.not_lt_zero _), fun k q hk w => (by cases w)⟩
  have RR : ty_R h2 (x + 50) 0 (fun _ _ => 0) (fun _ => 0) (-1) 0 0 (fun _ _ => 0) (fun _ => 0) 0 (fun _ => none) := ⟨⟨inv, ⟨by rw [a4]; rfl, by omega⟩, fun p hp => absurd hp (Nat.not_lt_zero _)⟩, z10, ⟨⟨by rw [a4]; rfl, by omega⟩, fun t ht => absurd ht (Nat.not_lt_zero _)⟩, ⟨by rw [a4]; rfl, by rw [a4]; rfl, by rw [a4]; rfl, by rw [a4]; rfl, by rw [a4]; rfl, by rw [a4]; rfl⟩, fun i j hi _ => absurd hi (Nat.not_lt_zero _), fun k _ => congrFun z24 k⟩
  exact ⟨⟨_, _, _, _, _, _, _, _, _, _, _, _, _, _, _, C, PP, RR⟩, by omega, by omega⟩
/-- from the law's entry to its loop, and through it -/
theorem lw_run {b0 b L : Nat} {xs : Nat → Int32} {h : jH} {Q : Option Value → jH → Prop} (hL : L ≤ 3072) (I : jInit b0 b L xs h) (hQ : ∀ h n, ty_inv h b0 n → n ≤ 512 → Q (some (.int 1)) h) : jW 2047 jlaw 0 [some (.ref b), none, none, none] [] h Q := by
  obtain ⟨⟨i1, i2, i3, i4⟩, ⟨i5, -⟩, -, tK, tV, i6, i7⟩ := I
  rw [s267_0, i1, s267_3, s267_4]
  refine k103 (d := 2042) (a := b0) (congrArg (· + 1) i1) (by rw [← i1]; exact jK_new h 31 9) (fun h1 M => ?_)
  have f1 : ∀ a, a < b0 → sm h h1 a := fun a ha => sm_trans (sm_new (k := 31) (n := 9) (by omega)) (M.2.1 a ha)
  have n1 : jnx h1 = b0 + 50 := M.1.1
  have l1 : jsl h1 ≤ 2200 := by
    have l2 := M.1.2
    have l3 : jsl (jnew h 31 9) = jsl h + 9 := rfl
    omega
  simp only [Option.toList, List.nil_append]
  rw [s267_7, jcl1_r, s267_8, n1, s267_11, s267_12]
  refine c141 (d := 2046) (h0 := jnew h1 32 43) (m := b0 + 50) ⟨⟨congrArg (· + 1) n1, rfl⟩, by rw [← n1]; exact jK_new h1 32 43, by rw [← n1]; exact jI_new h1 32 43, fun a _ => ⟨rfl, rfl, rfl, rfl⟩, fun q hq => (by cases hq), by rw [← n1]; exact jJ_new h1 32 43⟩ (fun h2 A => ?_)
  simp only [Option.toList, List.nil_append]
  rw [s267_15, jcl1_r, s267_16, s267_17, jcl1_r]
  have f2 : ∀ a, a < b0 → sm h h2 a := fun a ha => sm_trans (f1 a ha) (sm_trans (sm_new (k := 32) (n := 43) (by omega)) (A.2.2.2.1 a (by omega)))
  have tx : ty_tx h2 b0 tK tV := ⟨⟨i6, fun i hi => by
    obtain ⟨j1, j2, j3, j4, j5, j6⟩ := i7 i hi
    have g0 := f2 0 i3
    have g1 := f2 (tV i) j3
    rw [g0.2.2.2, g1.1, g1.2.1]
    exact ⟨j1, j2, j4, j5, j6⟩⟩, fun i hi => (i7 i hi).2.2.1, i3⟩
  have key := lw_loop (x := b0) (b := b) (L := L) (Q := Q) i4 hL hQ 512 0 h2 (by omega) (by omega) (ty_start M A l1 tx) (by rw [(f2 b i4).1]; exact i5)
  rw [show nI (6 * 0) = (0 : Int32) from rfl] at key
  exact key
theorem lw_hp : ∀ (b0 b L : Nat) (xs : Nat → Int32) (h : jH), L ≤ 3072 → jInit b0 b L xs h → ∃ (n : Nat) (h' : jH), jgo (jrun 2047 n) jlaw n 0 [some (.ref b), none, none, none] [] h = some (some (.int 1), h') ∧ jnx h' ≤ b0 + 500000 ∧ jsl h' ≤ 6000000 := by
  intro b0 b L xs h hL I
  obtain ⟨n, r, h', e, e1, e2, e3⟩ := lw_run (Q := fun r h' => r = some (.int 1) ∧ jnx h' ≤ b0 + 500000 ∧ jsl h' ≤ 6000000) hL I (fun h n J hn => ⟨rfl, by have := J.2.1; omega, by have := J.2.2; omega⟩)
  subst e1
  exact ⟨n, h', e, e2, e3⟩
