/-! THE CLASS: objects made; acts kept and given back -/
/-- an object made with its first i rows -/
def oMk (h0 h : jH) (a : Nat) (K : Nat × Nat) (ar : Nat → Nat × Nat) (i s : Nat) : Prop := (jnx h = a + 1 + i ∧ jsl h = s) ∧ jK h a = K ∧ jI h a = (fun _ => 0) ∧ (∀ b, b < a → jK h b = jK h0 b ∧ jI h b = jI h0 b ∧ jJ h b = jJ h0 b ∧ jR h b = jR h0 b) ∧ ∀ j, j < i → jR h a (ar j).1 = some (a + 1 + j) ∧ jK h (a + 1 + j) = (1, (ar j).2) ∧ jI h (a + 1 + j) = (fun _ => 0)
section
variable {h0 h : jH} {a i s : Nat} {K : Nat × Nat} {ar : Nat → Nat × Nat}
theorem oMk_i {k : Nat} (A : oMk h0 h a K ar i s) : oMk h0 (jwI h a k 0) a K ar i s := by
  obtain ⟨a1, a2, a3, a4, a5⟩ := A
  have e : upd (fun _ => (0 : Int32)) k 0 = fun _ => 0 := by funext j; unfold upd; split <;> rfl
  rw [jwI_row, a3, e]
  refine ⟨a1, a2, jI_wr_s, fun b hb => ?_, fun j hj => ?_⟩
  · obtain ⟨e1, e2, e3, e4⟩ := a4 b hb
    exact ⟨e1, by rw [jI_wr_n (by omega)]; exact e2, e3, e4⟩
  · obtain ⟨e1, e2, e3⟩ := a5 j hj
    exact ⟨e1, e2, by rw [jI_wr_n (by omega)]; exact e3⟩
theorem oMk_a {f n : Nat} (A : oMk h0 h a K ar i s) (hi : ar i = (f, n)) (hq : ∀ j, j < i → (ar j).1 ≠ f) : oMk h0 (jwR (jnew h 1 n) a f (some (jnx h))) a K ar (i + 1) (s + n) := by
  obtain ⟨⟨a1, a1'⟩, a2, a3, a4, a5⟩ := A
  have eK : ∀ x, x ≠ jnx h → jK (jwR (jnew h 1 n) a f (some (jnx h))) x = jK h x := fun x hx => jur_ne hx
  have eI : ∀ x, x ≠ jnx h → jI (jwR (jnew h 1 n) a f (some (jnx h))) x = jI h x := fun x hx => jur_ne hx
  have eJ : ∀ x, x ≠ jnx h → jJ (jwR (jnew h 1 n) a f (some (jnx h))) x = jJ h x := fun x hx => jur_ne hx
  have eR : ∀ x, x ≠ jnx h → x ≠ a → jR (jwR (jnew h 1 n) a f (some (jnx h))) x = jR h x := fun x hx hx2 => by
    show jup (jur (jR h) (jnx h) (fun _ => none)) a f (some (jnx h)) x = _
    funext j
    unfold jup
    rw [if_neg hx2, jur_ne hx]
  have eRm : ∀ j, j ≠ f → jR (jwR (jnew h 1 n) a f (some (jnx h))) a j = jR h a j := fun j hj => by
    show jup (jur (jR h) (jnx h) (fun _ => none)) a f (some (jnx h)) a j = _
    unfold jup
    rw [if_pos rfl, if_neg hj, jur_ne (by omega)]
  refine ⟨⟨?_, ?_⟩, by rw [eK a (by omega)]; exact a2, by rw [eI a (by omega)]; exact a3, fun b hb => ?_, fun j hj => ?_⟩
  · show jnx h + 1 = _
    omega
  · show jsl h + n = s + n
    omega
  · obtain ⟨e1, e2, e3, e4⟩ := a4 b hb
    exact ⟨by rw [eK b (by omega)]; exact e1, by rw [eI b (by omega)]; exact e2, by rw [eJ b (by omega)]; exact e3, by rw [eR b (by omega) (by omega)]; exact e4⟩
  · rcases (by omega : j < i ∨ j = i) with q | q
    · obtain ⟨e1, e2, e3⟩ := a5 j q
      exact ⟨by rw [eRm _ (hq j q)]; exact e1, by rw [eK _ (by omega)]; exact e2, by rw [eI _ (by omega)]; exact e3⟩
    · subst q
      have ea : a + 1 + j = jnx h := by omega
      rw [hi, ea]
      refine ⟨?_, ?_, ?_⟩
      · show jup (jur (jR h) (jnx h) (fun _ => none)) a f (some (jnx h)) a f = some (jnx h)
        unfold jup
        rw [if_pos rfl, if_pos rfl]
      · show jur (jK h) (jnx h) (1, n) (jnx h) = _
        rw [jur_eq]
      · show jur (jI h) (jnx h) (fun _ => 0) (jnx h) = _
        rw [jur_eq]
theorem oMk_k {n : Nat} (A : oMk h0 h a K ar i s) : (jK (jnew h 1 n) a).1 = K.1 := by
  obtain ⟨⟨a1, -⟩, a2, -⟩ := A
  show (jur (jK h) (jnx h) (1, n) a).1 = K.1
  rw [jur_ne (by omega), a2]
theorem oMk_0 (h1 : jnx h = a + 1) (h2 : jK h a = K) (h3 : jI h a = fun _ => 0) : oMk h h a K ar 0 (jsl h) := ⟨⟨h1, rfl⟩, h2, h3, fun b _ => ⟨rfl, rfl, rfl, rfl⟩, fun j hj => by omega⟩
end
def arS : Nat → Nat × Nat := fun j => (j + 1, if j < 3 then 6 else 36)
def arC : Nat → Nat × Nat := fun j => (j + 6, if j = 0 then 12 else if j = 1 then 6 else 36)
def arN : Nat → Nat × Nat := fun j => (j + 1, 10)
section
variable {h : jH} {a : Nat} {d : Nat} {Q : Option Value → jH → Prop}
/-- a standing made -/
theorem k81 (h1 : jnx h = a + 1) (h2 : jK h a = (29, 5)) (h3 : jI h a = fun _ => 0) (hQ : ∀ h', oMk h h' a (29, 5) arS 4 (jsl h + 54) → Q none h') : jC (d + 1) 81 [.ref a] h Q := by
  have A0 : oMk h h a (29, 5) arS 0 (jsl h) := oMk_0 h1 h2 h3
  rw [e81, s81_0, s81_1, s81_4, s81_5, s81_6 (by rw [h2])]
  have A1 := oMk_i (k := 0) A0
  rw [s81_9, s81_10, s81_12 (by decide), tc6, s81_14 (oMk_k A1)]
  have A2 := oMk_a (f := 1) (n := 6) A1 rfl (by decide)
  rw [s81_17, s81_18, s81_20 (by decide), tc6, s81_22 (oMk_k A2)]
  have A3 := oMk_a (f := 2) (n := 6) A2 rfl (by decide)
  rw [s81_25, s81_26, s81_28 (by decide), tc6, s81_30 (oMk_k A3)]
  have A4 := oMk_a (f := 3) (n := 6) A3 rfl (by decide)
  rw [s81_33, s81_34, s81_36 (by decide), tc36, s81_38 (oMk_k A4)]
  have A5 := oMk_a (f := 4) (n := 36) A4 rfl (by decide)
  rw [s81_41]
  exact hQ _ A5
/-- a camp made -/
theorem k0 (h1 : jnx h = a + 1) (h2 : jK h a = (20, 9)) (h3 : jI h a = fun _ => 0) (hQ : ∀ h', oMk h h' a (20, 9) arC 3 (jsl h + 54) → Q none h') : jC (d + 1) 0 [.ref a] h Q := by
  have A0 : oMk h h a (20, 9) arC 0 (jsl h) := oMk_0 h1 h2 h3
  rw [e0, s0_0, s0_1, s0_4, s0_5, s0_6 (by rw [h2]) (Or.inl rfl)]
  have B0 := oMk_i (k := 0) A0
  rw [s0_9, s0_10, s0_11 (by rw [B0.2.1])]
  have B1 := oMk_i (k := 1) B0
  rw [s0_14, s0_15, s0_16 (by rw [B1.2.1])]
  have B2 := oMk_i (k := 2) B1
  rw [s0_19, s0_20, s0_21 (by rw [B2.2.1])]
  have B3 := oMk_i (k := 3) B2
  rw [s0_24, s0_25, s0_26 (by rw [B3.2.1])]
  have B4 := oMk_i (k := 4) B3
  rw [s0_29, s0_30, s0_31 (by rw [B4.2.1])]
  have A1 := oMk_i (k := 5) B4
  rw [s0_34, s0_35, s0_37 (by decide), tc12, s0_39 (oMk_k A1)]
  have A2 := oMk_a (f := 6) (n := 12) A1 rfl (by decide)
  rw [s0_42, s0_43, s0_45 (by decide), tc6, s0_47 (oMk_k A2)]
  have A3 := oMk_a (f := 7) (n := 6) A2 rfl (by decide)
  rw [s0_50, s0_51, s0_53 (by decide), tc36, s0_55 (oMk_k A3)]
  have A4 := oMk_a (f := 8) (n := 36) A3 rfl (by decide)
  rw [s0_58]
  exact hQ _ A4
/-- notes made -/
theorem k41 (h1 : jnx h = a + 1) (h2 : jK h a = (24, 5)) (h3 : jI h a = fun _ => 0) (hQ : ∀ h', oMk h h' a (24, 5) arN 4 (jsl h + 40) → Q none h') : jC (d + 1) 41 [.ref a] h Q := by
  have A0 : oMk h h a (24, 5) arN 0 (jsl h) := oMk_0 h1 h2 h3
  rw [e41, s41_0, s41_1, s41_4, s41_5, s41_6 (by rw [h2])]
  have A1 := oMk_i (k := 0) A0
  rw [s41_9, s41_10, s41_12 (by decide), tc10, s41_14 (oMk_k A1)]
  have A2 := oMk_a (f := 1) (n := 10) A1 rfl (by decide)
  rw [s41_17, s41_18, s41_20 (by decide), tc10, s41_22 (oMk_k A2)]
  have A3 := oMk_a (f := 2) (n := 10) A2 rfl (by decide)
  rw [s41_25, s41_26, s41_28 (by decide), tc10, s41_30 (oMk_k A3)]
  have A4 := oMk_a (f := 3) (n := 10) A3 rfl (by decide)
  rw [s41_33, s41_34, s41_36 (by decide), tc10, s41_38 (oMk_k A4)]
  have A5 := oMk_a (f := 4) (n := 10) A4 rfl (by decide)
  rw [s41_41]
  exact hQ _ A5
theorem oMk_st {h0 : jH} {s : Nat} (A : oMk h0 h a (29, 5) arS 4 s) : stI h a := ⟨A.2.1, ⟨(A.2.2.2.2 0 (by omega)).1, (A.2.2.2.2 0 (by omega)).2.1⟩, ⟨(A.2.2.2.2 1 (by omega)).1, (A.2.2.2.2 1 (by omega)).2.1⟩, ⟨(A.2.2.2.2 2 (by omega)).1, (A.2.2.2.2 2 (by omega)).2.1⟩, ⟨(A.2.2.2.2 3 (by omega)).1, (A.2.2.2.2 3 (by omega)).2.1⟩⟩
theorem oMk_cm {h0 : jH} {s : Nat} (A : oMk h0 h a (20, 9) arC 3 s) : cmI h a := ⟨A.2.1, ⟨(A.2.2.2.2 0 (by omega)).1, (A.2.2.2.2 0 (by omega)).2.1⟩, ⟨(A.2.2.2.2 1 (by omega)).1, (A.2.2.2.2 1 (by omega)).2.1⟩, ⟨(A.2.2.2.2 2 (by omega)).1, (A.2.2.2.2 2 (by omega)).2.1⟩⟩
theorem oMk_no {h0 : jH} {s : Nat} (A : oMk h0 h a (24, 5) arN 4 s) : noI h a := ⟨A.2.1, ⟨(A.2.2.2.2 0 (by omega)).1, (A.2.2.2.2 0 (by omega)).2.1⟩, ⟨(A.2.2.2.2 1 (by omega)).1, (A.2.2.2.2 1 (by omega)).2.1⟩, ⟨(A.2.2.2.2 2 (by omega)).1, (A.2.2.2.2 2 (by omega)).2.1⟩, ⟨(A.2.2.2.2 3 (by omega)).1, (A.2.2.2.2 3 (by omega)).2.1⟩⟩
end
/-- what is kept but for some cells, and what is new -/
def agx (W : Nat → Prop) (h h' : jH) : Prop := jnx h ≤ jnx h' ∧ (∀ a, a < jnx h → jK h' a = jK h a) ∧ ∀ a, a < jnx h → ¬ W a → jI h' a = jI h a ∧ jJ h' a = jJ h a ∧ jR h' a = jR h a
section
variable {h h1 h2 : jH} {W W' : Nat → Prop} {lo hi a : Nat}
theorem agx_refl : agx W h h := ⟨Nat.le_refl _, fun _ _ => rfl, fun _ _ _ => ⟨rfl, rfl, rfl⟩⟩
theorem agx_trans (A : agx W h h1) (B : agx W h1 h2) : agx W h h2 := by
  obtain ⟨a1, a2, a3⟩ := A
  obtain ⟨b1, b2, b3⟩ := B
  refine ⟨Nat.le_trans a1 b1, fun a ha => (b2 a (by omega)).trans (a2 a ha), fun a ha hw => ?_⟩
  obtain ⟨e1, e2, e3⟩ := a3 a ha hw
  obtain ⟨g1, g2, g3⟩ := b3 a (by omega) hw
  exact ⟨g1.trans e1, g2.trans e2, g3.trans e3⟩
theorem agx_wid (A : agx W h h1) (hw : ∀ a, a < jnx h → W a → W' a) : agx W' h h1 := ⟨A.1, A.2.1, fun a ha hn => A.2.2 a ha (fun w => hn (hw a ha w))⟩
theorem agx_frg (F : frg lo hi h h1) (hw : ∀ a, lo ≤ a → a < hi → W a) : agx W h h1 := ⟨by rw [F.1.1]; exact Nat.le_refl _, fun a _ => by rw [F.1.2.2], fun a _ hn => F.2 a (by
  apply Classical.byContradiction
  intro q
  exact hn (hw a (by omega) (by omega)))⟩
theorem agx_frm (F : frm lo hi h h1) (hw : ∀ a, lo ≤ a → a < hi → W a) : agx W h h1 := agx_frg (frg_frm F (Nat.le_refl _) (Nat.le_refl _)) hw
theorem agx_wI {k : Nat} {v : Int32} (hw : W a) : agx W h (jwI h a k v) := ⟨Nat.le_refl _, fun _ _ => rfl, fun b _ hn => ⟨by
  have hb : b ≠ a := fun e => hn (by rw [e]; exact hw)
  show jup (jI h) a k v b = _
  rw [jup_ne hb], rfl, rfl⟩⟩
theorem agx_wR {k : Nat} {v : Option Nat} (hw : W a) : agx W h (jwR h a k v) := ⟨Nat.le_refl _, fun _ _ => rfl, fun b _ hn => ⟨rfl, rfl, by
  have hb : b ≠ a := fun e => hn (by rw [e]; exact hw)
  show jup (jR h) a k v b = _
  rw [jup_ne hb]⟩⟩
theorem agx_st {p : Nat} (A : agx W h h1) (hp : p + 5 ≤ jnx h) (hw : ∀ a, p ≤ a → a < p + 5 → ¬ W a) (H : stI h p) : stI h1 p := by
  unfold stI at *
  rw [A.2.1 p (by omega), A.2.1 (p + 1) (by omega), A.2.1 (p + 2) (by omega), A.2.1 (p + 3) (by omega), A.2.1 (p + 4) (by omega), (A.2.2 p (by omega) (hw p (by omega) (by omega))).2.2]
  exact H
theorem agx_stV {p : Nat} {S : Nat → Int32} (A : agx W h h1) (hp : p + 5 ≤ jnx h) (hw : ∀ a, p ≤ a → a < p + 5 → ¬ W a) (H : stV h p S) : stV h1 p S := by
  unfold stV stV1 at *
  rw [(A.2.2 p (by omega) (hw p (by omega) (by omega))).1, (A.2.2 (p + 1) (by omega) (hw _ (by omega) (by omega))).1, (A.2.2 (p + 2) (by omega) (hw _ (by omega) (by omega))).1, (A.2.2 (p + 3) (by omega) (hw _ (by omega) (by omega))).1, (A.2.2 (p + 4) (by omega) (hw _ (by omega) (by omega))).1]
  exact H
theorem agx_cm {c : Nat} {S : Nat → Int32} (A : agx W h h1) (hp : c + 4 ≤ jnx h) (hw : ∀ a, c ≤ a → a < c + 4 → ¬ W a) (H : cmI h c ∧ cmV h c S ∧ cmT h c S) : cmI h1 c ∧ cmV h1 c S ∧ cmT h1 c S := by
  unfold cmI cmV cmT at *
  rw [A.2.1 c (by omega), A.2.1 (c + 1) (by omega), A.2.1 (c + 2) (by omega), A.2.1 (c + 3) (by omega), (A.2.2 c (by omega) (hw c (by omega) (by omega))).2.2, (A.2.2 c (by omega) (hw c (by omega) (by omega))).1, (A.2.2 (c + 1) (by omega) (hw _ (by omega) (by omega))).1, (A.2.2 (c + 2) (by omega) (hw _ (by omega) (by omega))).1, (A.2.2 (c + 3) (by omega) (hw _ (by omega) (by omega))).1]
  exact H
theorem agx_no {t : Nat} {S : Nat → Int32} (A : agx W h h1) (hp : t + 5 ≤ jnx h) (hw : ∀ a, t ≤ a → a < t + 5 → ¬ W a) (H : noI h t ∧ noV h t S) : noI h1 t ∧ noV h1 t S := by
  unfold noI noV at *
  rw [A.2.1 t (by omega), A.2.1 (t + 1) (by omega), A.2.1 (t + 2) (by omega), A.2.1 (t + 3) (by omega), A.2.1 (t + 4) (by omega), (A.2.2 t (by omega) (hw t (by omega) (by omega))).2.2, (A.2.2 t (by omega) (hw t (by omega) (by omega))).1, (A.2.2 (t + 1) (by omega) (hw _ (by omega) (by omega))).1, (A.2.2 (t + 2) (by omega) (hw _ (by omega) (by omega))).1, (A.2.2 (t + 3) (by omega) (hw _ (by omega) (by omega))).1, (A.2.2 (t + 4) (by omega) (hw _ (by omega) (by omega))).1]
  exact H
theorem agx_xRl {r : Nat} {g : (Nat → Int64) → Int64} (A : agx W h h1) (hp : r + 4 ≤ jnx h) (hw : ∀ a, r ≤ a → a < r + 4 → ¬ W a) (H : xRl h r g) : xRl h1 r g := by
  unfold xRl xRul at *
  rw [A.2.1 r (by omega), A.2.1 (r + 1) (by omega), A.2.1 (r + 2) (by omega), A.2.1 (r + 3) (by omega), (A.2.2 r (by omega) (hw r (by omega) (by omega))).2.2, (A.2.2 r (by omega) (hw r (by omega) (by omega))).1, (A.2.2 (r + 1) (by omega) (hw _ (by omega) (by omega))).1, (A.2.2 (r + 2) (by omega) (hw _ (by omega) (by omega))).1, (A.2.2 (r + 3) (by omega) (hw _ (by omega) (by omega))).1]
  exact H
end
