/-! THE CLASS: its making -/
/-- cells made, and a field of a put -/
def mkp (h g : jH) (a f N s : Nat) : Prop := (jnx g = jnx h + N ∧ jsl g = jsl h + s) ∧ (∀ b, b < jnx h → b ≠ a → sm h g b) ∧ jK g a = jK h a ∧ jI g a = jI h a ∧ jR g a = va_up (jR h a) f (some (jnx h))
section
variable {h g : jH} {a f N s k n : Nat}
theorem mkp_o (ha : a < jnx h) (n1 : jnx g = jnx h + N) (n2 : jsl g = jsl h + s) (o : ∀ b, b < jnx h → sm h g b) : mkp h (jwR g a f (some (jnx h))) a f N s := ⟨⟨n1, n2⟩, fun b h1 h2 => sm_trans (o b h1) (sm_wR h2), (o a ha).1, (o a ha).2.1, by rw [jR_wR_s, (o a ha).2.2.2]⟩
theorem mkp_a (ha : a < jnx h) : mkp h (jwR (jnew h k n) a f (some (jnx h))) a f 1 n := mkp_o ha rfl rfl (fun b hb => sm_new hb)
theorem mkp_K (ha : a < jnx h) : jK (jwR (jnew h k n) a f (some (jnx h))) (jnx h) = (k, n) := jK_new h k n
theorem mkp_Z (ha : a < jnx h) : jI (jwR (jnew h k n) a f (some (jnx h))) (jnx h) = fun _ => 0 := jI_new h k n
theorem mkp_R (ha : a < jnx h) : jR (jwR (jnew h k n) a f (some (jnx h))) (jnx h) = fun _ => none := by
  rw [jR_wR_n (by omega)]
  exact jur_eq
end
theorem tcx4 : (4 : Int32).toNatClampNeg = 4 := by decide
theorem tcx6 : (6 : Int32).toNatClampNeg = 6 := by decide
theorem tcx12 : (12 : Int32).toNatClampNeg = 12 := by decide
theorem tcx13 : (13 : Int32).toNatClampNeg = 13 := by decide
theorem tcx20 : (20 : Int32).toNatClampNeg = 20 := by decide
theorem tcx42 : (42 : Int32).toNatClampNeg = 42 := by decide
theorem tcx64 : (64 : Int32).toNatClampNeg = 64 := by decide
theorem tcx366 : (366 : Int32).toNatClampNeg = 366 := by decide
theorem tcx400 : (400 : Int32).toNatClampNeg = 400 := by decide
theorem tcx448 : (448 : Int32).toNatClampNeg = 448 := by decide
section
variable {h : jH} {a k : Nat} {v : Int32} {w : Option Nat}
theorem wI_n : jnx (jwI h a k v) = jnx h := rfl
theorem wI_s : jsl (jwI h a k v) = jsl h := rfl
theorem wI_K : jK (jwI h a k v) = jK h := rfl
theorem wI_R : jR (jwI h a k v) = jR h := rfl
theorem wR_n : jnx (jwR h a k w) = jnx h := rfl
theorem wR_s : jsl (jwR h a k w) = jsl h := rfl
theorem wR_K : jK (jwR h a k w) = jK h := rfl
theorem wR_I : jI (jwR h a k w) = jI h := rfl
end
def tpQ (h : jH) (a : Nat) : Prop := jK h a = (30, 7) ∧ jR h a 0 = some (a + 1) ∧ jK h (a + 1) = (1, 400) ∧ jI h a 1 = 0
def paQ (h : jH) (a : Nat) : Prop := jK h a = (25, 3) ∧ jR h a 0 = some (a + 1) ∧ jK h (a + 1) = (7, 20) ∧ jI h a 1 = 0 ∧ jI h a 2 = 0 ∧ jR h (a + 1) = fun _ => none
def moQ (h : jH) (a : Nat) : Prop := (jK h a = (23, 5) ∧ jR h a 0 = some (a + 1) ∧ jR h a 3 = some (a + 5) ∧ jR h a 4 = some (a + 10) ∧ jI h a 1 = -1 ∧ jI h a 2 = 0) ∧ (cmI h (a + 1) ∧ zI h (a + 1) 4) ∧ (stI h (a + 5) ∧ zI h (a + 5) 5) ∧ (noI h (a + 10) ∧ zI h (a + 10) 5)
section
variable {h h' : jH} {a t : Nat}
theorem tpQ_sm (e : ∀ b, a ≤ b → b < a + 2 → sm h h' b) (H : tpQ h a) : tpQ h' a := by
  unfold tpQ at *
  rw [(e a (by omega) (by omega)).1, (e a (by omega) (by omega)).2.1, (e a (by omega) (by omega)).2.2.2, (e (a + 1) (by omega) (by omega)).1]
  exact H
theorem paQ_sm (e : ∀ b, a ≤ b → b < a + 2 → sm h h' b) (H : paQ h a) : paQ h' a := by
  unfold paQ at *
  rw [(e a (by omega) (by omega)).1, (e a (by omega) (by omega)).2.1, (e a (by omega) (by omega)).2.2.2, (e (a + 1) (by omega) (by omega)).1, (e (a + 1) (by omega) (by omega)).2.2.2]
  exact H
theorem rdI_sm (e : ∀ b, a ≤ b → b < a + 4 → sm h h' b) (H : rdI h a t) : rdI h' a t := by
  unfold rdI at *
  rw [(e a (by omega) (by omega)).1, (e a (by omega) (by omega)).2.2.2, (e (a + 1) (by omega) (by omega)).1, (e (a + 2) (by omega) (by omega)).1, (e (a + 3) (by omega) (by omega)).1]
  exact H
theorem moQ_sm (e : ∀ b, a ≤ b → b < a + 15 → sm h h' b) (H : moQ h a) : moQ h' a := by
  obtain ⟨h1, ⟨h2, h3⟩, ⟨h4, h5⟩, ⟨h6, h7⟩⟩ := H
  have e0 := e a (by omega) (by omega)
  refine ⟨by rw [e0.1, e0.2.1, e0.2.2.2]; exact h1, ⟨cmI_sm (fun b x y => e b (by omega) (by omega)) h2, zI_sm (fun b x y => e b (by omega) (by omega)) h3⟩, ⟨stI_sm (fun b x y => e b (by omega) (by omega)) h4, zI_sm (fun b x y => e b (by omega) (by omega)) h5⟩, ⟨noI_sm (fun b x y => e b (by omega) (by omega)) h6, zI_sm (fun b x y => e b (by omega) (by omega)) h7⟩⟩
theorem prI_sm (e : ∀ b, a ≤ b → b < a + 9 → sm h h' b) (H : prI h a) : prI h' a := by
  obtain ⟨h1, ⟨h2, h3⟩, ⟨h4, h5⟩, ⟨h6, h7⟩, h8, h9⟩ := H
  have e0 := e a (by omega) (by omega)
  exact ⟨by rw [e0.1]; exact h1, ⟨by rw [e0.2.2.2]; exact h2, by rw [(e _ (by omega) (by omega)).1]; exact h3⟩, ⟨by rw [e0.2.2.2]; exact h4, by rw [(e _ (by omega) (by omega)).1]; exact h5⟩, ⟨by rw [e0.2.2.2]; exact h6, stI_sm (fun b x y => e b (by omega) (by omega)) h7⟩, by rw [e0.2.2.2]; exact h8, by rw [(e _ (by omega) (by omega)).1]; exact h9⟩
end
theorem va_up_n {f : Nat → Option Nat} {k j : Nat} {v : Option Nat} (h : j ≠ k) : va_up f k v j = f j := by unfold va_up; rw [if_neg h]
theorem va_up_s {f : Nat → Option Nat} {k : Nat} {v : Option Nat} : va_up f k v k = v := by unfold va_up; rw [if_pos rfl]

