/-! THE CLASS: where to look -/
theorem cpy_off {f g : Nat → Int32} {a n j : Nat} : va_cpy f g 0 a n j = if a ≤ j ∧ j < a + n then f (j - a) else g j := by
  unfold va_cpy
  simp only [Nat.zero_add]
section
variable {h : jH} {n c y R C : Nat} {d : Nat} {Q : Option Value → jH → Prop} {S : Nat → Int32} {rr : Option Nat} {rv : Option ((Nat → Int64) → Int64)} {fs : Nat → (Nat → Int64) → Int64}
/-- bestToLookAt: the days of one rule, laid down -/
theorem l37 (X : wl h n c y rr rv S) (Nn : wn h n y S) (L : rlI h R C fs y) {r k m : Nat} (hr : r ≤ C) (hk : k ≤ 60) (hm : m < 7) {w b x7 x8 x9 : Option Value} (hnext : ∀ h1, frg y (y + 15) h h1 → fsI h1 y → (∀ s, s < 6 → jI h1 (y + 14) (m * 6 + s) = thn fs S k r s) → (∀ j, j < m * 6 → jI h1 (y + 14) j = jI h (y + 14) j) → jW (d + 7) 37 86 [some (.ref y), some (.ref n), some (.ref R), some (.int (nI k)), b, some (.int (nI (m + 1))), some (.int (nI r - 1)), x7, x8, x9] [] h1 Q) : jW (d + 7) 37 24 [some (.ref y), some (.ref n), some (.ref R), some (.int (nI k)), jcl1 b, some (.int (nI m)), some (.int (nI r - 1)), x7, x8, x9] [] h Q := by
  sorry
end
