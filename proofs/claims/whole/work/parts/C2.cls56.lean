/-! THE CLASS: acts: sham -/
theorem sbit : ∀ k, k < 6 → ∀ a, a < 64 → ∀ b, b < 64 → (((nI a &&& (nI b ^^^ (-1))) >>> (nI k &&& 31)) &&& 1 = if a.testBit k && !b.testBit k then 1 else 0) ∧ (nI b >>> (nI k &&& 31) &&& 1 = 1 ↔ b.testBit k = true) := by decide +kernel
