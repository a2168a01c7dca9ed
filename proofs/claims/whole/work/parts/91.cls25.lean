/-! THE CLASS: the texts it has in it: their letters -/
section
variable {d k pc o : Nat} {lv : List (Option Value)} {st : List Value} {h : jH} {Q : Option Value → jH → Prop}
theorem jW_txv {x a i v : Nat} (hd : decode (jby k) pc = .ok (.getfield x, 3)) (ho : jow k = o) (h1 : jFL.find? (fun q => q.1 == o && q.2.1 == x) = none) {q : Nat × Nat × Nat × Nat} (h2 : jTL.find? (fun q => q.1 == o && q.2.1 == x) = some q) (h3 : q.2.2.1 = 0) (ht : jtxt h a = some i) (hv : jR h 0 (10 + i) = some v) : jW d k pc lv (.ref a :: st) h Q ↔ jW d k (pc + 3) lv (.ref v :: st) h Q := by
  subst ho
  refine jW_step (t := (pc + 3, lv, .ref v :: st, h)) hd (jstp_rd rfl rfl rfl rfl rfl rfl ?_)
  unfold jrd
  simp only [h1, h2, ht, h3, hv]
theorem jW_txc {x a i : Nat} (hd : decode (jby k) pc = .ok (.getfield x, 3)) (ho : jow k = o) (h1 : jFL.find? (fun q => q.1 == o && q.2.1 == x) = none) {q : Nat × Nat × Nat × Nat} (h2 : jTL.find? (fun q => q.1 == o && q.2.1 == x) = some q) (h3 : q.2.2.1 = 1) (ht : jtxt h a = some i) : jW d k pc lv (.ref a :: st) h Q ↔ jW d k (pc + 3) lv (.int 0 :: st) h Q := by
  subst ho
  refine jW_step (t := (pc + 3, lv, .int 0 :: st, h)) hd (jstp_rd rfl rfl rfl rfl rfl rfl ?_)
  unfold jrd
  simp only [h1, h2, ht, h3]
theorem jW_gs0 {x : Nat} (hd : decode (jby k) pc = .ok (.getstatic x, 3)) (ho : jow k = o) {q : Nat × Nat × Nat × Nat} (h2 : jGL.find? (fun q => q.1 == o && q.2.1 == x) = some q) (h3 : q.2.2.1 = 0) : jW d k pc lv st h Q ↔ jW d k (pc + 3) lv (.int 1 :: st) h Q := by
  subst ho
  refine jW_step (t := (pc + 3, lv, .int 1 :: st, h)) hd (jstp_rd rfl rfl rfl rfl rfl rfl ?_)
  unfold jrd
  simp only [h2, h3]
theorem jW_gs1 {x : Nat} (hd : decode (jby k) pc = .ok (.getstatic x, 3)) (ho : jow k = o) {q : Nat × Nat × Nat × Nat} (h2 : jGL.find? (fun q => q.1 == o && q.2.1 == x) = some q) (h3 : q.2.2.1 = 1) : jW d k pc lv st h Q ↔ jW d k (pc + 3) lv (va_rf (jR h 0 6) :: st) h Q := by
  subst ho
  refine jW_step (t := (pc + 3, lv, va_rf (jR h 0 6) :: st, h)) hd (jstp_rd rfl rfl rfl rfl rfl rfl ?_)
  unfold jrd
  simp only [h2, h3]
end
theorem ft17_9 : jFL.find? (fun q => q.1 == 17 && q.2.1 == 9) = none := by decide +kernel
theorem ft17_15 : jFL.find? (fun q => q.1 == 17 && q.2.1 == 15) = none := by decide +kernel
theorem tt17_9 : jTL.find? (fun q => q.1 == 17 && q.2.1 == 9) = some (17, 9, 0, 1761) := by decide +kernel
theorem tt17_15 : jTL.find? (fun q => q.1 == 17 && q.2.1 == 15) = some (17, 15, 1, 1762) := by decide +kernel
theorem tg17_38 : jGL.find? (fun q => q.1 == 17 && q.2.1 == 38) = some (17, 38, 0, 518) := by decide +kernel
theorem tg17_1053 : jGL.find? (fun q => q.1 == 17 && q.2.1 == 1053) = some (17, 1053, 1, 534) := by decide +kernel
/-- the texts lie where they lay -/
def txI (h : jH) (tK tV : Nat → Nat) : Prop := (∀ i j, i < 6 → j < 6 → tK i = tK j → i = j) ∧ ∀ i, i < 6 → jR h 0 i = some (tK i) ∧ jR h 0 (10 + i) = some (tV i) ∧ (200 ≤ (jK h (tV i)).1 ∧ (jK h (tV i)).1 < 206) ∧ (jK h (tV i)).2 = jtl.getD i 0 ∧ ∀ j, j < jtl.getD i 0 → jI h (tV i) j = (jtb.getD i []).getD j 0
theorem tb_ok : ∀ i, i < 6 → ∀ j, j < jtl.getD i 0 → ((jtb.getD i []).getD j 0 &&& 255) = (jtb.getD i []).getD j 0 ∧ (((jtb.getD i []).getD j 0).toUInt32 % 65536).toInt32 = (jtb.getD i []).getD j 0 ∧ ((jtb.getD i []).getD j 0).toUInt32.toUInt16.toUInt32.toInt32 = (jtb.getD i []).getD j 0 := by decide +kernel
theorem tl_lt : ∀ i, i < 6 → jtl.getD i 0 < 100 := by decide
section
variable {d : Nat} {h : jH} {Q : Option Value → jH → Prop} {tK tV : Nat → Nat}
theorem jtxt_i (X : txI h tK tV) {i : Nat} (hi : i < 6) : jtxt h (tK i) = some i := by
  have h0 := (X.2 0 (by omega)).1
  have h1 := (X.2 1 (by omega)).1
  have h2 := (X.2 2 (by omega)).1
  have h3 := (X.2 3 (by omega)).1
  have h4 := (X.2 4 (by omega)).1
  have h5 := (X.2 5 (by omega)).1
  have ne : ∀ j, j < 6 → j ≠ i → (some (tK j) == some (tK i)) = false := fun j hj hne => by
    have : tK j ≠ tK i := fun w => hne (X.1 j i hj hi w)
    simp [this]
  have eq : (some (tK i) == some (tK i)) = true := by simp
  show List.find? (fun j => jR h 0 j == some (tK i)) [0, 1, 2, 3, 4, 5] = some i
  rcases (by omega : i = 0 ∨ i = 1 ∨ i = 2 ∨ i = 3 ∨ i = 4 ∨ i = 5) with rfl | rfl | rfl | rfl | rfl | rfl
  · simp only [List.find?, h0, eq]
  · simp only [List.find?, h0, h1, ne 0 (by omega) (by omega), eq]
  · simp only [List.find?, h0, h1, h2, ne 0 (by omega) (by omega), ne 1 (by omega) (by omega), eq]
  · simp only [List.find?, h0, h1, h2, h3, ne 0 (by omega) (by omega), ne 1 (by omega) (by omega), ne 2 (by omega) (by omega), eq]
  · simp only [List.find?, h0, h1, h2, h3, h4, ne 0 (by omega) (by omega), ne 1 (by omega) (by omega), ne 2 (by omega) (by omega), ne 3 (by omega) (by omega), eq]
  · simp only [List.find?, h0, h1, h2, h3, h4, h5, ne 0 (by omega) (by omega), ne 1 (by omega) (by omega), ne 2 (by omega) (by omega), ne 3 (by omega) (by omega), ne 4 (by omega) (by omega), eq]
theorem k261 (X : txI h tK tV) {i : Nat} (hi : i < 6) : jC (d + 1) 261 [.ref (tK i)] h Q ↔ Q (some (.int 0)) h := by
  have ht := jtxt_i X hi
  rw [e261, jW_gs0 (show decode (jby 261) 0 = .ok (.getstatic 38, 3) by decide +kernel) jo261 tg17_38 rfl, s261_3, if_neg (by decide), s261_6, jW_txc (show decode (jby 261) 7 = .ok (.getfield 15, 3) by decide +kernel) jo261 ft17_15 tt17_15 rfl ht, s261_10, s261_14 (by decide)]
theorem k263 (X : txI h tK tV) {i : Nat} (hi : i < 6) : jC (d + 1) 263 [.ref (tK i)] h Q ↔ Q (some (.int 1)) h := by
  have ht := jtxt_i X hi
  rw [e263, jW_gs0 (show decode (jby 263) 0 = .ok (.getstatic 38, 3) by decide +kernel) jo263 tg17_38 rfl, s263_3, if_neg (by decide), s263_6, jW_txc (show decode (jby 263) 7 = .ok (.getfield 15, 3) by decide +kernel) jo263 ft17_15 tt17_15 rfl ht, s263_10, if_neg (by decide), s263_13, s263_14, s263_18 (Or.inr rfl)]
/-- length -/
theorem k260 (X : txI h tK tV) {i : Nat} (hi : i < 6) : jC (d + 2) 260 [.ref (tK i)] h Q ↔ Q (some (.int (nI (jtl.getD i 0)))) h := by
  have ht := jtxt_i X hi
  obtain ⟨x1, x2, x3, x4, x5⟩ := X.2 i hi
  have hts : (jtxt h (tK i)).isSome = true := by rw [ht]; rfl
  rw [e260, s260_0, jW_txv (show decode (jby 260) 1 = .ok (.getfield 9, 3) by decide +kernel) jo260 ft17_9 tt17_9 rfl ht x2, s260_4 (Or.inr (Or.inr x3)), s260_5, s260_6 hts, k261 X hi]
  have e0 : ∀ y : Int32, y >>> ((0 : Int32) &&& 31) = y := fun y => by
    have : ((0 : Int32) &&& 31) = 0 := by decide
    rw [this]
    simp
  simp only [Option.toList, List.cons_append, List.nil_append]
  rw [s260_9, s260_10, e0, x4]
  exact Iff.rfl
theorem k266 {x n : Nat} {o : Option Nat} (hx : x < n) (hn : n < 1000) : jC (d + 1) 266 [.int (nI x), .int (nI n), va_rf o] h Q ↔ Q (some (.int (nI x))) h := by
  have z0 : ¬ nI x < 0 := nI_pos (by omega)
  have z1 : nI x < nI n := nI_lt hx (by omega)
  have e : jC (d + 1) 266 [.int (nI x), .int (nI n), va_rf o] h Q ↔ jW d 266 0 [some (.int (nI x)), some (.int (nI n)), some (va_rf o)] [] h Q := by
    cases o with
    | some b => exact e266
    | none => exact jC_enter (by decide +kernel) (by rw [jm266]; exact Nat.le_of_ble_eq_true rfl) (by rw [jm266]; rfl)
  rw [e, s266_0, s266_1, if_neg z0, s266_4, s266_5, s266_6, if_pos z1, s266_16, s266_17]
theorem k264 {x n : Nat} (hx : x < n) (hn : n < 1000) : jC (d + 2) 264 [.int (nI x), .int (nI n)] h Q ↔ Q none h := by
  rw [e264, s264_0, s264_1, jW_gs1 (show decode (jby 264) 2 = .ok (.getstatic 1053, 3) by decide +kernel) jo264 tg17_1053 rfl, s264_5, k266 hx hn]
  simp only [Option.toList, List.cons_append, List.nil_append]
  rw [s264_8, s264_9]
/-- charAt -/
theorem k262 (X : txI h tK tV) {i j : Nat} (hi : i < 6) (hj : j < jtl.getD i 0) : jC (d + 4) 262 [.ref (tK i), .int (nI j)] h Q ↔ Q (some (.int ((jtb.getD i []).getD j 0))) h := by
  have ht := jtxt_i X hi
  obtain ⟨x1, x2, x3, x4, x5⟩ := X.2 i hi
  have hl := tl_lt i hi
  have hts : (jtxt h (tK i)).isSome = true := by rw [ht]; rfl
  obtain ⟨b1, b2, b3⟩ := tb_ok i hi j hj
  rw [e262, s262_0, s262_1 hts, k263 X hi]
  simp only [Option.toList, List.cons_append, List.nil_append]
  rw [s262_4, if_neg (by decide), s262_7, jW_txv (show decode (jby 262) 8 = .ok (.getfield 9, 3) by decide +kernel) jo262 ft17_9 tt17_9 rfl ht x2, s262_11, s262_12, e265, s265_0, s265_1, s265_2 (Or.inr (Or.inr x3)), s265_3]
  have e1 : Int32.ofNat (jK h (tV i)).2 = nI (jtl.getD i 0) := by rw [x4]; rfl
  rw [e1, k264 hj (by omega)]
  simp only [Option.toList, List.nil_append]
  rw [s265_6, s265_7, s265_8 (Or.inr (Or.inr x3)) (by rw [x4]; exact jinb_nI hj (by omega)), nI_clamp (by omega), x5 j hj, s265_9, s265_12, b1, s265_13, b2, s265_14 b3]
  simp only [Option.toList, List.cons_append, List.nil_append]
  rw [s262_15 b3]
end
