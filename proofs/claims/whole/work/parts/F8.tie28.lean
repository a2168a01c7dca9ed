/-! THE LAW: the cases of its loop -/
theorem lw_k {h : jH} {x n : Nat} (I : ty_inv h x n) : (jK h x).1 = 31 ∧ (jK h (x + 50)).1 = 32 := by
  obtain ⟨⟨c, C, fs, S, F, X, ow, l, U, K, T, L, tK, tV, IM, A, P, R⟩, -, -⟩ := I
  exact ⟨by rw [A.1.1.1.1], by rw [R.1.1.1]⟩
theorem lw_j {i c L : Nat} (h : i + c < L) (hL : L ≤ 3072) : jinb (nI i + nI c) L = true := by
  rw [nI_add]
  exact jinb_nI h (by omega)
/-- case 0 -/
theorem lw_c0 {h : jH} {x b i n L : Nat} {Q : Option Value → jH → Prop} (I : ty_inv h x n) (hb : b < x) (kb : jK h b = (8, L)) (hi : i + 6 ≤ L) (hL : L ≤ 3072) (next : ∀ h2, ty_inv h2 x (n + 1) → jK h2 b = (8, L) → jI h2 b = jI h b → jW 2047 jlaw 1223 [some (.ref b), some (.ref x), some (.ref (x + 50)), some (.int (nI i))] [] h2 Q) : jW 2047 jlaw 188 [some (.ref b), some (.ref x), some (.ref (x + 50)), some (.int (nI i))] [] h Q := by
  obtain ⟨kx, km⟩ := lw_k I
  have k8 : (jK h b).1 = 8 := by rw [kb]
  have q1 : jinb (nI i + 1) (jK h b).2 = true := by rw [kb]; exact lw_j (c := 1) (by omega) hL
  have q2 : jinb (nI i + 2) (jK h b).2 = true := by rw [kb]; exact lw_j (c := 2) (by omega) hL
  have q3 : jinb (nI i + 3) (jK h b).2 = true := by rw [kb]; exact lw_j (c := 3) (by omega) hL
  have q4 : jinb (nI i + 4) (jK h b).2 = true := by rw [kb]; exact lw_j (c := 4) (by omega) hL
  have q5 : jinb (nI i + 5) (jK h b).2 = true := by rw [kb]; exact lw_j (c := 5) (by omega) hL
  rw [s267_188, s267_189, s267_190, s267_191, s267_192, s267_193 k8 q1, s267_194, s267_195, s267_196, s267_197, s267_198 k8 q2, s267_199, s267_200, s267_201, s267_202, s267_203 k8 q3, s267_204, s267_205, s267_206, s267_207, s267_208 k8 q4, s267_209, s267_210, s267_211, s267_212, s267_213 k8 q5, s267_214 kx]
  refine ty_s0 2007 h x n _ I (fun v h1 lo hr => ?_)
  have kb1 : jK h1 b = (8, L) := by rw [(lo.1 b hb).1]; exact kb
  have eb1 : jI h1 b = jI h b := (lo.1 b hb).2
  have k81 : (jK h1 b).1 = 8 := by rw [kb1]
  have km1 : (jK h1 (x + 50)).1 = 32 := by rw [lo.2]; exact km
  have p1 : jinb (nI i + 1) (jK h1 b).2 = true := by rw [kb1]; exact lw_j (c := 1) (by omega) hL
  have p2 : jinb (nI i + 2) (jK h1 b).2 = true := by rw [kb1]; exact lw_j (c := 2) (by omega) hL
  have p3 : jinb (nI i + 3) (jK h1 b).2 = true := by rw [kb1]; exact lw_j (c := 3) (by omega) hL
  have p4 : jinb (nI i + 4) (jK h1 b).2 = true := by rw [kb1]; exact lw_j (c := 4) (by omega) hL
  have p5 : jinb (nI i + 5) (jK h1 b).2 = true := by rw [kb1]; exact lw_j (c := 5) (by omega) hL
  simp only [Option.toList, List.cons_append, List.nil_append]
  rw [s267_217, s267_218, s267_219, s267_220, s267_221, s267_222 k81 p1, s267_223, s267_224, s267_225, s267_226, s267_227 k81 p2, s267_228, s267_229, s267_230, s267_231, s267_232 k81 p3, s267_233, s267_234, s267_235, s267_236, s267_237 k81 p4, s267_238, s267_239, s267_240, s267_241, s267_242 k81 p5, s267_243 km1]
  rw [eb1]
  refine hr _ (fun h2 I2 lo2 => ?_)
  simp only [Option.toList, List.cons_append, List.nil_append]
  rw [s267_246, if_pos rfl]
  exact next h2 I2 (by rw [(lo2.1 b hb).1]; exact kb) (lo2.1 b hb).2
/-- case 1 -/
theorem lw_c1 {h : jH} {x b i n L : Nat} {Q : Option Value → jH → Prop} (I : ty_inv h x n) (hb : b < x) (kb : jK h b = (8, L)) (hi : i + 6 ≤ L) (hL : L ≤ 3072) (next : ∀ h2, ty_inv h2 x (n + 1) → jK h2 b = (8, L) → jI h2 b = jI h b → jW 2047 jlaw 1223 [some (.ref b), some (.ref x), some (.ref (x + 50)), some (.int (nI i))] [] h2 Q) : jW 2047 jlaw 251 [some (.ref b), some (.ref x), some (.ref (x + 50)), some (.int (nI i))] [] h Q := by
  obtain ⟨kx, km⟩ := lw_k I
  have k8 : (jK h b).1 = 8 := by rw [kb]
  have q1 : jinb (nI i + 1) (jK h b).2 = true := by rw [kb]; exact lw_j (c := 1) (by omega) hL
  rw [s267_251, s267_252, s267_253, s267_254, s267_255, s267_256 k8 q1, s267_257 kx]
  refine ty_s1 2007 h x n _ I (fun v h1 lo hr => ?_)
  have kb1 : jK h1 b = (8, L) := by rw [(lo.1 b hb).1]; exact kb
  have eb1 : jI h1 b = jI h b := (lo.1 b hb).2
  have k81 : (jK h1 b).1 = 8 := by rw [kb1]
  have km1 : (jK h1 (x + 50)).1 = 32 := by rw [lo.2]; exact km
  have p1 : jinb (nI i + 1) (jK h1 b).2 = true := by rw [kb1]; exact lw_j (c := 1) (by omega) hL
  simp only [Option.toList, List.cons_append, List.nil_append]
  rw [s267_260, s267_261, s267_262, s267_263, s267_264, s267_265 k81 p1, s267_266 km1]
  rw [eb1]
  refine hr _ (fun h2 I2 lo2 => ?_)
  simp only [Option.toList, List.cons_append, List.nil_append]
  rw [s267_269, if_pos rfl]
  exact next h2 I2 (by rw [(lo2.1 b hb).1]; exact kb) (lo2.1 b hb).2
/-- case 2 -/
theorem lw_c2 {h : jH} {x b i n L : Nat} {Q : Option Value → jH → Prop} (I : ty_inv h x n) (hb : b < x) (kb : jK h b = (8, L)) (hi : i + 6 ≤ L) (hL : L ≤ 3072) (next : ∀ h2, ty_inv h2 x (n + 1) → jK h2 b = (8, L) → jI h2 b = jI h b → jW 2047 jlaw 1223 [some (.ref b), some (.ref x), some (.ref (x + 50)), some (.int (nI i))] [] h2 Q) : jW 2047 jlaw 274 [some (.ref b), some (.ref x), some (.ref (x + 50)), some (.int (nI i))] [] h Q := by
  obtain ⟨kx, km⟩ := lw_k I
  have k8 : (jK h b).1 = 8 := by rw [kb]
  rw [s267_274, s267_275 kx]
  refine ty_s2 2007 h x n _ I (fun v h1 lo hr => ?_)
  have kb1 : jK h1 b = (8, L) := by rw [(lo.1 b hb).1]; exact kb
  have eb1 : jI h1 b = jI h b := (lo.1 b hb).2
  have k81 : (jK h1 b).1 = 8 := by rw [kb1]
  have km1 : (jK h1 (x + 50)).1 = 32 := by rw [lo.2]; exact km
  simp only [Option.toList, List.cons_append, List.nil_append]
  rw [s267_278, s267_279 km1]
  refine hr _ (fun h2 I2 lo2 => ?_)
  simp only [Option.toList, List.cons_append, List.nil_append]
  rw [s267_282, if_pos rfl]
  exact next h2 I2 (by rw [(lo2.1 b hb).1]; exact kb) (lo2.1 b hb).2
/-- case 3 -/
theorem lw_c3 {h : jH} {x b i n L : Nat} {Q : Option Value → jH → Prop} (I : ty_inv h x n) (hb : b < x) (kb : jK h b = (8, L)) (hi : i + 6 ≤ L) (hL : L ≤ 3072) (next : ∀ h2, ty_inv h2 x (n + 1) → jK h2 b = (8, L) → jI h2 b = jI h b → jW 2047 jlaw 1223 [some (.ref b), some (.ref x), some (.ref (x + 50)), some (.int (nI i))] [] h2 Q) : jW 2047 jlaw 287 [some (.ref b), some (.ref x), some (.ref (x + 50)), some (.int (nI i))] [] h Q := by
  obtain ⟨kx, km⟩ := lw_k I
  have k8 : (jK h b).1 = 8 := by rw [kb]
  rw [s267_287, s267_288 kx]
  refine ty_s3 2007 h x n _ I (fun v h1 lo hr => ?_)
  have kb1 : jK h1 b = (8, L) := by rw [(lo.1 b hb).1]; exact kb
  have eb1 : jI h1 b = jI h b := (lo.1 b hb).2
  have k81 : (jK h1 b).1 = 8 := by rw [kb1]
  have km1 : (jK h1 (x + 50)).1 = 32 := by rw [lo.2]; exact km
  simp only [Option.toList, List.cons_append, List.nil_append]
  rw [s267_291, s267_292 km1]
  refine hr _ (fun h2 I2 lo2 => ?_)
  simp only [Option.toList, List.cons_append, List.nil_append]
  rw [s267_295, if_pos rfl]
  exact next h2 I2 (by rw [(lo2.1 b hb).1]; exact kb) (lo2.1 b hb).2
/-- case 4 -/
theorem lw_c4 {h : jH} {x b i n L : Nat} {Q : Option Value → jH → Prop} (I : ty_inv h x n) (hb : b < x) (kb : jK h b = (8, L)) (hi : i + 6 ≤ L) (hL : L ≤ 3072) (next : ∀ h2, ty_inv h2 x (n + 1) → jK h2 b = (8, L) → jI h2 b = jI h b → jW 2047 jlaw 1223 [some (.ref b), some (.ref x), some (.ref (x + 50)), some (.int (nI i))] [] h2 Q) : jW 2047 jlaw 300 [some (.ref b), some (.ref x), some (.ref (x + 50)), some (.int (nI i))] [] h Q := by
  obtain ⟨kx, km⟩ := lw_k I
  have k8 : (jK h b).1 = 8 := by rw [kb]
  have q1 : jinb (nI i + 1) (jK h b).2 = true := by rw [kb]; exact lw_j (c := 1) (by omega) hL
  rw [s267_300, s267_301, s267_302, s267_303, s267_304, s267_305 k8 q1, s267_306 kx]
  refine ty_s4 2007 h x n _ I (fun v h1 lo hr => ?_)
  have kb1 : jK h1 b = (8, L) := by rw [(lo.1 b hb).1]; exact kb
  have eb1 : jI h1 b = jI h b := (lo.1 b hb).2
  have k81 : (jK h1 b).1 = 8 := by rw [kb1]
  have km1 : (jK h1 (x + 50)).1 = 32 := by rw [lo.2]; exact km
  have p1 : jinb (nI i + 1) (jK h1 b).2 = true := by rw [kb1]; exact lw_j (c := 1) (by omega) hL
  simp only [Option.toList, List.cons_append, List.nil_append]
  rw [s267_309, s267_310, s267_311, s267_312, s267_313, s267_314 k81 p1, s267_315 km1]
  rw [eb1]
  refine hr _ (fun h2 I2 lo2 => ?_)
  simp only [Option.toList, List.cons_append, List.nil_append]
  rw [s267_318, if_pos rfl]
  exact next h2 I2 (by rw [(lo2.1 b hb).1]; exact kb) (lo2.1 b hb).2
/-- case 5 -/
theorem lw_c5 {h : jH} {x b i n L : Nat} {Q : Option Value → jH → Prop} (I : ty_inv h x n) (hb : b < x) (kb : jK h b = (8, L)) (hi : i + 6 ≤ L) (hL : L ≤ 3072) (next : ∀ h2, ty_inv h2 x (n + 1) → jK h2 b = (8, L) → jI h2 b = jI h b → jW 2047 jlaw 1223 [some (.ref b), some (.ref x), some (.ref (x + 50)), some (.int (nI i))] [] h2 Q) : jW 2047 jlaw 323 [some (.ref b), some (.ref x), some (.ref (x + 50)), some (.int (nI i))] [] h Q := by
  obtain ⟨kx, km⟩ := lw_k I
  have k8 : (jK h b).1 = 8 := by rw [kb]
  have q1 : jinb (nI i + 1) (jK h b).2 = true := by rw [kb]; exact lw_j (c := 1) (by omega) hL
  have q2 : jinb (nI i + 2) (jK h b).2 = true := by rw [kb]; exact lw_j (c := 2) (by omega) hL
  rw [s267_323, s267_324, s267_325, s267_326, s267_327, s267_328 k8 q1, s267_329, s267_330, s267_331, s267_332, s267_333 k8 q2, s267_334 kx]
  refine (ty_ask ty_a5) 2007 h x n _ I (fun v h1 lo hr => ?_)
  have kb1 : jK h1 b = (8, L) := by rw [(lo.1 b hb).1]; exact kb
  have eb1 : jI h1 b = jI h b := (lo.1 b hb).2
  have k81 : (jK h1 b).1 = 8 := by rw [kb1]
  have km1 : (jK h1 (x + 50)).1 = 32 := by rw [lo.2]; exact km
  have p1 : jinb (nI i + 1) (jK h1 b).2 = true := by rw [kb1]; exact lw_j (c := 1) (by omega) hL
  have p2 : jinb (nI i + 2) (jK h1 b).2 = true := by rw [kb1]; exact lw_j (c := 2) (by omega) hL
  simp only [Option.toList, List.cons_append, List.nil_append]
  rw [s267_337, s267_338, s267_339, s267_340, s267_341, s267_342 k81 p1, s267_343, s267_344, s267_345, s267_346, s267_347 k81 p2, s267_348 km1]
  rw [eb1]
  refine hr _ (fun h2 I2 lo2 => ?_)
  simp only [Option.toList, List.cons_append, List.nil_append]
  rw [s267_351, if_pos rfl]
  exact next h2 I2 (by rw [(lo2.1 b hb).1]; exact kb) (lo2.1 b hb).2
/-- case 6 -/
theorem lw_c6 {h : jH} {x b i n L : Nat} {Q : Option Value → jH → Prop} (I : ty_inv h x n) (hb : b < x) (kb : jK h b = (8, L)) (hi : i + 6 ≤ L) (hL : L ≤ 3072) (next : ∀ h2, ty_inv h2 x (n + 1) → jK h2 b = (8, L) → jI h2 b = jI h b → jW 2047 jlaw 1223 [some (.ref b), some (.ref x), some (.ref (x + 50)), some (.int (nI i))] [] h2 Q) : jW 2047 jlaw 356 [some (.ref b), some (.ref x), some (.ref (x + 50)), some (.int (nI i))] [] h Q := by
  obtain ⟨kx, km⟩ := lw_k I
  have k8 : (jK h b).1 = 8 := by rw [kb]
  have q1 : jinb (nI i + 1) (jK h b).2 = true := by rw [kb]; exact lw_j (c := 1) (by omega) hL
  have q2 : jinb (nI i + 2) (jK h b).2 = true := by rw [kb]; exact lw_j (c := 2) (by omega) hL
  rw [s267_356, s267_357, s267_358, s267_359, s267_360, s267_361 k8 q1, s267_362, s267_363, s267_364, s267_365, s267_366 k8 q2, s267_367 kx]
  refine (ty_ask ty_a6) 2007 h x n _ I (fun v h1 lo hr => ?_)
  have kb1 : jK h1 b = (8, L) := by rw [(lo.1 b hb).1]; exact kb
  have eb1 : jI h1 b = jI h b := (lo.1 b hb).2
  have k81 : (jK h1 b).1 = 8 := by rw [kb1]
  have km1 : (jK h1 (x + 50)).1 = 32 := by rw [lo.2]; exact km
  have p1 : jinb (nI i + 1) (jK h1 b).2 = true := by rw [kb1]; exact lw_j (c := 1) (by omega) hL
  have p2 : jinb (nI i + 2) (jK h1 b).2 = true := by rw [kb1]; exact lw_j (c := 2) (by omega) hL
  simp only [Option.toList, List.cons_append, List.nil_append]
  rw [s267_370, s267_371, s267_372, s267_373, s267_374, s267_375 k81 p1, s267_376, s267_377, s267_378, s267_379, s267_380 k81 p2, s267_381 km1]
  rw [eb1]
  refine hr _ (fun h2 I2 lo2 => ?_)
  simp only [Option.toList, List.cons_append, List.nil_append]
  rw [s267_384, if_pos rfl]
  exact next h2 I2 (by rw [(lo2.1 b hb).1]; exact kb) (lo2.1 b hb).2
/-- case 7 -/
theorem lw_c7 {h : jH} {x b i n L : Nat} {Q : Option Value → jH → Prop} (I : ty_inv h x n) (hb : b < x) (kb : jK h b = (8, L)) (hi : i + 6 ≤ L) (hL : L ≤ 3072) (next : ∀ h2, ty_inv h2 x (n + 1) → jK h2 b = (8, L) → jI h2 b = jI h b → jW 2047 jlaw 1223 [some (.ref b), some (.ref x), some (.ref (x + 50)), some (.int (nI i))] [] h2 Q) : jW 2047 jlaw 389 [some (.ref b), some (.ref x), some (.ref (x + 50)), some (.int (nI i))] [] h Q := by
  obtain ⟨kx, km⟩ := lw_k I
  have k8 : (jK h b).1 = 8 := by rw [kb]
  have q1 : jinb (nI i + 1) (jK h b).2 = true := by rw [kb]; exact lw_j (c := 1) (by omega) hL
  rw [s267_389, s267_390, s267_391, s267_392, s267_393, s267_394 k8 q1, s267_395 kx]
  refine (ty_ask ty_a7) 2007 h x n _ I (fun v h1 lo hr => ?_)
  have kb1 : jK h1 b = (8, L) := by rw [(lo.1 b hb).1]; exact kb
  have eb1 : jI h1 b = jI h b := (lo.1 b hb).2
  have k81 : (jK h1 b).1 = 8 := by rw [kb1]
  have km1 : (jK h1 (x + 50)).1 = 32 := by rw [lo.2]; exact km
  have p1 : jinb (nI i + 1) (jK h1 b).2 = true := by rw [kb1]; exact lw_j (c := 1) (by omega) hL
  simp only [Option.toList, List.cons_append, List.nil_append]
  rw [s267_398, s267_399, s267_400, s267_401, s267_402, s267_403 k81 p1, s267_404 km1]
  rw [eb1]
  refine hr _ (fun h2 I2 lo2 => ?_)
  simp only [Option.toList, List.cons_append, List.nil_append]
  rw [s267_407, if_pos rfl]
  exact next h2 I2 (by rw [(lo2.1 b hb).1]; exact kb) (lo2.1 b hb).2
/-- case 8 -/
theorem lw_c8 {h : jH} {x b i n L : Nat} {Q : Option Value → jH → Prop} (I : ty_inv h x n) (hb : b < x) (kb : jK h b = (8, L)) (hi : i + 6 ≤ L) (hL : L ≤ 3072) (next : ∀ h2, ty_inv h2 x (n + 1) → jK h2 b = (8, L) → jI h2 b = jI h b → jW 2047 jlaw 1223 [some (.ref b), some (.ref x), some (.ref (x + 50)), some (.int (nI i))] [] h2 Q) : jW 2047 jlaw 412 [some (.ref b), some (.ref x), some (.ref (x + 50)), some (.int (nI i))] [] h Q := by
  obtain ⟨kx, km⟩ := lw_k I
  have k8 : (jK h b).1 = 8 := by rw [kb]
  rw [s267_412, s267_413 kx]
  refine ty_s8 2007 h x n _ I (fun v h1 lo hr => ?_)
  have kb1 : jK h1 b = (8, L) := by rw [(lo.1 b hb).1]; exact kb
  have eb1 : jI h1 b = jI h b := (lo.1 b hb).2
  have k81 : (jK h1 b).1 = 8 := by rw [kb1]
  have km1 : (jK h1 (x + 50)).1 = 32 := by rw [lo.2]; exact km
  simp only [Option.toList, List.cons_append, List.nil_append]
  rw [s267_416, s267_417 km1]
  refine hr _ (fun h2 I2 lo2 => ?_)
  simp only [Option.toList, List.cons_append, List.nil_append]
  rw [s267_420, if_pos rfl]
  exact next h2 I2 (by rw [(lo2.1 b hb).1]; exact kb) (lo2.1 b hb).2
/-- case 9 -/
theorem lw_c9 {h : jH} {x b i n L : Nat} {Q : Option Value → jH → Prop} (I : ty_inv h x n) (hb : b < x) (kb : jK h b = (8, L)) (hi : i + 6 ≤ L) (hL : L ≤ 3072) (next : ∀ h2, ty_inv h2 x (n + 1) → jK h2 b = (8, L) → jI h2 b = jI h b → jW 2047 jlaw 1223 [some (.ref b), some (.ref x), some (.ref (x + 50)), some (.int (nI i))] [] h2 Q) : jW 2047 jlaw 425 [some (.ref b), some (.ref x), some (.ref (x + 50)), some (.int (nI i))] [] h Q := by
  obtain ⟨kx, km⟩ := lw_k I
  have k8 : (jK h b).1 = 8 := by rw [kb]
  have q1 : jinb (nI i + 1) (jK h b).2 = true := by rw [kb]; exact lw_j (c := 1) (by omega) hL
  have q2 : jinb (nI i + 2) (jK h b).2 = true := by rw [kb]; exact lw_j (c := 2) (by omega) hL
  rw [s267_425, s267_426, s267_427, s267_428, s267_429, s267_430 k8 q1, s267_431, s267_432, s267_433, s267_434, s267_435 k8 q2, s267_436 kx]
  refine ty_s9 2007 h x n _ I (fun v h1 lo hr => ?_)
  have kb1 : jK h1 b = (8, L) := by rw [(lo.1 b hb).1]; exact kb
  have eb1 : jI h1 b = jI h b := (lo.1 b hb).2
  have k81 : (jK h1 b).1 = 8 := by rw [kb1]
  have km1 : (jK h1 (x + 50)).1 = 32 := by rw [lo.2]; exact km
  have p1 : jinb (nI i + 1) (jK h1 b).2 = true := by rw [kb1]; exact lw_j (c := 1) (by omega) hL
  have p2 : jinb (nI i + 2) (jK h1 b).2 = true := by rw [kb1]; exact lw_j (c := 2) (by omega) hL
  simp only [Option.toList, List.cons_append, List.nil_append]
  rw [s267_439, s267_440, s267_441, s267_442, s267_443, s267_444 k81 p1, s267_445, s267_446, s267_447, s267_448, s267_449 k81 p2, s267_450 km1]
  rw [eb1]
  refine hr _ (fun h2 I2 lo2 => ?_)
  simp only [Option.toList, List.cons_append, List.nil_append]
  rw [s267_453, if_pos rfl]
  exact next h2 I2 (by rw [(lo2.1 b hb).1]; exact kb) (lo2.1 b hb).2
/-- case 10 -/
theorem lw_c10 {h : jH} {x b i n L : Nat} {Q : Option Value → jH → Prop} (I : ty_inv h x n) (hb : b < x) (kb : jK h b = (8, L)) (hi : i + 6 ≤ L) (hL : L ≤ 3072) (next : ∀ h2, ty_inv h2 x (n + 1) → jK h2 b = (8, L) → jI h2 b = jI h b → jW 2047 jlaw 1223 [some (.ref b), some (.ref x), some (.ref (x + 50)), some (.int (nI i))] [] h2 Q) : jW 2047 jlaw 458 [some (.ref b), some (.ref x), some (.ref (x + 50)), some (.int (nI i))] [] h Q := by
  obtain ⟨kx, km⟩ := lw_k I
  have k8 : (jK h b).1 = 8 := by rw [kb]
  have q1 : jinb (nI i + 1) (jK h b).2 = true := by rw [kb]; exact lw_j (c := 1) (by omega) hL
  have q2 : jinb (nI i + 2) (jK h b).2 = true := by rw [kb]; exact lw_j (c := 2) (by omega) hL
  rw [s267_458, s267_459, s267_460, s267_461, s267_462, s267_463 k8 q1, s267_464, s267_465, s267_466, s267_467, s267_468 k8 q2, s267_469 kx]
  refine ty_s10 2007 h x n _ I (fun v h1 lo hr => ?_)
  have kb1 : jK h1 b = (8, L) := by rw [(lo.1 b hb).1]; exact kb
  have eb1 : jI h1 b = jI h b := (lo.1 b hb).2
  have k81 : (jK h1 b).1 = 8 := by rw [kb1]
  have km1 : (jK h1 (x + 50)).1 = 32 := by rw [lo.2]; exact km
  have p1 : jinb (nI i + 1) (jK h1 b).2 = true := by rw [kb1]; exact lw_j (c := 1) (by omega) hL
  have p2 : jinb (nI i + 2) (jK h1 b).2 = true := by rw [kb1]; exact lw_j (c := 2) (by omega) hL
  simp only [Option.toList, List.cons_append, List.nil_append]
  rw [s267_472, s267_473, s267_474, s267_475, s267_476, s267_477 k81 p1, s267_478, s267_479, s267_480, s267_481, s267_482 k81 p2, s267_483 km1]
  rw [eb1]
  refine hr _ (fun h2 I2 lo2 => ?_)
  simp only [Option.toList, List.cons_append, List.nil_append]
  rw [s267_486, if_pos rfl]
  exact next h2 I2 (by rw [(lo2.1 b hb).1]; exact kb) (lo2.1 b hb).2
/-- case 11 -/
theorem lw_c11 {h : jH} {x b i n L : Nat} {Q : Option Value → jH → Prop} (I : ty_inv h x n) (hb : b < x) (kb : jK h b = (8, L)) (hi : i + 6 ≤ L) (hL : L ≤ 3072) (next : ∀ h2, ty_inv h2 x (n + 1) → jK h2 b = (8, L) → jI h2 b = jI h b → jW 2047 jlaw 1223 [some (.ref b), some (.ref x), some (.ref (x + 50)), some (.int (nI i))] [] h2 Q) : jW 2047 jlaw 491 [some (.ref b), some (.ref x), some (.ref (x + 50)), some (.int (nI i))] [] h Q := by
  obtain ⟨kx, km⟩ := lw_k I
  have k8 : (jK h b).1 = 8 := by rw [kb]
  have q1 : jinb (nI i + 1) (jK h b).2 = true := by rw [kb]; exact lw_j (c := 1) (by omega) hL
  have q2 : jinb (nI i + 2) (jK h b).2 = true := by rw [kb]; exact lw_j (c := 2) (by omega) hL
  have q3 : jinb (nI i + 3) (jK h b).2 = true := by rw [kb]; exact lw_j (c := 3) (by omega) hL
  rw [s267_491, s267_492, s267_493, s267_494, s267_495, s267_496 k8 q1, s267_497, s267_498, s267_499, s267_500, s267_501 k8 q2, s267_502, s267_503, s267_504, s267_505, s267_506 k8 q3, s267_507 kx]
  refine ty_s11 2007 h x n _ I (fun v h1 lo hr => ?_)
  have kb1 : jK h1 b = (8, L) := by rw [(lo.1 b hb).1]; exact kb
  have eb1 : jI h1 b = jI h b := (lo.1 b hb).2
  have k81 : (jK h1 b).1 = 8 := by rw [kb1]
  have km1 : (jK h1 (x + 50)).1 = 32 := by rw [lo.2]; exact km
  have p1 : jinb (nI i + 1) (jK h1 b).2 = true := by rw [kb1]; exact lw_j (c := 1) (by omega) hL
  have p2 : jinb (nI i + 2) (jK h1 b).2 = true := by rw [kb1]; exact lw_j (c := 2) (by omega) hL
  have p3 : jinb (nI i + 3) (jK h1 b).2 = true := by rw [kb1]; exact lw_j (c := 3) (by omega) hL
  simp only [Option.toList, List.cons_append, List.nil_append]
  rw [s267_510, s267_511, s267_512, s267_513, s267_514, s267_515 k81 p1, s267_516, s267_517, s267_518, s267_519, s267_520 k81 p2, s267_521, s267_522, s267_523, s267_524, s267_525 k81 p3, s267_526 km1]
  rw [eb1]
  refine hr _ (fun h2 I2 lo2 => ?_)
  simp only [Option.toList, List.cons_append, List.nil_append]
  rw [s267_529, if_pos rfl]
  exact next h2 I2 (by rw [(lo2.1 b hb).1]; exact kb) (lo2.1 b hb).2
