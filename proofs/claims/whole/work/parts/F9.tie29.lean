/-! THE LAW: the cases of its loop -/
/-- case 12 -/
theorem lw_c12 {h : jH} {x b i n L : Nat} {Q : Option Value → jH → Prop} (I : ty_inv h x n) (hb : b < x) (kb : jK h b = (8, L)) (hi : i + 6 ≤ L) (hL : L ≤ 3072) (next : ∀ h2, ty_inv h2 x (n + 1) → jK h2 b = (8, L) → jI h2 b = jI h b → jW 2047 jlaw 1223 [some (.ref b), some (.ref x), some (.ref (x + 50)), some (.int (nI i))] [] h2 Q) : jW 2047 jlaw 534 [some (.ref b), some (.ref x), some (.ref (x + 50)), some (.int (nI i))] [] h Q := by
  obtain ⟨kx, km⟩ := lw_k I
  have k8 : (jK h b).1 = 8 := by rw [kb]
  have q1 : jinb (nI i + 1) (jK h b).2 = true := by rw [kb]; exact lw_j (c := 1) (by omega) hL
  have q2 : jinb (nI i + 2) (jK h b).2 = true := by rw [kb]; exact lw_j (c := 2) (by omega) hL
  rw [s267_534, s267_535, s267_536, s267_537, s267_538, s267_539 k8 q1, s267_540, s267_541, s267_542, s267_543, s267_544 k8 q2, s267_545 kx]
  refine ty_s12 2007 h x n _ I (fun v h1 lo hr => ?_)
  have kb1 : jK h1 b = (8, L) := by rw [(lo.1 b hb).1]; exact kb
  have eb1 : jI h1 b = jI h b := (lo.1 b hb).2
  have k81 : (jK h1 b).1 = 8 := by rw [kb1]
  have km1 : (jK h1 (x + 50)).1 = 32 := by rw [lo.2]; exact km
  have p1 : jinb (nI i + 1) (jK h1 b).2 = true := by rw [kb1]; exact lw_j (c := 1) (by omega) hL
  have p2 : jinb (nI i + 2) (jK h1 b).2 = true := by rw [kb1]; exact lw_j (c := 2) (by omega) hL
  simp only [Option.toList, List.cons_append, List.nil_append]
  rw [s267_548, s267_549, s267_550, s267_551, s267_552, s267_553 k81 p1, s267_554, s267_555, s267_556, s267_557, s267_558 k81 p2, s267_559 km1]
  rw [eb1]
  refine hr _ (fun h2 I2 lo2 => ?_)
  simp only [Option.toList, List.cons_append, List.nil_append]
  rw [s267_562, if_pos rfl]
  exact next h2 I2 (by rw [(lo2.1 b hb).1]; exact kb) (lo2.1 b hb).2
/-- case 13 -/
theorem lw_c13 {h : jH} {x b i n L : Nat} {Q : Option Value → jH → Prop} (I : ty_inv h x n) (hb : b < x) (kb : jK h b = (8, L)) (hi : i + 6 ≤ L) (hL : L ≤ 3072) (next : ∀ h2, ty_inv h2 x (n + 1) → jK h2 b = (8, L) → jI h2 b = jI h b → jW 2047 jlaw 1223 [some (.ref b), some (.ref x), some (.ref (x + 50)), some (.int (nI i))] [] h2 Q) : jW 2047 jlaw 567 [some (.ref b), some (.ref x), some (.ref (x + 50)), some (.int (nI i))] [] h Q := by
  obtain ⟨kx, km⟩ := lw_k I
  have k8 : (jK h b).1 = 8 := by rw [kb]
  rw [s267_567, s267_568 kx]
  refine ty_s13 2007 h x n _ I (fun v h1 lo hr => ?_)
  have kb1 : jK h1 b = (8, L) := by rw [(lo.1 b hb).1]; exact kb
  have eb1 : jI h1 b = jI h b := (lo.1 b hb).2
  have k81 : (jK h1 b).1 = 8 := by rw [kb1]
  have km1 : (jK h1 (x + 50)).1 = 32 := by rw [lo.2]; exact km
  simp only [Option.toList, List.cons_append, List.nil_append]
  rw [s267_571, s267_572 km1]
  refine hr _ (fun h2 I2 lo2 => ?_)
  simp only [Option.toList, List.cons_append, List.nil_append]
  rw [s267_575, if_pos rfl]
  exact next h2 I2 (by rw [(lo2.1 b hb).1]; exact kb) (lo2.1 b hb).2
/-- case 14 -/
theorem lw_c14 {h : jH} {x b i n L : Nat} {Q : Option Value → jH → Prop} (I : ty_inv h x n) (hb : b < x) (kb : jK h b = (8, L)) (hi : i + 6 ≤ L) (hL : L ≤ 3072) (next : ∀ h2, ty_inv h2 x (n + 1) → jK h2 b = (8, L) → jI h2 b = jI h b → jW 2047 jlaw 1223 [some (.ref b), some (.ref x), some (.ref (x + 50)), some (.int (nI i))] [] h2 Q) : jW 2047 jlaw 580 [some (.ref b), some (.ref x), some (.ref (x + 50)), some (.int (nI i))] [] h Q := by
  obtain ⟨kx, km⟩ := lw_k I
  have k8 : (jK h b).1 = 8 := by rw [kb]
  have q1 : jinb (nI i + 1) (jK h b).2 = true := by rw [kb]; exact lw_j (c := 1) (by omega) hL
  have q2 : jinb (nI i + 2) (jK h b).2 = true := by rw [kb]; exact lw_j (c := 2) (by omega) hL
  have q3 : jinb (nI i + 3) (jK h b).2 = true := by rw [kb]; exact lw_j (c := 3) (by omega) hL
  rw [s267_580, s267_581, s267_582, s267_583, s267_584, s267_585 k8 q1, s267_586, s267_587, s267_588, s267_589, s267_590 k8 q2, s267_591, s267_592, s267_593, s267_594, s267_595 k8 q3, s267_596 kx]
  refine (ty_ask ty_a14) 2007 h x n _ I (fun v h1 lo hr => ?_)
  have kb1 : jK h1 b = (8, L) := by rw [(lo.1 b hb).1]; exact kb
  have eb1 : jI h1 b = jI h b := (lo.1 b hb).2
  have k81 : (jK h1 b).1 = 8 := by rw [kb1]
  have km1 : (jK h1 (x + 50)).1 = 32 := by rw [lo.2]; exact km
  have p1 : jinb (nI i + 1) (jK h1 b).2 = true := by rw [kb1]; exact lw_j (c := 1) (by omega) hL
  have p2 : jinb (nI i + 2) (jK h1 b).2 = true := by rw [kb1]; exact lw_j (c := 2) (by omega) hL
  have p3 : jinb (nI i + 3) (jK h1 b).2 = true := by rw [kb1]; exact lw_j (c := 3) (by omega) hL
  simp only [Option.toList, List.cons_append, List.nil_append]
  rw [s267_599, s267_600, s267_601, s267_602, s267_603, s267_604 k81 p1, s267_605, s267_606, s267_607, s267_608, s267_609 k81 p2, s267_610, s267_611, s267_612, s267_613, s267_614 k81 p3, s267_615 km1]
  rw [eb1]
  refine hr _ (fun h2 I2 lo2 => ?_)
  simp only [Option.toList, List.cons_append, List.nil_append]
  rw [s267_618, if_pos rfl]
  exact next h2 I2 (by rw [(lo2.1 b hb).1]; exact kb) (lo2.1 b hb).2
/-- case 15 -/
theorem lw_c15 {h : jH} {x b i n L : Nat} {Q : Option Value → jH → Prop} (I : ty_inv h x n) (hb : b < x) (kb : jK h b = (8, L)) (hi : i + 6 ≤ L) (hL : L ≤ 3072) (next : ∀ h2, ty_inv h2 x (n + 1) → jK h2 b = (8, L) → jI h2 b = jI h b → jW 2047 jlaw 1223 [some (.ref b), some (.ref x), some (.ref (x + 50)), some (.int (nI i))] [] h2 Q) : jW 2047 jlaw 623 [some (.ref b), some (.ref x), some (.ref (x + 50)), some (.int (nI i))] [] h Q := by
  obtain ⟨kx, km⟩ := lw_k I
  have k8 : (jK h b).1 = 8 := by rw [kb]
  have q1 : jinb (nI i + 1) (jK h b).2 = true := by rw [kb]; exact lw_j (c := 1) (by omega) hL
  rw [s267_623, s267_624, s267_625, s267_626, s267_627, s267_628 k8 q1, s267_629 kx]
  refine (ty_ask ty_a15) 2007 h x n _ I (fun v h1 lo hr => ?_)
  have kb1 : jK h1 b = (8, L) := by rw [(lo.1 b hb).1]; exact kb
  have eb1 : jI h1 b = jI h b := (lo.1 b hb).2
  have k81 : (jK h1 b).1 = 8 := by rw [kb1]
  have km1 : (jK h1 (x + 50)).1 = 32 := by rw [lo.2]; exact km
  have p1 : jinb (nI i + 1) (jK h1 b).2 = true := by rw [kb1]; exact lw_j (c := 1) (by omega) hL
  simp only [Option.toList, List.cons_append, List.nil_append]
  rw [s267_632, s267_633, s267_634, s267_635, s267_636, s267_637 k81 p1, s267_638 km1]
  rw [eb1]
  refine hr _ (fun h2 I2 lo2 => ?_)
  simp only [Option.toList, List.cons_append, List.nil_append]
  rw [s267_641, if_pos rfl]
  exact next h2 I2 (by rw [(lo2.1 b hb).1]; exact kb) (lo2.1 b hb).2
/-- case 16 -/
theorem lw_c16 {h : jH} {x b i n L : Nat} {Q : Option Value → jH → Prop} (I : ty_inv h x n) (hb : b < x) (kb : jK h b = (8, L)) (hi : i + 6 ≤ L) (hL : L ≤ 3072) (next : ∀ h2, ty_inv h2 x (n + 1) → jK h2 b = (8, L) → jI h2 b = jI h b → jW 2047 jlaw 1223 [some (.ref b), some (.ref x), some (.ref (x + 50)), some (.int (nI i))] [] h2 Q) : jW 2047 jlaw 646 [some (.ref b), some (.ref x), some (.ref (x + 50)), some (.int (nI i))] [] h Q := by
  obtain ⟨kx, km⟩ := lw_k I
  have k8 : (jK h b).1 = 8 := by rw [kb]
  have q1 : jinb (nI i + 1) (jK h b).2 = true := by rw [kb]; exact lw_j (c := 1) (by omega) hL
  rw [s267_646, s267_647, s267_648, s267_649, s267_650, s267_651 k8 q1, s267_652 kx]
  refine (ty_ask ty_a16) 2007 h x n _ I (fun v h1 lo hr => ?_)
  have kb1 : jK h1 b = (8, L) := by rw [(lo.1 b hb).1]; exact kb
  have eb1 : jI h1 b = jI h b := (lo.1 b hb).2
  have k81 : (jK h1 b).1 = 8 := by rw [kb1]
  have km1 : (jK h1 (x + 50)).1 = 32 := by rw [lo.2]; exact km
  have p1 : jinb (nI i + 1) (jK h1 b).2 = true := by rw [kb1]; exact lw_j (c := 1) (by omega) hL
  simp only [Option.toList, List.cons_append, List.nil_append]
  rw [s267_655, s267_656, s267_657, s267_658, s267_659, s267_660 k81 p1, s267_661 km1]
  rw [eb1]
  refine hr _ (fun h2 I2 lo2 => ?_)
  simp only [Option.toList, List.cons_append, List.nil_append]
  rw [s267_664, if_pos rfl]
  exact next h2 I2 (by rw [(lo2.1 b hb).1]; exact kb) (lo2.1 b hb).2
/-- case 17 -/
theorem lw_c17 {h : jH} {x b i n L : Nat} {Q : Option Value → jH → Prop} (I : ty_inv h x n) (hb : b < x) (kb : jK h b = (8, L)) (hi : i + 6 ≤ L) (hL : L ≤ 3072) (next : ∀ h2, ty_inv h2 x (n + 1) → jK h2 b = (8, L) → jI h2 b = jI h b → jW 2047 jlaw 1223 [some (.ref b), some (.ref x), some (.ref (x + 50)), some (.int (nI i))] [] h2 Q) : jW 2047 jlaw 669 [some (.ref b), some (.ref x), some (.ref (x + 50)), some (.int (nI i))] [] h Q := by
  obtain ⟨kx, km⟩ := lw_k I
  have k8 : (jK h b).1 = 8 := by rw [kb]
  have q1 : jinb (nI i + 1) (jK h b).2 = true := by rw [kb]; exact lw_j (c := 1) (by omega) hL
  rw [s267_669, s267_670, s267_671, s267_672, s267_673, s267_674 k8 q1, s267_675 kx]
  refine (ty_ask ty_a17) 2007 h x n _ I (fun v h1 lo hr => ?_)
  have kb1 : jK h1 b = (8, L) := by rw [(lo.1 b hb).1]; exact kb
  have eb1 : jI h1 b = jI h b := (lo.1 b hb).2
  have k81 : (jK h1 b).1 = 8 := by rw [kb1]
  have km1 : (jK h1 (x + 50)).1 = 32 := by rw [lo.2]; exact km
  have p1 : jinb (nI i + 1) (jK h1 b).2 = true := by rw [kb1]; exact lw_j (c := 1) (by omega) hL
  simp only [Option.toList, List.cons_append, List.nil_append]
  rw [s267_678, s267_679, s267_680, s267_681, s267_682, s267_683 k81 p1, s267_684 km1]
  rw [eb1]
  refine hr _ (fun h2 I2 lo2 => ?_)
  simp only [Option.toList, List.cons_append, List.nil_append]
  rw [s267_687, if_pos rfl]
  exact next h2 I2 (by rw [(lo2.1 b hb).1]; exact kb) (lo2.1 b hb).2
/-- case 18 -/
theorem lw_c18 {h : jH} {x b i n L : Nat} {Q : Option Value → jH → Prop} (I : ty_inv h x n) (hb : b < x) (kb : jK h b = (8, L)) (hi : i + 6 ≤ L) (hL : L ≤ 3072) (next : ∀ h2, ty_inv h2 x (n + 1) → jK h2 b = (8, L) → jI h2 b = jI h b → jW 2047 jlaw 1223 [some (.ref b), some (.ref x), some (.ref (x + 50)), some (.int (nI i))] [] h2 Q) : jW 2047 jlaw 692 [some (.ref b), some (.ref x), some (.ref (x + 50)), some (.int (nI i))] [] h Q := by
  obtain ⟨kx, km⟩ := lw_k I
  have k8 : (jK h b).1 = 8 := by rw [kb]
  have q1 : jinb (nI i + 1) (jK h b).2 = true := by rw [kb]; exact lw_j (c := 1) (by omega) hL
  rw [s267_692, s267_693, s267_694, s267_695, s267_696, s267_697 k8 q1, s267_698 kx]
  refine (ty_ask ty_a18) 2007 h x n _ I (fun v h1 lo hr => ?_)
  have kb1 : jK h1 b = (8, L) := by rw [(lo.1 b hb).1]; exact kb
  have eb1 : jI h1 b = jI h b := (lo.1 b hb).2
  have k81 : (jK h1 b).1 = 8 := by rw [kb1]
  have km1 : (jK h1 (x + 50)).1 = 32 := by rw [lo.2]; exact km
  have p1 : jinb (nI i + 1) (jK h1 b).2 = true := by rw [kb1]; exact lw_j (c := 1) (by omega) hL
  simp only [Option.toList, List.cons_append, List.nil_append]
  rw [s267_701, s267_702, s267_703, s267_704, s267_705, s267_706 k81 p1, s267_707 km1]
  rw [eb1]
  refine hr _ (fun h2 I2 lo2 => ?_)
  simp only [Option.toList, List.cons_append, List.nil_append]
  rw [s267_710, if_pos rfl]
  exact next h2 I2 (by rw [(lo2.1 b hb).1]; exact kb) (lo2.1 b hb).2
/-- case 19 -/
theorem lw_c19 {h : jH} {x b i n L : Nat} {Q : Option Value → jH → Prop} (I : ty_inv h x n) (hb : b < x) (kb : jK h b = (8, L)) (hi : i + 6 ≤ L) (hL : L ≤ 3072) (next : ∀ h2, ty_inv h2 x (n + 1) → jK h2 b = (8, L) → jI h2 b = jI h b → jW 2047 jlaw 1223 [some (.ref b), some (.ref x), some (.ref (x + 50)), some (.int (nI i))] [] h2 Q) : jW 2047 jlaw 715 [some (.ref b), some (.ref x), some (.ref (x + 50)), some (.int (nI i))] [] h Q := by
  obtain ⟨kx, km⟩ := lw_k I
  have k8 : (jK h b).1 = 8 := by rw [kb]
  rw [s267_715, s267_716 kx]
  refine (ty_ask ty_a19) 2007 h x n _ I (fun v h1 lo hr => ?_)
  have kb1 : jK h1 b = (8, L) := by rw [(lo.1 b hb).1]; exact kb
  have eb1 : jI h1 b = jI h b := (lo.1 b hb).2
  have k81 : (jK h1 b).1 = 8 := by rw [kb1]
  have km1 : (jK h1 (x + 50)).1 = 32 := by rw [lo.2]; exact km
  simp only [Option.toList, List.cons_append, List.nil_append]
  rw [s267_719, s267_720 km1]
  refine hr _ (fun h2 I2 lo2 => ?_)
  simp only [Option.toList, List.cons_append, List.nil_append]
  rw [s267_723, if_pos rfl]
  exact next h2 I2 (by rw [(lo2.1 b hb).1]; exact kb) (lo2.1 b hb).2
/-- case 20 -/
theorem lw_c20 {h : jH} {x b i n L : Nat} {Q : Option Value → jH → Prop} (I : ty_inv h x n) (hb : b < x) (kb : jK h b = (8, L)) (hi : i + 6 ≤ L) (hL : L ≤ 3072) (next : ∀ h2, ty_inv h2 x (n + 1) → jK h2 b = (8, L) → jI h2 b = jI h b → jW 2047 jlaw 1223 [some (.ref b), some (.ref x), some (.ref (x + 50)), some (.int (nI i))] [] h2 Q) : jW 2047 jlaw 728 [some (.ref b), some (.ref x), some (.ref (x + 50)), some (.int (nI i))] [] h Q := by
  obtain ⟨kx, km⟩ := lw_k I
  have k8 : (jK h b).1 = 8 := by rw [kb]
  have q1 : jinb (nI i + 1) (jK h b).2 = true := by rw [kb]; exact lw_j (c := 1) (by omega) hL
  have q2 : jinb (nI i + 2) (jK h b).2 = true := by rw [kb]; exact lw_j (c := 2) (by omega) hL
  have q3 : jinb (nI i + 3) (jK h b).2 = true := by rw [kb]; exact lw_j (c := 3) (by omega) hL
  rw [s267_728, s267_729, s267_730, s267_731, s267_732, s267_733 k8 q1, s267_734, s267_735, s267_736, s267_737, s267_738 k8 q2, s267_739, s267_740, s267_741, s267_742, s267_743 k8 q3, s267_744 kx]
  refine (ty_ask ty_a20) 2007 h x n _ I (fun v h1 lo hr => ?_)
  have kb1 : jK h1 b = (8, L) := by rw [(lo.1 b hb).1]; exact kb
  have eb1 : jI h1 b = jI h b := (lo.1 b hb).2
  have k81 : (jK h1 b).1 = 8 := by rw [kb1]
  have km1 : (jK h1 (x + 50)).1 = 32 := by rw [lo.2]; exact km
  have p1 : jinb (nI i + 1) (jK h1 b).2 = true := by rw [kb1]; exact lw_j (c := 1) (by omega) hL
  have p2 : jinb (nI i + 2) (jK h1 b).2 = true := by rw [kb1]; exact lw_j (c := 2) (by omega) hL
  have p3 : jinb (nI i + 3) (jK h1 b).2 = true := by rw [kb1]; exact lw_j (c := 3) (by omega) hL
  simp only [Option.toList, List.cons_append, List.nil_append]
  rw [s267_747, s267_748, s267_749, s267_750, s267_751, s267_752 k81 p1, s267_753, s267_754, s267_755, s267_756, s267_757 k81 p2, s267_758, s267_759, s267_760, s267_761, s267_762 k81 p3, s267_763 km1]
  rw [eb1]
  refine hr _ (fun h2 I2 lo2 => ?_)
  simp only [Option.toList, List.cons_append, List.nil_append]
  rw [s267_766, if_pos rfl]
  exact next h2 I2 (by rw [(lo2.1 b hb).1]; exact kb) (lo2.1 b hb).2
/-- case 21 -/
theorem lw_c21 {h : jH} {x b i n L : Nat} {Q : Option Value → jH → Prop} (I : ty_inv h x n) (hb : b < x) (kb : jK h b = (8, L)) (hi : i + 6 ≤ L) (hL : L ≤ 3072) (next : ∀ h2, ty_inv h2 x (n + 1) → jK h2 b = (8, L) → jI h2 b = jI h b → jW 2047 jlaw 1223 [some (.ref b), some (.ref x), some (.ref (x + 50)), some (.int (nI i))] [] h2 Q) : jW 2047 jlaw 771 [some (.ref b), some (.ref x), some (.ref (x + 50)), some (.int (nI i))] [] h Q := by
  obtain ⟨kx, km⟩ := lw_k I
  have k8 : (jK h b).1 = 8 := by rw [kb]
  have q1 : jinb (nI i + 1) (jK h b).2 = true := by rw [kb]; exact lw_j (c := 1) (by omega) hL
  rw [s267_771, s267_772, s267_773, s267_774, s267_775, s267_776 k8 q1, s267_777 kx]
  refine (ty_ask ty_a21) 2007 h x n _ I (fun v h1 lo hr => ?_)
  have kb1 : jK h1 b = (8, L) := by rw [(lo.1 b hb).1]; exact kb
  have eb1 : jI h1 b = jI h b := (lo.1 b hb).2
  have k81 : (jK h1 b).1 = 8 := by rw [kb1]
  have km1 : (jK h1 (x + 50)).1 = 32 := by rw [lo.2]; exact km
  have p1 : jinb (nI i + 1) (jK h1 b).2 = true := by rw [kb1]; exact lw_j (c := 1) (by omega) hL
  simp only [Option.toList, List.cons_append, List.nil_append]
  rw [s267_780, s267_781, s267_782, s267_783, s267_784, s267_785 k81 p1, s267_786 km1]
  rw [eb1]
  refine hr _ (fun h2 I2 lo2 => ?_)
  simp only [Option.toList, List.cons_append, List.nil_append]
  rw [s267_789, if_pos rfl]
  exact next h2 I2 (by rw [(lo2.1 b hb).1]; exact kb) (lo2.1 b hb).2
/-- case 22 -/
theorem lw_c22 {h : jH} {x b i n L : Nat} {Q : Option Value → jH → Prop} (I : ty_inv h x n) (hb : b < x) (kb : jK h b = (8, L)) (hi : i + 6 ≤ L) (hL : L ≤ 3072) (next : ∀ h2, ty_inv h2 x (n + 1) → jK h2 b = (8, L) → jI h2 b = jI h b → jW 2047 jlaw 1223 [some (.ref b), some (.ref x), some (.ref (x + 50)), some (.int (nI i))] [] h2 Q) : jW 2047 jlaw 794 [some (.ref b), some (.ref x), some (.ref (x + 50)), some (.int (nI i))] [] h Q := by
  obtain ⟨kx, km⟩ := lw_k I
  have k8 : (jK h b).1 = 8 := by rw [kb]
  have q1 : jinb (nI i + 1) (jK h b).2 = true := by rw [kb]; exact lw_j (c := 1) (by omega) hL
  have q2 : jinb (nI i + 2) (jK h b).2 = true := by rw [kb]; exact lw_j (c := 2) (by omega) hL
  rw [s267_794, s267_795, s267_796, s267_797, s267_798, s267_799 k8 q1, s267_800, s267_801, s267_802, s267_803, s267_804 k8 q2, s267_805 kx]
  refine (ty_ask ty_a22) 2007 h x n _ I (fun v h1 lo hr => ?_)
  have kb1 : jK h1 b = (8, L) := by rw [(lo.1 b hb).1]; exact kb
  have eb1 : jI h1 b = jI h b := (lo.1 b hb).2
  have k81 : (jK h1 b).1 = 8 := by rw [kb1]
  have km1 : (jK h1 (x + 50)).1 = 32 := by rw [lo.2]; exact km
  have p1 : jinb (nI i + 1) (jK h1 b).2 = true := by rw [kb1]; exact lw_j (c := 1) (by omega) hL
  have p2 : jinb (nI i + 2) (jK h1 b).2 = true := by rw [kb1]; exact lw_j (c := 2) (by omega) hL
  simp only [Option.toList, List.cons_append, List.nil_append]
  rw [s267_808, s267_809, s267_810, s267_811, s267_812, s267_813 k81 p1, s267_814, s267_815, s267_816, s267_817, s267_818 k81 p2, s267_819 km1]
  rw [eb1]
  refine hr _ (fun h2 I2 lo2 => ?_)
  simp only [Option.toList, List.cons_append, List.nil_append]
  rw [s267_822, if_pos rfl]
  exact next h2 I2 (by rw [(lo2.1 b hb).1]; exact kb) (lo2.1 b hb).2
/-- case 23 -/
theorem lw_c23 {h : jH} {x b i n L : Nat} {Q : Option Value → jH → Prop} (I : ty_inv h x n) (hb : b < x) (kb : jK h b = (8, L)) (hi : i + 6 ≤ L) (hL : L ≤ 3072) (next : ∀ h2, ty_inv h2 x (n + 1) → jK h2 b = (8, L) → jI h2 b = jI h b → jW 2047 jlaw 1223 [some (.ref b), some (.ref x), some (.ref (x + 50)), some (.int (nI i))] [] h2 Q) : jW 2047 jlaw 827 [some (.ref b), some (.ref x), some (.ref (x + 50)), some (.int (nI i))] [] h Q := by
  obtain ⟨kx, km⟩ := lw_k I
  have k8 : (jK h b).1 = 8 := by rw [kb]
  have q1 : jinb (nI i + 1) (jK h b).2 = true := by rw [kb]; exact lw_j (c := 1) (by omega) hL
  have q2 : jinb (nI i + 2) (jK h b).2 = true := by rw [kb]; exact lw_j (c := 2) (by omega) hL
  rw [s267_827, s267_828, s267_829, s267_830, s267_831, s267_832 k8 q1, s267_833, s267_834, s267_835, s267_836, s267_837 k8 q2, s267_838 kx]
  refine (ty_ask ty_a23) 2007 h x n _ I (fun v h1 lo hr => ?_)
  have kb1 : jK h1 b = (8, L) := by rw [(lo.1 b hb).1]; exact kb
  have eb1 : jI h1 b = jI h b := (lo.1 b hb).2
  have k81 : (jK h1 b).1 = 8 := by rw [kb1]
  have km1 : (jK h1 (x + 50)).1 = 32 := by rw [lo.2]; exact km
  have p1 : jinb (nI i + 1) (jK h1 b).2 = true := by rw [kb1]; exact lw_j (c := 1) (by omega) hL
  have p2 : jinb (nI i + 2) (jK h1 b).2 = true := by rw [kb1]; exact lw_j (c := 2) (by omega) hL
  simp only [Option.toList, List.cons_append, List.nil_append]
  rw [s267_841, s267_842, s267_843, s267_844, s267_845, s267_846 k81 p1, s267_847, s267_848, s267_849, s267_850, s267_851 k81 p2, s267_852 km1]
  rw [eb1]
  refine hr _ (fun h2 I2 lo2 => ?_)
  simp only [Option.toList, List.cons_append, List.nil_append]
  rw [s267_855, if_pos rfl]
  exact next h2 I2 (by rw [(lo2.1 b hb).1]; exact kb) (lo2.1 b hb).2
