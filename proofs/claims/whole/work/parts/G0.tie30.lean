/-! THE LAW: the cases of its loop -/
/-- case 24 -/
theorem lw_c24 {h : jH} {x b i n L : Nat} {Q : Option Value → jH → Prop} (I : ty_inv h x n) (hb : b < x) (kb : jK h b = (8, L)) (hi : i + 6 ≤ L) (hL : L ≤ 3072) (next : ∀ h2, ty_inv h2 x (n + 1) → jK h2 b = (8, L) → jI h2 b = jI h b → jW 2047 jlaw 1223 [some (.ref b), some (.ref x), some (.ref (x + 50)), some (.int (nI i))] [] h2 Q) : jW 2047 jlaw 860 [some (.ref b), some (.ref x), some (.ref (x + 50)), some (.int (nI i))] [] h Q := by
  obtain ⟨kx, km⟩ := lw_k I
  have k8 : (jK h b).1 = 8 := by rw [kb]
  have q1 : jinb (nI i + 1) (jK h b).2 = true := by rw [kb]; exact lw_j (c := 1) (by omega) hL
  have q2 : jinb (nI i + 2) (jK h b).2 = true := by rw [kb]; exact lw_j (c := 2) (by omega) hL
  have q3 : jinb (nI i + 3) (jK h b).2 = true := by rw [kb]; exact lw_j (c := 3) (by omega) hL
  have q4 : jinb (nI i + 4) (jK h b).2 = true := by rw [kb]; exact lw_j (c := 4) (by omega) hL
  rw [s267_860, s267_861, s267_862, s267_863, s267_864, s267_865 k8 q1, s267_866, s267_867, s267_868, s267_869, s267_870 k8 q2, s267_871, s267_872, s267_873, s267_874, s267_875 k8 q3, s267_876, s267_877, s267_878, s267_879, s267_880 k8 q4, s267_881 kx]
  refine (ty_ask ty_a24) 2007 h x n _ I (fun v h1 lo hr => ?_)
  have kb1 : jK h1 b = (8, L) := by rw [(lo.1 b hb).1]; exact kb
  have eb1 : jI h1 b = jI h b := (lo.1 b hb).2
  have k81 : (jK h1 b).1 = 8 := by rw [kb1]
  have km1 : (jK h1 (x + 50)).1 = 32 := by rw [lo.2]; exact km
  have p1 : jinb (nI i + 1) (jK h1 b).2 = true := by rw [kb1]; exact lw_j (c := 1) (by omega) hL
  have p2 : jinb (nI i + 2) (jK h1 b).2 = true := by rw [kb1]; exact lw_j (c := 2) (by omega) hL
  have p3 : jinb (nI i + 3) (jK h1 b).2 = true := by rw [kb1]; exact lw_j (c := 3) (by omega) hL
  have p4 : jinb (nI i + 4) (jK h1 b).2 = true := by rw [kb1]; exact lw_j (c := 4) (by omega) hL
  simp only [Option.toList, List.cons_append, List.nil_append]
  rw [s267_884, s267_885, s267_886, s267_887, s267_888, s267_889 k81 p1, s267_890, s267_891, s267_892, s267_893, s267_894 k81 p2, s267_895, s267_896, s267_897, s267_898, s267_899 k81 p3, s267_900, s267_901, s267_902, s267_903, s267_904 k81 p4, s267_905 km1]
  rw [eb1]
  refine hr _ (fun h2 I2 lo2 => ?_)
  simp only [Option.toList, List.cons_append, List.nil_append]
  rw [s267_908, if_pos rfl]
  exact next h2 I2 (by rw [(lo2.1 b hb).1]; exact kb) (lo2.1 b hb).2
/-- case 25 -/
theorem lw_c25 {h : jH} {x b i n L : Nat} {Q : Option Value → jH → Prop} (I : ty_inv h x n) (hb : b < x) (kb : jK h b = (8, L)) (hi : i + 6 ≤ L) (hL : L ≤ 3072) (next : ∀ h2, ty_inv h2 x (n + 1) → jK h2 b = (8, L) → jI h2 b = jI h b → jW 2047 jlaw 1223 [some (.ref b), some (.ref x), some (.ref (x + 50)), some (.int (nI i))] [] h2 Q) : jW 2047 jlaw 913 [some (.ref b), some (.ref x), some (.ref (x + 50)), some (.int (nI i))] [] h Q := by
  obtain ⟨kx, km⟩ := lw_k I
  have k8 : (jK h b).1 = 8 := by rw [kb]
  have q1 : jinb (nI i + 1) (jK h b).2 = true := by rw [kb]; exact lw_j (c := 1) (by omega) hL
  have q2 : jinb (nI i + 2) (jK h b).2 = true := by rw [kb]; exact lw_j (c := 2) (by omega) hL
  rw [s267_913, s267_914, s267_915, s267_916, s267_917, s267_918 k8 q1, s267_919, s267_920, s267_921, s267_922, s267_923 k8 q2, s267_924 kx]
  refine (ty_ask ty_a25) 2007 h x n _ I (fun v h1 lo hr => ?_)
  have kb1 : jK h1 b = (8, L) := by rw [(lo.1 b hb).1]; exact kb
  have eb1 : jI h1 b = jI h b := (lo.1 b hb).2
  have k81 : (jK h1 b).1 = 8 := by rw [kb1]
  have km1 : (jK h1 (x + 50)).1 = 32 := by rw [lo.2]; exact km
  have p1 : jinb (nI i + 1) (jK h1 b).2 = true := by rw [kb1]; exact lw_j (c := 1) (by omega) hL
  have p2 : jinb (nI i + 2) (jK h1 b).2 = true := by rw [kb1]; exact lw_j (c := 2) (by omega) hL
  simp only [Option.toList, List.cons_append, List.nil_append]
  rw [s267_927, s267_928, s267_929, s267_930, s267_931, s267_932 k81 p1, s267_933, s267_934, s267_935, s267_936, s267_937 k81 p2, s267_938 km1]
  rw [eb1]
  refine hr _ (fun h2 I2 lo2 => ?_)
  simp only [Option.toList, List.cons_append, List.nil_append]
  rw [s267_941, if_pos rfl]
  exact next h2 I2 (by rw [(lo2.1 b hb).1]; exact kb) (lo2.1 b hb).2
/-- case 26 -/
theorem lw_c26 {h : jH} {x b i n L : Nat} {Q : Option Value → jH → Prop} (I : ty_inv h x n) (hb : b < x) (kb : jK h b = (8, L)) (hi : i + 6 ≤ L) (hL : L ≤ 3072) (next : ∀ h2, ty_inv h2 x (n + 1) → jK h2 b = (8, L) → jI h2 b = jI h b → jW 2047 jlaw 1223 [some (.ref b), some (.ref x), some (.ref (x + 50)), some (.int (nI i))] [] h2 Q) : jW 2047 jlaw 946 [some (.ref b), some (.ref x), some (.ref (x + 50)), some (.int (nI i))] [] h Q := by
  obtain ⟨kx, km⟩ := lw_k I
  have k8 : (jK h b).1 = 8 := by rw [kb]
  have q1 : jinb (nI i + 1) (jK h b).2 = true := by rw [kb]; exact lw_j (c := 1) (by omega) hL
  rw [s267_946, s267_947, s267_948, s267_949, s267_950, s267_951 k8 q1, s267_952 kx]
  refine (ty_ask ty_a26) 2007 h x n _ I (fun v h1 lo hr => ?_)
  have kb1 : jK h1 b = (8, L) := by rw [(lo.1 b hb).1]; exact kb
  have eb1 : jI h1 b = jI h b := (lo.1 b hb).2
  have k81 : (jK h1 b).1 = 8 := by rw [kb1]
  have km1 : (jK h1 (x + 50)).1 = 32 := by rw [lo.2]; exact km
  have p1 : jinb (nI i + 1) (jK h1 b).2 = true := by rw [kb1]; exact lw_j (c := 1) (by omega) hL
  simp only [Option.toList, List.cons_append, List.nil_append]
  rw [s267_955, s267_956, s267_957, s267_958, s267_959, s267_960 k81 p1, s267_961 km1]
  rw [eb1]
  refine hr _ (fun h2 I2 lo2 => ?_)
  simp only [Option.toList, List.cons_append, List.nil_append]
  rw [s267_964, if_pos rfl]
  exact next h2 I2 (by rw [(lo2.1 b hb).1]; exact kb) (lo2.1 b hb).2
/-- case 27 -/
theorem lw_c27 {h : jH} {x b i n L : Nat} {Q : Option Value → jH → Prop} (I : ty_inv h x n) (hb : b < x) (kb : jK h b = (8, L)) (hi : i + 6 ≤ L) (hL : L ≤ 3072) (next : ∀ h2, ty_inv h2 x (n + 1) → jK h2 b = (8, L) → jI h2 b = jI h b → jW 2047 jlaw 1223 [some (.ref b), some (.ref x), some (.ref (x + 50)), some (.int (nI i))] [] h2 Q) : jW 2047 jlaw 969 [some (.ref b), some (.ref x), some (.ref (x + 50)), some (.int (nI i))] [] h Q := by
  obtain ⟨kx, km⟩ := lw_k I
  have k8 : (jK h b).1 = 8 := by rw [kb]
  have q1 : jinb (nI i + 1) (jK h b).2 = true := by rw [kb]; exact lw_j (c := 1) (by omega) hL
  have q2 : jinb (nI i + 2) (jK h b).2 = true := by rw [kb]; exact lw_j (c := 2) (by omega) hL
  have q3 : jinb (nI i + 3) (jK h b).2 = true := by rw [kb]; exact lw_j (c := 3) (by omega) hL
  have q4 : jinb (nI i + 4) (jK h b).2 = true := by rw [kb]; exact lw_j (c := 4) (by omega) hL
  rw [s267_969, s267_970, s267_971, s267_972, s267_973, s267_974 k8 q1, s267_975, s267_976, s267_977, s267_978, s267_979 k8 q2, s267_980, s267_981, s267_982, s267_983, s267_984 k8 q3, s267_985, s267_986, s267_987, s267_988, s267_989 k8 q4, s267_990 kx]
  refine ty_s27 2007 h x n _ I (fun v h1 lo hr => ?_)
  have kb1 : jK h1 b = (8, L) := by rw [(lo.1 b hb).1]; exact kb
  have eb1 : jI h1 b = jI h b := (lo.1 b hb).2
  have k81 : (jK h1 b).1 = 8 := by rw [kb1]
  have km1 : (jK h1 (x + 50)).1 = 32 := by rw [lo.2]; exact km
  have p1 : jinb (nI i + 1) (jK h1 b).2 = true := by rw [kb1]; exact lw_j (c := 1) (by omega) hL
  have p2 : jinb (nI i + 2) (jK h1 b).2 = true := by rw [kb1]; exact lw_j (c := 2) (by omega) hL
  have p3 : jinb (nI i + 3) (jK h1 b).2 = true := by rw [kb1]; exact lw_j (c := 3) (by omega) hL
  have p4 : jinb (nI i + 4) (jK h1 b).2 = true := by rw [kb1]; exact lw_j (c := 4) (by omega) hL
  simp only [Option.toList, List.cons_append, List.nil_append]
  rw [s267_993, s267_994, s267_995, s267_996, s267_997, s267_998 k81 p1, s267_999, s267_1000, s267_1001, s267_1002, s267_1003 k81 p2, s267_1004, s267_1005, s267_1006, s267_1007, s267_1008 k81 p3, s267_1009, s267_1010, s267_1011, s267_1012, s267_1013 k81 p4, s267_1014 km1]
  rw [eb1]
  refine hr _ (fun h2 I2 lo2 => ?_)
  simp only [Option.toList, List.cons_append, List.nil_append]
  rw [s267_1017, if_pos rfl]
  exact next h2 I2 (by rw [(lo2.1 b hb).1]; exact kb) (lo2.1 b hb).2
/-- case 28 -/
theorem lw_c28 {h : jH} {x b i n L : Nat} {Q : Option Value → jH → Prop} (I : ty_inv h x n) (hb : b < x) (kb : jK h b = (8, L)) (hi : i + 6 ≤ L) (hL : L ≤ 3072) (next : ∀ h2, ty_inv h2 x (n + 1) → jK h2 b = (8, L) → jI h2 b = jI h b → jW 2047 jlaw 1223 [some (.ref b), some (.ref x), some (.ref (x + 50)), some (.int (nI i))] [] h2 Q) : jW 2047 jlaw 1022 [some (.ref b), some (.ref x), some (.ref (x + 50)), some (.int (nI i))] [] h Q := by
  obtain ⟨kx, km⟩ := lw_k I
  have k8 : (jK h b).1 = 8 := by rw [kb]
  have q1 : jinb (nI i + 1) (jK h b).2 = true := by rw [kb]; exact lw_j (c := 1) (by omega) hL
  rw [s267_1022, s267_1023, s267_1024, s267_1025, s267_1026, s267_1027 k8 q1, s267_1028 kx]
  refine (ty_ask ty_a28) 2007 h x n _ I (fun v h1 lo hr => ?_)
  have kb1 : jK h1 b = (8, L) := by rw [(lo.1 b hb).1]; exact kb
  have eb1 : jI h1 b = jI h b := (lo.1 b hb).2
  have k81 : (jK h1 b).1 = 8 := by rw [kb1]
  have km1 : (jK h1 (x + 50)).1 = 32 := by rw [lo.2]; exact km
  have p1 : jinb (nI i + 1) (jK h1 b).2 = true := by rw [kb1]; exact lw_j (c := 1) (by omega) hL
  simp only [Option.toList, List.cons_append, List.nil_append]
  rw [s267_1031, s267_1032, s267_1033, s267_1034, s267_1035, s267_1036 k81 p1, s267_1037 km1]
  rw [eb1]
  refine hr _ (fun h2 I2 lo2 => ?_)
  simp only [Option.toList, List.cons_append, List.nil_append]
  rw [s267_1040, if_pos rfl]
  exact next h2 I2 (by rw [(lo2.1 b hb).1]; exact kb) (lo2.1 b hb).2
/-- case 29 -/
theorem lw_c29 {h : jH} {x b i n L : Nat} {Q : Option Value → jH → Prop} (I : ty_inv h x n) (hb : b < x) (kb : jK h b = (8, L)) (hi : i + 6 ≤ L) (hL : L ≤ 3072) (next : ∀ h2, ty_inv h2 x (n + 1) → jK h2 b = (8, L) → jI h2 b = jI h b → jW 2047 jlaw 1223 [some (.ref b), some (.ref x), some (.ref (x + 50)), some (.int (nI i))] [] h2 Q) : jW 2047 jlaw 1045 [some (.ref b), some (.ref x), some (.ref (x + 50)), some (.int (nI i))] [] h Q := by
  obtain ⟨kx, km⟩ := lw_k I
  have k8 : (jK h b).1 = 8 := by rw [kb]
  have q1 : jinb (nI i + 1) (jK h b).2 = true := by rw [kb]; exact lw_j (c := 1) (by omega) hL
  have q2 : jinb (nI i + 2) (jK h b).2 = true := by rw [kb]; exact lw_j (c := 2) (by omega) hL
  rw [s267_1045, s267_1046, s267_1047, s267_1048, s267_1049, s267_1050 k8 q1, s267_1051, s267_1052, s267_1053, s267_1054, s267_1055 k8 q2, s267_1056 kx]
  refine (ty_ask ty_a29) 2007 h x n _ I (fun v h1 lo hr => ?_)
  have kb1 : jK h1 b = (8, L) := by rw [(lo.1 b hb).1]; exact kb
  have eb1 : jI h1 b = jI h b := (lo.1 b hb).2
  have k81 : (jK h1 b).1 = 8 := by rw [kb1]
  have km1 : (jK h1 (x + 50)).1 = 32 := by rw [lo.2]; exact km
  have p1 : jinb (nI i + 1) (jK h1 b).2 = true := by rw [kb1]; exact lw_j (c := 1) (by omega) hL
  have p2 : jinb (nI i + 2) (jK h1 b).2 = true := by rw [kb1]; exact lw_j (c := 2) (by omega) hL
  simp only [Option.toList, List.cons_append, List.nil_append]
  rw [s267_1059, s267_1060, s267_1061, s267_1062, s267_1063, s267_1064 k81 p1, s267_1065, s267_1066, s267_1067, s267_1068, s267_1069 k81 p2, s267_1070 km1]
  rw [eb1]
  refine hr _ (fun h2 I2 lo2 => ?_)
  simp only [Option.toList, List.cons_append, List.nil_append]
  rw [s267_1073, if_pos rfl]
  exact next h2 I2 (by rw [(lo2.1 b hb).1]; exact kb) (lo2.1 b hb).2
/-- case 30 -/
theorem lw_c30 {h : jH} {x b i n L : Nat} {Q : Option Value → jH → Prop} (I : ty_inv h x n) (hb : b < x) (kb : jK h b = (8, L)) (hi : i + 6 ≤ L) (hL : L ≤ 3072) (next : ∀ h2, ty_inv h2 x (n + 1) → jK h2 b = (8, L) → jI h2 b = jI h b → jW 2047 jlaw 1223 [some (.ref b), some (.ref x), some (.ref (x + 50)), some (.int (nI i))] [] h2 Q) : jW 2047 jlaw 1078 [some (.ref b), some (.ref x), some (.ref (x + 50)), some (.int (nI i))] [] h Q := by
  obtain ⟨kx, km⟩ := lw_k I
  have k8 : (jK h b).1 = 8 := by rw [kb]
  have q1 : jinb (nI i + 1) (jK h b).2 = true := by rw [kb]; exact lw_j (c := 1) (by omega) hL
  rw [s267_1078, s267_1079, s267_1080, s267_1081, s267_1082, s267_1083 k8 q1, s267_1084 kx]
  refine ty_s30 2007 h x n _ I (fun v h1 lo hr => ?_)
  have kb1 : jK h1 b = (8, L) := by rw [(lo.1 b hb).1]; exact kb
  have eb1 : jI h1 b = jI h b := (lo.1 b hb).2
  have k81 : (jK h1 b).1 = 8 := by rw [kb1]
  have km1 : (jK h1 (x + 50)).1 = 32 := by rw [lo.2]; exact km
  have p1 : jinb (nI i + 1) (jK h1 b).2 = true := by rw [kb1]; exact lw_j (c := 1) (by omega) hL
  simp only [Option.toList, List.cons_append, List.nil_append]
  rw [s267_1087, s267_1088, s267_1089, s267_1090, s267_1091, s267_1092 k81 p1, s267_1093 km1]
  rw [eb1]
  refine hr _ (fun h2 I2 lo2 => ?_)
  simp only [Option.toList, List.cons_append, List.nil_append]
  rw [s267_1096, if_pos rfl]
  exact next h2 I2 (by rw [(lo2.1 b hb).1]; exact kb) (lo2.1 b hb).2
/-- case 31 -/
theorem lw_c31 {h : jH} {x b i n L : Nat} {Q : Option Value → jH → Prop} (I : ty_inv h x n) (hb : b < x) (kb : jK h b = (8, L)) (hi : i + 6 ≤ L) (hL : L ≤ 3072) (next : ∀ h2, ty_inv h2 x (n + 1) → jK h2 b = (8, L) → jI h2 b = jI h b → jW 2047 jlaw 1223 [some (.ref b), some (.ref x), some (.ref (x + 50)), some (.int (nI i))] [] h2 Q) : jW 2047 jlaw 1101 [some (.ref b), some (.ref x), some (.ref (x + 50)), some (.int (nI i))] [] h Q := by
  obtain ⟨kx, km⟩ := lw_k I
  have k8 : (jK h b).1 = 8 := by rw [kb]
  have q1 : jinb (nI i + 1) (jK h b).2 = true := by rw [kb]; exact lw_j (c := 1) (by omega) hL
  have q2 : jinb (nI i + 2) (jK h b).2 = true := by rw [kb]; exact lw_j (c := 2) (by omega) hL
  have q3 : jinb (nI i + 3) (jK h b).2 = true := by rw [kb]; exact lw_j (c := 3) (by omega) hL
  have q4 : jinb (nI i + 4) (jK h b).2 = true := by rw [kb]; exact lw_j (c := 4) (by omega) hL
  rw [s267_1101, s267_1102, s267_1103, s267_1104, s267_1105, s267_1106 k8 q1, s267_1107, s267_1108, s267_1109, s267_1110, s267_1111 k8 q2, s267_1112, s267_1113, s267_1114, s267_1115, s267_1116 k8 q3, s267_1117, s267_1118, s267_1119, s267_1120, s267_1121 k8 q4, s267_1122 kx]
  refine (ty_ask ty_a31) 2007 h x n _ I (fun v h1 lo hr => ?_)
  have kb1 : jK h1 b = (8, L) := by rw [(lo.1 b hb).1]; exact kb
  have eb1 : jI h1 b = jI h b := (lo.1 b hb).2
  have k81 : (jK h1 b).1 = 8 := by rw [kb1]
  have km1 : (jK h1 (x + 50)).1 = 32 := by rw [lo.2]; exact km
  have p1 : jinb (nI i + 1) (jK h1 b).2 = true := by rw [kb1]; exact lw_j (c := 1) (by omega) hL
  have p2 : jinb (nI i + 2) (jK h1 b).2 = true := by rw [kb1]; exact lw_j (c := 2) (by omega) hL
  have p3 : jinb (nI i + 3) (jK h1 b).2 = true := by rw [kb1]; exact lw_j (c := 3) (by omega) hL
  have p4 : jinb (nI i + 4) (jK h1 b).2 = true := by rw [kb1]; exact lw_j (c := 4) (by omega) hL
  simp only [Option.toList, List.cons_append, List.nil_append]
  rw [s267_1125, s267_1126, s267_1127, s267_1128, s267_1129, s267_1130 k81 p1, s267_1131, s267_1132, s267_1133, s267_1134, s267_1135 k81 p2, s267_1136, s267_1137, s267_1138, s267_1139, s267_1140 k81 p3, s267_1141, s267_1142, s267_1143, s267_1144, s267_1145 k81 p4, s267_1146 km1]
  rw [eb1]
  refine hr _ (fun h2 I2 lo2 => ?_)
  simp only [Option.toList, List.cons_append, List.nil_append]
  rw [s267_1149, if_pos rfl]
  exact next h2 I2 (by rw [(lo2.1 b hb).1]; exact kb) (lo2.1 b hb).2
/-- case 32 -/
theorem lw_c32 {h : jH} {x b i n L : Nat} {Q : Option Value → jH → Prop} (I : ty_inv h x n) (hb : b < x) (kb : jK h b = (8, L)) (hi : i + 6 ≤ L) (hL : L ≤ 3072) (next : ∀ h2, ty_inv h2 x (n + 1) → jK h2 b = (8, L) → jI h2 b = jI h b → jW 2047 jlaw 1223 [some (.ref b), some (.ref x), some (.ref (x + 50)), some (.int (nI i))] [] h2 Q) : jW 2047 jlaw 1154 [some (.ref b), some (.ref x), some (.ref (x + 50)), some (.int (nI i))] [] h Q := by
  obtain ⟨kx, km⟩ := lw_k I
  have k8 : (jK h b).1 = 8 := by rw [kb]
  have q1 : jinb (nI i + 1) (jK h b).2 = true := by rw [kb]; exact lw_j (c := 1) (by omega) hL
  rw [s267_1154, s267_1155, s267_1156, s267_1157, s267_1158, s267_1159 k8 q1, s267_1160 kx]
  refine (ty_ask ty_a32) 2007 h x n _ I (fun v h1 lo hr => ?_)
  have kb1 : jK h1 b = (8, L) := by rw [(lo.1 b hb).1]; exact kb
  have eb1 : jI h1 b = jI h b := (lo.1 b hb).2
  have k81 : (jK h1 b).1 = 8 := by rw [kb1]
  have km1 : (jK h1 (x + 50)).1 = 32 := by rw [lo.2]; exact km
  have p1 : jinb (nI i + 1) (jK h1 b).2 = true := by rw [kb1]; exact lw_j (c := 1) (by omega) hL
  simp only [Option.toList, List.cons_append, List.nil_append]
  rw [s267_1163, s267_1164, s267_1165, s267_1166, s267_1167, s267_1168 k81 p1, s267_1169 km1]
  rw [eb1]
  refine hr _ (fun h2 I2 lo2 => ?_)
  simp only [Option.toList, List.cons_append, List.nil_append]
  rw [s267_1172, if_pos rfl]
  exact next h2 I2 (by rw [(lo2.1 b hb).1]; exact kb) (lo2.1 b hb).2
/-- case 33 -/
theorem lw_c33 {h : jH} {x b i n L : Nat} {Q : Option Value → jH → Prop} (I : ty_inv h x n) (hb : b < x) (kb : jK h b = (8, L)) (hi : i + 6 ≤ L) (hL : L ≤ 3072) (next : ∀ h2, ty_inv h2 x (n + 1) → jK h2 b = (8, L) → jI h2 b = jI h b → jW 2047 jlaw 1223 [some (.ref b), some (.ref x), some (.ref (x + 50)), some (.int (nI i))] [] h2 Q) : jW 2047 jlaw 1177 [some (.ref b), some (.ref x), some (.ref (x + 50)), some (.int (nI i))] [] h Q := by
  obtain ⟨kx, km⟩ := lw_k I
  have k8 : (jK h b).1 = 8 := by rw [kb]
  have q1 : jinb (nI i + 1) (jK h b).2 = true := by rw [kb]; exact lw_j (c := 1) (by omega) hL
  rw [s267_1177, s267_1178, s267_1179, s267_1180, s267_1181, s267_1182 k8 q1, s267_1183 kx]
  refine ty_s33 2007 h x n _ I (fun v h1 lo hr => ?_)
  have kb1 : jK h1 b = (8, L) := by rw [(lo.1 b hb).1]; exact kb
  have eb1 : jI h1 b = jI h b := (lo.1 b hb).2
  have k81 : (jK h1 b).1 = 8 := by rw [kb1]
  have km1 : (jK h1 (x + 50)).1 = 32 := by rw [lo.2]; exact km
  have p1 : jinb (nI i + 1) (jK h1 b).2 = true := by rw [kb1]; exact lw_j (c := 1) (by omega) hL
  simp only [Option.toList, List.cons_append, List.nil_append]
  rw [s267_1186, s267_1187, s267_1188, s267_1189, s267_1190, s267_1191 k81 p1, s267_1192 km1]
  rw [eb1]
  refine hr _ (fun h2 I2 lo2 => ?_)
  simp only [Option.toList, List.cons_append, List.nil_append]
  rw [s267_1195, if_pos rfl]
  exact next h2 I2 (by rw [(lo2.1 b hb).1]; exact kb) (lo2.1 b hb).2
/-- case 34 -/
theorem lw_c34 {h : jH} {x b i n L : Nat} {Q : Option Value → jH → Prop} (I : ty_inv h x n) (hb : b < x) (kb : jK h b = (8, L)) (hi : i + 6 ≤ L) (hL : L ≤ 3072) (next : ∀ h2, ty_inv h2 x (n + 1) → jK h2 b = (8, L) → jI h2 b = jI h b → jW 2047 jlaw 1223 [some (.ref b), some (.ref x), some (.ref (x + 50)), some (.int (nI i))] [] h2 Q) : jW 2047 jlaw 1200 [some (.ref b), some (.ref x), some (.ref (x + 50)), some (.int (nI i))] [] h Q := by
  obtain ⟨kx, km⟩ := lw_k I
  have k8 : (jK h b).1 = 8 := by rw [kb]
  have q1 : jinb (nI i + 1) (jK h b).2 = true := by rw [kb]; exact lw_j (c := 1) (by omega) hL
  rw [s267_1200, s267_1201, s267_1202, s267_1203, s267_1204, s267_1205 k8 q1, s267_1206 kx]
  refine ty_s34 2007 h x n _ I (fun v h1 lo hr => ?_)
  have kb1 : jK h1 b = (8, L) := by rw [(lo.1 b hb).1]; exact kb
  have eb1 : jI h1 b = jI h b := (lo.1 b hb).2
  have k81 : (jK h1 b).1 = 8 := by rw [kb1]
  have km1 : (jK h1 (x + 50)).1 = 32 := by rw [lo.2]; exact km
  have p1 : jinb (nI i + 1) (jK h1 b).2 = true := by rw [kb1]; exact lw_j (c := 1) (by omega) hL
  simp only [Option.toList, List.cons_append, List.nil_append]
  rw [s267_1209, s267_1210, s267_1211, s267_1212, s267_1213, s267_1214 k81 p1, s267_1215 km1]
  rw [eb1]
  refine hr _ (fun h2 I2 lo2 => ?_)
  simp only [Option.toList, List.cons_append, List.nil_append]
  rw [s267_1218, if_pos rfl]
  exact next h2 I2 (by rw [(lo2.1 b hb).1]; exact kb) (lo2.1 b hb).2
