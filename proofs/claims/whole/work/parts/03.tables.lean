/-! THE TABLES of the little machine: printed by wip/whole/gen.py out of the claim (tables_1 by places, names) -/
def jTb : List Cond := lw_tbl.filter goodWord
def jwd (i : Nat) (w : Cond) : Bool := decide (lw_tbl[i]? = some w) && goodWord w
theorem jwd_in {i : Nat} {w : Cond} (h : jwd i w = true) : w ∈ jTb := by
  obtain ⟨h1, h2⟩ := Bool.and_eq_true_iff.mp h
  exact List.mem_filter.mpr ⟨List.mem_of_getElem? (of_decide_eq_true h1), h2⟩
theorem jTb_in {w : Cond} (h : w ∈ jTb) : w ∈ lw_tbl := (List.mem_filter.mp h).1
theorem jTb_good {w : Cond} (h : w ∈ jTb) : goodWord w = true := (List.mem_filter.mp h).2
def jnest (w : Cond) : Bool := match w with
  | .fieldLinkNest .. => true
  | .methodLinkNest .. => true
  | .castable .. => true
  | .arrayOver (.object _) => true
  | _ => false
def jTn : List Cond := lw_tbl.filter jnest
def jwn (i : Nat) (w : Cond) : Bool := decide (lw_tbl[i]? = some w) && jnest w
theorem jwn_in {i : Nat} {w : Cond} (h : jwn i w = true) : w ∈ jTn := by
  obtain ⟨h1, h2⟩ := Bool.and_eq_true_iff.mp h
  exact List.mem_filter.mpr ⟨List.mem_of_getElem? (of_decide_eq_true h1), h2⟩
theorem jcd_in {i : Nat} {y : MethodName} {b : ByteArray} {n : Nat} {r : Option FieldType} (h : lw_tbl[i]? = some (.code y b n r)) : Cond.code y b n r ∈ jTb := List.mem_filter.mpr ⟨List.mem_of_getElem? h, rfl⟩
/-- the classes by their numbers -/
def jcnL : List String := [RX0, RX1, RX2, RX3, RX4, RX5, RX6, RX7, RX8, RX9, RX10, RX11, RX12, RL, RJ6, RJ9, RJ7, RJ0, RJ1, RJ3]
def jcn (o : Nat) : String := jcnL.getD o ""
def jty (ci : Nat) : Nat → FieldType := match ci with
  | 0 => tyX0
  | 1 => tyX1
  | 2 => tyX2
  | 3 => tyX3
  | 4 => tyX4
  | 5 => tyX5
  | 6 => tyX6
  | 7 => tyX7
  | 8 => tyX8
  | 9 => tyX9
  | 10 => tyX10
  | 11 => tyX11
  | _ => tyX12
def jlyP0 : List Nat := [238, 240, 242, 244, 246, 248, 250, 252, 254]
theorem jly0 : ∀ k, k < 9 → jwd (jlyP0.getD k 0) (u_lay RX0 TX0 k) = true := by decide +kernel
theorem jlo0 : ∀ k, k < 9 → (TX0 k).1 = RX0 := by decide +kernel
def jlyP1 : List Nat := [409, 411, 413, 415, 417, 419, 421, 423]
theorem jly1 : ∀ k, k < 8 → jwd (jlyP1.getD k 0) (u_lay RX1 TX1 k) = true := by decide +kernel
theorem jlo1 : ∀ k, k < 8 → (TX1 k).1 = RX1 := by decide +kernel
def jlyP2 : List Nat := [434, 436, 438, 440, 442]
theorem jly2 : ∀ k, k < 5 → jwd (jlyP2.getD k 0) (u_lay RX2 TX2 k) = true := by decide +kernel
theorem jlo2 : ∀ k, k < 5 → (TX2 k).1 = RX2 := by decide +kernel
def jlyP3 : List Nat := [329, 331, 333, 335, 337]
theorem jly3 : ∀ k, k < 5 → jwd (jlyP3.getD k 0) (u_lay RX3 TX3 k) = true := by decide +kernel
theorem jlo3 : ∀ k, k < 5 → (TX3 k).1 = RX3 := by decide +kernel
def jlyP4 : List Nat := [302, 304, 306, 308, 310]
theorem jly4 : ∀ k, k < 5 → jwd (jlyP4.getD k 0) (u_lay RX4 TX4 k) = true := by decide +kernel
theorem jlo4 : ∀ k, k < 5 → (TX4 k).1 = RX4 := by decide +kernel
def jlyP5 : List Nat := [352, 354, 356]
theorem jly5 : ∀ k, k < 3 → jwd (jlyP5.getD k 0) (u_lay RX5 TX5 k) = true := by decide +kernel
theorem jlo5 : ∀ k, k < 3 → (TX5 k).1 = RX5 := by decide +kernel
def jlyP6 : List Nat := [372, 374, 376, 378]
theorem jly6 : ∀ k, k < 4 → jwd (jlyP6.getD k 0) (u_lay RX6 TX6 k) = true := by decide +kernel
theorem jlo6 : ∀ k, k < 4 → (TX6 k).1 = RX6 := by decide +kernel
def jlyP7 : List Nat := [668, 670, 672, 674]
theorem jly7 : ∀ k, k < 4 → jwd (jlyP7.getD k 0) (u_lay RX7 TX7 k) = true := by decide +kernel
theorem jlo7 : ∀ k, k < 4 → (TX7 k).1 = RX7 := by decide +kernel
def jlyP8 : List Nat := [180, 182, 184, 186, 188, 190, 192]
theorem jly8 : ∀ k, k < 7 → jwd (jlyP8.getD k 0) (u_lay RX8 TX8 k) = true := by decide +kernel
theorem jlo8 : ∀ k, k < 7 → (TX8 k).1 = RX8 := by decide +kernel
def jlyP9 : List Nat := [279, 281, 283, 285, 287]
theorem jly9 : ∀ k, k < 5 → jwd (jlyP9.getD k 0) (u_lay RX9 TX9 k) = true := by decide +kernel
theorem jlo9 : ∀ k, k < 5 → (TX9 k).1 = RX9 := by decide +kernel
def jlyP10 : List Nat := [151, 153, 155, 157, 159, 161, 163]
theorem jly10 : ∀ k, k < 7 → jwd (jlyP10.getD k 0) (u_lay RX10 TX10 k) = true := by decide +kernel
theorem jlo10 : ∀ k, k < 7 → (TX10 k).1 = RX10 := by decide +kernel
def jlyP11 : List Nat := [454, 456, 458, 460, 462, 464, 466, 468, 470]
theorem jly11 : ∀ k, k < 9 → jwd (jlyP11.getD k 0) (u_lay RX11 TX11 k) = true := by decide +kernel
theorem jlo11 : ∀ k, k < 9 → (TX11 k).1 = RX11 := by decide +kernel
def jlyP12 : List Nat := [1191, 1193, 1195, 1197, 1199, 1201, 1203, 1205, 1207, 1209, 1211, 1213, 1215, 1217, 1219, 1221, 1223, 1225, 1227, 1229, 1231, 1233, 1235, 1237, 1239, 1241, 1243, 1245, 1247, 1249, 1251, 1253, 1255, 1257, 1259, 1261, 1263, 1265, 1267, 1269, 1271, 1273, 1275]
theorem jly12 : ∀ k, k < 43 → jwd (jlyP12.getD k 0) (u_lay RX12 TX12 k) = true := by decide +kernel
theorem jlo12 : ∀ k, k < 43 → (TX12 k).1 = RX12 := by decide +kernel
/-- what each class of objects gives: its words, its fields' types, its fields apart and its own -/
def jclOk (ci : Nat) (q : vw_C) : Prop := (∀ w ∈ u_ws q.1 q.2.1 q.2.2, w ∈ jTb) ∧ (∀ k, k < q.2.2 → parseFieldDescriptor (q.2.1 k).2.2.1 = some (jty ci k)) ∧ (∀ a, a < q.2.2 → ∀ b, b < q.2.2 → a ≠ b → (q.2.1 a).2.1 ≠ (q.2.1 b).2.1) ∧ (∀ k, k < q.2.2 → (q.2.1 k).1 = q.1)
theorem jly_in {C : String} {T : u_T} {N : Nat} {ps : List Nat} (h : ∀ k, k < N → jwd (ps.getD k 0) (u_lay C T k) = true) : ∀ w ∈ u_ws C T N, w ∈ jTb := by
  intro w hw
  obtain ⟨k, hk, rfl⟩ := List.mem_map.mp hw
  exact jwd_in (h k (List.mem_range.mp hk))
theorem jcl_ok {ci : Nat} {q : vw_C} (h : vwCl[ci]? = some q) : jclOk ci q := by
  match ci, h with
  | 0, h => cases h; exact ⟨jly_in jly0, tyX0_ok, nmX0, jlo0⟩
  | 1, h => cases h; exact ⟨jly_in jly1, tyX1_ok, nmX1, jlo1⟩
  | 2, h => cases h; exact ⟨jly_in jly2, tyX2_ok, nmX2, jlo2⟩
  | 3, h => cases h; exact ⟨jly_in jly3, tyX3_ok, nmX3, jlo3⟩
  | 4, h => cases h; exact ⟨jly_in jly4, tyX4_ok, nmX4, jlo4⟩
  | 5, h => cases h; exact ⟨jly_in jly5, tyX5_ok, nmX5, jlo5⟩
  | 6, h => cases h; exact ⟨jly_in jly6, tyX6_ok, nmX6, jlo6⟩
  | 7, h => cases h; exact ⟨jly_in jly7, tyX7_ok, nmX7, jlo7⟩
  | 8, h => cases h; exact ⟨jly_in jly8, tyX8_ok, nmX8, jlo8⟩
  | 9, h => cases h; exact ⟨jly_in jly9, tyX9_ok, nmX9, jlo9⟩
  | 10, h => cases h; exact ⟨jly_in jly10, tyX10_ok, nmX10, jlo10⟩
  | 11, h => cases h; exact ⟨jly_in jly11, tyX11_ok, nmX11, jlo11⟩
  | 12, h => cases h; exact ⟨jly_in jly12, tyX12_ok, nmX12, jlo12⟩
  | n + 13, h => exact absurd h (by simp [vwCl])
def jobL : List (Nat × Nat) := [(204, 108), (388, 114), (382, 113), (198, 107), (291, 110), (341, 111), (361, 112), (643, 122), (168, 106), (258, 109), (134, 105), (126, 104), (1143, 115)]
def jobOk (ci : Nat) (q : Nat × Nat) : Bool := match vwCl[ci]? with
  | some r => jwd q.1 (.instantiable r.1 r.2.2) && jwd q.2 (.initialized r.1)
  | none => false
theorem job_ok : ∀ ci, ci < 13 → jobOk ci (jobL.getD ci (0, 0)) = true := by decide +kernel
/-- a method: its class, its name, its bytes, its locals, what it returns, places of its words -/
abbrev jMt : Type := Nat × MethodName × ByteArray × Nat × Option FieldType × Nat × Nat
def jML0 : List jMt := [(0, yX0_init, cX0_init, 1, (Option.none : Option FieldType), 207, 108),
  (0, yX0_read, cX0_read, 5, (Option.some FieldType.boolean), 499, 108),
  (0, yX0_isFullOf, cX0_isFullOf, 2, (Option.some FieldType.boolean), 568, 108),
  (0, yX0_readNumbers, cX0_readNumbers, 3, (Option.some FieldType.boolean), 573, 108),
  (0, yX0_readSkill, cX0_readSkill, 5, (Option.some FieldType.boolean), 582, 108),
  (0, yX0_hasScout, cX0_hasScout, 2, (Option.some FieldType.boolean), 688, 108),
  (0, yX0_calmOf, cX0_calmOf, 2, (Option.some FieldType.int), 696, 108),
  (0, yX0_hasBoth, cX0_hasBoth, 3, (Option.some FieldType.boolean), 708, 108),
  (0, yX0_hasKind, cX0_hasKind, 2, (Option.some FieldType.boolean), 713, 108),
  (1, yX1_init, cX1_init, 1, (Option.none : Option FieldType), 391, 114),
  (1, yX1_startFrom, cX1_startFrom, 4, (Option.none : Option FieldType), 775, 114),
  (1, yX1_setUp, cX1_setUp, 3, (Option.none : Option FieldType), 780, 114),
  (1, yX1_live, cX1_live, 5, (Option.some FieldType.int), 784, 114),
  (1, yX1_hardestWithoutBadge, cX1_hardestWithoutBadge, 4, (Option.some FieldType.int), 789, 114),
  (1, yX1_isLeftOut, cX1_isLeftOut, 2, (Option.some FieldType.boolean), 793, 114),
  (1, yX1_worthiest, cX1_worthiest, 9, (Option.some FieldType.int), 801, 114),
  (1, yX1_tellScout, cX1_tellScout, 3, (Option.none : Option FieldType), 805, 114),
  (1, yX1_tellKind, cX1_tellKind, 3, (Option.none : Option FieldType), 810, 114),
  (1, yX1_liveFor, cX1_liveFor, 3, (Option.none : Option FieldType), 875, 114),
  (1, yX1_startAsTold, cX1_startAsTold, 3, (Option.none : Option FieldType), 1094, 114),
  (2, yX2_init, cX2_init, 1, (Option.none : Option FieldType), 385, 113),
  (2, yX2_liveOne, cX2_liveOne, 4, (Option.some FieldType.int), 767, 113),
  (2, yX2_start, cX2_start, 3, (Option.none : Option FieldType), 771, 113),
  (2, yX2_after, cX2_after, 4, (Option.some (FieldType.object "FailBadge$Standing")), 871, 113),
  (2, yX2_firstWholeArm, cX2_firstWholeArm, 6, (Option.some FieldType.int), 888, 113),
  (2, yX2_firstOff, cX2_firstOff, 6, (Option.some FieldType.int), 896, 113),
  (2, yX2_leastToLearn, cX2_leastToLearn, 7, (Option.some FieldType.int), 908, 113),
  (2, yX2_fewestLeftOut, cX2_fewestLeftOut, 7, (Option.some FieldType.int), 916, 113),
  (2, yX2_isQuiet, cX2_isQuiet, 6, (Option.some FieldType.boolean), 921, 113),
  (2, yX2_firstRing, cX2_firstRing, 6, (Option.some FieldType.int), 930, 113),
  (2, yX2_traceDay, cX2_traceDay, 6, (Option.none : Option FieldType), 934, 113),
  (2, yX2_isSameTrace, cX2_isSameTrace, 4, (Option.some FieldType.boolean), 939, 113),
  (2, yX2_drawCamps, cX2_drawCamps, 10, (Option.none : Option FieldType), 947, 113),
  (2, yX2_stepped, cX2_stepped, 2, (Option.some FieldType.long), 950, 113),
  (2, yX2_drawOf, cX2_drawOf, 2, (Option.some FieldType.int), 956, 113),
  (2, yX2_allowedByNotes, cX2_allowedByNotes, 7, (Option.some FieldType.int), 1086, 113),
  (2, yX2_isAllowed, cX2_isAllowed, 6, (Option.some FieldType.boolean), 1090, 113),
  (2, yX2_bestToLookAt, cX2_bestToLookAt, 10, (Option.some FieldType.int), 1113, 113),
  (2, yX2_mostAlike, cX2_mostAlike, 7, (Option.some FieldType.int), 1118, 113),
  (3, yX3_init, cX3_init, 1, (Option.none : Option FieldType), 201, 107),
  (3, yX3_copyFrom, cX3_copyFrom, 2, (Option.none : Option FieldType), 1131, 107),
  (4, yX4_init, cX4_init, 1, (Option.none : Option FieldType), 294, 110),
  (4, yX4_isFull, cX4_isFull, 1, (Option.some FieldType.boolean), 1073, 110),
  (4, yX4_add, cX4_add, 5, (Option.none : Option FieldType), 1077, 110),
  (4, yX4_lastDay, cX4_lastDay, 3, (Option.some FieldType.int), 1099, 110),
  (4, yX4_agreeBehind, cX4_agreeBehind, 4, (Option.some FieldType.boolean), 1104, 110),
  (4, yX4_copyFrom, cX4_copyFrom, 2, (Option.none : Option FieldType), 1136, 110),
  (5, yX5_init, cX5_init, 1, (Option.none : Option FieldType), 344, 111),
  (5, yX5_keep, cX5_keep, 2, (Option.none : Option FieldType), 750, 111),
  (5, yX5_giveBack, cX5_giveBack, 2, (Option.none : Option FieldType), 863, 111)]
def jML1 : List jMt := [(6, yX6_init, cX6_init, 1, (Option.none : Option FieldType), 364, 112),
  (6, yX6_fewestForAll, cX6_fewestForAll, 6, (Option.some FieldType.int), 966, 112),
  (6, yX6_findAble, cX6_findAble, 3, (Option.none : Option FieldType), 970, 112),
  (6, yX6_ableTogether, cX6_ableTogether, 4, (Option.some FieldType.int), 975, 112),
  (6, yX6_mostMatched, cX6_mostMatched, 2, (Option.some FieldType.int), 984, 112),
  (6, yX6_fillMatched, cX6_fillMatched, 5, (Option.none : Option FieldType), 988, 112),
  (6, yX6_mostFrom, cX6_mostFrom, 7, (Option.some FieldType.int), 993, 112),
  (6, yX6_matchOf, cX6_matchOf, 6, (Option.some FieldType.int), 1000, 112),
  (6, yX6_firstChoice, cX6_firstChoice, 7, (Option.some FieldType.int), 1004, 112),
  (6, yX6_trusted, cX6_trusted, 4, (Option.some FieldType.int), 1012, 112),
  (6, yX6_isTrustedMore, cX6_isTrustedMore, 5, (Option.some FieldType.boolean), 1015, 112),
  (6, yX6_partOf, cX6_partOf, 10, (Option.some FieldType.int), 1024, 112),
  (6, yX6_firstCalmEnough, cX6_firstCalmEnough, 7, (Option.some FieldType.int), 1033, 112),
  (6, yX6_bestRow, cX6_bestRow, 11, (Option.some FieldType.int), 1043, 112),
  (6, yX6_badgesBy, cX6_badgesBy, 9, (Option.some FieldType.int), 1047, 112),
  (6, yX6_bestToKeepAt, cX6_bestToKeepAt, 8, (Option.some FieldType.int), 1060, 112),
  (6, yX6_gainBy, cX6_gainBy, 8, (Option.some FieldType.int), 1064, 112),
  (7, yX7_init, cX7_init, 5, (Option.none : Option FieldType), 662, 122),
  (7, yX7_worth, cX7_worth, 6, (Option.some FieldType.long), 819, 122),
  (7, yX7_result, cX7_result, 8, (Option.some FieldType.long), 823, 122),
  (7, yX7_joined, cX7_joined, 5, (Option.some FieldType.long), 826, 122),
  (8, yX8_init, cX8_init, 2, (Option.none : Option FieldType), 171, 106),
  (8, yX8_read, cX8_read, 2, (Option.some FieldType.boolean), 601, 106),
  (8, yX8_readSum, cX8_readSum, 5, (Option.some FieldType.boolean), 610, 106),
  (8, yX8_readValue, cX8_readValue, 2, (Option.some FieldType.boolean), 614, 106),
  (8, yX8_put, cX8_put, 2, (Option.none : Option FieldType), 619, 106),
  (8, yX8_codeOf, cX8_codeOf, 1, (Option.some FieldType.int), 622, 106),
  (8, yX8_readTest, cX8_readTest, 6, (Option.some FieldType.boolean), 627, 106),
  (8, yX8_readFact, cX8_readFact, 4, (Option.some FieldType.boolean), 631, 106),
  (8, yX8_readComparison, cX8_readComparison, 3, (Option.some FieldType.boolean), 636, 106),
  (8, yX8_made, cX8_made, 1, (Option.some (FieldType.object "FailBadge$Rule")), 641, 106),
  (9, yX9_init, cX9_init, 1, (Option.none : Option FieldType), 261, 109),
  (9, yX9_begin, cX9_begin, 2, (Option.none : Option FieldType), 586, 109),
  (9, yX9_able, cX9_able, 6, (Option.some FieldType.int), 692, 109),
  (9, yX9_skillOf, cX9_skillOf, 3, (Option.some FieldType.int), 700, 109),
  (9, yX9_badgesOfAll, cX9_badgesOfAll, 3, (Option.some FieldType.int), 728, 109),
  (9, yX9_badgeCount, cX9_badgeCount, 2, (Option.some FieldType.int), 732, 109),
  (9, yX9_passedOfAll, cX9_passedOfAll, 3, (Option.some FieldType.int), 742, 109),
  (9, yX9_copyFrom, cX9_copyFrom, 2, (Option.none : Option FieldType), 755, 109),
  (9, yX9_hasBadge, cX9_hasBadge, 3, (Option.some FieldType.boolean), 797, 109),
  (9, yX9_othersWith, cX9_othersWith, 5, (Option.some FieldType.int), 815, 109),
  (9, yX9_tries, cX9_tries, 6, (Option.some FieldType.boolean), 830, 109),
  (9, yX9_learns, cX9_learns, 5, (Option.none : Option FieldType), 834, 109),
  (9, yX9_skillsOf, cX9_skillsOf, 4, (Option.some FieldType.int), 880, 109),
  (9, yX9_copyScoutFrom, cX9_copyScoutFrom, 4, (Option.none : Option FieldType), 1051, 109),
  (10, yX10_init, cX10_init, 1, (Option.none : Option FieldType), 137, 105),
  (10, yX10_hasRoomFor, cX10_hasRoomFor, 2, (Option.some FieldType.boolean), 480, 105),
  (10, yX10_append, cX10_append, 3, (Option.none : Option FieldType), 484, 105),
  (10, yX10_rewind, cX10_rewind, 1, (Option.none : Option FieldType), 503, 105),
  (10, yX10_advance, cX10_advance, 2, (Option.none : Option FieldType), 507, 105)]
def jML2 : List jMt := [(10, yX10_among, cX10_among, 7, (Option.some FieldType.int), 512, 105),
  (10, yX10_refuse, cX10_refuse, 2, (Option.some FieldType.boolean), 564, 105),
  (10, yX10_takeNumber, cX10_takeNumber, 3, (Option.some FieldType.int), 577, 105),
  (11, yX11_init, cX11_init, 1, (Option.none : Option FieldType), 129, 104),
  (11, yX11_feed, cX11_feed, 6, (Option.some FieldType.int), 476, 104),
  (11, yX11_end, cX11_end, 2, (Option.some FieldType.int), 489, 104),
  (11, yX11_camp, cX11_camp, 3, (Option.some FieldType.int), 493, 104),
  (11, yX11_rule, cX11_rule, 2, (Option.some FieldType.int), 597, 104),
  (11, yX11_force, cX11_force, 3, (Option.some FieldType.int), 680, 104),
  (11, yX11_scout, cX11_scout, 4, (Option.some FieldType.int), 684, 104),
  (11, yX11_skill, cX11_skill, 3, (Option.some FieldType.int), 704, 104),
  (11, yX11_hard, cX11_hard, 2, (Option.some FieldType.int), 718, 104),
  (11, yX11_count, cX11_count, 2, (Option.some FieldType.int), 723, 104),
  (11, yX11_day, cX11_day, 1, (Option.some FieldType.int), 746, 104),
  (11, yX11_ruleInForce, cX11_ruleInForce, 1, (Option.some (FieldType.object "FailBadge$Rule")), 760, 104),
  (11, yX11_isWithin, cX11_isWithin, 3, (Option.some FieldType.boolean), 763, 104),
  (11, yX11_attempt, cX11_attempt, 4, (Option.some FieldType.int), 840, 104),
  (11, yX11_sham, cX11_sham, 4, (Option.some FieldType.int), 845, 104),
  (11, yX11_teach, cX11_teach, 4, (Option.some FieldType.int), 849, 104),
  (11, yX11_cut, cX11_cut, 3, (Option.some FieldType.int), 854, 104),
  (11, yX11_undo, cX11_undo, 1, (Option.some FieldType.int), 859, 104),
  (11, yX11_ahead, cX11_ahead, 5, (Option.some FieldType.int), 867, 104),
  (11, yX11_arm, cX11_arm, 2, (Option.some FieldType.int), 884, 104),
  (11, yX11_off, cX11_off, 2, (Option.some FieldType.int), 892, 104),
  (11, yX11_leastLearn, cX11_leastLearn, 2, (Option.some FieldType.int), 904, 104),
  (11, yX11_leftOut, cX11_leftOut, 4, (Option.some FieldType.int), 912, 104),
  (11, yX11_ring, cX11_ring, 2, (Option.some FieldType.int), 926, 104),
  (11, yX11_camps, cX11_camps, 5, (Option.some FieldType.int), 943, 104),
  (11, yX11_cover, cX11_cover, 3, (Option.some FieldType.int), 962, 104),
  (11, yX11_match, cX11_match, 2, (Option.some FieldType.int), 980, 104),
  (11, yX11_trust, cX11_trust, 1, (Option.some FieldType.int), 1008, 104),
  (11, yX11_pence, cX11_pence, 3, (Option.some FieldType.int), 1020, 104),
  (11, yX11_calmest, cX11_calmest, 3, (Option.some FieldType.int), 1029, 104),
  (11, yX11_row, cX11_row, 4, (Option.some FieldType.int), 1039, 104),
  (11, yX11_rests, cX11_rests, 8, (Option.some FieldType.int), 1056, 104),
  (11, yX11_note, cX11_note, 5, (Option.some FieldType.int), 1069, 104),
  (11, yX11_ruled, cX11_ruled, 2, (Option.some FieldType.int), 1082, 104),
  (11, yX11_look, cX11_look, 3, (Option.some FieldType.int), 1109, 104),
  (11, yX11_seed, cX11_seed, 3, (Option.some FieldType.int), 1123, 104),
  (11, yX11_image, cX11_image, 2, (Option.some FieldType.int), 1127, 104),
  (11, yX11_back, cX11_back, 2, (Option.some FieldType.int), 1141, 104),
  (12, yX12_init, cX12_init, 1, (Option.none : Option FieldType), 1146, 115),
  (12, yX12_feed, cX12_feed, 6, (Option.some FieldType.int), 1282, 115),
  (12, yX12_four, cX12_four, 3, (Option.none : Option FieldType), 1286, 115),
  (12, yX12_end, cX12_end, 2, (Option.some FieldType.int), 1290, 115),
  (12, yX12_rule, cX12_rule, 1, (Option.some FieldType.int), 1294, 115),
  (12, yX12_readsAll, cX12_readsAll, 2, (Option.some FieldType.boolean), 1298, 115),
  (12, yX12_clauseHere, cX12_clauseHere, 3, (Option.some FieldType.boolean), 1302, 115),
  (12, yX12_see, cX12_see, 1, (Option.some FieldType.int), 1306, 115),
  (12, yX12_isCampWord, cX12_isCampWord, 1, (Option.some FieldType.boolean), 1310, 115)]
def jML3 : List jMt := [(12, yX12_isWord, cX12_isWord, 6, (Option.some FieldType.boolean), 1315, 115),
  (12, yX12_isLetter, cX12_isLetter, 2, (Option.some FieldType.boolean), 1319, 115),
  (12, yX12_fails, cX12_fails, 3, (Option.some FieldType.boolean), 1328, 115),
  (12, yX12_campLineHere, cX12_campLineHere, 2, (Option.some FieldType.boolean), 1332, 115),
  (12, yX12_isCampHere, cX12_isCampHere, 2, (Option.some FieldType.boolean), 1336, 115),
  (12, yX12_passWord, cX12_passWord, 1, (Option.none : Option FieldType), 1340, 115),
  (12, yX12_cellHere, cX12_cellHere, 4, (Option.some FieldType.boolean), 1344, 115),
  (12, yX12_numberHere, cX12_numberHere, 5, (Option.some FieldType.boolean), 1348, 115),
  (12, yX12_isDigit, cX12_isDigit, 2, (Option.some FieldType.boolean), 1352, 115),
  (12, yX12_in, cX12_in, 6, (Option.some FieldType.boolean), 1355, 115),
  (12, yX12_isCalmHere, cX12_isCalmHere, 2, (Option.some FieldType.boolean), 1359, 115),
  (12, yX12_isKindHere, cX12_isKindHere, 2, (Option.some FieldType.boolean), 1363, 115),
  (12, yX12_isScoutHere, cX12_isScoutHere, 2, (Option.some FieldType.boolean), 1367, 115),
  (12, yX12_canHere, cX12_canHere, 2, (Option.some FieldType.boolean), 1371, 115),
  (12, yX12_isTryHere, cX12_isTryHere, 2, (Option.some FieldType.boolean), 1375, 115),
  (12, yX12_sum, cX12_sum, 2, (Option.some FieldType.boolean), 1379, 115),
  (12, yX12_term, cX12_term, 2, (Option.some FieldType.boolean), 1383, 115),
  (12, yX12_value, cX12_value, 3, (Option.some FieldType.boolean), 1387, 115),
  (12, yX12_makes, cX12_makes, 2, (Option.some FieldType.boolean), 1392, 115),
  (12, yX12_puts, cX12_puts, 3, (Option.none : Option FieldType), 1396, 115),
  (12, yX12_wordHere, cX12_wordHere, 1, (Option.some FieldType.int), 1400, 115),
  (12, yX12_takesWord, cX12_takesWord, 3, (Option.some FieldType.boolean), 1414, 115),
  (12, yX12_tested, cX12_tested, 3, (Option.some FieldType.boolean), 1418, 115),
  (12, yX12_fact, cX12_fact, 3, (Option.some FieldType.boolean), 1422, 115),
  (12, yX12_opens, cX12_opens, 2, (Option.some FieldType.boolean), 1427, 115),
  (12, yX12_compare, cX12_compare, 5, (Option.some FieldType.boolean), 1431, 115),
  (12, yX12_closes, cX12_closes, 1, (Option.none : Option FieldType), 1435, 115),
  (12, yX12_layDown, cX12_layDown, 2, (Option.none : Option FieldType), 1439, 115),
  (12, yX12_strength, cX12_strength, 1, (Option.some FieldType.int), 1442, 115),
  (12, yX12_isInside, cX12_isInside, 2, (Option.some FieldType.boolean), 1446, 115),
  (12, yX12_camp, cX12_camp, 2, (Option.some FieldType.int), 1452, 115),
  (12, yX12_begins, cX12_begins, 2, (Option.none : Option FieldType), 1456, 115),
  (12, yX12_force, cX12_force, 3, (Option.some FieldType.int), 1460, 115),
  (12, yX12_isRule, cX12_isRule, 2, (Option.some FieldType.boolean), 1464, 115),
  (12, yX12_scout, cX12_scout, 3, (Option.some FieldType.int), 1468, 115),
  (12, yX12_isScout, cX12_isScout, 2, (Option.some FieldType.boolean), 1472, 115),
  (12, yX12_canNow, cX12_canNow, 4, (Option.some FieldType.int), 1476, 115),
  (12, yX12_calmNow, cX12_calmNow, 1, (Option.some FieldType.int), 1480, 115),
  (12, yX12_calmOn, cX12_calmOn, 2, (Option.some FieldType.int), 1484, 115),
  (12, yX12_comesOff, cX12_comesOff, 4, (Option.some FieldType.boolean), 1488, 115),
  (12, yX12_skillOf, cX12_skillOf, 3, (Option.some FieldType.int), 1492, 115),
  (12, yX12_badgesOf, cX12_badgesOf, 2, (Option.some FieldType.int), 1496, 115),
  (12, yX12_skill, cX12_skill, 3, (Option.some FieldType.int), 1500, 115),
  (12, yX12_isKind, cX12_isKind, 2, (Option.some FieldType.boolean), 1504, 115),
  (12, yX12_hard, cX12_hard, 2, (Option.some FieldType.int), 1508, 115),
  (12, yX12_undo, cX12_undo, 2, (Option.some FieldType.int), 1512, 115),
  (12, yX12_day, cX12_day, 1, (Option.some FieldType.int), 1516, 115),
  (12, yX12_isCamp, cX12_isCamp, 1, (Option.some FieldType.boolean), 1520, 115),
  (12, yX12_keepsAct, cX12_keepsAct, 2, (Option.none : Option FieldType), 1524, 115),
  (12, yX12_passes, cX12_passes, 4, (Option.some FieldType.int), 1528, 115)]
def jML4 : List jMt := [(12, yX12_choice, cX12_choice, 8, (Option.some FieldType.int), 1532, 115),
  (12, yX12_isOf, cX12_isOf, 2, (Option.some FieldType.boolean), 1535, 115),
  (12, yX12_sumOf, cX12_sumOf, 6, (Option.some FieldType.long), 1539, 115),
  (12, yX12_bits, cX12_bits, 3, (Option.some FieldType.int), 1542, 115),
  (12, yX12_passedBy, cX12_passedBy, 2, (Option.some FieldType.int), 1546, 115),
  (12, yX12_summedBy, cX12_summedBy, 4, (Option.some FieldType.long), 1550, 115),
  (12, yX12_reckons, cX12_reckons, 11, (Option.some FieldType.long), 1554, 115),
  (12, yX12_push, cX12_push, 3, (Option.none : Option FieldType), 1558, 115),
  (12, yX12_pop, cX12_pop, 1, (Option.some FieldType.long), 1562, 115),
  (12, yX12_one, cX12_one, 5, (Option.some FieldType.long), 1565, 115),
  (12, yX12_tries, cX12_tries, 5, (Option.some FieldType.boolean), 1569, 115),
  (12, yX12_attempt, cX12_attempt, 3, (Option.some FieldType.int), 1573, 115),
  (12, yX12_sham, cX12_sham, 3, (Option.some FieldType.int), 1577, 115),
  (12, yX12_teach, cX12_teach, 4, (Option.some FieldType.int), 1581, 115),
  (12, yX12_cut, cX12_cut, 3, (Option.some FieldType.int), 1585, 115),
  (12, yX12_ahead, cX12_ahead, 5, (Option.some FieldType.int), 1589, 115),
  (12, yX12_keeps, cX12_keeps, 2, (Option.none : Option FieldType), 1595, 115),
  (12, yX12_passesAll, cX12_passesAll, 3, (Option.none : Option FieldType), 1599, 115),
  (12, yX12_skillAll, cX12_skillAll, 4, (Option.some FieldType.int), 1603, 115),
  (12, yX12_laysBack, cX12_laysBack, 2, (Option.none : Option FieldType), 1607, 115),
  (12, yX12_arm, cX12_arm, 4, (Option.some FieldType.int), 1611, 115),
  (12, yX12_off, cX12_off, 6, (Option.some FieldType.int), 1615, 115),
  (12, yX12_cover, cX12_cover, 6, (Option.some FieldType.int), 1619, 115),
  (12, yX12_canAny, cX12_canAny, 4, (Option.some FieldType.int), 1623, 115),
  (12, yX12_match, cX12_match, 2, (Option.some FieldType.int), 1627, 115),
  (12, yX12_findsMatch, cX12_findsMatch, 3, (Option.none : Option FieldType), 1633, 115),
  (12, yX12_keepsMatch, cX12_keepsMatch, 3, (Option.none : Option FieldType), 1637, 115),
  (12, yX12_isTaken, cX12_isTaken, 4, (Option.some FieldType.boolean), 1641, 115),
  (12, yX12_trust, cX12_trust, 4, (Option.some FieldType.int), 1645, 115),
  (12, yX12_row, cX12_row, 8, (Option.some FieldType.int), 1649, 115),
  (12, yX12_power, cX12_power, 4, (Option.some FieldType.int), 1653, 115),
  (12, yX12_fillsRow, cX12_fillsRow, 5, (Option.none : Option FieldType), 1657, 115),
  (12, yX12_badgesBy, cX12_badgesBy, 4, (Option.some FieldType.int), 1661, 115),
  (12, yX12_leastLearn, cX12_leastLearn, 7, (Option.some FieldType.int), 1665, 115),
  (12, yX12_calmest, cX12_calmest, 4, (Option.some FieldType.int), 1670, 115),
  (12, yX12_leftOut, cX12_leftOut, 7, (Option.some FieldType.int), 1674, 115),
  (12, yX12_rests, cX12_rests, 10, (Option.some FieldType.int), 1679, 115),
  (12, yX12_fillsRests, cX12_fillsRests, 8, (Option.none : Option FieldType), 1684, 115),
  (12, yX12_isRest, cX12_isRest, 4, (Option.some FieldType.boolean), 1688, 115),
  (12, yX12_pence, cX12_pence, 9, (Option.some FieldType.int), 1692, 115),
  (12, yX12_badgesAll, cX12_badgesAll, 3, (Option.some FieldType.int), 1697, 115),
  (12, yX12_ring, cX12_ring, 4, (Option.some FieldType.int), 1701, 115),
  (12, yX12_areAlike, cX12_areAlike, 4, (Option.some FieldType.boolean), 1705, 115),
  (12, yX12_note, cX12_note, 6, (Option.some FieldType.int), 1709, 115),
  (12, yX12_ruled, cX12_ruled, 5, (Option.some FieldType.int), 1713, 115),
  (12, yX12_fillsFits, cX12_fillsFits, 7, (Option.none : Option FieldType), 1717, 115),
  (12, yX12_areNotesSo, cX12_areNotesSo, 3, (Option.some FieldType.boolean), 1721, 115),
  (12, yX12_look, cX12_look, 7, (Option.some FieldType.int), 1725, 115),
  (12, yX12_alikeAt, cX12_alikeAt, 6, (Option.some FieldType.int), 1729, 115),
  (12, yX12_seed, cX12_seed, 3, (Option.some FieldType.int), 1733, 115)]
def jML5 : List jMt := [(12, yX12_camps, cX12_camps, 10, (Option.some FieldType.int), 1737, 115),
  (12, yX12_passedAll, cX12_passedAll, 3, (Option.some FieldType.int), 1742, 115),
  (12, yX12_draw, cX12_draw, 2, (Option.some FieldType.int), 1746, 115),
  (12, yX12_count, cX12_count, 2, (Option.some FieldType.int), 1754, 115),
  (12, yX12_image, cX12_image, 3, (Option.some FieldType.int), 1758, 115),
  (12, yX12_back, cX12_back, 3, (Option.some FieldType.int), 1763, 115),
  (14, yJ6_bitCount_0f7a4, cJ6_bitCount_0f7a4, 1, (Option.some FieldType.int), 735, 124),
  (14, yJ6_numberOfTrailingZeros_0f7a4, cJ6_numberOfTrailingZeros_0f7a4, 2, (Option.some FieldType.int), 899, 124),
  (16, yJ7_fill_53178, cJ7_fill_53178, 4, (Option.none : Option FieldType), 589, 120),
  (16, yJ7_copyOf_59c91, cJ7_copyOf_59c91, 3, (Option.some (FieldType.array FieldType.int)), 646, 120),
  (17, yJ0_length_8abf5, cJ0_length_8abf5, 1, (Option.some FieldType.int), 516, 116),
  (17, yJ0_coder_7d493, cJ0_coder_7d493, 1, (Option.some FieldType.byte), 520, 116),
  (17, yJ0_charAt_5068e, cJ0_charAt_5068e, 2, (Option.some FieldType.char), 526, 116),
  (17, yJ0_isLatin1_aae02, cJ0_isLatin1_aae02, 1, (Option.some FieldType.boolean), 530, 116),
  (17, yJ0_checkIndex_df160, cJ0_checkIndex_df160, 2, (Option.none : Option FieldType), 536, 116),
  (18, yJ1_charAt_3b067, cJ1_charAt_3b067, 2, (Option.some FieldType.char), 533, 117),
  (19, yJ3_checkIndex_8e157, cJ3_checkIndex_8e157, 3, (Option.some FieldType.int), 541, 118),
  (13, yL_law, cL_law, 4, (Option.some FieldType.boolean), 0, 0)]
def jML : List jMt := jML0 ++ (jML1 ++ (jML2 ++ (jML3 ++ (jML4 ++ (jML5)))))
def jlaw : Nat := 267
def jM (k : Nat) : jMt := jML.getD k (0, yL_law, cL_law, 0, none, 0, 0)
def jow (k : Nat) : Nat := (jM k).1
def jyn (k : Nat) : MethodName := (jM k).2.1
def jby (k : Nat) : ByteArray := (jM k).2.2.1
def jmx (k : Nat) : Nat := (jM k).2.2.2.1
def jrt (k : Nat) : Option FieldType := (jM k).2.2.2.2.1
def jna (k : Nat) : Option Nat := (parseMethodDescriptor (jyn k).desc).map (fun d => d.parameters.length)
set_option maxRecDepth 100000 in
theorem jcw0 : lw_tbl[207]? = some (.code yX0_init cX0_init 1 (Option.none : Option FieldType)) := rfl
set_option maxRecDepth 100000 in
theorem jcw1 : lw_tbl[499]? = some (.code yX0_read cX0_read 5 (Option.some FieldType.boolean)) := rfl
set_option maxRecDepth 100000 in
theorem jcw2 : lw_tbl[568]? = some (.code yX0_isFullOf cX0_isFullOf 2 (Option.some FieldType.boolean)) := rfl
set_option maxRecDepth 100000 in
theorem jcw3 : lw_tbl[573]? = some (.code yX0_readNumbers cX0_readNumbers 3 (Option.some FieldType.boolean)) := rfl
set_option maxRecDepth 100000 in
theorem jcw4 : lw_tbl[582]? = some (.code yX0_readSkill cX0_readSkill 5 (Option.some FieldType.boolean)) := rfl
set_option maxRecDepth 100000 in
theorem jcw5 : lw_tbl[688]? = some (.code yX0_hasScout cX0_hasScout 2 (Option.some FieldType.boolean)) := rfl
set_option maxRecDepth 100000 in
theorem jcw6 : lw_tbl[696]? = some (.code yX0_calmOf cX0_calmOf 2 (Option.some FieldType.int)) := rfl
set_option maxRecDepth 100000 in
theorem jcw7 : lw_tbl[708]? = some (.code yX0_hasBoth cX0_hasBoth 3 (Option.some FieldType.boolean)) := rfl
set_option maxRecDepth 100000 in
theorem jcw8 : lw_tbl[713]? = some (.code yX0_hasKind cX0_hasKind 2 (Option.some FieldType.boolean)) := rfl
set_option maxRecDepth 100000 in
theorem jcw9 : lw_tbl[391]? = some (.code yX1_init cX1_init 1 (Option.none : Option FieldType)) := rfl
set_option maxRecDepth 100000 in
theorem jcw10 : lw_tbl[775]? = some (.code yX1_startFrom cX1_startFrom 4 (Option.none : Option FieldType)) := rfl
set_option maxRecDepth 100000 in
theorem jcw11 : lw_tbl[780]? = some (.code yX1_setUp cX1_setUp 3 (Option.none : Option FieldType)) := rfl
set_option maxRecDepth 100000 in
theorem jcw12 : lw_tbl[784]? = some (.code yX1_live cX1_live 5 (Option.some FieldType.int)) := rfl
set_option maxRecDepth 100000 in
theorem jcw13 : lw_tbl[789]? = some (.code yX1_hardestWithoutBadge cX1_hardestWithoutBadge 4 (Option.some FieldType.int)) := rfl
set_option maxRecDepth 100000 in
theorem jcw14 : lw_tbl[793]? = some (.code yX1_isLeftOut cX1_isLeftOut 2 (Option.some FieldType.boolean)) := rfl
set_option maxRecDepth 100000 in
theorem jcw15 : lw_tbl[801]? = some (.code yX1_worthiest cX1_worthiest 9 (Option.some FieldType.int)) := rfl
set_option maxRecDepth 100000 in
theorem jcw16 : lw_tbl[805]? = some (.code yX1_tellScout cX1_tellScout 3 (Option.none : Option FieldType)) := rfl
set_option maxRecDepth 100000 in
theorem jcw17 : lw_tbl[810]? = some (.code yX1_tellKind cX1_tellKind 3 (Option.none : Option FieldType)) := rfl
set_option maxRecDepth 100000 in
theorem jcw18 : lw_tbl[875]? = some (.code yX1_liveFor cX1_liveFor 3 (Option.none : Option FieldType)) := rfl
set_option maxRecDepth 100000 in
theorem jcw19 : lw_tbl[1094]? = some (.code yX1_startAsTold cX1_startAsTold 3 (Option.none : Option FieldType)) := rfl
set_option maxRecDepth 100000 in
theorem jcw20 : lw_tbl[385]? = some (.code yX2_init cX2_init 1 (Option.none : Option FieldType)) := rfl
set_option maxRecDepth 100000 in
theorem jcw21 : lw_tbl[767]? = some (.code yX2_liveOne cX2_liveOne 4 (Option.some FieldType.int)) := rfl
set_option maxRecDepth 100000 in
theorem jcw22 : lw_tbl[771]? = some (.code yX2_start cX2_start 3 (Option.none : Option FieldType)) := rfl
set_option maxRecDepth 100000 in
theorem jcw23 : lw_tbl[871]? = some (.code yX2_after cX2_after 4 (Option.some (FieldType.object "FailBadge$Standing"))) := rfl
set_option maxRecDepth 100000 in
theorem jcw24 : lw_tbl[888]? = some (.code yX2_firstWholeArm cX2_firstWholeArm 6 (Option.some FieldType.int)) := rfl
set_option maxRecDepth 100000 in
theorem jcw25 : lw_tbl[896]? = some (.code yX2_firstOff cX2_firstOff 6 (Option.some FieldType.int)) := rfl
set_option maxRecDepth 100000 in
theorem jcw26 : lw_tbl[908]? = some (.code yX2_leastToLearn cX2_leastToLearn 7 (Option.some FieldType.int)) := rfl
set_option maxRecDepth 100000 in
theorem jcw27 : lw_tbl[916]? = some (.code yX2_fewestLeftOut cX2_fewestLeftOut 7 (Option.some FieldType.int)) := rfl
set_option maxRecDepth 100000 in
theorem jcw28 : lw_tbl[921]? = some (.code yX2_isQuiet cX2_isQuiet 6 (Option.some FieldType.boolean)) := rfl
set_option maxRecDepth 100000 in
theorem jcw29 : lw_tbl[930]? = some (.code yX2_firstRing cX2_firstRing 6 (Option.some FieldType.int)) := rfl
set_option maxRecDepth 100000 in
theorem jcw30 : lw_tbl[934]? = some (.code yX2_traceDay cX2_traceDay 6 (Option.none : Option FieldType)) := rfl
set_option maxRecDepth 100000 in
theorem jcw31 : lw_tbl[939]? = some (.code yX2_isSameTrace cX2_isSameTrace 4 (Option.some FieldType.boolean)) := rfl
set_option maxRecDepth 100000 in
theorem jcw32 : lw_tbl[947]? = some (.code yX2_drawCamps cX2_drawCamps 10 (Option.none : Option FieldType)) := rfl
set_option maxRecDepth 100000 in
theorem jcw33 : lw_tbl[950]? = some (.code yX2_stepped cX2_stepped 2 (Option.some FieldType.long)) := rfl
set_option maxRecDepth 100000 in
theorem jcw34 : lw_tbl[956]? = some (.code yX2_drawOf cX2_drawOf 2 (Option.some FieldType.int)) := rfl
set_option maxRecDepth 100000 in
theorem jcw35 : lw_tbl[1086]? = some (.code yX2_allowedByNotes cX2_allowedByNotes 7 (Option.some FieldType.int)) := rfl
set_option maxRecDepth 100000 in
theorem jcw36 : lw_tbl[1090]? = some (.code yX2_isAllowed cX2_isAllowed 6 (Option.some FieldType.boolean)) := rfl
set_option maxRecDepth 100000 in
theorem jcw37 : lw_tbl[1113]? = some (.code yX2_bestToLookAt cX2_bestToLookAt 10 (Option.some FieldType.int)) := rfl
set_option maxRecDepth 100000 in
theorem jcw38 : lw_tbl[1118]? = some (.code yX2_mostAlike cX2_mostAlike 7 (Option.some FieldType.int)) := rfl
set_option maxRecDepth 100000 in
theorem jcw39 : lw_tbl[201]? = some (.code yX3_init cX3_init 1 (Option.none : Option FieldType)) := rfl
set_option maxRecDepth 100000 in
theorem jcw40 : lw_tbl[1131]? = some (.code yX3_copyFrom cX3_copyFrom 2 (Option.none : Option FieldType)) := rfl
set_option maxRecDepth 100000 in
theorem jcw41 : lw_tbl[294]? = some (.code yX4_init cX4_init 1 (Option.none : Option FieldType)) := rfl
set_option maxRecDepth 100000 in
theorem jcw42 : lw_tbl[1073]? = some (.code yX4_isFull cX4_isFull 1 (Option.some FieldType.boolean)) := rfl
set_option maxRecDepth 100000 in
theorem jcw43 : lw_tbl[1077]? = some (.code yX4_add cX4_add 5 (Option.none : Option FieldType)) := rfl
set_option maxRecDepth 100000 in
theorem jcw44 : lw_tbl[1099]? = some (.code yX4_lastDay cX4_lastDay 3 (Option.some FieldType.int)) := rfl
set_option maxRecDepth 100000 in
theorem jcw45 : lw_tbl[1104]? = some (.code yX4_agreeBehind cX4_agreeBehind 4 (Option.some FieldType.boolean)) := rfl
set_option maxRecDepth 100000 in
theorem jcw46 : lw_tbl[1136]? = some (.code yX4_copyFrom cX4_copyFrom 2 (Option.none : Option FieldType)) := rfl
set_option maxRecDepth 100000 in
theorem jcw47 : lw_tbl[344]? = some (.code yX5_init cX5_init 1 (Option.none : Option FieldType)) := rfl
set_option maxRecDepth 100000 in
theorem jcw48 : lw_tbl[750]? = some (.code yX5_keep cX5_keep 2 (Option.none : Option FieldType)) := rfl
set_option maxRecDepth 100000 in
theorem jcw49 : lw_tbl[863]? = some (.code yX5_giveBack cX5_giveBack 2 (Option.none : Option FieldType)) := rfl
set_option maxRecDepth 100000 in
theorem jcw50 : lw_tbl[364]? = some (.code yX6_init cX6_init 1 (Option.none : Option FieldType)) := rfl
set_option maxRecDepth 100000 in
theorem jcw51 : lw_tbl[966]? = some (.code yX6_fewestForAll cX6_fewestForAll 6 (Option.some FieldType.int)) := rfl
set_option maxRecDepth 100000 in
theorem jcw52 : lw_tbl[970]? = some (.code yX6_findAble cX6_findAble 3 (Option.none : Option FieldType)) := rfl
set_option maxRecDepth 100000 in
theorem jcw53 : lw_tbl[975]? = some (.code yX6_ableTogether cX6_ableTogether 4 (Option.some FieldType.int)) := rfl
set_option maxRecDepth 100000 in
theorem jcw54 : lw_tbl[984]? = some (.code yX6_mostMatched cX6_mostMatched 2 (Option.some FieldType.int)) := rfl
set_option maxRecDepth 100000 in
theorem jcw55 : lw_tbl[988]? = some (.code yX6_fillMatched cX6_fillMatched 5 (Option.none : Option FieldType)) := rfl
set_option maxRecDepth 100000 in
theorem jcw56 : lw_tbl[993]? = some (.code yX6_mostFrom cX6_mostFrom 7 (Option.some FieldType.int)) := rfl
set_option maxRecDepth 100000 in
theorem jcw57 : lw_tbl[1000]? = some (.code yX6_matchOf cX6_matchOf 6 (Option.some FieldType.int)) := rfl
set_option maxRecDepth 100000 in
theorem jcw58 : lw_tbl[1004]? = some (.code yX6_firstChoice cX6_firstChoice 7 (Option.some FieldType.int)) := rfl
set_option maxRecDepth 100000 in
theorem jcw59 : lw_tbl[1012]? = some (.code yX6_trusted cX6_trusted 4 (Option.some FieldType.int)) := rfl
set_option maxRecDepth 100000 in
theorem jcw60 : lw_tbl[1015]? = some (.code yX6_isTrustedMore cX6_isTrustedMore 5 (Option.some FieldType.boolean)) := rfl
set_option maxRecDepth 100000 in
theorem jcw61 : lw_tbl[1024]? = some (.code yX6_partOf cX6_partOf 10 (Option.some FieldType.int)) := rfl
set_option maxRecDepth 100000 in
theorem jcw62 : lw_tbl[1033]? = some (.code yX6_firstCalmEnough cX6_firstCalmEnough 7 (Option.some FieldType.int)) := rfl
set_option maxRecDepth 100000 in
theorem jcw63 : lw_tbl[1043]? = some (.code yX6_bestRow cX6_bestRow 11 (Option.some FieldType.int)) := rfl
set_option maxRecDepth 100000 in
theorem jcw64 : lw_tbl[1047]? = some (.code yX6_badgesBy cX6_badgesBy 9 (Option.some FieldType.int)) := rfl
set_option maxRecDepth 100000 in
theorem jcw65 : lw_tbl[1060]? = some (.code yX6_bestToKeepAt cX6_bestToKeepAt 8 (Option.some FieldType.int)) := rfl
set_option maxRecDepth 100000 in
theorem jcw66 : lw_tbl[1064]? = some (.code yX6_gainBy cX6_gainBy 8 (Option.some FieldType.int)) := rfl
set_option maxRecDepth 100000 in
theorem jcw67 : lw_tbl[662]? = some (.code yX7_init cX7_init 5 (Option.none : Option FieldType)) := rfl
set_option maxRecDepth 100000 in
theorem jcw68 : lw_tbl[819]? = some (.code yX7_worth cX7_worth 6 (Option.some FieldType.long)) := rfl
set_option maxRecDepth 100000 in
theorem jcw69 : lw_tbl[823]? = some (.code yX7_result cX7_result 8 (Option.some FieldType.long)) := rfl
set_option maxRecDepth 100000 in
theorem jcw70 : lw_tbl[826]? = some (.code yX7_joined cX7_joined 5 (Option.some FieldType.long)) := rfl
set_option maxRecDepth 100000 in
theorem jcw71 : lw_tbl[171]? = some (.code yX8_init cX8_init 2 (Option.none : Option FieldType)) := rfl
set_option maxRecDepth 100000 in
theorem jcw72 : lw_tbl[601]? = some (.code yX8_read cX8_read 2 (Option.some FieldType.boolean)) := rfl
set_option maxRecDepth 100000 in
theorem jcw73 : lw_tbl[610]? = some (.code yX8_readSum cX8_readSum 5 (Option.some FieldType.boolean)) := rfl
set_option maxRecDepth 100000 in
theorem jcw74 : lw_tbl[614]? = some (.code yX8_readValue cX8_readValue 2 (Option.some FieldType.boolean)) := rfl
set_option maxRecDepth 100000 in
theorem jcw75 : lw_tbl[619]? = some (.code yX8_put cX8_put 2 (Option.none : Option FieldType)) := rfl
set_option maxRecDepth 100000 in
theorem jcw76 : lw_tbl[622]? = some (.code yX8_codeOf cX8_codeOf 1 (Option.some FieldType.int)) := rfl
set_option maxRecDepth 100000 in
theorem jcw77 : lw_tbl[627]? = some (.code yX8_readTest cX8_readTest 6 (Option.some FieldType.boolean)) := rfl
set_option maxRecDepth 100000 in
theorem jcw78 : lw_tbl[631]? = some (.code yX8_readFact cX8_readFact 4 (Option.some FieldType.boolean)) := rfl
set_option maxRecDepth 100000 in
theorem jcw79 : lw_tbl[636]? = some (.code yX8_readComparison cX8_readComparison 3 (Option.some FieldType.boolean)) := rfl
set_option maxRecDepth 100000 in
theorem jcw80 : lw_tbl[641]? = some (.code yX8_made cX8_made 1 (Option.some (FieldType.object "FailBadge$Rule"))) := rfl
set_option maxRecDepth 100000 in
theorem jcw81 : lw_tbl[261]? = some (.code yX9_init cX9_init 1 (Option.none : Option FieldType)) := rfl
set_option maxRecDepth 100000 in
theorem jcw82 : lw_tbl[586]? = some (.code yX9_begin cX9_begin 2 (Option.none : Option FieldType)) := rfl
set_option maxRecDepth 100000 in
theorem jcw83 : lw_tbl[692]? = some (.code yX9_able cX9_able 6 (Option.some FieldType.int)) := rfl
set_option maxRecDepth 100000 in
theorem jcw84 : lw_tbl[700]? = some (.code yX9_skillOf cX9_skillOf 3 (Option.some FieldType.int)) := rfl
set_option maxRecDepth 100000 in
theorem jcw85 : lw_tbl[728]? = some (.code yX9_badgesOfAll cX9_badgesOfAll 3 (Option.some FieldType.int)) := rfl
set_option maxRecDepth 100000 in
theorem jcw86 : lw_tbl[732]? = some (.code yX9_badgeCount cX9_badgeCount 2 (Option.some FieldType.int)) := rfl
set_option maxRecDepth 100000 in
theorem jcw87 : lw_tbl[742]? = some (.code yX9_passedOfAll cX9_passedOfAll 3 (Option.some FieldType.int)) := rfl
set_option maxRecDepth 100000 in
theorem jcw88 : lw_tbl[755]? = some (.code yX9_copyFrom cX9_copyFrom 2 (Option.none : Option FieldType)) := rfl
set_option maxRecDepth 100000 in
theorem jcw89 : lw_tbl[797]? = some (.code yX9_hasBadge cX9_hasBadge 3 (Option.some FieldType.boolean)) := rfl
set_option maxRecDepth 100000 in
theorem jcw90 : lw_tbl[815]? = some (.code yX9_othersWith cX9_othersWith 5 (Option.some FieldType.int)) := rfl
set_option maxRecDepth 100000 in
theorem jcw91 : lw_tbl[830]? = some (.code yX9_tries cX9_tries 6 (Option.some FieldType.boolean)) := rfl
set_option maxRecDepth 100000 in
theorem jcw92 : lw_tbl[834]? = some (.code yX9_learns cX9_learns 5 (Option.none : Option FieldType)) := rfl
set_option maxRecDepth 100000 in
theorem jcw93 : lw_tbl[880]? = some (.code yX9_skillsOf cX9_skillsOf 4 (Option.some FieldType.int)) := rfl
set_option maxRecDepth 100000 in
theorem jcw94 : lw_tbl[1051]? = some (.code yX9_copyScoutFrom cX9_copyScoutFrom 4 (Option.none : Option FieldType)) := rfl
set_option maxRecDepth 100000 in
theorem jcw95 : lw_tbl[137]? = some (.code yX10_init cX10_init 1 (Option.none : Option FieldType)) := rfl
set_option maxRecDepth 100000 in
theorem jcw96 : lw_tbl[480]? = some (.code yX10_hasRoomFor cX10_hasRoomFor 2 (Option.some FieldType.boolean)) := rfl
set_option maxRecDepth 100000 in
theorem jcw97 : lw_tbl[484]? = some (.code yX10_append cX10_append 3 (Option.none : Option FieldType)) := rfl
set_option maxRecDepth 100000 in
theorem jcw98 : lw_tbl[503]? = some (.code yX10_rewind cX10_rewind 1 (Option.none : Option FieldType)) := rfl
set_option maxRecDepth 100000 in
theorem jcw99 : lw_tbl[507]? = some (.code yX10_advance cX10_advance 2 (Option.none : Option FieldType)) := rfl
set_option maxRecDepth 100000 in
theorem jcw100 : lw_tbl[512]? = some (.code yX10_among cX10_among 7 (Option.some FieldType.int)) := rfl
set_option maxRecDepth 100000 in
theorem jcw101 : lw_tbl[564]? = some (.code yX10_refuse cX10_refuse 2 (Option.some FieldType.boolean)) := rfl
set_option maxRecDepth 100000 in
theorem jcw102 : lw_tbl[577]? = some (.code yX10_takeNumber cX10_takeNumber 3 (Option.some FieldType.int)) := rfl
set_option maxRecDepth 100000 in
theorem jcw103 : lw_tbl[129]? = some (.code yX11_init cX11_init 1 (Option.none : Option FieldType)) := rfl
set_option maxRecDepth 100000 in
theorem jcw104 : lw_tbl[476]? = some (.code yX11_feed cX11_feed 6 (Option.some FieldType.int)) := rfl
set_option maxRecDepth 100000 in
theorem jcw105 : lw_tbl[489]? = some (.code yX11_end cX11_end 2 (Option.some FieldType.int)) := rfl
set_option maxRecDepth 100000 in
theorem jcw106 : lw_tbl[493]? = some (.code yX11_camp cX11_camp 3 (Option.some FieldType.int)) := rfl
set_option maxRecDepth 100000 in
theorem jcw107 : lw_tbl[597]? = some (.code yX11_rule cX11_rule 2 (Option.some FieldType.int)) := rfl
set_option maxRecDepth 100000 in
theorem jcw108 : lw_tbl[680]? = some (.code yX11_force cX11_force 3 (Option.some FieldType.int)) := rfl
set_option maxRecDepth 100000 in
theorem jcw109 : lw_tbl[684]? = some (.code yX11_scout cX11_scout 4 (Option.some FieldType.int)) := rfl
set_option maxRecDepth 100000 in
theorem jcw110 : lw_tbl[704]? = some (.code yX11_skill cX11_skill 3 (Option.some FieldType.int)) := rfl
set_option maxRecDepth 100000 in
theorem jcw111 : lw_tbl[718]? = some (.code yX11_hard cX11_hard 2 (Option.some FieldType.int)) := rfl
set_option maxRecDepth 100000 in
theorem jcw112 : lw_tbl[723]? = some (.code yX11_count cX11_count 2 (Option.some FieldType.int)) := rfl
set_option maxRecDepth 100000 in
theorem jcw113 : lw_tbl[746]? = some (.code yX11_day cX11_day 1 (Option.some FieldType.int)) := rfl
set_option maxRecDepth 100000 in
theorem jcw114 : lw_tbl[760]? = some (.code yX11_ruleInForce cX11_ruleInForce 1 (Option.some (FieldType.object "FailBadge$Rule"))) := rfl
set_option maxRecDepth 100000 in
theorem jcw115 : lw_tbl[763]? = some (.code yX11_isWithin cX11_isWithin 3 (Option.some FieldType.boolean)) := rfl
set_option maxRecDepth 100000 in
theorem jcw116 : lw_tbl[840]? = some (.code yX11_attempt cX11_attempt 4 (Option.some FieldType.int)) := rfl
set_option maxRecDepth 100000 in
theorem jcw117 : lw_tbl[845]? = some (.code yX11_sham cX11_sham 4 (Option.some FieldType.int)) := rfl
set_option maxRecDepth 100000 in
theorem jcw118 : lw_tbl[849]? = some (.code yX11_teach cX11_teach 4 (Option.some FieldType.int)) := rfl
set_option maxRecDepth 100000 in
theorem jcw119 : lw_tbl[854]? = some (.code yX11_cut cX11_cut 3 (Option.some FieldType.int)) := rfl
set_option maxRecDepth 100000 in
theorem jcw120 : lw_tbl[859]? = some (.code yX11_undo cX11_undo 1 (Option.some FieldType.int)) := rfl
set_option maxRecDepth 100000 in
theorem jcw121 : lw_tbl[867]? = some (.code yX11_ahead cX11_ahead 5 (Option.some FieldType.int)) := rfl
set_option maxRecDepth 100000 in
theorem jcw122 : lw_tbl[884]? = some (.code yX11_arm cX11_arm 2 (Option.some FieldType.int)) := rfl
set_option maxRecDepth 100000 in
theorem jcw123 : lw_tbl[892]? = some (.code yX11_off cX11_off 2 (Option.some FieldType.int)) := rfl
set_option maxRecDepth 100000 in
theorem jcw124 : lw_tbl[904]? = some (.code yX11_leastLearn cX11_leastLearn 2 (Option.some FieldType.int)) := rfl
set_option maxRecDepth 100000 in
theorem jcw125 : lw_tbl[912]? = some (.code yX11_leftOut cX11_leftOut 4 (Option.some FieldType.int)) := rfl
set_option maxRecDepth 100000 in
theorem jcw126 : lw_tbl[926]? = some (.code yX11_ring cX11_ring 2 (Option.some FieldType.int)) := rfl
set_option maxRecDepth 100000 in
theorem jcw127 : lw_tbl[943]? = some (.code yX11_camps cX11_camps 5 (Option.some FieldType.int)) := rfl
set_option maxRecDepth 100000 in
theorem jcw128 : lw_tbl[962]? = some (.code yX11_cover cX11_cover 3 (Option.some FieldType.int)) := rfl
set_option maxRecDepth 100000 in
theorem jcw129 : lw_tbl[980]? = some (.code yX11_match cX11_match 2 (Option.some FieldType.int)) := rfl
set_option maxRecDepth 100000 in
theorem jcw130 : lw_tbl[1008]? = some (.code yX11_trust cX11_trust 1 (Option.some FieldType.int)) := rfl
set_option maxRecDepth 100000 in
theorem jcw131 : lw_tbl[1020]? = some (.code yX11_pence cX11_pence 3 (Option.some FieldType.int)) := rfl
set_option maxRecDepth 100000 in
theorem jcw132 : lw_tbl[1029]? = some (.code yX11_calmest cX11_calmest 3 (Option.some FieldType.int)) := rfl
set_option maxRecDepth 100000 in
theorem jcw133 : lw_tbl[1039]? = some (.code yX11_row cX11_row 4 (Option.some FieldType.int)) := rfl
set_option maxRecDepth 100000 in
theorem jcw134 : lw_tbl[1056]? = some (.code yX11_rests cX11_rests 8 (Option.some FieldType.int)) := rfl
set_option maxRecDepth 100000 in
theorem jcw135 : lw_tbl[1069]? = some (.code yX11_note cX11_note 5 (Option.some FieldType.int)) := rfl
set_option maxRecDepth 100000 in
theorem jcw136 : lw_tbl[1082]? = some (.code yX11_ruled cX11_ruled 2 (Option.some FieldType.int)) := rfl
set_option maxRecDepth 100000 in
theorem jcw137 : lw_tbl[1109]? = some (.code yX11_look cX11_look 3 (Option.some FieldType.int)) := rfl
set_option maxRecDepth 100000 in
theorem jcw138 : lw_tbl[1123]? = some (.code yX11_seed cX11_seed 3 (Option.some FieldType.int)) := rfl
set_option maxRecDepth 100000 in
theorem jcw139 : lw_tbl[1127]? = some (.code yX11_image cX11_image 2 (Option.some FieldType.int)) := rfl
set_option maxRecDepth 100000 in
theorem jcw140 : lw_tbl[1141]? = some (.code yX11_back cX11_back 2 (Option.some FieldType.int)) := rfl
set_option maxRecDepth 100000 in
theorem jcw141 : lw_tbl[1146]? = some (.code yX12_init cX12_init 1 (Option.none : Option FieldType)) := rfl
set_option maxRecDepth 100000 in
theorem jcw142 : lw_tbl[1282]? = some (.code yX12_feed cX12_feed 6 (Option.some FieldType.int)) := rfl
set_option maxRecDepth 100000 in
theorem jcw143 : lw_tbl[1286]? = some (.code yX12_four cX12_four 3 (Option.none : Option FieldType)) := rfl
set_option maxRecDepth 100000 in
theorem jcw144 : lw_tbl[1290]? = some (.code yX12_end cX12_end 2 (Option.some FieldType.int)) := rfl
set_option maxRecDepth 100000 in
theorem jcw145 : lw_tbl[1294]? = some (.code yX12_rule cX12_rule 1 (Option.some FieldType.int)) := rfl
set_option maxRecDepth 100000 in
theorem jcw146 : lw_tbl[1298]? = some (.code yX12_readsAll cX12_readsAll 2 (Option.some FieldType.boolean)) := rfl
set_option maxRecDepth 100000 in
theorem jcw147 : lw_tbl[1302]? = some (.code yX12_clauseHere cX12_clauseHere 3 (Option.some FieldType.boolean)) := rfl
set_option maxRecDepth 100000 in
theorem jcw148 : lw_tbl[1306]? = some (.code yX12_see cX12_see 1 (Option.some FieldType.int)) := rfl
set_option maxRecDepth 100000 in
theorem jcw149 : lw_tbl[1310]? = some (.code yX12_isCampWord cX12_isCampWord 1 (Option.some FieldType.boolean)) := rfl
set_option maxRecDepth 100000 in
theorem jcw150 : lw_tbl[1315]? = some (.code yX12_isWord cX12_isWord 6 (Option.some FieldType.boolean)) := rfl
set_option maxRecDepth 100000 in
theorem jcw151 : lw_tbl[1319]? = some (.code yX12_isLetter cX12_isLetter 2 (Option.some FieldType.boolean)) := rfl
set_option maxRecDepth 100000 in
theorem jcw152 : lw_tbl[1328]? = some (.code yX12_fails cX12_fails 3 (Option.some FieldType.boolean)) := rfl
set_option maxRecDepth 100000 in
theorem jcw153 : lw_tbl[1332]? = some (.code yX12_campLineHere cX12_campLineHere 2 (Option.some FieldType.boolean)) := rfl
set_option maxRecDepth 100000 in
theorem jcw154 : lw_tbl[1336]? = some (.code yX12_isCampHere cX12_isCampHere 2 (Option.some FieldType.boolean)) := rfl
set_option maxRecDepth 100000 in
theorem jcw155 : lw_tbl[1340]? = some (.code yX12_passWord cX12_passWord 1 (Option.none : Option FieldType)) := rfl
set_option maxRecDepth 100000 in
theorem jcw156 : lw_tbl[1344]? = some (.code yX12_cellHere cX12_cellHere 4 (Option.some FieldType.boolean)) := rfl
set_option maxRecDepth 100000 in
theorem jcw157 : lw_tbl[1348]? = some (.code yX12_numberHere cX12_numberHere 5 (Option.some FieldType.boolean)) := rfl
set_option maxRecDepth 100000 in
theorem jcw158 : lw_tbl[1352]? = some (.code yX12_isDigit cX12_isDigit 2 (Option.some FieldType.boolean)) := rfl
set_option maxRecDepth 100000 in
theorem jcw159 : lw_tbl[1355]? = some (.code yX12_in cX12_in 6 (Option.some FieldType.boolean)) := rfl
set_option maxRecDepth 100000 in
theorem jcw160 : lw_tbl[1359]? = some (.code yX12_isCalmHere cX12_isCalmHere 2 (Option.some FieldType.boolean)) := rfl
set_option maxRecDepth 100000 in
theorem jcw161 : lw_tbl[1363]? = some (.code yX12_isKindHere cX12_isKindHere 2 (Option.some FieldType.boolean)) := rfl
set_option maxRecDepth 100000 in
theorem jcw162 : lw_tbl[1367]? = some (.code yX12_isScoutHere cX12_isScoutHere 2 (Option.some FieldType.boolean)) := rfl
set_option maxRecDepth 100000 in
theorem jcw163 : lw_tbl[1371]? = some (.code yX12_canHere cX12_canHere 2 (Option.some FieldType.boolean)) := rfl
set_option maxRecDepth 100000 in
theorem jcw164 : lw_tbl[1375]? = some (.code yX12_isTryHere cX12_isTryHere 2 (Option.some FieldType.boolean)) := rfl
set_option maxRecDepth 100000 in
theorem jcw165 : lw_tbl[1379]? = some (.code yX12_sum cX12_sum 2 (Option.some FieldType.boolean)) := rfl
set_option maxRecDepth 100000 in
theorem jcw166 : lw_tbl[1383]? = some (.code yX12_term cX12_term 2 (Option.some FieldType.boolean)) := rfl
set_option maxRecDepth 100000 in
theorem jcw167 : lw_tbl[1387]? = some (.code yX12_value cX12_value 3 (Option.some FieldType.boolean)) := rfl
set_option maxRecDepth 100000 in
theorem jcw168 : lw_tbl[1392]? = some (.code yX12_makes cX12_makes 2 (Option.some FieldType.boolean)) := rfl
set_option maxRecDepth 100000 in
theorem jcw169 : lw_tbl[1396]? = some (.code yX12_puts cX12_puts 3 (Option.none : Option FieldType)) := rfl
set_option maxRecDepth 100000 in
theorem jcw170 : lw_tbl[1400]? = some (.code yX12_wordHere cX12_wordHere 1 (Option.some FieldType.int)) := rfl
set_option maxRecDepth 100000 in
theorem jcw171 : lw_tbl[1414]? = some (.code yX12_takesWord cX12_takesWord 3 (Option.some FieldType.boolean)) := rfl
set_option maxRecDepth 100000 in
theorem jcw172 : lw_tbl[1418]? = some (.code yX12_tested cX12_tested 3 (Option.some FieldType.boolean)) := rfl
set_option maxRecDepth 100000 in
theorem jcw173 : lw_tbl[1422]? = some (.code yX12_fact cX12_fact 3 (Option.some FieldType.boolean)) := rfl
set_option maxRecDepth 100000 in
theorem jcw174 : lw_tbl[1427]? = some (.code yX12_opens cX12_opens 2 (Option.some FieldType.boolean)) := rfl
set_option maxRecDepth 100000 in
theorem jcw175 : lw_tbl[1431]? = some (.code yX12_compare cX12_compare 5 (Option.some FieldType.boolean)) := rfl
set_option maxRecDepth 100000 in
theorem jcw176 : lw_tbl[1435]? = some (.code yX12_closes cX12_closes 1 (Option.none : Option FieldType)) := rfl
set_option maxRecDepth 100000 in
theorem jcw177 : lw_tbl[1439]? = some (.code yX12_layDown cX12_layDown 2 (Option.none : Option FieldType)) := rfl
set_option maxRecDepth 100000 in
theorem jcw178 : lw_tbl[1442]? = some (.code yX12_strength cX12_strength 1 (Option.some FieldType.int)) := rfl
set_option maxRecDepth 100000 in
theorem jcw179 : lw_tbl[1446]? = some (.code yX12_isInside cX12_isInside 2 (Option.some FieldType.boolean)) := rfl
set_option maxRecDepth 100000 in
theorem jcw180 : lw_tbl[1452]? = some (.code yX12_camp cX12_camp 2 (Option.some FieldType.int)) := rfl
set_option maxRecDepth 100000 in
theorem jcw181 : lw_tbl[1456]? = some (.code yX12_begins cX12_begins 2 (Option.none : Option FieldType)) := rfl
set_option maxRecDepth 100000 in
theorem jcw182 : lw_tbl[1460]? = some (.code yX12_force cX12_force 3 (Option.some FieldType.int)) := rfl
set_option maxRecDepth 100000 in
theorem jcw183 : lw_tbl[1464]? = some (.code yX12_isRule cX12_isRule 2 (Option.some FieldType.boolean)) := rfl
set_option maxRecDepth 100000 in
theorem jcw184 : lw_tbl[1468]? = some (.code yX12_scout cX12_scout 3 (Option.some FieldType.int)) := rfl
set_option maxRecDepth 100000 in
theorem jcw185 : lw_tbl[1472]? = some (.code yX12_isScout cX12_isScout 2 (Option.some FieldType.boolean)) := rfl
set_option maxRecDepth 100000 in
theorem jcw186 : lw_tbl[1476]? = some (.code yX12_canNow cX12_canNow 4 (Option.some FieldType.int)) := rfl
set_option maxRecDepth 100000 in
theorem jcw187 : lw_tbl[1480]? = some (.code yX12_calmNow cX12_calmNow 1 (Option.some FieldType.int)) := rfl
set_option maxRecDepth 100000 in
theorem jcw188 : lw_tbl[1484]? = some (.code yX12_calmOn cX12_calmOn 2 (Option.some FieldType.int)) := rfl
set_option maxRecDepth 100000 in
theorem jcw189 : lw_tbl[1488]? = some (.code yX12_comesOff cX12_comesOff 4 (Option.some FieldType.boolean)) := rfl
set_option maxRecDepth 100000 in
theorem jcw190 : lw_tbl[1492]? = some (.code yX12_skillOf cX12_skillOf 3 (Option.some FieldType.int)) := rfl
set_option maxRecDepth 100000 in
theorem jcw191 : lw_tbl[1496]? = some (.code yX12_badgesOf cX12_badgesOf 2 (Option.some FieldType.int)) := rfl
set_option maxRecDepth 100000 in
theorem jcw192 : lw_tbl[1500]? = some (.code yX12_skill cX12_skill 3 (Option.some FieldType.int)) := rfl
set_option maxRecDepth 100000 in
theorem jcw193 : lw_tbl[1504]? = some (.code yX12_isKind cX12_isKind 2 (Option.some FieldType.boolean)) := rfl
set_option maxRecDepth 100000 in
theorem jcw194 : lw_tbl[1508]? = some (.code yX12_hard cX12_hard 2 (Option.some FieldType.int)) := rfl
set_option maxRecDepth 100000 in
theorem jcw195 : lw_tbl[1512]? = some (.code yX12_undo cX12_undo 2 (Option.some FieldType.int)) := rfl
set_option maxRecDepth 100000 in
theorem jcw196 : lw_tbl[1516]? = some (.code yX12_day cX12_day 1 (Option.some FieldType.int)) := rfl
set_option maxRecDepth 100000 in
theorem jcw197 : lw_tbl[1520]? = some (.code yX12_isCamp cX12_isCamp 1 (Option.some FieldType.boolean)) := rfl
set_option maxRecDepth 100000 in
theorem jcw198 : lw_tbl[1524]? = some (.code yX12_keepsAct cX12_keepsAct 2 (Option.none : Option FieldType)) := rfl
set_option maxRecDepth 100000 in
theorem jcw199 : lw_tbl[1528]? = some (.code yX12_passes cX12_passes 4 (Option.some FieldType.int)) := rfl
set_option maxRecDepth 100000 in
theorem jcw200 : lw_tbl[1532]? = some (.code yX12_choice cX12_choice 8 (Option.some FieldType.int)) := rfl
set_option maxRecDepth 100000 in
theorem jcw201 : lw_tbl[1535]? = some (.code yX12_isOf cX12_isOf 2 (Option.some FieldType.boolean)) := rfl
set_option maxRecDepth 100000 in
theorem jcw202 : lw_tbl[1539]? = some (.code yX12_sumOf cX12_sumOf 6 (Option.some FieldType.long)) := rfl
set_option maxRecDepth 100000 in
theorem jcw203 : lw_tbl[1542]? = some (.code yX12_bits cX12_bits 3 (Option.some FieldType.int)) := rfl
set_option maxRecDepth 100000 in
theorem jcw204 : lw_tbl[1546]? = some (.code yX12_passedBy cX12_passedBy 2 (Option.some FieldType.int)) := rfl
set_option maxRecDepth 100000 in
theorem jcw205 : lw_tbl[1550]? = some (.code yX12_summedBy cX12_summedBy 4 (Option.some FieldType.long)) := rfl
set_option maxRecDepth 100000 in
theorem jcw206 : lw_tbl[1554]? = some (.code yX12_reckons cX12_reckons 11 (Option.some FieldType.long)) := rfl
set_option maxRecDepth 100000 in
theorem jcw207 : lw_tbl[1558]? = some (.code yX12_push cX12_push 3 (Option.none : Option FieldType)) := rfl
set_option maxRecDepth 100000 in
theorem jcw208 : lw_tbl[1562]? = some (.code yX12_pop cX12_pop 1 (Option.some FieldType.long)) := rfl
set_option maxRecDepth 100000 in
theorem jcw209 : lw_tbl[1565]? = some (.code yX12_one cX12_one 5 (Option.some FieldType.long)) := rfl
set_option maxRecDepth 100000 in
theorem jcw210 : lw_tbl[1569]? = some (.code yX12_tries cX12_tries 5 (Option.some FieldType.boolean)) := rfl
set_option maxRecDepth 100000 in
theorem jcw211 : lw_tbl[1573]? = some (.code yX12_attempt cX12_attempt 3 (Option.some FieldType.int)) := rfl
set_option maxRecDepth 100000 in
theorem jcw212 : lw_tbl[1577]? = some (.code yX12_sham cX12_sham 3 (Option.some FieldType.int)) := rfl
set_option maxRecDepth 100000 in
theorem jcw213 : lw_tbl[1581]? = some (.code yX12_teach cX12_teach 4 (Option.some FieldType.int)) := rfl
set_option maxRecDepth 100000 in
theorem jcw214 : lw_tbl[1585]? = some (.code yX12_cut cX12_cut 3 (Option.some FieldType.int)) := rfl
set_option maxRecDepth 100000 in
theorem jcw215 : lw_tbl[1589]? = some (.code yX12_ahead cX12_ahead 5 (Option.some FieldType.int)) := rfl
set_option maxRecDepth 100000 in
theorem jcw216 : lw_tbl[1595]? = some (.code yX12_keeps cX12_keeps 2 (Option.none : Option FieldType)) := rfl
set_option maxRecDepth 100000 in
theorem jcw217 : lw_tbl[1599]? = some (.code yX12_passesAll cX12_passesAll 3 (Option.none : Option FieldType)) := rfl
set_option maxRecDepth 100000 in
theorem jcw218 : lw_tbl[1603]? = some (.code yX12_skillAll cX12_skillAll 4 (Option.some FieldType.int)) := rfl
set_option maxRecDepth 100000 in
theorem jcw219 : lw_tbl[1607]? = some (.code yX12_laysBack cX12_laysBack 2 (Option.none : Option FieldType)) := rfl
set_option maxRecDepth 100000 in
theorem jcw220 : lw_tbl[1611]? = some (.code yX12_arm cX12_arm 4 (Option.some FieldType.int)) := rfl
set_option maxRecDepth 100000 in
theorem jcw221 : lw_tbl[1615]? = some (.code yX12_off cX12_off 6 (Option.some FieldType.int)) := rfl
set_option maxRecDepth 100000 in
theorem jcw222 : lw_tbl[1619]? = some (.code yX12_cover cX12_cover 6 (Option.some FieldType.int)) := rfl
set_option maxRecDepth 100000 in
theorem jcw223 : lw_tbl[1623]? = some (.code yX12_canAny cX12_canAny 4 (Option.some FieldType.int)) := rfl
set_option maxRecDepth 100000 in
theorem jcw224 : lw_tbl[1627]? = some (.code yX12_match cX12_match 2 (Option.some FieldType.int)) := rfl
set_option maxRecDepth 100000 in
theorem jcw225 : lw_tbl[1633]? = some (.code yX12_findsMatch cX12_findsMatch 3 (Option.none : Option FieldType)) := rfl
set_option maxRecDepth 100000 in
theorem jcw226 : lw_tbl[1637]? = some (.code yX12_keepsMatch cX12_keepsMatch 3 (Option.none : Option FieldType)) := rfl
set_option maxRecDepth 100000 in
theorem jcw227 : lw_tbl[1641]? = some (.code yX12_isTaken cX12_isTaken 4 (Option.some FieldType.boolean)) := rfl
set_option maxRecDepth 100000 in
theorem jcw228 : lw_tbl[1645]? = some (.code yX12_trust cX12_trust 4 (Option.some FieldType.int)) := rfl
set_option maxRecDepth 100000 in
theorem jcw229 : lw_tbl[1649]? = some (.code yX12_row cX12_row 8 (Option.some FieldType.int)) := rfl
set_option maxRecDepth 100000 in
theorem jcw230 : lw_tbl[1653]? = some (.code yX12_power cX12_power 4 (Option.some FieldType.int)) := rfl
set_option maxRecDepth 100000 in
theorem jcw231 : lw_tbl[1657]? = some (.code yX12_fillsRow cX12_fillsRow 5 (Option.none : Option FieldType)) := rfl
set_option maxRecDepth 100000 in
theorem jcw232 : lw_tbl[1661]? = some (.code yX12_badgesBy cX12_badgesBy 4 (Option.some FieldType.int)) := rfl
set_option maxRecDepth 100000 in
theorem jcw233 : lw_tbl[1665]? = some (.code yX12_leastLearn cX12_leastLearn 7 (Option.some FieldType.int)) := rfl
set_option maxRecDepth 100000 in
theorem jcw234 : lw_tbl[1670]? = some (.code yX12_calmest cX12_calmest 4 (Option.some FieldType.int)) := rfl
set_option maxRecDepth 100000 in
theorem jcw235 : lw_tbl[1674]? = some (.code yX12_leftOut cX12_leftOut 7 (Option.some FieldType.int)) := rfl
set_option maxRecDepth 100000 in
theorem jcw236 : lw_tbl[1679]? = some (.code yX12_rests cX12_rests 10 (Option.some FieldType.int)) := rfl
set_option maxRecDepth 100000 in
theorem jcw237 : lw_tbl[1684]? = some (.code yX12_fillsRests cX12_fillsRests 8 (Option.none : Option FieldType)) := rfl
set_option maxRecDepth 100000 in
theorem jcw238 : lw_tbl[1688]? = some (.code yX12_isRest cX12_isRest 4 (Option.some FieldType.boolean)) := rfl
set_option maxRecDepth 100000 in
theorem jcw239 : lw_tbl[1692]? = some (.code yX12_pence cX12_pence 9 (Option.some FieldType.int)) := rfl
set_option maxRecDepth 100000 in
theorem jcw240 : lw_tbl[1697]? = some (.code yX12_badgesAll cX12_badgesAll 3 (Option.some FieldType.int)) := rfl
set_option maxRecDepth 100000 in
theorem jcw241 : lw_tbl[1701]? = some (.code yX12_ring cX12_ring 4 (Option.some FieldType.int)) := rfl
set_option maxRecDepth 100000 in
theorem jcw242 : lw_tbl[1705]? = some (.code yX12_areAlike cX12_areAlike 4 (Option.some FieldType.boolean)) := rfl
set_option maxRecDepth 100000 in
theorem jcw243 : lw_tbl[1709]? = some (.code yX12_note cX12_note 6 (Option.some FieldType.int)) := rfl
set_option maxRecDepth 100000 in
theorem jcw244 : lw_tbl[1713]? = some (.code yX12_ruled cX12_ruled 5 (Option.some FieldType.int)) := rfl
set_option maxRecDepth 100000 in
theorem jcw245 : lw_tbl[1717]? = some (.code yX12_fillsFits cX12_fillsFits 7 (Option.none : Option FieldType)) := rfl
set_option maxRecDepth 100000 in
theorem jcw246 : lw_tbl[1721]? = some (.code yX12_areNotesSo cX12_areNotesSo 3 (Option.some FieldType.boolean)) := rfl
set_option maxRecDepth 100000 in
theorem jcw247 : lw_tbl[1725]? = some (.code yX12_look cX12_look 7 (Option.some FieldType.int)) := rfl
set_option maxRecDepth 100000 in
theorem jcw248 : lw_tbl[1729]? = some (.code yX12_alikeAt cX12_alikeAt 6 (Option.some FieldType.int)) := rfl
set_option maxRecDepth 100000 in
theorem jcw249 : lw_tbl[1733]? = some (.code yX12_seed cX12_seed 3 (Option.some FieldType.int)) := rfl
set_option maxRecDepth 100000 in
theorem jcw250 : lw_tbl[1737]? = some (.code yX12_camps cX12_camps 10 (Option.some FieldType.int)) := rfl
set_option maxRecDepth 100000 in
theorem jcw251 : lw_tbl[1742]? = some (.code yX12_passedAll cX12_passedAll 3 (Option.some FieldType.int)) := rfl
set_option maxRecDepth 100000 in
theorem jcw252 : lw_tbl[1746]? = some (.code yX12_draw cX12_draw 2 (Option.some FieldType.int)) := rfl
set_option maxRecDepth 100000 in
theorem jcw253 : lw_tbl[1754]? = some (.code yX12_count cX12_count 2 (Option.some FieldType.int)) := rfl
set_option maxRecDepth 100000 in
theorem jcw254 : lw_tbl[1758]? = some (.code yX12_image cX12_image 3 (Option.some FieldType.int)) := rfl
set_option maxRecDepth 100000 in
theorem jcw255 : lw_tbl[1763]? = some (.code yX12_back cX12_back 3 (Option.some FieldType.int)) := rfl
set_option maxRecDepth 100000 in
theorem jcw256 : lw_tbl[735]? = some (.code yJ6_bitCount_0f7a4 cJ6_bitCount_0f7a4 1 (Option.some FieldType.int)) := rfl
set_option maxRecDepth 100000 in
theorem jcw257 : lw_tbl[899]? = some (.code yJ6_numberOfTrailingZeros_0f7a4 cJ6_numberOfTrailingZeros_0f7a4 2 (Option.some FieldType.int)) := rfl
set_option maxRecDepth 100000 in
theorem jcw258 : lw_tbl[589]? = some (.code yJ7_fill_53178 cJ7_fill_53178 4 (Option.none : Option FieldType)) := rfl
set_option maxRecDepth 100000 in
theorem jcw259 : lw_tbl[646]? = some (.code yJ7_copyOf_59c91 cJ7_copyOf_59c91 3 (Option.some (FieldType.array FieldType.int))) := rfl
set_option maxRecDepth 100000 in
theorem jcw260 : lw_tbl[516]? = some (.code yJ0_length_8abf5 cJ0_length_8abf5 1 (Option.some FieldType.int)) := rfl
set_option maxRecDepth 100000 in
theorem jcw261 : lw_tbl[520]? = some (.code yJ0_coder_7d493 cJ0_coder_7d493 1 (Option.some FieldType.byte)) := rfl
set_option maxRecDepth 100000 in
theorem jcw262 : lw_tbl[526]? = some (.code yJ0_charAt_5068e cJ0_charAt_5068e 2 (Option.some FieldType.char)) := rfl
set_option maxRecDepth 100000 in
theorem jcw263 : lw_tbl[530]? = some (.code yJ0_isLatin1_aae02 cJ0_isLatin1_aae02 1 (Option.some FieldType.boolean)) := rfl
set_option maxRecDepth 100000 in
theorem jcw264 : lw_tbl[536]? = some (.code yJ0_checkIndex_df160 cJ0_checkIndex_df160 2 (Option.none : Option FieldType)) := rfl
set_option maxRecDepth 100000 in
theorem jcw265 : lw_tbl[533]? = some (.code yJ1_charAt_3b067 cJ1_charAt_3b067 2 (Option.some FieldType.char)) := rfl
set_option maxRecDepth 100000 in
theorem jcw266 : lw_tbl[541]? = some (.code yJ3_checkIndex_8e157 cJ3_checkIndex_8e157 3 (Option.some FieldType.int)) := rfl
def jMcd (q : jMt) : Prop := Cond.code q.2.1 q.2.2.1 q.2.2.2.1 q.2.2.2.2.1 ∈ jTb
theorem jMc0 : ∀ q ∈ jML0, jMcd q := List.forall_mem_cons.mpr ⟨jcd_in jcw0, List.forall_mem_cons.mpr ⟨jcd_in jcw1, List.forall_mem_cons.mpr ⟨jcd_in jcw2, List.forall_mem_cons.mpr ⟨jcd_in jcw3, List.forall_mem_cons.mpr ⟨jcd_in jcw4, List.forall_mem_cons.mpr ⟨jcd_in jcw5, List.forall_mem_cons.mpr ⟨jcd_in jcw6, List.forall_mem_cons.mpr ⟨jcd_in jcw7, List.forall_mem_cons.mpr ⟨jcd_in jcw8, List.forall_mem_cons.mpr ⟨jcd_in jcw9, List.forall_mem_cons.mpr ⟨jcd_in jcw10, List.forall_mem_cons.mpr ⟨jcd_in jcw11, List.forall_mem_cons.mpr ⟨jcd_in jcw12, List.forall_mem_cons.mpr ⟨jcd_in jcw13, List.forall_mem_cons.mpr ⟨jcd_in jcw14, List.forall_mem_cons.mpr ⟨jcd_in jcw15, List.forall_mem_cons.mpr ⟨jcd_in jcw16, List.forall_mem_cons.mpr ⟨jcd_in jcw17, List.forall_mem_cons.mpr ⟨jcd_in jcw18, List.forall_mem_cons.mpr ⟨jcd_in jcw19, List.forall_mem_cons.mpr ⟨jcd_in jcw20, List.forall_mem_cons.mpr ⟨jcd_in jcw21, List.forall_mem_cons.mpr ⟨jcd_in jcw22, List.forall_mem_cons.mpr ⟨jcd_in jcw23, List.forall_mem_cons.mpr ⟨jcd_in jcw24, List.forall_mem_cons.mpr ⟨jcd_in jcw25, List.forall_mem_cons.mpr ⟨jcd_in jcw26, List.forall_mem_cons.mpr ⟨jcd_in jcw27, List.forall_mem_cons.mpr ⟨jcd_in jcw28, List.forall_mem_cons.mpr ⟨jcd_in jcw29, List.forall_mem_cons.mpr ⟨jcd_in jcw30, List.forall_mem_cons.mpr ⟨jcd_in jcw31, List.forall_mem_cons.mpr ⟨jcd_in jcw32, List.forall_mem_cons.mpr ⟨jcd_in jcw33, List.forall_mem_cons.mpr ⟨jcd_in jcw34, List.forall_mem_cons.mpr ⟨jcd_in jcw35, List.forall_mem_cons.mpr ⟨jcd_in jcw36, List.forall_mem_cons.mpr ⟨jcd_in jcw37, List.forall_mem_cons.mpr ⟨jcd_in jcw38, List.forall_mem_cons.mpr ⟨jcd_in jcw39, List.forall_mem_cons.mpr ⟨jcd_in jcw40, List.forall_mem_cons.mpr ⟨jcd_in jcw41, List.forall_mem_cons.mpr ⟨jcd_in jcw42, List.forall_mem_cons.mpr ⟨jcd_in jcw43, List.forall_mem_cons.mpr ⟨jcd_in jcw44, List.forall_mem_cons.mpr ⟨jcd_in jcw45, List.forall_mem_cons.mpr ⟨jcd_in jcw46, List.forall_mem_cons.mpr ⟨jcd_in jcw47, List.forall_mem_cons.mpr ⟨jcd_in jcw48, List.forall_mem_cons.mpr ⟨jcd_in jcw49, fun _ h => absurd h List.not_mem_nil⟩⟩⟩⟩⟩⟩⟩⟩⟩⟩⟩⟩⟩⟩⟩⟩⟩⟩⟩⟩⟩⟩⟩⟩⟩⟩⟩⟩⟩⟩⟩⟩⟩⟩⟩⟩⟩⟩⟩⟩⟩⟩⟩⟩⟩⟩⟩⟩⟩⟩
theorem jMc1 : ∀ q ∈ jML1, jMcd q := List.forall_mem_cons.mpr ⟨jcd_in jcw50, List.forall_mem_cons.mpr ⟨jcd_in jcw51, List.forall_mem_cons.mpr ⟨jcd_in jcw52, List.forall_mem_cons.mpr ⟨jcd_in jcw53, List.forall_mem_cons.mpr ⟨jcd_in jcw54, List.forall_mem_cons.mpr ⟨jcd_in jcw55, List.forall_mem_cons.mpr ⟨jcd_in jcw56, List.forall_mem_cons.mpr ⟨jcd_in jcw57, List.forall_mem_cons.mpr ⟨jcd_in jcw58, List.forall_mem_cons.mpr ⟨jcd_in jcw59, List.forall_mem_cons.mpr ⟨jcd_in jcw60, List.forall_mem_cons.mpr ⟨jcd_in jcw61, List.forall_mem_cons.mpr ⟨jcd_in jcw62, List.forall_mem_cons.mpr ⟨jcd_in jcw63, List.forall_mem_cons.mpr ⟨jcd_in jcw64, List.forall_mem_cons.mpr ⟨jcd_in jcw65, List.forall_mem_cons.mpr ⟨jcd_in jcw66, List.forall_mem_cons.mpr ⟨jcd_in jcw67, List.forall_mem_cons.mpr ⟨jcd_in jcw68, List.forall_mem_cons.mpr ⟨jcd_in jcw69, List.forall_mem_cons.mpr ⟨jcd_in jcw70, List.forall_mem_cons.mpr ⟨jcd_in jcw71, List.forall_mem_cons.mpr ⟨jcd_in jcw72, List.forall_mem_cons.mpr ⟨jcd_in jcw73, List.forall_mem_cons.mpr ⟨jcd_in jcw74, List.forall_mem_cons.mpr ⟨jcd_in jcw75, List.forall_mem_cons.mpr ⟨jcd_in jcw76, List.forall_mem_cons.mpr ⟨jcd_in jcw77, List.forall_mem_cons.mpr ⟨jcd_in jcw78, List.forall_mem_cons.mpr ⟨jcd_in jcw79, List.forall_mem_cons.mpr ⟨jcd_in jcw80, List.forall_mem_cons.mpr ⟨jcd_in jcw81, List.forall_mem_cons.mpr ⟨jcd_in jcw82, List.forall_mem_cons.mpr ⟨jcd_in jcw83, List.forall_mem_cons.mpr ⟨jcd_in jcw84, List.forall_mem_cons.mpr ⟨jcd_in jcw85, List.forall_mem_cons.mpr ⟨jcd_in jcw86, List.forall_mem_cons.mpr ⟨jcd_in jcw87, List.forall_mem_cons.mpr ⟨jcd_in jcw88, List.forall_mem_cons.mpr ⟨jcd_in jcw89, List.forall_mem_cons.mpr ⟨jcd_in jcw90, List.forall_mem_cons.mpr ⟨jcd_in jcw91, List.forall_mem_cons.mpr ⟨jcd_in jcw92, List.forall_mem_cons.mpr ⟨jcd_in jcw93, List.forall_mem_cons.mpr ⟨jcd_in jcw94, List.forall_mem_cons.mpr ⟨jcd_in jcw95, List.forall_mem_cons.mpr ⟨jcd_in jcw96, List.forall_mem_cons.mpr ⟨jcd_in jcw97, List.forall_mem_cons.mpr ⟨jcd_in jcw98, List.forall_mem_cons.mpr ⟨jcd_in jcw99, fun _ h => absurd h List.not_mem_nil⟩⟩⟩⟩⟩⟩⟩⟩⟩⟩⟩⟩⟩⟩⟩⟩⟩⟩⟩⟩⟩⟩⟩⟩⟩⟩⟩⟩⟩⟩⟩⟩⟩⟩⟩⟩⟩⟩⟩⟩⟩⟩⟩⟩⟩⟩⟩⟩⟩⟩
theorem jMc2 : ∀ q ∈ jML2, jMcd q := List.forall_mem_cons.mpr ⟨jcd_in jcw100, List.forall_mem_cons.mpr ⟨jcd_in jcw101, List.forall_mem_cons.mpr ⟨jcd_in jcw102, List.forall_mem_cons.mpr ⟨jcd_in jcw103, List.forall_mem_cons.mpr ⟨jcd_in jcw104, List.forall_mem_cons.mpr ⟨jcd_in jcw105, List.forall_mem_cons.mpr ⟨jcd_in jcw106, List.forall_mem_cons.mpr ⟨jcd_in jcw107, List.forall_mem_cons.mpr ⟨jcd_in jcw108, List.forall_mem_cons.mpr ⟨jcd_in jcw109, List.forall_mem_cons.mpr ⟨jcd_in jcw110, List.forall_mem_cons.mpr ⟨jcd_in jcw111, List.forall_mem_cons.mpr ⟨jcd_in jcw112, List.forall_mem_cons.mpr ⟨jcd_in jcw113, List.forall_mem_cons.mpr ⟨jcd_in jcw114, List.forall_mem_cons.mpr ⟨jcd_in jcw115, List.forall_mem_cons.mpr ⟨jcd_in jcw116, List.forall_mem_cons.mpr ⟨jcd_in jcw117, List.forall_mem_cons.mpr ⟨jcd_in jcw118, List.forall_mem_cons.mpr ⟨jcd_in jcw119, List.forall_mem_cons.mpr ⟨jcd_in jcw120, List.forall_mem_cons.mpr ⟨jcd_in jcw121, List.forall_mem_cons.mpr ⟨jcd_in jcw122, List.forall_mem_cons.mpr ⟨jcd_in jcw123, List.forall_mem_cons.mpr ⟨jcd_in jcw124, List.forall_mem_cons.mpr ⟨jcd_in jcw125, List.forall_mem_cons.mpr ⟨jcd_in jcw126, List.forall_mem_cons.mpr ⟨jcd_in jcw127, List.forall_mem_cons.mpr ⟨jcd_in jcw128, List.forall_mem_cons.mpr ⟨jcd_in jcw129, List.forall_mem_cons.mpr ⟨jcd_in jcw130, List.forall_mem_cons.mpr ⟨jcd_in jcw131, List.forall_mem_cons.mpr ⟨jcd_in jcw132, List.forall_mem_cons.mpr ⟨jcd_in jcw133, List.forall_mem_cons.mpr ⟨jcd_in jcw134, List.forall_mem_cons.mpr ⟨jcd_in jcw135, List.forall_mem_cons.mpr ⟨jcd_in jcw136, List.forall_mem_cons.mpr ⟨jcd_in jcw137, List.forall_mem_cons.mpr ⟨jcd_in jcw138, List.forall_mem_cons.mpr ⟨jcd_in jcw139, List.forall_mem_cons.mpr ⟨jcd_in jcw140, List.forall_mem_cons.mpr ⟨jcd_in jcw141, List.forall_mem_cons.mpr ⟨jcd_in jcw142, List.forall_mem_cons.mpr ⟨jcd_in jcw143, List.forall_mem_cons.mpr ⟨jcd_in jcw144, List.forall_mem_cons.mpr ⟨jcd_in jcw145, List.forall_mem_cons.mpr ⟨jcd_in jcw146, List.forall_mem_cons.mpr ⟨jcd_in jcw147, List.forall_mem_cons.mpr ⟨jcd_in jcw148, List.forall_mem_cons.mpr ⟨jcd_in jcw149, fun _ h => absurd h List.not_mem_nil⟩⟩⟩⟩⟩⟩⟩⟩⟩⟩⟩⟩⟩⟩⟩⟩⟩⟩⟩⟩⟩⟩⟩⟩⟩⟩⟩⟩⟩⟩⟩⟩⟩⟩⟩⟩⟩⟩⟩⟩⟩⟩⟩⟩⟩⟩⟩⟩⟩⟩
theorem jMc3 : ∀ q ∈ jML3, jMcd q := List.forall_mem_cons.mpr ⟨jcd_in jcw150, List.forall_mem_cons.mpr ⟨jcd_in jcw151, List.forall_mem_cons.mpr ⟨jcd_in jcw152, List.forall_mem_cons.mpr ⟨jcd_in jcw153, List.forall_mem_cons.mpr ⟨jcd_in jcw154, List.forall_mem_cons.mpr ⟨jcd_in jcw155, List.forall_mem_cons.mpr ⟨jcd_in jcw156, List.forall_mem_cons.mpr ⟨jcd_in jcw157, List.forall_mem_cons.mpr ⟨jcd_in jcw158, List.forall_mem_cons.mpr ⟨jcd_in jcw159, List.forall_mem_cons.mpr ⟨jcd_in jcw160, List.forall_mem_cons.mpr ⟨jcd_in jcw161, List.forall_mem_cons.mpr ⟨jcd_in jcw162, List.forall_mem_cons.mpr ⟨jcd_in jcw163, List.forall_mem_cons.mpr ⟨jcd_in jcw164, List.forall_mem_cons.mpr ⟨jcd_in jcw165, List.forall_mem_cons.mpr ⟨jcd_in jcw166, List.forall_mem_cons.mpr ⟨jcd_in jcw167, List.forall_mem_cons.mpr ⟨jcd_in jcw168, List.forall_mem_cons.mpr ⟨jcd_in jcw169, List.forall_mem_cons.mpr ⟨jcd_in jcw170, List.forall_mem_cons.mpr ⟨jcd_in jcw171, List.forall_mem_cons.mpr ⟨jcd_in jcw172, List.forall_mem_cons.mpr ⟨jcd_in jcw173, List.forall_mem_cons.mpr ⟨jcd_in jcw174, List.forall_mem_cons.mpr ⟨jcd_in jcw175, List.forall_mem_cons.mpr ⟨jcd_in jcw176, List.forall_mem_cons.mpr ⟨jcd_in jcw177, List.forall_mem_cons.mpr ⟨jcd_in jcw178, List.forall_mem_cons.mpr ⟨jcd_in jcw179, List.forall_mem_cons.mpr ⟨jcd_in jcw180, List.forall_mem_cons.mpr ⟨jcd_in jcw181, List.forall_mem_cons.mpr ⟨jcd_in jcw182, List.forall_mem_cons.mpr ⟨jcd_in jcw183, List.forall_mem_cons.mpr ⟨jcd_in jcw184, List.forall_mem_cons.mpr ⟨jcd_in jcw185, List.forall_mem_cons.mpr ⟨jcd_in jcw186, List.forall_mem_cons.mpr ⟨jcd_in jcw187, List.forall_mem_cons.mpr ⟨jcd_in jcw188, List.forall_mem_cons.mpr ⟨jcd_in jcw189, List.forall_mem_cons.mpr ⟨jcd_in jcw190, List.forall_mem_cons.mpr ⟨jcd_in jcw191, List.forall_mem_cons.mpr ⟨jcd_in jcw192, List.forall_mem_cons.mpr ⟨jcd_in jcw193, List.forall_mem_cons.mpr ⟨jcd_in jcw194, List.forall_mem_cons.mpr ⟨jcd_in jcw195, List.forall_mem_cons.mpr ⟨jcd_in jcw196, List.forall_mem_cons.mpr ⟨jcd_in jcw197, List.forall_mem_cons.mpr ⟨jcd_in jcw198, List.forall_mem_cons.mpr ⟨jcd_in jcw199, fun _ h => absurd h List.not_mem_nil⟩⟩⟩⟩⟩⟩⟩⟩⟩⟩⟩⟩⟩⟩⟩⟩⟩⟩⟩⟩⟩⟩⟩⟩⟩⟩⟩⟩⟩⟩⟩⟩⟩⟩⟩⟩⟩⟩⟩⟩⟩⟩⟩⟩⟩⟩⟩⟩⟩⟩
theorem jMc4 : ∀ q ∈ jML4, jMcd q := List.forall_mem_cons.mpr ⟨jcd_in jcw200, List.forall_mem_cons.mpr ⟨jcd_in jcw201, List.forall_mem_cons.mpr ⟨jcd_in jcw202, List.forall_mem_cons.mpr ⟨jcd_in jcw203, List.forall_mem_cons.mpr ⟨jcd_in jcw204, List.forall_mem_cons.mpr ⟨jcd_in jcw205, List.forall_mem_cons.mpr ⟨jcd_in jcw206, List.forall_mem_cons.mpr ⟨jcd_in jcw207, List.forall_mem_cons.mpr ⟨jcd_in jcw208, List.forall_mem_cons.mpr ⟨jcd_in jcw209, List.forall_mem_cons.mpr ⟨jcd_in jcw210, List.forall_mem_cons.mpr ⟨jcd_in jcw211, List.forall_mem_cons.mpr ⟨jcd_in jcw212, List.forall_mem_cons.mpr ⟨jcd_in jcw213, List.forall_mem_cons.mpr ⟨jcd_in jcw214, List.forall_mem_cons.mpr ⟨jcd_in jcw215, List.forall_mem_cons.mpr ⟨jcd_in jcw216, List.forall_mem_cons.mpr ⟨jcd_in jcw217, List.forall_mem_cons.mpr ⟨jcd_in jcw218, List.forall_mem_cons.mpr ⟨jcd_in jcw219, List.forall_mem_cons.mpr ⟨jcd_in jcw220, List.forall_mem_cons.mpr ⟨jcd_in jcw221, List.forall_mem_cons.mpr ⟨jcd_in jcw222, List.forall_mem_cons.mpr ⟨jcd_in jcw223, List.forall_mem_cons.mpr ⟨jcd_in jcw224, List.forall_mem_cons.mpr ⟨jcd_in jcw225, List.forall_mem_cons.mpr ⟨jcd_in jcw226, List.forall_mem_cons.mpr ⟨jcd_in jcw227, List.forall_mem_cons.mpr ⟨jcd_in jcw228, List.forall_mem_cons.mpr ⟨jcd_in jcw229, List.forall_mem_cons.mpr ⟨jcd_in jcw230, List.forall_mem_cons.mpr ⟨jcd_in jcw231, List.forall_mem_cons.mpr ⟨jcd_in jcw232, List.forall_mem_cons.mpr ⟨jcd_in jcw233, List.forall_mem_cons.mpr ⟨jcd_in jcw234, List.forall_mem_cons.mpr ⟨jcd_in jcw235, List.forall_mem_cons.mpr ⟨jcd_in jcw236, List.forall_mem_cons.mpr ⟨jcd_in jcw237, List.forall_mem_cons.mpr ⟨jcd_in jcw238, List.forall_mem_cons.mpr ⟨jcd_in jcw239, List.forall_mem_cons.mpr ⟨jcd_in jcw240, List.forall_mem_cons.mpr ⟨jcd_in jcw241, List.forall_mem_cons.mpr ⟨jcd_in jcw242, List.forall_mem_cons.mpr ⟨jcd_in jcw243, List.forall_mem_cons.mpr ⟨jcd_in jcw244, List.forall_mem_cons.mpr ⟨jcd_in jcw245, List.forall_mem_cons.mpr ⟨jcd_in jcw246, List.forall_mem_cons.mpr ⟨jcd_in jcw247, List.forall_mem_cons.mpr ⟨jcd_in jcw248, List.forall_mem_cons.mpr ⟨jcd_in jcw249, fun _ h => absurd h List.not_mem_nil⟩⟩⟩⟩⟩⟩⟩⟩⟩⟩⟩⟩⟩⟩⟩⟩⟩⟩⟩⟩⟩⟩⟩⟩⟩⟩⟩⟩⟩⟩⟩⟩⟩⟩⟩⟩⟩⟩⟩⟩⟩⟩⟩⟩⟩⟩⟩⟩⟩⟩
theorem jMc5 : ∀ q ∈ jML5.take 17, jMcd q := List.forall_mem_cons.mpr ⟨jcd_in jcw250, List.forall_mem_cons.mpr ⟨jcd_in jcw251, List.forall_mem_cons.mpr ⟨jcd_in jcw252, List.forall_mem_cons.mpr ⟨jcd_in jcw253, List.forall_mem_cons.mpr ⟨jcd_in jcw254, List.forall_mem_cons.mpr ⟨jcd_in jcw255, List.forall_mem_cons.mpr ⟨jcd_in jcw256, List.forall_mem_cons.mpr ⟨jcd_in jcw257, List.forall_mem_cons.mpr ⟨jcd_in jcw258, List.forall_mem_cons.mpr ⟨jcd_in jcw259, List.forall_mem_cons.mpr ⟨jcd_in jcw260, List.forall_mem_cons.mpr ⟨jcd_in jcw261, List.forall_mem_cons.mpr ⟨jcd_in jcw262, List.forall_mem_cons.mpr ⟨jcd_in jcw263, List.forall_mem_cons.mpr ⟨jcd_in jcw264, List.forall_mem_cons.mpr ⟨jcd_in jcw265, List.forall_mem_cons.mpr ⟨jcd_in jcw266, fun _ h => absurd h List.not_mem_nil⟩⟩⟩⟩⟩⟩⟩⟩⟩⟩⟩⟩⟩⟩⟩⟩⟩
def jMLt : List jMt := jML0 ++ (jML1 ++ (jML2 ++ (jML3 ++ (jML4 ++ (jML5.take 17)))))
theorem jMt_all : ∀ q ∈ jMLt, jMcd q := List.forall_mem_append.mpr ⟨jMc0, List.forall_mem_append.mpr ⟨jMc1, List.forall_mem_append.mpr ⟨jMc2, List.forall_mem_append.mpr ⟨jMc3, List.forall_mem_append.mpr ⟨jMc4, jMc5⟩⟩⟩⟩⟩
set_option maxRecDepth 100000 in
theorem jMt_eq : jMLt = jML.take jlaw := rfl
theorem jM_code {k : Nat} (h : k < jlaw) : Cond.code (jyn k) (jby k) (jmx k) (jrt k) ∈ jTb := by
  have h1 : jlaw < jML.length := by decide +kernel
  have h2 : jM k ∈ jMLt := by
    rw [jMt_eq, jM, List.getD_eq_getElem?_getD, List.getElem?_eq_getElem (by omega), Option.getD_some]
    exact List.mem_take_iff_getElem.mpr ⟨k, by omega, rfl⟩
  exact jMt_all _ h2
def jMok (k : Nat) : Bool := jwd (jM k).2.2.2.2.2.2 (.initialized (jyn k).cls) && (plainName (jyn k).cls && (decide ((jyn k).cls = jcn (jow k)) && (decide (jmx k ≤ 22) && (decide ((jyn k).cls ≠ "java/lang/invoke/MethodHandle") && decide ((jyn k).cls ≠ "java/lang/invoke/VarHandle")))))
theorem jM_ok0 : ∀ k, k < 50 → jMok (0 + k) = true := by decide +kernel
theorem jM_ok1 : ∀ k, k < 50 → jMok (50 + k) = true := by decide +kernel
theorem jM_ok2 : ∀ k, k < 50 → jMok (100 + k) = true := by decide +kernel
theorem jM_ok3 : ∀ k, k < 50 → jMok (150 + k) = true := by decide +kernel
theorem jM_ok4 : ∀ k, k < 50 → jMok (200 + k) = true := by decide +kernel
theorem jM_ok5 : ∀ k, k < 17 → jMok (250 + k) = true := by decide +kernel
theorem jM_ok {k : Nat} (h : k < jlaw) : jMok k = true := by
  have h : k < 267 := h
  rcases Nat.lt_or_ge k 50 with g | g
  · have := jM_ok0 (k - 0) (by omega)
    rwa [show 0 + (k - 0) = k by omega] at this
  rcases Nat.lt_or_ge k 100 with g | g
  · have := jM_ok1 (k - 50) (by omega)
    rwa [show 50 + (k - 50) = k by omega] at this
  rcases Nat.lt_or_ge k 150 with g | g
  · have := jM_ok2 (k - 100) (by omega)
    rwa [show 100 + (k - 100) = k by omega] at this
  rcases Nat.lt_or_ge k 200 with g | g
  · have := jM_ok3 (k - 150) (by omega)
    rwa [show 150 + (k - 150) = k by omega] at this
  rcases Nat.lt_or_ge k 250 with g | g
  · have := jM_ok4 (k - 200) (by omega)
    rwa [show 200 + (k - 200) = k by omega] at this
  · have := jM_ok5 (k - 250) (by omega)
    rwa [show 250 + (k - 250) = k by omega] at this
