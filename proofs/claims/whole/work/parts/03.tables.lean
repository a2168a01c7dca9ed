/-! THE TABLES of the little machine: printed by wip/whole/gen.py out of the claim (tables_1 by places, names) -/
def jTb : List Cond := lw_tbl.filter goodWord
def jwd (i : Nat) (w : Cond) : Bool := decide (lw_tbl[i]? = some w) && goodWord w
theorem jwd_in {i : Nat} {w : Cond} (h : jwd i w = true) : w ∈ jTb := by
  obtain ⟨h1, h2⟩ := Bool.and_eq_true_iff.mp h
  exact List.mem_filter.mpr ⟨List.mem_of_getElem? (of_decide_eq_true h1), h2⟩
theorem jTb_in {w : Cond} (h : w ∈ jTb) : w ∈ lw_tbl := (List.mem_filter.mp h).1
theorem jTb_good {w : Cond} (h : w ∈ jTb) : goodWord w = true := (List.mem_filter.mp h).2
def jnest (w : Cond) : Bool := match w with
  | .fieldLinkNest .. => true
  | .methodLinkNest .. => true
  | .castable .. => true
  | .arrayOver (.object _) => true
  | _ => false
def jTn : List Cond := lw_tbl.filter jnest
def jwn (i : Nat) (w : Cond) : Bool := decide (lw_tbl[i]? = some w) && jnest w
theorem jwn_in {i : Nat} {w : Cond} (h : jwn i w = true) : w ∈ jTn := by
  obtain ⟨h1, h2⟩ := Bool.and_eq_true_iff.mp h
  exact List.mem_filter.mpr ⟨List.mem_of_getElem? (of_decide_eq_true h1), h2⟩
theorem jcd_in {i : Nat} {y : MethodName} {b : ByteArray} {n : Nat} {r : Option FieldType} (h : lw_tbl[i]? = some (.code y b n r)) : Cond.code y b n r ∈ jTb := List.mem_filter.mpr ⟨List.mem_of_getElem? h, rfl⟩
/-- the classes by their numbers -/
def jcnL : List String := [RX0, RX1, RX2, RX3, RX4, RX5, RX6, RX7, RX8, RX9, RX10, RX11, RX12, RL, RJ6, RJ9, RJ7, RJ0, RJ1, RJ3]
def jcn (o : Nat) : String := jcnL.getD o ""
def jty (ci : Nat) : Nat → FieldType := match ci with
  | 0 => tyX0
  | 1 => tyX1
  | 2 => tyX2
  | 3 => tyX3
  | 4 => tyX4
  | 5 => tyX5
  | 6 => tyX6
  | 7 => tyX7
  | 8 => tyX8
  | 9 => tyX9
  | 10 => tyX10
  | 11 => tyX11
  | _ => tyX12
def jlyP0 : List Nat := [235, 237, 239, 241, 243, 245, 247, 249, 251]
theorem jly0 : ∀ k, k < 9 → jwd (jlyP0.getD k 0) (u_lay RX0 TX0 k) = true := by decide +kernel
theorem jlo0 : ∀ k, k < 9 → (TX0 k).1 = RX0 := by decide +kernel
def jlyP1 : List Nat := [406, 408, 410, 412, 414, 416, 418, 420]
theorem jly1 : ∀ k, k < 8 → jwd (jlyP1.getD k 0) (u_lay RX1 TX1 k) = true := by decide +kernel
theorem jlo1 : ∀ k, k < 8 → (TX1 k).1 = RX1 := by decide +kernel
def jlyP2 : List Nat := [431, 433, 435, 437, 439]
theorem jly2 : ∀ k, k < 5 → jwd (jlyP2.getD k 0) (u_lay RX2 TX2 k) = true := by decide +kernel
theorem jlo2 : ∀ k, k < 5 → (TX2 k).1 = RX2 := by decide +kernel
def jlyP3 : List Nat := [326, 328, 330, 332, 334]
theorem jly3 : ∀ k, k < 5 → jwd (jlyP3.getD k 0) (u_lay RX3 TX3 k) = true := by decide +kernel
theorem jlo3 : ∀ k, k < 5 → (TX3 k).1 = RX3 := by decide +kernel
def jlyP4 : List Nat := [299, 301, 303, 305, 307]
theorem jly4 : ∀ k, k < 5 → jwd (jlyP4.getD k 0) (u_lay RX4 TX4 k) = true := by decide +kernel
theorem jlo4 : ∀ k, k < 5 → (TX4 k).1 = RX4 := by decide +kernel
def jlyP5 : List Nat := [349, 351, 353]
theorem jly5 : ∀ k, k < 3 → jwd (jlyP5.getD k 0) (u_lay RX5 TX5 k) = true := by decide +kernel
theorem jlo5 : ∀ k, k < 3 → (TX5 k).1 = RX5 := by decide +kernel
def jlyP6 : List Nat := [369, 371, 373, 375]
theorem jly6 : ∀ k, k < 4 → jwd (jlyP6.getD k 0) (u_lay RX6 TX6 k) = true := by decide +kernel
theorem jlo6 : ∀ k, k < 4 → (TX6 k).1 = RX6 := by decide +kernel
def jlyP7 : List Nat := [665, 667, 669, 671]
theorem jly7 : ∀ k, k < 4 → jwd (jlyP7.getD k 0) (u_lay RX7 TX7 k) = true := by decide +kernel
theorem jlo7 : ∀ k, k < 4 → (TX7 k).1 = RX7 := by decide +kernel
def jlyP8 : List Nat := [179, 181, 183, 185, 187, 189]
theorem jly8 : ∀ k, k < 6 → jwd (jlyP8.getD k 0) (u_lay RX8 TX8 k) = true := by decide +kernel
theorem jlo8 : ∀ k, k < 6 → (TX8 k).1 = RX8 := by decide +kernel
def jlyP9 : List Nat := [276, 278, 280, 282, 284]
theorem jly9 : ∀ k, k < 5 → jwd (jlyP9.getD k 0) (u_lay RX9 TX9 k) = true := by decide +kernel
theorem jlo9 : ∀ k, k < 5 → (TX9 k).1 = RX9 := by decide +kernel
def jlyP10 : List Nat := [151, 153, 155, 157, 159, 161, 163]
theorem jly10 : ∀ k, k < 7 → jwd (jlyP10.getD k 0) (u_lay RX10 TX10 k) = true := by decide +kernel
theorem jlo10 : ∀ k, k < 7 → (TX10 k).1 = RX10 := by decide +kernel
def jlyP11 : List Nat := [451, 453, 455, 457, 459, 461, 463, 465, 467]
theorem jly11 : ∀ k, k < 9 → jwd (jlyP11.getD k 0) (u_lay RX11 TX11 k) = true := by decide +kernel
theorem jlo11 : ∀ k, k < 9 → (TX11 k).1 = RX11 := by decide +kernel
def jlyP12 : List Nat := [1188, 1190, 1192, 1194, 1196, 1198, 1200, 1202, 1204, 1206, 1208, 1210, 1212, 1214, 1216, 1218, 1220, 1222, 1224, 1226, 1228, 1230, 1232, 1234, 1236, 1238, 1240, 1242, 1244, 1246, 1248, 1250, 1252, 1254, 1256, 1258, 1260, 1262, 1264, 1266, 1268, 1270, 1272]
theorem jly12 : ∀ k, k < 43 → jwd (jlyP12.getD k 0) (u_lay RX12 TX12 k) = true := by decide +kernel
theorem jlo12 : ∀ k, k < 43 → (TX12 k).1 = RX12 := by decide +kernel
/-- what each class of objects gives: its words, its fields' types, its fields apart and its own -/
def jclOk (ci : Nat) (q : vw_C) : Prop := (∀ w ∈ u_ws q.1 q.2.1 q.2.2, w ∈ jTb) ∧ (∀ k, k < q.2.2 → parseFieldDescriptor (q.2.1 k).2.2.1 = some (jty ci k)) ∧ (∀ a, a < q.2.2 → ∀ b, b < q.2.2 → a ≠ b → (q.2.1 a).2.1 ≠ (q.2.1 b).2.1) ∧ (∀ k, k < q.2.2 → (q.2.1 k).1 = q.1)
theorem jly_in {C : String} {T : u_T} {N : Nat} {ps : List Nat} (h : ∀ k, k < N → jwd (ps.getD k 0) (u_lay C T k) = true) : ∀ w ∈ u_ws C T N, w ∈ jTb := by
  intro w hw
  obtain ⟨k, hk, rfl⟩ := List.mem_map.mp hw
  exact jwd_in (h k (List.mem_range.mp hk))
theorem jcl_ok {ci : Nat} {q : vw_C} (h : vwCl[ci]? = some q) : jclOk ci q := by
  match ci, h with
  | 0, h => cases h; exact ⟨jly_in jly0, tyX0_ok, nmX0, jlo0⟩
  | 1, h => cases h; exact ⟨jly_in jly1, tyX1_ok, nmX1, jlo1⟩
  | 2, h => cases h; exact ⟨jly_in jly2, tyX2_ok, nmX2, jlo2⟩
  | 3, h => cases h; exact ⟨jly_in jly3, tyX3_ok, nmX3, jlo3⟩
  | 4, h => cases h; exact ⟨jly_in jly4, tyX4_ok, nmX4, jlo4⟩
  | 5, h => cases h; exact ⟨jly_in jly5, tyX5_ok, nmX5, jlo5⟩
  | 6, h => cases h; exact ⟨jly_in jly6, tyX6_ok, nmX6, jlo6⟩
  | 7, h => cases h; exact ⟨jly_in jly7, tyX7_ok, nmX7, jlo7⟩
  | 8, h => cases h; exact ⟨jly_in jly8, tyX8_ok, nmX8, jlo8⟩
  | 9, h => cases h; exact ⟨jly_in jly9, tyX9_ok, nmX9, jlo9⟩
  | 10, h => cases h; exact ⟨jly_in jly10, tyX10_ok, nmX10, jlo10⟩
  | 11, h => cases h; exact ⟨jly_in jly11, tyX11_ok, nmX11, jlo11⟩
  | 12, h => cases h; exact ⟨jly_in jly12, tyX12_ok, nmX12, jlo12⟩
  | n + 13, h => exact absurd h (by simp [vwCl])
def jobL : List (Nat × Nat) := [(201, 108), (385, 114), (379, 113), (195, 107), (288, 110), (338, 111), (358, 112), (640, 122), (168, 106), (255, 109), (134, 105), (126, 104), (1140, 115)]
def jobOk (ci : Nat) (q : Nat × Nat) : Bool := match vwCl[ci]? with
  | some r => jwd q.1 (.instantiable r.1 r.2.2) && jwd q.2 (.initialized r.1)
  | none => false
theorem job_ok : ∀ ci, ci < 13 → jobOk ci (jobL.getD ci (0, 0)) = true := by decide +kernel
/-- a method: its class, its name, its bytes, its locals, what it returns, places of its words -/
abbrev jMt : Type := Nat × MethodName × ByteArray × Nat × Option FieldType × Nat × Nat
def jML0 : List jMt := [(0, yX0_init, cX0_init, 1, (Option.none : Option FieldType), 204, 108),
  (0, yX0_read, cX0_read, 5, (Option.some FieldType.boolean), 496, 108),
  (0, yX0_isFullOf, cX0_isFullOf, 2, (Option.some FieldType.boolean), 565, 108),
  (0, yX0_readNumbers, cX0_readNumbers, 3, (Option.some FieldType.boolean), 570, 108),
  (0, yX0_readSkill, cX0_readSkill, 5, (Option.some FieldType.boolean), 579, 108),
  (0, yX0_hasScout, cX0_hasScout, 2, (Option.some FieldType.boolean), 685, 108),
  (0, yX0_calmOf, cX0_calmOf, 2, (Option.some FieldType.int), 693, 108),
  (0, yX0_hasBoth, cX0_hasBoth, 3, (Option.some FieldType.boolean), 705, 108),
  (0, yX0_hasKind, cX0_hasKind, 2, (Option.some FieldType.boolean), 710, 108),
  (1, yX1_init, cX1_init, 1, (Option.none : Option FieldType), 388, 114),
  (1, yX1_startFrom, cX1_startFrom, 4, (Option.none : Option FieldType), 772, 114),
  (1, yX1_setUp, cX1_setUp, 3, (Option.none : Option FieldType), 777, 114),
  (1, yX1_live, cX1_live, 5, (Option.some FieldType.int), 781, 114),
  (1, yX1_hardestWithoutBadge, cX1_hardestWithoutBadge, 4, (Option.some FieldType.int), 786, 114),
  (1, yX1_isLeftOut, cX1_isLeftOut, 2, (Option.some FieldType.boolean), 790, 114),
  (1, yX1_worthiest, cX1_worthiest, 9, (Option.some FieldType.int), 798, 114),
  (1, yX1_tellScout, cX1_tellScout, 3, (Option.none : Option FieldType), 802, 114),
  (1, yX1_tellKind, cX1_tellKind, 3, (Option.none : Option FieldType), 807, 114),
  (1, yX1_liveFor, cX1_liveFor, 3, (Option.none : Option FieldType), 872, 114),
  (1, yX1_startAsTold, cX1_startAsTold, 3, (Option.none : Option FieldType), 1091, 114),
  (2, yX2_init, cX2_init, 1, (Option.none : Option FieldType), 382, 113),
  (2, yX2_liveOne, cX2_liveOne, 4, (Option.some FieldType.int), 764, 113),
  (2, yX2_start, cX2_start, 3, (Option.none : Option FieldType), 768, 113),
  (2, yX2_after, cX2_after, 4, (Option.some (FieldType.object "FailBadge$Standing")), 868, 113),
  (2, yX2_firstWholeArm, cX2_firstWholeArm, 6, (Option.some FieldType.int), 885, 113),
  (2, yX2_firstOff, cX2_firstOff, 6, (Option.some FieldType.int), 893, 113),
  (2, yX2_leastToLearn, cX2_leastToLearn, 7, (Option.some FieldType.int), 905, 113),
  (2, yX2_fewestLeftOut, cX2_fewestLeftOut, 7, (Option.some FieldType.int), 913, 113),
  (2, yX2_isQuiet, cX2_isQuiet, 6, (Option.some FieldType.boolean), 918, 113),
  (2, yX2_firstRing, cX2_firstRing, 6, (Option.some FieldType.int), 927, 113),
  (2, yX2_traceDay, cX2_traceDay, 6, (Option.none : Option FieldType), 931, 113),
  (2, yX2_isSameTrace, cX2_isSameTrace, 4, (Option.some FieldType.boolean), 936, 113),
  (2, yX2_drawCamps, cX2_drawCamps, 10, (Option.none : Option FieldType), 944, 113),
  (2, yX2_stepped, cX2_stepped, 2, (Option.some FieldType.long), 947, 113),
  (2, yX2_drawOf, cX2_drawOf, 2, (Option.some FieldType.int), 953, 113),
  (2, yX2_allowedByNotes, cX2_allowedByNotes, 7, (Option.some FieldType.int), 1083, 113),
  (2, yX2_isAllowed, cX2_isAllowed, 6, (Option.some FieldType.boolean), 1087, 113),
  (2, yX2_bestToLookAt, cX2_bestToLookAt, 10, (Option.some FieldType.int), 1110, 113),
  (2, yX2_mostAlike, cX2_mostAlike, 7, (Option.some FieldType.int), 1115, 113),
  (3, yX3_init, cX3_init, 1, (Option.none : Option FieldType), 198, 107),
  (3, yX3_copyFrom, cX3_copyFrom, 2, (Option.none : Option FieldType), 1128, 107),
  (4, yX4_init, cX4_init, 1, (Option.none : Option FieldType), 291, 110),
  (4, yX4_isFull, cX4_isFull, 1, (Option.some FieldType.boolean), 1070, 110),
  (4, yX4_add, cX4_add, 5, (Option.none : Option FieldType), 1074, 110),
  (4, yX4_lastDay, cX4_lastDay, 3, (Option.some FieldType.int), 1096, 110),
  (4, yX4_agreeBehind, cX4_agreeBehind, 4, (Option.some FieldType.boolean), 1101, 110),
  (4, yX4_copyFrom, cX4_copyFrom, 2, (Option.none : Option FieldType), 1133, 110),
  (5, yX5_init, cX5_init, 1, (Option.none : Option FieldType), 341, 111),
  (5, yX5_keep, cX5_keep, 2, (Option.none : Option FieldType), 747, 111),
  (5, yX5_giveBack, cX5_giveBack, 2, (Option.none : Option FieldType), 860, 111)]
def jML1 : List jMt := [(6, yX6_init, cX6_init, 1, (Option.none : Option FieldType), 361, 112),
  (6, yX6_fewestForAll, cX6_fewestForAll, 6, (Option.some FieldType.int), 963, 112),
  (6, yX6_findAble, cX6_findAble, 3, (Option.none : Option FieldType), 967, 112),
  (6, yX6_ableTogether, cX6_ableTogether, 4, (Option.some FieldType.int), 972, 112),
  (6, yX6_mostMatched, cX6_mostMatched, 2, (Option.some FieldType.int), 981, 112),
  (6, yX6_fillMatched, cX6_fillMatched, 5, (Option.none : Option FieldType), 985, 112),
  (6, yX6_mostFrom, cX6_mostFrom, 7, (Option.some FieldType.int), 990, 112),
  (6, yX6_matchOf, cX6_matchOf, 6, (Option.some FieldType.int), 997, 112),
  (6, yX6_firstChoice, cX6_firstChoice, 7, (Option.some FieldType.int), 1001, 112),
  (6, yX6_trusted, cX6_trusted, 4, (Option.some FieldType.int), 1009, 112),
  (6, yX6_isTrustedMore, cX6_isTrustedMore, 5, (Option.some FieldType.boolean), 1012, 112),
  (6, yX6_partOf, cX6_partOf, 10, (Option.some FieldType.int), 1021, 112),
  (6, yX6_firstCalmEnough, cX6_firstCalmEnough, 7, (Option.some FieldType.int), 1030, 112),
  (6, yX6_bestRow, cX6_bestRow, 11, (Option.some FieldType.int), 1040, 112),
  (6, yX6_badgesBy, cX6_badgesBy, 9, (Option.some FieldType.int), 1044, 112),
  (6, yX6_bestToKeepAt, cX6_bestToKeepAt, 8, (Option.some FieldType.int), 1057, 112),
  (6, yX6_gainBy, cX6_gainBy, 8, (Option.some FieldType.int), 1061, 112),
  (7, yX7_init, cX7_init, 5, (Option.none : Option FieldType), 659, 122),
  (7, yX7_worth, cX7_worth, 6, (Option.some FieldType.long), 816, 122),
  (7, yX7_result, cX7_result, 8, (Option.some FieldType.long), 820, 122),
  (7, yX7_joined, cX7_joined, 5, (Option.some FieldType.long), 823, 122),
  (8, yX8_init, cX8_init, 1, (Option.none : Option FieldType), 171, 106),
  (8, yX8_read, cX8_read, 3, (Option.some FieldType.boolean), 598, 106),
  (8, yX8_readSum, cX8_readSum, 6, (Option.some FieldType.boolean), 607, 106),
  (8, yX8_readValue, cX8_readValue, 3, (Option.some FieldType.boolean), 611, 106),
  (8, yX8_put, cX8_put, 2, (Option.none : Option FieldType), 616, 106),
  (8, yX8_codeOf, cX8_codeOf, 1, (Option.some FieldType.int), 619, 106),
  (8, yX8_readTest, cX8_readTest, 7, (Option.some FieldType.boolean), 624, 106),
  (8, yX8_readFact, cX8_readFact, 5, (Option.some FieldType.boolean), 628, 106),
  (8, yX8_readComparison, cX8_readComparison, 4, (Option.some FieldType.boolean), 633, 106),
  (8, yX8_made, cX8_made, 1, (Option.some (FieldType.object "FailBadge$Rule")), 638, 106),
  (9, yX9_init, cX9_init, 1, (Option.none : Option FieldType), 258, 109),
  (9, yX9_begin, cX9_begin, 2, (Option.none : Option FieldType), 583, 109),
  (9, yX9_able, cX9_able, 6, (Option.some FieldType.int), 689, 109),
  (9, yX9_skillOf, cX9_skillOf, 3, (Option.some FieldType.int), 697, 109),
  (9, yX9_badgesOfAll, cX9_badgesOfAll, 3, (Option.some FieldType.int), 725, 109),
  (9, yX9_badgeCount, cX9_badgeCount, 2, (Option.some FieldType.int), 729, 109),
  (9, yX9_passedOfAll, cX9_passedOfAll, 3, (Option.some FieldType.int), 739, 109),
  (9, yX9_copyFrom, cX9_copyFrom, 2, (Option.none : Option FieldType), 752, 109),
  (9, yX9_hasBadge, cX9_hasBadge, 3, (Option.some FieldType.boolean), 794, 109),
  (9, yX9_othersWith, cX9_othersWith, 5, (Option.some FieldType.int), 812, 109),
  (9, yX9_tries, cX9_tries, 6, (Option.some FieldType.boolean), 827, 109),
  (9, yX9_learns, cX9_learns, 5, (Option.none : Option FieldType), 831, 109),
  (9, yX9_skillsOf, cX9_skillsOf, 4, (Option.some FieldType.int), 877, 109),
  (9, yX9_copyScoutFrom, cX9_copyScoutFrom, 4, (Option.none : Option FieldType), 1048, 109),
  (10, yX10_init, cX10_init, 1, (Option.none : Option FieldType), 137, 105),
  (10, yX10_hasRoomFor, cX10_hasRoomFor, 2, (Option.some FieldType.boolean), 477, 105),
  (10, yX10_append, cX10_append, 3, (Option.none : Option FieldType), 481, 105),
  (10, yX10_rewind, cX10_rewind, 1, (Option.none : Option FieldType), 500, 105),
  (10, yX10_advance, cX10_advance, 2, (Option.none : Option FieldType), 504, 105)]
def jML2 : List jMt := [(10, yX10_among, cX10_among, 7, (Option.some FieldType.int), 509, 105),
  (10, yX10_refuse, cX10_refuse, 2, (Option.some FieldType.boolean), 561, 105),
  (10, yX10_takeNumber, cX10_takeNumber, 3, (Option.some FieldType.int), 574, 105),
  (11, yX11_init, cX11_init, 1, (Option.none : Option FieldType), 129, 104),
  (11, yX11_feed, cX11_feed, 6, (Option.some FieldType.int), 473, 104),
  (11, yX11_end, cX11_end, 2, (Option.some FieldType.int), 486, 104),
  (11, yX11_camp, cX11_camp, 3, (Option.some FieldType.int), 490, 104),
  (11, yX11_rule, cX11_rule, 2, (Option.some FieldType.int), 594, 104),
  (11, yX11_force, cX11_force, 3, (Option.some FieldType.int), 677, 104),
  (11, yX11_scout, cX11_scout, 4, (Option.some FieldType.int), 681, 104),
  (11, yX11_skill, cX11_skill, 3, (Option.some FieldType.int), 701, 104),
  (11, yX11_hard, cX11_hard, 2, (Option.some FieldType.int), 715, 104),
  (11, yX11_count, cX11_count, 2, (Option.some FieldType.int), 720, 104),
  (11, yX11_day, cX11_day, 1, (Option.some FieldType.int), 743, 104),
  (11, yX11_ruleInForce, cX11_ruleInForce, 1, (Option.some (FieldType.object "FailBadge$Rule")), 757, 104),
  (11, yX11_isWithin, cX11_isWithin, 3, (Option.some FieldType.boolean), 760, 104),
  (11, yX11_attempt, cX11_attempt, 4, (Option.some FieldType.int), 837, 104),
  (11, yX11_sham, cX11_sham, 4, (Option.some FieldType.int), 842, 104),
  (11, yX11_teach, cX11_teach, 4, (Option.some FieldType.int), 846, 104),
  (11, yX11_cut, cX11_cut, 3, (Option.some FieldType.int), 851, 104),
  (11, yX11_undo, cX11_undo, 1, (Option.some FieldType.int), 856, 104),
  (11, yX11_ahead, cX11_ahead, 5, (Option.some FieldType.int), 864, 104),
  (11, yX11_arm, cX11_arm, 2, (Option.some FieldType.int), 881, 104),
  (11, yX11_off, cX11_off, 2, (Option.some FieldType.int), 889, 104),
  (11, yX11_leastLearn, cX11_leastLearn, 2, (Option.some FieldType.int), 901, 104),
  (11, yX11_leftOut, cX11_leftOut, 4, (Option.some FieldType.int), 909, 104),
  (11, yX11_ring, cX11_ring, 2, (Option.some FieldType.int), 923, 104),
  (11, yX11_camps, cX11_camps, 5, (Option.some FieldType.int), 940, 104),
  (11, yX11_cover, cX11_cover, 3, (Option.some FieldType.int), 959, 104),
  (11, yX11_match, cX11_match, 2, (Option.some FieldType.int), 977, 104),
  (11, yX11_trust, cX11_trust, 1, (Option.some FieldType.int), 1005, 104),
  (11, yX11_pence, cX11_pence, 3, (Option.some FieldType.int), 1017, 104),
  (11, yX11_calmest, cX11_calmest, 3, (Option.some FieldType.int), 1026, 104),
  (11, yX11_row, cX11_row, 4, (Option.some FieldType.int), 1036, 104),
  (11, yX11_rests, cX11_rests, 8, (Option.some FieldType.int), 1053, 104),
  (11, yX11_note, cX11_note, 5, (Option.some FieldType.int), 1066, 104),
  (11, yX11_ruled, cX11_ruled, 2, (Option.some FieldType.int), 1079, 104),
  (11, yX11_look, cX11_look, 3, (Option.some FieldType.int), 1106, 104),
  (11, yX11_seed, cX11_seed, 3, (Option.some FieldType.int), 1120, 104),
  (11, yX11_image, cX11_image, 2, (Option.some FieldType.int), 1124, 104),
  (11, yX11_back, cX11_back, 2, (Option.some FieldType.int), 1138, 104),
  (12, yX12_init, cX12_init, 1, (Option.none : Option FieldType), 1143, 115),
  (12, yX12_feed, cX12_feed, 6, (Option.some FieldType.int), 1279, 115),
  (12, yX12_four, cX12_four, 3, (Option.none : Option FieldType), 1283, 115),
  (12, yX12_end, cX12_end, 2, (Option.some FieldType.int), 1287, 115),
  (12, yX12_rule, cX12_rule, 1, (Option.some FieldType.int), 1291, 115),
  (12, yX12_readsAll, cX12_readsAll, 2, (Option.some FieldType.boolean), 1295, 115),
  (12, yX12_clauseHere, cX12_clauseHere, 3, (Option.some FieldType.boolean), 1299, 115),
  (12, yX12_see, cX12_see, 1, (Option.some FieldType.int), 1303, 115),
  (12, yX12_isCampWord, cX12_isCampWord, 1, (Option.some FieldType.boolean), 1307, 115)]
def jML3 : List jMt := [(12, yX12_isWord, cX12_isWord, 6, (Option.some FieldType.boolean), 1312, 115),
  (12, yX12_isLetter, cX12_isLetter, 2, (Option.some FieldType.boolean), 1316, 115),
  (12, yX12_fails, cX12_fails, 3, (Option.some FieldType.boolean), 1325, 115),
  (12, yX12_campLineHere, cX12_campLineHere, 2, (Option.some FieldType.boolean), 1329, 115),
  (12, yX12_isCampHere, cX12_isCampHere, 2, (Option.some FieldType.boolean), 1333, 115),
  (12, yX12_passWord, cX12_passWord, 1, (Option.none : Option FieldType), 1337, 115),
  (12, yX12_cellHere, cX12_cellHere, 4, (Option.some FieldType.boolean), 1341, 115),
  (12, yX12_numberHere, cX12_numberHere, 5, (Option.some FieldType.boolean), 1345, 115),
  (12, yX12_isDigit, cX12_isDigit, 2, (Option.some FieldType.boolean), 1349, 115),
  (12, yX12_in, cX12_in, 6, (Option.some FieldType.boolean), 1352, 115),
  (12, yX12_isCalmHere, cX12_isCalmHere, 2, (Option.some FieldType.boolean), 1356, 115),
  (12, yX12_isKindHere, cX12_isKindHere, 2, (Option.some FieldType.boolean), 1360, 115),
  (12, yX12_isScoutHere, cX12_isScoutHere, 2, (Option.some FieldType.boolean), 1364, 115),
  (12, yX12_canHere, cX12_canHere, 2, (Option.some FieldType.boolean), 1368, 115),
  (12, yX12_isTryHere, cX12_isTryHere, 2, (Option.some FieldType.boolean), 1372, 115),
  (12, yX12_sum, cX12_sum, 2, (Option.some FieldType.boolean), 1376, 115),
  (12, yX12_term, cX12_term, 2, (Option.some FieldType.boolean), 1380, 115),
  (12, yX12_value, cX12_value, 3, (Option.some FieldType.boolean), 1384, 115),
  (12, yX12_makes, cX12_makes, 2, (Option.some FieldType.boolean), 1389, 115),
  (12, yX12_puts, cX12_puts, 3, (Option.none : Option FieldType), 1393, 115),
  (12, yX12_wordHere, cX12_wordHere, 1, (Option.some FieldType.int), 1397, 115),
  (12, yX12_takesWord, cX12_takesWord, 3, (Option.some FieldType.boolean), 1411, 115),
  (12, yX12_tested, cX12_tested, 3, (Option.some FieldType.boolean), 1415, 115),
  (12, yX12_fact, cX12_fact, 3, (Option.some FieldType.boolean), 1419, 115),
  (12, yX12_opens, cX12_opens, 2, (Option.some FieldType.boolean), 1424, 115),
  (12, yX12_compare, cX12_compare, 5, (Option.some FieldType.boolean), 1428, 115),
  (12, yX12_closes, cX12_closes, 1, (Option.none : Option FieldType), 1432, 115),
  (12, yX12_layDown, cX12_layDown, 2, (Option.none : Option FieldType), 1436, 115),
  (12, yX12_strength, cX12_strength, 1, (Option.some FieldType.int), 1439, 115),
  (12, yX12_isInside, cX12_isInside, 2, (Option.some FieldType.boolean), 1443, 115),
  (12, yX12_camp, cX12_camp, 2, (Option.some FieldType.int), 1449, 115),
  (12, yX12_begins, cX12_begins, 2, (Option.none : Option FieldType), 1453, 115),
  (12, yX12_force, cX12_force, 3, (Option.some FieldType.int), 1457, 115),
  (12, yX12_isRule, cX12_isRule, 2, (Option.some FieldType.boolean), 1461, 115),
  (12, yX12_scout, cX12_scout, 3, (Option.some FieldType.int), 1465, 115),
  (12, yX12_isScout, cX12_isScout, 2, (Option.some FieldType.boolean), 1469, 115),
  (12, yX12_canNow, cX12_canNow, 4, (Option.some FieldType.int), 1473, 115),
  (12, yX12_calmNow, cX12_calmNow, 1, (Option.some FieldType.int), 1477, 115),
  (12, yX12_calmOn, cX12_calmOn, 2, (Option.some FieldType.int), 1481, 115),
  (12, yX12_comesOff, cX12_comesOff, 4, (Option.some FieldType.boolean), 1485, 115),
  (12, yX12_skillOf, cX12_skillOf, 3, (Option.some FieldType.int), 1489, 115),
  (12, yX12_badgesOf, cX12_badgesOf, 2, (Option.some FieldType.int), 1493, 115),
  (12, yX12_skill, cX12_skill, 3, (Option.some FieldType.int), 1497, 115),
  (12, yX12_isKind, cX12_isKind, 2, (Option.some FieldType.boolean), 1501, 115),
  (12, yX12_hard, cX12_hard, 2, (Option.some FieldType.int), 1505, 115),
  (12, yX12_undo, cX12_undo, 2, (Option.some FieldType.int), 1509, 115),
  (12, yX12_day, cX12_day, 1, (Option.some FieldType.int), 1513, 115),
  (12, yX12_isCamp, cX12_isCamp, 1, (Option.some FieldType.boolean), 1517, 115),
  (12, yX12_keepsAct, cX12_keepsAct, 2, (Option.none : Option FieldType), 1521, 115),
  (12, yX12_passes, cX12_passes, 4, (Option.some FieldType.int), 1525, 115)]
def jML4 : List jMt := [(12, yX12_choice, cX12_choice, 8, (Option.some FieldType.int), 1529, 115),
  (12, yX12_isOf, cX12_isOf, 2, (Option.some FieldType.boolean), 1532, 115),
  (12, yX12_sumOf, cX12_sumOf, 6, (Option.some FieldType.long), 1536, 115),
  (12, yX12_bits, cX12_bits, 3, (Option.some FieldType.int), 1539, 115),
  (12, yX12_passedBy, cX12_passedBy, 2, (Option.some FieldType.int), 1543, 115),
  (12, yX12_summedBy, cX12_summedBy, 4, (Option.some FieldType.long), 1547, 115),
  (12, yX12_reckons, cX12_reckons, 11, (Option.some FieldType.long), 1551, 115),
  (12, yX12_push, cX12_push, 3, (Option.none : Option FieldType), 1555, 115),
  (12, yX12_pop, cX12_pop, 1, (Option.some FieldType.long), 1559, 115),
  (12, yX12_one, cX12_one, 5, (Option.some FieldType.long), 1562, 115),
  (12, yX12_tries, cX12_tries, 5, (Option.some FieldType.boolean), 1566, 115),
  (12, yX12_attempt, cX12_attempt, 3, (Option.some FieldType.int), 1570, 115),
  (12, yX12_sham, cX12_sham, 3, (Option.some FieldType.int), 1574, 115),
  (12, yX12_teach, cX12_teach, 4, (Option.some FieldType.int), 1578, 115),
  (12, yX12_cut, cX12_cut, 3, (Option.some FieldType.int), 1582, 115),
  (12, yX12_ahead, cX12_ahead, 5, (Option.some FieldType.int), 1586, 115),
  (12, yX12_keeps, cX12_keeps, 2, (Option.none : Option FieldType), 1592, 115),
  (12, yX12_passesAll, cX12_passesAll, 3, (Option.none : Option FieldType), 1596, 115),
  (12, yX12_skillAll, cX12_skillAll, 4, (Option.some FieldType.int), 1600, 115),
  (12, yX12_laysBack, cX12_laysBack, 2, (Option.none : Option FieldType), 1604, 115),
  (12, yX12_arm, cX12_arm, 4, (Option.some FieldType.int), 1608, 115),
  (12, yX12_off, cX12_off, 6, (Option.some FieldType.int), 1612, 115),
  (12, yX12_cover, cX12_cover, 6, (Option.some FieldType.int), 1616, 115),
  (12, yX12_canAny, cX12_canAny, 4, (Option.some FieldType.int), 1620, 115),
  (12, yX12_match, cX12_match, 2, (Option.some FieldType.int), 1624, 115),
  (12, yX12_findsMatch, cX12_findsMatch, 3, (Option.none : Option FieldType), 1630, 115),
  (12, yX12_keepsMatch, cX12_keepsMatch, 3, (Option.none : Option FieldType), 1634, 115),
  (12, yX12_isTaken, cX12_isTaken, 4, (Option.some FieldType.boolean), 1638, 115),
  (12, yX12_trust, cX12_trust, 4, (Option.some FieldType.int), 1642, 115),
  (12, yX12_row, cX12_row, 8, (Option.some FieldType.int), 1646, 115),
  (12, yX12_power, cX12_power, 4, (Option.some FieldType.int), 1650, 115),
  (12, yX12_fillsRow, cX12_fillsRow, 5, (Option.none : Option FieldType), 1654, 115),
  (12, yX12_badgesBy, cX12_badgesBy, 4, (Option.some FieldType.int), 1658, 115),
  (12, yX12_leastLearn, cX12_leastLearn, 7, (Option.some FieldType.int), 1662, 115),
  (12, yX12_calmest, cX12_calmest, 4, (Option.some FieldType.int), 1667, 115),
  (12, yX12_leftOut, cX12_leftOut, 7, (Option.some FieldType.int), 1671, 115),
  (12, yX12_rests, cX12_rests, 10, (Option.some FieldType.int), 1676, 115),
  (12, yX12_fillsRests, cX12_fillsRests, 8, (Option.none : Option FieldType), 1681, 115),
  (12, yX12_isRest, cX12_isRest, 4, (Option.some FieldType.boolean), 1685, 115),
  (12, yX12_pence, cX12_pence, 9, (Option.some FieldType.int), 1689, 115),
  (12, yX12_badgesAll, cX12_badgesAll, 3, (Option.some FieldType.int), 1694, 115),
  (12, yX12_ring, cX12_ring, 4, (Option.some FieldType.int), 1698, 115),
  (12, yX12_areAlike, cX12_areAlike, 4, (Option.some FieldType.boolean), 1702, 115),
  (12, yX12_note, cX12_note, 6, (Option.some FieldType.int), 1706, 115),
  (12, yX12_ruled, cX12_ruled, 5, (Option.some FieldType.int), 1710, 115),
  (12, yX12_fillsFits, cX12_fillsFits, 7, (Option.none : Option FieldType), 1714, 115),
  (12, yX12_areNotesSo, cX12_areNotesSo, 3, (Option.some FieldType.boolean), 1718, 115),
  (12, yX12_look, cX12_look, 7, (Option.some FieldType.int), 1722, 115),
  (12, yX12_alikeAt, cX12_alikeAt, 6, (Option.some FieldType.int), 1726, 115),
  (12, yX12_seed, cX12_seed, 3, (Option.some FieldType.int), 1730, 115)]
def jML5 : List jMt := [(12, yX12_camps, cX12_camps, 10, (Option.some FieldType.int), 1734, 115),
  (12, yX12_passedAll, cX12_passedAll, 3, (Option.some FieldType.int), 1739, 115),
  (12, yX12_draw, cX12_draw, 2, (Option.some FieldType.int), 1743, 115),
  (12, yX12_count, cX12_count, 2, (Option.some FieldType.int), 1751, 115),
  (12, yX12_image, cX12_image, 3, (Option.some FieldType.int), 1755, 115),
  (12, yX12_back, cX12_back, 3, (Option.some FieldType.int), 1760, 115),
  (14, yJ6_bitCount_0f7a4, cJ6_bitCount_0f7a4, 1, (Option.some FieldType.int), 732, 124),
  (14, yJ6_numberOfTrailingZeros_0f7a4, cJ6_numberOfTrailingZeros_0f7a4, 2, (Option.some FieldType.int), 896, 124),
  (16, yJ7_fill_53178, cJ7_fill_53178, 4, (Option.none : Option FieldType), 586, 120),
  (16, yJ7_copyOf_59c91, cJ7_copyOf_59c91, 3, (Option.some (FieldType.array FieldType.int)), 643, 120),
  (17, yJ0_length_8abf5, cJ0_length_8abf5, 1, (Option.some FieldType.int), 513, 116),
  (17, yJ0_coder_7d493, cJ0_coder_7d493, 1, (Option.some FieldType.byte), 517, 116),
  (17, yJ0_charAt_5068e, cJ0_charAt_5068e, 2, (Option.some FieldType.char), 523, 116),
  (17, yJ0_isLatin1_aae02, cJ0_isLatin1_aae02, 1, (Option.some FieldType.boolean), 527, 116),
  (17, yJ0_checkIndex_df160, cJ0_checkIndex_df160, 2, (Option.none : Option FieldType), 533, 116),
  (18, yJ1_charAt_3b067, cJ1_charAt_3b067, 2, (Option.some FieldType.char), 530, 117),
  (19, yJ3_checkIndex_8e157, cJ3_checkIndex_8e157, 3, (Option.some FieldType.int), 538, 118),
  (13, yL_law, cL_law, 4, (Option.some FieldType.boolean), 0, 0)]
def jML : List jMt := jML0 ++ (jML1 ++ (jML2 ++ (jML3 ++ (jML4 ++ (jML5)))))
def jlaw : Nat := 267
def jM (k : Nat) : jMt := jML.getD k (0, yL_law, cL_law, 0, none, 0, 0)
def jow (k : Nat) : Nat := (jM k).1
def jyn (k : Nat) : MethodName := (jM k).2.1
def jby (k : Nat) : ByteArray := (jM k).2.2.1
def jmx (k : Nat) : Nat := (jM k).2.2.2.1
def jrt (k : Nat) : Option FieldType := (jM k).2.2.2.2.1
def jna (k : Nat) : Option Nat := (parseMethodDescriptor (jyn k).desc).map (fun d => d.parameters.length)
set_option maxRecDepth 100000 in
theorem jcw0 : lw_tbl[204]? = some (.code yX0_init cX0_init 1 (Option.none : Option FieldType)) := rfl
set_option maxRecDepth 100000 in
theorem jcw1 : lw_tbl[496]? = some (.code yX0_read cX0_read 5 (Option.some FieldType.boolean)) := rfl
set_option maxRecDepth 100000 in
theorem jcw2 : lw_tbl[565]? = some (.code yX0_isFullOf cX0_isFullOf 2 (Option.some FieldType.boolean)) := rfl
set_option maxRecDepth 100000 in
theorem jcw3 : lw_tbl[570]? = some (.code yX0_readNumbers cX0_readNumbers 3 (Option.some FieldType.boolean)) := rfl
set_option maxRecDepth 100000 in
theorem jcw4 : lw_tbl[579]? = some (.code yX0_readSkill cX0_readSkill 5 (Option.some FieldType.boolean)) := rfl
set_option maxRecDepth 100000 in
theorem jcw5 : lw_tbl[685]? = some (.code yX0_hasScout cX0_hasScout 2 (Option.some FieldType.boolean)) := rfl
set_option maxRecDepth 100000 in
theorem jcw6 : lw_tbl[693]? = some (.code yX0_calmOf cX0_calmOf 2 (Option.some FieldType.int)) := rfl
set_option maxRecDepth 100000 in
theorem jcw7 : lw_tbl[705]? = some (.code yX0_hasBoth cX0_hasBoth 3 (Option.some FieldType.boolean)) := rfl
set_option maxRecDepth 100000 in
theorem jcw8 : lw_tbl[710]? = some (.code yX0_hasKind cX0_hasKind 2 (Option.some FieldType.boolean)) := rfl
set_option maxRecDepth 100000 in
theorem jcw9 : lw_tbl[388]? = some (.code yX1_init cX1_init 1 (Option.none : Option FieldType)) := rfl
set_option maxRecDepth 100000 in
theorem jcw10 : lw_tbl[772]? = some (.code yX1_startFrom cX1_startFrom 4 (Option.none : Option FieldType)) := rfl
set_option maxRecDepth 100000 in
theorem jcw11 : lw_tbl[777]? = some (.code yX1_setUp cX1_setUp 3 (Option.none : Option FieldType)) := rfl
set_option maxRecDepth 100000 in
theorem jcw12 : lw_tbl[781]? = some (.code yX1_live cX1_live 5 (Option.some FieldType.int)) := rfl
set_option maxRecDepth 100000 in
theorem jcw13 : lw_tbl[786]? = some (.code yX1_hardestWithoutBadge cX1_hardestWithoutBadge 4 (Option.some FieldType.int)) := rfl
set_option maxRecDepth 100000 in
theorem jcw14 : lw_tbl[790]? = some (.code yX1_isLeftOut cX1_isLeftOut 2 (Option.some FieldType.boolean)) := rfl
set_option maxRecDepth 100000 in
theorem jcw15 : lw_tbl[798]? = some (.code yX1_worthiest cX1_worthiest 9 (Option.some FieldType.int)) := rfl
set_option maxRecDepth 100000 in
theorem jcw16 : lw_tbl[802]? = some (.code yX1_tellScout cX1_tellScout 3 (Option.none : Option FieldType)) := rfl
set_option maxRecDepth 100000 in
theorem jcw17 : lw_tbl[807]? = some (.code yX1_tellKind cX1_tellKind 3 (Option.none : Option FieldType)) := rfl
set_option maxRecDepth 100000 in
theorem jcw18 : lw_tbl[872]? = some (.code yX1_liveFor cX1_liveFor 3 (Option.none : Option FieldType)) := rfl
set_option maxRecDepth 100000 in
theorem jcw19 : lw_tbl[1091]? = some (.code yX1_startAsTold cX1_startAsTold 3 (Option.none : Option FieldType)) := rfl
set_option maxRecDepth 100000 in
theorem jcw20 : lw_tbl[382]? = some (.code yX2_init cX2_init 1 (Option.none : Option FieldType)) := rfl
set_option maxRecDepth 100000 in
theorem jcw21 : lw_tbl[764]? = some (.code yX2_liveOne cX2_liveOne 4 (Option.some FieldType.int)) := rfl
set_option maxRecDepth 100000 in
theorem jcw22 : lw_tbl[768]? = some (.code yX2_start cX2_start 3 (Option.none : Option FieldType)) := rfl
set_option maxRecDepth 100000 in
theorem jcw23 : lw_tbl[868]? = some (.code yX2_after cX2_after 4 (Option.some (FieldType.object "FailBadge$Standing"))) := rfl
set_option maxRecDepth 100000 in
theorem jcw24 : lw_tbl[885]? = some (.code yX2_firstWholeArm cX2_firstWholeArm 6 (Option.some FieldType.int)) := rfl
set_option maxRecDepth 100000 in
theorem jcw25 : lw_tbl[893]? = some (.code yX2_firstOff cX2_firstOff 6 (Option.some FieldType.int)) := rfl
set_option maxRecDepth 100000 in
theorem jcw26 : lw_tbl[905]? = some (.code yX2_leastToLearn cX2_leastToLearn 7 (Option.some FieldType.int)) := rfl
set_option maxRecDepth 100000 in
theorem jcw27 : lw_tbl[913]? = some (.code yX2_fewestLeftOut cX2_fewestLeftOut 7 (Option.some FieldType.int)) := rfl
set_option maxRecDepth 100000 in
theorem jcw28 : lw_tbl[918]? = some (.code yX2_isQuiet cX2_isQuiet 6 (Option.some FieldType.boolean)) := rfl
set_option maxRecDepth 100000 in
theorem jcw29 : lw_tbl[927]? = some (.code yX2_firstRing cX2_firstRing 6 (Option.some FieldType.int)) := rfl
set_option maxRecDepth 100000 in
theorem jcw30 : lw_tbl[931]? = some (.code yX2_traceDay cX2_traceDay 6 (Option.none : Option FieldType)) := rfl
set_option maxRecDepth 100000 in
theorem jcw31 : lw_tbl[936]? = some (.code yX2_isSameTrace cX2_isSameTrace 4 (Option.some FieldType.boolean)) := rfl
set_option maxRecDepth 100000 in
theorem jcw32 : lw_tbl[944]? = some (.code yX2_drawCamps cX2_drawCamps 10 (Option.none : Option FieldType)) := rfl
set_option maxRecDepth 100000 in
theorem jcw33 : lw_tbl[947]? = some (.code yX2_stepped cX2_stepped 2 (Option.some FieldType.long)) := rfl
set_option maxRecDepth 100000 in
theorem jcw34 : lw_tbl[953]? = some (.code yX2_drawOf cX2_drawOf 2 (Option.some FieldType.int)) := rfl
set_option maxRecDepth 100000 in
theorem jcw35 : lw_tbl[1083]? = some (.code yX2_allowedByNotes cX2_allowedByNotes 7 (Option.some FieldType.int)) := rfl
set_option maxRecDepth 100000 in
theorem jcw36 : lw_tbl[1087]? = some (.code yX2_isAllowed cX2_isAllowed 6 (Option.some FieldType.boolean)) := rfl
set_option maxRecDepth 100000 in
theorem jcw37 : lw_tbl[1110]? = some (.code yX2_bestToLookAt cX2_bestToLookAt 10 (Option.some FieldType.int)) := rfl
set_option maxRecDepth 100000 in
theorem jcw38 : lw_tbl[1115]? = some (.code yX2_mostAlike cX2_mostAlike 7 (Option.some FieldType.int)) := rfl
set_option maxRecDepth 100000 in
theorem jcw39 : lw_tbl[198]? = some (.code yX3_init cX3_init 1 (Option.none : Option FieldType)) := rfl
set_option maxRecDepth 100000 in
theorem jcw40 : lw_tbl[1128]? = some (.code yX3_copyFrom cX3_copyFrom 2 (Option.none : Option FieldType)) := rfl
set_option maxRecDepth 100000 in
theorem jcw41 : lw_tbl[291]? = some (.code yX4_init cX4_init 1 (Option.none : Option FieldType)) := rfl
set_option maxRecDepth 100000 in
theorem jcw42 : lw_tbl[1070]? = some (.code yX4_isFull cX4_isFull 1 (Option.some FieldType.boolean)) := rfl
set_option maxRecDepth 100000 in
theorem jcw43 : lw_tbl[1074]? = some (.code yX4_add cX4_add 5 (Option.none : Option FieldType)) := rfl
set_option maxRecDepth 100000 in
theorem jcw44 : lw_tbl[1096]? = some (.code yX4_lastDay cX4_lastDay 3 (Option.some FieldType.int)) := rfl
set_option maxRecDepth 100000 in
theorem jcw45 : lw_tbl[1101]? = some (.code yX4_agreeBehind cX4_agreeBehind 4 (Option.some FieldType.boolean)) := rfl
set_option maxRecDepth 100000 in
theorem jcw46 : lw_tbl[1133]? = some (.code yX4_copyFrom cX4_copyFrom 2 (Option.none : Option FieldType)) := rfl
set_option maxRecDepth 100000 in
theorem jcw47 : lw_tbl[341]? = some (.code yX5_init cX5_init 1 (Option.none : Option FieldType)) := rfl
set_option maxRecDepth 100000 in
theorem jcw48 : lw_tbl[747]? = some (.code yX5_keep cX5_keep 2 (Option.none : Option FieldType)) := rfl
set_option maxRecDepth 100000 in
theorem jcw49 : lw_tbl[860]? = some (.code yX5_giveBack cX5_giveBack 2 (Option.none : Option FieldType)) := rfl
set_option maxRecDepth 100000 in
theorem jcw50 : lw_tbl[361]? = some (.code yX6_init cX6_init 1 (Option.none : Option FieldType)) := rfl
set_option maxRecDepth 100000 in
theorem jcw51 : lw_tbl[963]? = some (.code yX6_fewestForAll cX6_fewestForAll 6 (Option.some FieldType.int)) := rfl
set_option maxRecDepth 100000 in
theorem jcw52 : lw_tbl[967]? = some (.code yX6_findAble cX6_findAble 3 (Option.none : Option FieldType)) := rfl
set_option maxRecDepth 100000 in
theorem jcw53 : lw_tbl[972]? = some (.code yX6_ableTogether cX6_ableTogether 4 (Option.some FieldType.int)) := rfl
set_option maxRecDepth 100000 in
theorem jcw54 : lw_tbl[981]? = some (.code yX6_mostMatched cX6_mostMatched 2 (Option.some FieldType.int)) := rfl
set_option maxRecDepth 100000 in
theorem jcw55 : lw_tbl[985]? = some (.code yX6_fillMatched cX6_fillMatched 5 (Option.none : Option FieldType)) := rfl
set_option maxRecDepth 100000 in
theorem jcw56 : lw_tbl[990]? = some (.code yX6_mostFrom cX6_mostFrom 7 (Option.some FieldType.int)) := rfl
set_option maxRecDepth 100000 in
theorem jcw57 : lw_tbl[997]? = some (.code yX6_matchOf cX6_matchOf 6 (Option.some FieldType.int)) := rfl
set_option maxRecDepth 100000 in
theorem jcw58 : lw_tbl[1001]? = some (.code yX6_firstChoice cX6_firstChoice 7 (Option.some FieldType.int)) := rfl
set_option maxRecDepth 100000 in
theorem jcw59 : lw_tbl[1009]? = some (.code yX6_trusted cX6_trusted 4 (Option.some FieldType.int)) := rfl
set_option maxRecDepth 100000 in
theorem jcw60 : lw_tbl[1012]? = some (.code yX6_isTrustedMore cX6_isTrustedMore 5 (Option.some FieldType.boolean)) := rfl
set_option maxRecDepth 100000 in
theorem jcw61 : lw_tbl[1021]? = some (.code yX6_partOf cX6_partOf 10 (Option.some FieldType.int)) := rfl
set_option maxRecDepth 100000 in
theorem jcw62 : lw_tbl[1030]? = some (.code yX6_firstCalmEnough cX6_firstCalmEnough 7 (Option.some FieldType.int)) := rfl
set_option maxRecDepth 100000 in
theorem jcw63 : lw_tbl[1040]? = some (.code yX6_bestRow cX6_bestRow 11 (Option.some FieldType.int)) := rfl
set_option maxRecDepth 100000 in
theorem jcw64 : lw_tbl[1044]? = some (.code yX6_badgesBy cX6_badgesBy 9 (Option.some FieldType.int)) := rfl
set_option maxRecDepth 100000 in
theorem jcw65 : lw_tbl[1057]? = some (.code yX6_bestToKeepAt cX6_bestToKeepAt 8 (Option.some FieldType.int)) := rfl
set_option maxRecDepth 100000 in
theorem jcw66 : lw_tbl[1061]? = some (.code yX6_gainBy cX6_gainBy 8 (Option.some FieldType.int)) := rfl
set_option maxRecDepth 100000 in
theorem jcw67 : lw_tbl[659]? = some (.code yX7_init cX7_init 5 (Option.none : Option FieldType)) := rfl
set_option maxRecDepth 100000 in
theorem jcw68 : lw_tbl[816]? = some (.code yX7_worth cX7_worth 6 (Option.some FieldType.long)) := rfl
set_option maxRecDepth 100000 in
theorem jcw69 : lw_tbl[820]? = some (.code yX7_result cX7_result 8 (Option.some FieldType.long)) := rfl
set_option maxRecDepth 100000 in
theorem jcw70 : lw_tbl[823]? = some (.code yX7_joined cX7_joined 5 (Option.some FieldType.long)) := rfl
set_option maxRecDepth 100000 in
theorem jcw71 : lw_tbl[171]? = some (.code yX8_init cX8_init 1 (Option.none : Option FieldType)) := rfl
set_option maxRecDepth 100000 in
theorem jcw72 : lw_tbl[598]? = some (.code yX8_read cX8_read 3 (Option.some FieldType.boolean)) := rfl
set_option maxRecDepth 100000 in
theorem jcw73 : lw_tbl[607]? = some (.code yX8_readSum cX8_readSum 6 (Option.some FieldType.boolean)) := rfl
set_option maxRecDepth 100000 in
theorem jcw74 : lw_tbl[611]? = some (.code yX8_readValue cX8_readValue 3 (Option.some FieldType.boolean)) := rfl
set_option maxRecDepth 100000 in
theorem jcw75 : lw_tbl[616]? = some (.code yX8_put cX8_put 2 (Option.none : Option FieldType)) := rfl
set_option maxRecDepth 100000 in
theorem jcw76 : lw_tbl[619]? = some (.code yX8_codeOf cX8_codeOf 1 (Option.some FieldType.int)) := rfl
set_option maxRecDepth 100000 in
theorem jcw77 : lw_tbl[624]? = some (.code yX8_readTest cX8_readTest 7 (Option.some FieldType.boolean)) := rfl
set_option maxRecDepth 100000 in
theorem jcw78 : lw_tbl[628]? = some (.code yX8_readFact cX8_readFact 5 (Option.some FieldType.boolean)) := rfl
set_option maxRecDepth 100000 in
theorem jcw79 : lw_tbl[633]? = some (.code yX8_readComparison cX8_readComparison 4 (Option.some FieldType.boolean)) := rfl
set_option maxRecDepth 100000 in
theorem jcw80 : lw_tbl[638]? = some (.code yX8_made cX8_made 1 (Option.some (FieldType.object "FailBadge$Rule"))) := rfl
set_option maxRecDepth 100000 in
theorem jcw81 : lw_tbl[258]? = some (.code yX9_init cX9_init 1 (Option.none : Option FieldType)) := rfl
set_option maxRecDepth 100000 in
theorem jcw82 : lw_tbl[583]? = some (.code yX9_begin cX9_begin 2 (Option.none : Option FieldType)) := rfl
set_option maxRecDepth 100000 in
theorem jcw83 : lw_tbl[689]? = some (.code yX9_able cX9_able 6 (Option.some FieldType.int)) := rfl
set_option maxRecDepth 100000 in
theorem jcw84 : lw_tbl[697]? = some (.code yX9_skillOf cX9_skillOf 3 (Option.some FieldType.int)) := rfl
set_option maxRecDepth 100000 in
theorem jcw85 : lw_tbl[725]? = some (.code yX9_badgesOfAll cX9_badgesOfAll 3 (Option.some FieldType.int)) := rfl
set_option maxRecDepth 100000 in
theorem jcw86 : lw_tbl[729]? = some (.code yX9_badgeCount cX9_badgeCount 2 (Option.some FieldType.int)) := rfl
set_option maxRecDepth 100000 in
theorem jcw87 : lw_tbl[739]? = some (.code yX9_passedOfAll cX9_passedOfAll 3 (Option.some FieldType.int)) := rfl
set_option maxRecDepth 100000 in
theorem jcw88 : lw_tbl[752]? = some (.code yX9_copyFrom cX9_copyFrom 2 (Option.none : Option FieldType)) := rfl
set_option maxRecDepth 100000 in
theorem jcw89 : lw_tbl[794]? = some (.code yX9_hasBadge cX9_hasBadge 3 (Option.some FieldType.boolean)) := rfl
set_option maxRecDepth 100000 in
theorem jcw90 : lw_tbl[812]? = some (.code yX9_othersWith cX9_othersWith 5 (Option.some FieldType.int)) := rfl
set_option maxRecDepth 100000 in
theorem jcw91 : lw_tbl[827]? = some (.code yX9_tries cX9_tries 6 (Option.some FieldType.boolean)) := rfl
set_option maxRecDepth 100000 in
theorem jcw92 : lw_tbl[831]? = some (.code yX9_learns cX9_learns 5 (Option.none : Option FieldType)) := rfl
set_option maxRecDepth 100000 in
theorem jcw93 : lw_tbl[877]? = some (.code yX9_skillsOf cX9_skillsOf 4 (Option.some FieldType.int)) := rfl
set_option maxRecDepth 100000 in
theorem jcw94 : lw_tbl[1048]? = some (.code yX9_copyScoutFrom cX9_copyScoutFrom 4 (Option.none : Option FieldType)) := rfl
set_option maxRecDepth 100000 in
theorem jcw95 : lw_tbl[137]? = some (.code yX10_init cX10_init 1 (Option.none : Option FieldType)) := rfl
set_option maxRecDepth 100000 in
theorem jcw96 : lw_tbl[477]? = some (.code yX10_hasRoomFor cX10_hasRoomFor 2 (Option.some FieldType.boolean)) := rfl
set_option maxRecDepth 100000 in
theorem jcw97 : lw_tbl[481]? = some (.code yX10_append cX10_append 3 (Option.none : Option FieldType)) := rfl
set_option maxRecDepth 100000 in
theorem jcw98 : lw_tbl[500]? = some (.code yX10_rewind cX10_rewind 1 (Option.none : Option FieldType)) := rfl
set_option maxRecDepth 100000 in
theorem jcw99 : lw_tbl[504]? = some (.code yX10_advance cX10_advance 2 (Option.none : Option FieldType)) := rfl
set_option maxRecDepth 100000 in
theorem jcw100 : lw_tbl[509]? = some (.code yX10_among cX10_among 7 (Option.some FieldType.int)) := rfl
set_option maxRecDepth 100000 in
theorem jcw101 : lw_tbl[561]? = some (.code yX10_refuse cX10_refuse 2 (Option.some FieldType.boolean)) := rfl
set_option maxRecDepth 100000 in
theorem jcw102 : lw_tbl[574]? = some (.code yX10_takeNumber cX10_takeNumber 3 (Option.some FieldType.int)) := rfl
set_option maxRecDepth 100000 in
theorem jcw103 : lw_tbl[129]? = some (.code yX11_init cX11_init 1 (Option.none : Option FieldType)) := rfl
set_option maxRecDepth 100000 in
theorem jcw104 : lw_tbl[473]? = some (.code yX11_feed cX11_feed 6 (Option.some FieldType.int)) := rfl
set_option maxRecDepth 100000 in
theorem jcw105 : lw_tbl[486]? = some (.code yX11_end cX11_end 2 (Option.some FieldType.int)) := rfl
set_option maxRecDepth 100000 in
theorem jcw106 : lw_tbl[490]? = some (.code yX11_camp cX11_camp 3 (Option.some FieldType.int)) := rfl
set_option maxRecDepth 100000 in
theorem jcw107 : lw_tbl[594]? = some (.code yX11_rule cX11_rule 2 (Option.some FieldType.int)) := rfl
set_option maxRecDepth 100000 in
theorem jcw108 : lw_tbl[677]? = some (.code yX11_force cX11_force 3 (Option.some FieldType.int)) := rfl
set_option maxRecDepth 100000 in
theorem jcw109 : lw_tbl[681]? = some (.code yX11_scout cX11_scout 4 (Option.some FieldType.int)) := rfl
set_option maxRecDepth 100000 in
theorem jcw110 : lw_tbl[701]? = some (.code yX11_skill cX11_skill 3 (Option.some FieldType.int)) := rfl
set_option maxRecDepth 100000 in
theorem jcw111 : lw_tbl[715]? = some (.code yX11_hard cX11_hard 2 (Option.some FieldType.int)) := rfl
set_option maxRecDepth 100000 in
theorem jcw112 : lw_tbl[720]? = some (.code yX11_count cX11_count 2 (Option.some FieldType.int)) := rfl
set_option maxRecDepth 100000 in
theorem jcw113 : lw_tbl[743]? = some (.code yX11_day cX11_day 1 (Option.some FieldType.int)) := rfl
set_option maxRecDepth 100000 in
theorem jcw114 : lw_tbl[757]? = some (.code yX11_ruleInForce cX11_ruleInForce 1 (Option.some (FieldType.object "FailBadge$Rule"))) := rfl
set_option maxRecDepth 100000 in
theorem jcw115 : lw_tbl[760]? = some (.code yX11_isWithin cX11_isWithin 3 (Option.some FieldType.boolean)) := rfl
set_option maxRecDepth 100000 in
theorem jcw116 : lw_tbl[837]? = some (.code yX11_attempt cX11_attempt 4 (Option.some FieldType.int)) := rfl
set_option maxRecDepth 100000 in
theorem jcw117 : lw_tbl[842]? = some (.code yX11_sham cX11_sham 4 (Option.some FieldType.int)) := rfl
set_option maxRecDepth 100000 in
theorem jcw118 : lw_tbl[846]? = some (.code yX11_teach cX11_teach 4 (Option.some FieldType.int)) := rfl
set_option maxRecDepth 100000 in
theorem jcw119 : lw_tbl[851]? = some (.code yX11_cut cX11_cut 3 (Option.some FieldType.int)) := rfl
set_option maxRecDepth 100000 in
theorem jcw120 : lw_tbl[856]? = some (.code yX11_undo cX11_undo 1 (Option.some FieldType.int)) := rfl
set_option maxRecDepth 100000 in
theorem jcw121 : lw_tbl[864]? = some (.code yX11_ahead cX11_ahead 5 (Option.some FieldType.int)) := rfl
set_option maxRecDepth 100000 in
theorem jcw122 : lw_tbl[881]? = some (.code yX11_arm cX11_arm 2 (Option.some FieldType.int)) := rfl
set_option maxRecDepth 100000 in
theorem jcw123 : lw_tbl[889]? = some (.code yX11_off cX11_off 2 (Option.some FieldType.int)) := rfl
set_option maxRecDepth 100000 in
theorem jcw124 : lw_tbl[901]? = some (.code yX11_leastLearn cX11_leastLearn 2 (Option.some FieldType.int)) := rfl
set_option maxRecDepth 100000 in
theorem jcw125 : lw_tbl[909]? = some (.code yX11_leftOut cX11_leftOut 4 (Option.some FieldType.int)) := rfl
set_option maxRecDepth 100000 in
theorem jcw126 : lw_tbl[923]? = some (.code yX11_ring cX11_ring 2 (Option.some FieldType.int)) := rfl
set_option maxRecDepth 100000 in
theorem jcw127 : lw_tbl[940]? = some (.code yX11_camps cX11_camps 5 (Option.some FieldType.int)) := rfl
set_option maxRecDepth 100000 in
theorem jcw128 : lw_tbl[959]? = some (.code yX11_cover cX11_cover 3 (Option.some FieldType.int)) := rfl
set_option maxRecDepth 100000 in
theorem jcw129 : lw_tbl[977]? = some (.code yX11_match cX11_match 2 (Option.some FieldType.int)) := rfl
set_option maxRecDepth 100000 in
theorem jcw130 : lw_tbl[1005]? = some (.code yX11_trust cX11_trust 1 (Option.some FieldType.int)) := rfl
set_option maxRecDepth 100000 in
theorem jcw131 : lw_tbl[1017]? = some (.code yX11_pence cX11_pence 3 (Option.some FieldType.int)) := rfl
set_option maxRecDepth 100000 in
theorem jcw132 : lw_tbl[1026]? = some (.code yX11_calmest cX11_calmest 3 (Option.some FieldType.int)) := rfl
set_option maxRecDepth 100000 in
theorem jcw133 : lw_tbl[1036]? = some (.code yX11_row cX11_row 4 (Option.some FieldType.int)) := rfl
set_option maxRecDepth 100000 in
theorem jcw134 : lw_tbl[1053]? = some (.code yX11_rests cX11_rests 8 (Option.some FieldType.int)) := rfl
set_option maxRecDepth 100000 in
theorem jcw135 : lw_tbl[1066]? = some (.code yX11_note cX11_note 5 (Option.some FieldType.int)) := rfl
set_option maxRecDepth 100000 in
theorem jcw136 : lw_tbl[1079]? = some (.code yX11_ruled cX11_ruled 2 (Option.some FieldType.int)) := rfl
set_option maxRecDepth 100000 in
theorem jcw137 : lw_tbl[1106]? = some (.code yX11_look cX11_look 3 (Option.some FieldType.int)) := rfl
set_option maxRecDepth 100000 in
theorem jcw138 : lw_tbl[1120]? = some (.code yX11_seed cX11_seed 3 (Option.some FieldType.int)) := rfl
set_option maxRecDepth 100000 in
theorem jcw139 : lw_tbl[1124]? = some (.code yX11_image cX11_image 2 (Option.some FieldType.int)) := rfl
set_option maxRecDepth 100000 in
theorem jcw140 : lw_tbl[1138]? = some (.code yX11_back cX11_back 2 (Option.some FieldType.int)) := rfl
set_option maxRecDepth 100000 in
theorem jcw141 : lw_tbl[1143]? = some (.code yX12_init cX12_init 1 (Option.none : Option FieldType)) := rfl
set_option maxRecDepth 100000 in
theorem jcw142 : lw_tbl[1279]? = some (.code yX12_feed cX12_feed 6 (Option.some FieldType.int)) := rfl
set_option maxRecDepth 100000 in
theorem jcw143 : lw_tbl[1283]? = some (.code yX12_four cX12_four 3 (Option.none : Option FieldType)) := rfl
set_option maxRecDepth 100000 in
theorem jcw144 : lw_tbl[1287]? = some (.code yX12_end cX12_end 2 (Option.some FieldType.int)) := rfl
set_option maxRecDepth 100000 in
theorem jcw145 : lw_tbl[1291]? = some (.code yX12_rule cX12_rule 1 (Option.some FieldType.int)) := rfl
set_option maxRecDepth 100000 in
theorem jcw146 : lw_tbl[1295]? = some (.code yX12_readsAll cX12_readsAll 2 (Option.some FieldType.boolean)) := rfl
set_option maxRecDepth 100000 in
theorem jcw147 : lw_tbl[1299]? = some (.code yX12_clauseHere cX12_clauseHere 3 (Option.some FieldType.boolean)) := rfl
set_option maxRecDepth 100000 in
theorem jcw148 : lw_tbl[1303]? = some (.code yX12_see cX12_see 1 (Option.some FieldType.int)) := rfl
set_option maxRecDepth 100000 in
theorem jcw149 : lw_tbl[1307]? = some (.code yX12_isCampWord cX12_isCampWord 1 (Option.some FieldType.boolean)) := rfl
set_option maxRecDepth 100000 in
theorem jcw150 : lw_tbl[1312]? = some (.code yX12_isWord cX12_isWord 6 (Option.some FieldType.boolean)) := rfl
set_option maxRecDepth 100000 in
theorem jcw151 : lw_tbl[1316]? = some (.code yX12_isLetter cX12_isLetter 2 (Option.some FieldType.boolean)) := rfl
set_option maxRecDepth 100000 in
theorem jcw152 : lw_tbl[1325]? = some (.code yX12_fails cX12_fails 3 (Option.some FieldType.boolean)) := rfl
set_option maxRecDepth 100000 in
theorem jcw153 : lw_tbl[1329]? = some (.code yX12_campLineHere cX12_campLineHere 2 (Option.some FieldType.boolean)) := rfl
set_option maxRecDepth 100000 in
theorem jcw154 : lw_tbl[1333]? = some (.code yX12_isCampHere cX12_isCampHere 2 (Option.some FieldType.boolean)) := rfl
set_option maxRecDepth 100000 in
theorem jcw155 : lw_tbl[1337]? = some (.code yX12_passWord cX12_passWord 1 (Option.none : Option FieldType)) := rfl
set_option maxRecDepth 100000 in
theorem jcw156 : lw_tbl[1341]? = some (.code yX12_cellHere cX12_cellHere 4 (Option.some FieldType.boolean)) := rfl
set_option maxRecDepth 100000 in
theorem jcw157 : lw_tbl[1345]? = some (.code yX12_numberHere cX12_numberHere 5 (Option.some FieldType.boolean)) := rfl
set_option maxRecDepth 100000 in
theorem jcw158 : lw_tbl[1349]? = some (.code yX12_isDigit cX12_isDigit 2 (Option.some FieldType.boolean)) := rfl
set_option maxRecDepth 100000 in
theorem jcw159 : lw_tbl[1352]? = some (.code yX12_in cX12_in 6 (Option.some FieldType.boolean)) := rfl
set_option maxRecDepth 100000 in
theorem jcw160 : lw_tbl[1356]? = some (.code yX12_isCalmHere cX12_isCalmHere 2 (Option.some FieldType.boolean)) := rfl
set_option maxRecDepth 100000 in
theorem jcw161 : lw_tbl[1360]? = some (.code yX12_isKindHere cX12_isKindHere 2 (Option.some FieldType.boolean)) := rfl
set_option maxRecDepth 100000 in
theorem jcw162 : lw_tbl[1364]? = some (.code yX12_isScoutHere cX12_isScoutHere 2 (Option.some FieldType.boolean)) := rfl
set_option maxRecDepth 100000 in
theorem jcw163 : lw_tbl[1368]? = some (.code yX12_canHere cX12_canHere 2 (Option.some FieldType.boolean)) := rfl
set_option maxRecDepth 100000 in
theorem jcw164 : lw_tbl[1372]? = some (.code yX12_isTryHere cX12_isTryHere 2 (Option.some FieldType.boolean)) := rfl
set_option maxRecDepth 100000 in
theorem jcw165 : lw_tbl[1376]? = some (.code yX12_sum cX12_sum 2 (Option.some FieldType.boolean)) := rfl
set_option maxRecDepth 100000 in
theorem jcw166 : lw_tbl[1380]? = some (.code yX12_term cX12_term 2 (Option.some FieldType.boolean)) := rfl
set_option maxRecDepth 100000 in
theorem jcw167 : lw_tbl[1384]? = some (.code yX12_value cX12_value 3 (Option.some FieldType.boolean)) := rfl
set_option maxRecDepth 100000 in
theorem jcw168 : lw_tbl[1389]? = some (.code yX12_makes cX12_makes 2 (Option.some FieldType.boolean)) := rfl
set_option maxRecDepth 100000 in
theorem jcw169 : lw_tbl[1393]? = some (.code yX12_puts cX12_puts 3 (Option.none : Option FieldType)) := rfl
set_option maxRecDepth 100000 in
theorem jcw170 : lw_tbl[1397]? = some (.code yX12_wordHere cX12_wordHere 1 (Option.some FieldType.int)) := rfl
set_option maxRecDepth 100000 in
theorem jcw171 : lw_tbl[1411]? = some (.code yX12_takesWord cX12_takesWord 3 (Option.some FieldType.boolean)) := rfl
set_option maxRecDepth 100000 in
theorem jcw172 : lw_tbl[1415]? = some (.code yX12_tested cX12_tested 3 (Option.some FieldType.boolean)) := rfl
set_option maxRecDepth 100000 in
theorem jcw173 : lw_tbl[1419]? = some (.code yX12_fact cX12_fact 3 (Option.some FieldType.boolean)) := rfl
set_option maxRecDepth 100000 in
theorem jcw174 : lw_tbl[1424]? = some (.code yX12_opens cX12_opens 2 (Option.some FieldType.boolean)) := rfl
set_option maxRecDepth 100000 in
theorem jcw175 : lw_tbl[1428]? = some (.code yX12_compare cX12_compare 5 (Option.some FieldType.boolean)) := rfl
set_option maxRecDepth 100000 in
theorem jcw176 : lw_tbl[1432]? = some (.code yX12_closes cX12_closes 1 (Option.none : Option FieldType)) := rfl
set_option maxRecDepth 100000 in
theorem jcw177 : lw_tbl[1436]? = some (.code yX12_layDown cX12_layDown 2 (Option.none : Option FieldType)) := rfl
set_option maxRecDepth 100000 in
theorem jcw178 : lw_tbl[1439]? = some (.code yX12_strength cX12_strength 1 (Option.some FieldType.int)) := rfl
set_option maxRecDepth 100000 in
theorem jcw179 : lw_tbl[1443]? = some (.code yX12_isInside cX12_isInside 2 (Option.some FieldType.boolean)) := rfl
set_option maxRecDepth 100000 in
theorem jcw180 : lw_tbl[1449]? = some (.code yX12_camp cX12_camp 2 (Option.some FieldType.int)) := rfl
set_option maxRecDepth 100000 in
theorem jcw181 : lw_tbl[1453]? = some (.code yX12_begins cX12_begins 2 (Option.none : Option FieldType)) := rfl
set_option maxRecDepth 100000 in
theorem jcw182 : lw_tbl[1457]? = some (.code yX12_force cX12_force 3 (Option.some FieldType.int)) := rfl
set_option maxRecDepth 100000 in
theorem jcw183 : lw_tbl[1461]? = some (.code yX12_isRule cX12_isRule 2 (Option.some FieldType.boolean)) := rfl
set_option maxRecDepth 100000 in
theorem jcw184 : lw_tbl[1465]? = some (.code yX12_scout cX12_scout 3 (Option.some FieldType.int)) := rfl
set_option maxRecDepth 100000 in
theorem jcw185 : lw_tbl[1469]? = some (.code yX12_isScout cX12_isScout 2 (Option.some FieldType.boolean)) := rfl
set_option maxRecDepth 100000 in
theorem jcw186 : lw_tbl[1473]? = some (.code yX12_canNow cX12_canNow 4 (Option.some FieldType.int)) := rfl
set_option maxRecDepth 100000 in
theorem jcw187 : lw_tbl[1477]? = some (.code yX12_calmNow cX12_calmNow 1 (Option.some FieldType.int)) := rfl
set_option maxRecDepth 100000 in
theorem jcw188 : lw_tbl[1481]? = some (.code yX12_calmOn cX12_calmOn 2 (Option.some FieldType.int)) := rfl
set_option maxRecDepth 100000 in
theorem jcw189 : lw_tbl[1485]? = some (.code yX12_comesOff cX12_comesOff 4 (Option.some FieldType.boolean)) := rfl
set_option maxRecDepth 100000 in
theorem jcw190 : lw_tbl[1489]? = some (.code yX12_skillOf cX12_skillOf 3 (Option.some FieldType.int)) := rfl
set_option maxRecDepth 100000 in
theorem jcw191 : lw_tbl[1493]? = some (.code yX12_badgesOf cX12_badgesOf 2 (Option.some FieldType.int)) := rfl
set_option maxRecDepth 100000 in
theorem jcw192 : lw_tbl[1497]? = some (.code yX12_skill cX12_skill 3 (Option.some FieldType.int)) := rfl
set_option maxRecDepth 100000 in
theorem jcw193 : lw_tbl[1501]? = some (.code yX12_isKind cX12_isKind 2 (Option.some FieldType.boolean)) := rfl
set_option maxRecDepth 100000 in
theorem jcw194 : lw_tbl[1505]? = some (.code yX12_hard cX12_hard 2 (Option.some FieldType.int)) := rfl
set_option maxRecDepth 100000 in
theorem jcw195 : lw_tbl[1509]? = some (.code yX12_undo cX12_undo 2 (Option.some FieldType.int)) := rfl
set_option maxRecDepth 100000 in
theorem jcw196 : lw_tbl[1513]? = some (.code yX12_day cX12_day 1 (Option.some FieldType.int)) := rfl
set_option maxRecDepth 100000 in
theorem jcw197 : lw_tbl[1517]? = some (.code yX12_isCamp cX12_isCamp 1 (Option.some FieldType.boolean)) := rfl
set_option maxRecDepth 100000 in
theorem jcw198 : lw_tbl[1521]? = some (.code yX12_keepsAct cX12_keepsAct 2 (Option.none : Option FieldType)) := rfl
set_option maxRecDepth 100000 in
theorem jcw199 : lw_tbl[1525]? = some (.code yX12_passes cX12_passes 4 (Option.some FieldType.int)) := rfl
set_option maxRecDepth 100000 in
theorem jcw200 : lw_tbl[1529]? = some (.code yX12_choice cX12_choice 8 (Option.some FieldType.int)) := rfl
set_option maxRecDepth 100000 in
theorem jcw201 : lw_tbl[1532]? = some (.code yX12_isOf cX12_isOf 2 (Option.some FieldType.boolean)) := rfl
set_option maxRecDepth 100000 in
theorem jcw202 : lw_tbl[1536]? = some (.code yX12_sumOf cX12_sumOf 6 (Option.some FieldType.long)) := rfl
set_option maxRecDepth 100000 in
theorem jcw203 : lw_tbl[1539]? = some (.code yX12_bits cX12_bits 3 (Option.some FieldType.int)) := rfl
set_option maxRecDepth 100000 in
theorem jcw204 : lw_tbl[1543]? = some (.code yX12_passedBy cX12_passedBy 2 (Option.some FieldType.int)) := rfl
set_option maxRecDepth 100000 in
theorem jcw205 : lw_tbl[1547]? = some (.code yX12_summedBy cX12_summedBy 4 (Option.some FieldType.long)) := rfl
set_option maxRecDepth 100000 in
theorem jcw206 : lw_tbl[1551]? = some (.code yX12_reckons cX12_reckons 11 (Option.some FieldType.long)) := rfl
set_option maxRecDepth 100000 in
theorem jcw207 : lw_tbl[1555]? = some (.code yX12_push cX12_push 3 (Option.none : Option FieldType)) := rfl
set_option maxRecDepth 100000 in
theorem jcw208 : lw_tbl[1559]? = some (.code yX12_pop cX12_pop 1 (Option.some FieldType.long)) := rfl
set_option maxRecDepth 100000 in
theorem jcw209 : lw_tbl[1562]? = some (.code yX12_one cX12_one 5 (Option.some FieldType.long)) := rfl
set_option maxRecDepth 100000 in
theorem jcw210 : lw_tbl[1566]? = some (.code yX12_tries cX12_tries 5 (Option.some FieldType.boolean)) := rfl
set_option maxRecDepth 100000 in
theorem jcw211 : lw_tbl[1570]? = some (.code yX12_attempt cX12_attempt 3 (Option.some FieldType.int)) := rfl
set_option maxRecDepth 100000 in
theorem jcw212 : lw_tbl[1574]? = some (.code yX12_sham cX12_sham 3 (Option.some FieldType.int)) := rfl
set_option maxRecDepth 100000 in
theorem jcw213 : lw_tbl[1578]? = some (.code yX12_teach cX12_teach 4 (Option.some FieldType.int)) := rfl
set_option maxRecDepth 100000 in
theorem jcw214 : lw_tbl[1582]? = some (.code yX12_cut cX12_cut 3 (Option.some FieldType.int)) := rfl
set_option maxRecDepth 100000 in
theorem jcw215 : lw_tbl[1586]? = some (.code yX12_ahead cX12_ahead 5 (Option.some FieldType.int)) := rfl
set_option maxRecDepth 100000 in
theorem jcw216 : lw_tbl[1592]? = some (.code yX12_keeps cX12_keeps 2 (Option.none : Option FieldType)) := rfl
set_option maxRecDepth 100000 in
theorem jcw217 : lw_tbl[1596]? = some (.code yX12_passesAll cX12_passesAll 3 (Option.none : Option FieldType)) := rfl
set_option maxRecDepth 100000 in
theorem jcw218 : lw_tbl[1600]? = some (.code yX12_skillAll cX12_skillAll 4 (Option.some FieldType.int)) := rfl
set_option maxRecDepth 100000 in
theorem jcw219 : lw_tbl[1604]? = some (.code yX12_laysBack cX12_laysBack 2 (Option.none : Option FieldType)) := rfl
set_option maxRecDepth 100000 in
theorem jcw220 : lw_tbl[1608]? = some (.code yX12_arm cX12_arm 4 (Option.some FieldType.int)) := rfl
set_option maxRecDepth 100000 in
theorem jcw221 : lw_tbl[1612]? = some (.code yX12_off cX12_off 6 (Option.some FieldType.int)) := rfl
set_option maxRecDepth 100000 in
theorem jcw222 : lw_tbl[1616]? = some (.code yX12_cover cX12_cover 6 (Option.some FieldType.int)) := rfl
set_option maxRecDepth 100000 in
theorem jcw223 : lw_tbl[1620]? = some (.code yX12_canAny cX12_canAny 4 (Option.some FieldType.int)) := rfl
set_option maxRecDepth 100000 in
theorem jcw224 : lw_tbl[1624]? = some (.code yX12_match cX12_match 2 (Option.some FieldType.int)) := rfl
set_option maxRecDepth 100000 in
theorem jcw225 : lw_tbl[1630]? = some (.code yX12_findsMatch cX12_findsMatch 3 (Option.none : Option FieldType)) := rfl
set_option maxRecDepth 100000 in
theorem jcw226 : lw_tbl[1634]? = some (.code yX12_keepsMatch cX12_keepsMatch 3 (Option.none : Option FieldType)) := rfl
set_option maxRecDepth 100000 in
theorem jcw227 : lw_tbl[1638]? = some (.code yX12_isTaken cX12_isTaken 4 (Option.some FieldType.boolean)) := rfl
set_option maxRecDepth 100000 in
theorem jcw228 : lw_tbl[1642]? = some (.code yX12_trust cX12_trust 4 (Option.some FieldType.int)) := rfl
set_option maxRecDepth 100000 in
theorem jcw229 : lw_tbl[1646]? = some (.code yX12_row cX12_row 8 (Option.some FieldType.int)) := rfl
set_option maxRecDepth 100000 in
theorem jcw230 : lw_tbl[1650]? = some (.code yX12_power cX12_power 4 (Option.some FieldType.int)) := rfl
set_option maxRecDepth 100000 in
theorem jcw231 : lw_tbl[1654]? = some (.code yX12_fillsRow cX12_fillsRow 5 (Option.none : Option FieldType)) := rfl
set_option maxRecDepth 100000 in
theorem jcw232 : lw_tbl[1658]? = some (.code yX12_badgesBy cX12_badgesBy 4 (Option.some FieldType.int)) := rfl
set_option maxRecDepth 100000 in
theorem jcw233 : lw_tbl[1662]? = some (.code yX12_leastLearn cX12_leastLearn 7 (Option.some FieldType.int)) := rfl
set_option maxRecDepth 100000 in
theorem jcw234 : lw_tbl[1667]? = some (.code yX12_calmest cX12_calmest 4 (Option.some FieldType.int)) := rfl
set_option maxRecDepth 100000 in
theorem jcw235 : lw_tbl[1671]? = some (.code yX12_leftOut cX12_leftOut 7 (Option.some FieldType.int)) := rfl
set_option maxRecDepth 100000 in
theorem jcw236 : lw_tbl[1676]? = some (.code yX12_rests cX12_rests 10 (Option.some FieldType.int)) := rfl
set_option maxRecDepth 100000 in
theorem jcw237 : lw_tbl[1681]? = some (.code yX12_fillsRests cX12_fillsRests 8 (Option.none : Option FieldType)) := rfl
set_option maxRecDepth 100000 in
theorem jcw238 : lw_tbl[1685]? = some (.code yX12_isRest cX12_isRest 4 (Option.some FieldType.boolean)) := rfl
set_option maxRecDepth 100000 in
theorem jcw239 : lw_tbl[1689]? = some (.code yX12_pence cX12_pence 9 (Option.some FieldType.int)) := rfl
set_option maxRecDepth 100000 in
theorem jcw240 : lw_tbl[1694]? = some (.code yX12_badgesAll cX12_badgesAll 3 (Option.some FieldType.int)) := rfl
set_option maxRecDepth 100000 in
theorem jcw241 : lw_tbl[1698]? = some (.code yX12_ring cX12_ring 4 (Option.some FieldType.int)) := rfl
set_option maxRecDepth 100000 in
theorem jcw242 : lw_tbl[1702]? = some (.code yX12_areAlike cX12_areAlike 4 (Option.some FieldType.boolean)) := rfl
set_option maxRecDepth 100000 in
theorem jcw243 : lw_tbl[1706]? = some (.code yX12_note cX12_note 6 (Option.some FieldType.int)) := rfl
set_option maxRecDepth 100000 in
theorem jcw244 : lw_tbl[1710]? = some (.code yX12_ruled cX12_ruled 5 (Option.some FieldType.int)) := rfl
set_option maxRecDepth 100000 in
theorem jcw245 : lw_tbl[1714]? = some (.code yX12_fillsFits cX12_fillsFits 7 (Option.none : Option FieldType)) := rfl
set_option maxRecDepth 100000 in
theorem jcw246 : lw_tbl[1718]? = some (.code yX12_areNotesSo cX12_areNotesSo 3 (Option.some FieldType.boolean)) := rfl
set_option maxRecDepth 100000 in
theorem jcw247 : lw_tbl[1722]? = some (.code yX12_look cX12_look 7 (Option.some FieldType.int)) := rfl
set_option maxRecDepth 100000 in
theorem jcw248 : lw_tbl[1726]? = some (.code yX12_alikeAt cX12_alikeAt 6 (Option.some FieldType.int)) := rfl
set_option maxRecDepth 100000 in
theorem jcw249 : lw_tbl[1730]? = some (.code yX12_seed cX12_seed 3 (Option.some FieldType.int)) := rfl
set_option maxRecDepth 100000 in
theorem jcw250 : lw_tbl[1734]? = some (.code yX12_camps cX12_camps 10 (Option.some FieldType.int)) := rfl
set_option maxRecDepth 100000 in
theorem jcw251 : lw_tbl[1739]? = some (.code yX12_passedAll cX12_passedAll 3 (Option.some FieldType.int)) := rfl
set_option maxRecDepth 100000 in
theorem jcw252 : lw_tbl[1743]? = some (.code yX12_draw cX12_draw 2 (Option.some FieldType.int)) := rfl
set_option maxRecDepth 100000 in
theorem jcw253 : lw_tbl[1751]? = some (.code yX12_count cX12_count 2 (Option.some FieldType.int)) := rfl
set_option maxRecDepth 100000 in
theorem jcw254 : lw_tbl[1755]? = some (.code yX12_image cX12_image 3 (Option.some FieldType.int)) := rfl
set_option maxRecDepth 100000 in
theorem jcw255 : lw_tbl[1760]? = some (.code yX12_back cX12_back 3 (Option.some FieldType.int)) := rfl
set_option maxRecDepth 100000 in
theorem jcw256 : lw_tbl[732]? = some (.code yJ6_bitCount_0f7a4 cJ6_bitCount_0f7a4 1 (Option.some FieldType.int)) := rfl
set_option maxRecDepth 100000 in
theorem jcw257 : lw_tbl[896]? = some (.code yJ6_numberOfTrailingZeros_0f7a4 cJ6_numberOfTrailingZeros_0f7a4 2 (Option.some FieldType.int)) := rfl
set_option maxRecDepth 100000 in
theorem jcw258 : lw_tbl[586]? = some (.code yJ7_fill_53178 cJ7_fill_53178 4 (Option.none : Option FieldType)) := rfl
set_option maxRecDepth 100000 in
theorem jcw259 : lw_tbl[643]? = some (.code yJ7_copyOf_59c91 cJ7_copyOf_59c91 3 (Option.some (FieldType.array FieldType.int))) := rfl
set_option maxRecDepth 100000 in
theorem jcw260 : lw_tbl[513]? = some (.code yJ0_length_8abf5 cJ0_length_8abf5 1 (Option.some FieldType.int)) := rfl
set_option maxRecDepth 100000 in
theorem jcw261 : lw_tbl[517]? = some (.code yJ0_coder_7d493 cJ0_coder_7d493 1 (Option.some FieldType.byte)) := rfl
set_option maxRecDepth 100000 in
theorem jcw262 : lw_tbl[523]? = some (.code yJ0_charAt_5068e cJ0_charAt_5068e 2 (Option.some FieldType.char)) := rfl
set_option maxRecDepth 100000 in
theorem jcw263 : lw_tbl[527]? = some (.code yJ0_isLatin1_aae02 cJ0_isLatin1_aae02 1 (Option.some FieldType.boolean)) := rfl
set_option maxRecDepth 100000 in
theorem jcw264 : lw_tbl[533]? = some (.code yJ0_checkIndex_df160 cJ0_checkIndex_df160 2 (Option.none : Option FieldType)) := rfl
set_option maxRecDepth 100000 in
theorem jcw265 : lw_tbl[530]? = some (.code yJ1_charAt_3b067 cJ1_charAt_3b067 2 (Option.some FieldType.char)) := rfl
set_option maxRecDepth 100000 in
theorem jcw266 : lw_tbl[538]? = some (.code yJ3_checkIndex_8e157 cJ3_checkIndex_8e157 3 (Option.some FieldType.int)) := rfl
def jMcd (q : jMt) : Prop := Cond.code q.2.1 q.2.2.1 q.2.2.2.1 q.2.2.2.2.1 ∈ jTb
theorem jMc0 : ∀ q ∈ jML0, jMcd q := List.forall_mem_cons.mpr ⟨jcd_in jcw0, List.forall_mem_cons.mpr ⟨jcd_in jcw1, List.forall_mem_cons.mpr ⟨jcd_in jcw2, List.forall_mem_cons.mpr ⟨jcd_in jcw3, List.forall_mem_cons.mpr ⟨jcd_in jcw4, List.forall_mem_cons.mpr ⟨jcd_in jcw5, List.forall_mem_cons.mpr ⟨jcd_in jcw6, List.forall_mem_cons.mpr ⟨jcd_in jcw7, List.forall_mem_cons.mpr ⟨jcd_in jcw8, List.forall_mem_cons.mpr ⟨jcd_in jcw9, List.forall_mem_cons.mpr ⟨jcd_in jcw10, List.forall_mem_cons.mpr ⟨jcd_in jcw11, List.forall_mem_cons.mpr ⟨jcd_in jcw12, List.forall_mem_cons.mpr ⟨jcd_in jcw13, List.forall_mem_cons.mpr ⟨jcd_in jcw14, List.forall_mem_cons.mpr ⟨jcd_in jcw15, List.forall_mem_cons.mpr ⟨jcd_in jcw16, List.forall_mem_cons.mpr ⟨jcd_in jcw17, List.forall_mem_cons.mpr ⟨jcd_in jcw18, List.forall_mem_cons.mpr ⟨jcd_in jcw19, List.forall_mem_cons.mpr ⟨jcd_in jcw20, List.forall_mem_cons.mpr ⟨jcd_in jcw21, List.forall_mem_cons.mpr ⟨jcd_in jcw22, List.forall_mem_cons.mpr ⟨jcd_in jcw23, List.forall_mem_cons.mpr ⟨jcd_in jcw24, List.forall_mem_cons.mpr ⟨jcd_in jcw25, List.forall_mem_cons.mpr ⟨jcd_in jcw26, List.forall_mem_cons.mpr ⟨jcd_in jcw27, List.forall_mem_cons.mpr ⟨jcd_in jcw28, List.forall_mem_cons.mpr ⟨jcd_in jcw29, List.forall_mem_cons.mpr ⟨jcd_in jcw30, List.forall_mem_cons.mpr ⟨jcd_in jcw31, List.forall_mem_cons.mpr ⟨jcd_in jcw32, List.forall_mem_cons.mpr ⟨jcd_in jcw33, List.forall_mem_cons.mpr ⟨jcd_in jcw34, List.forall_mem_cons.mpr ⟨jcd_in jcw35, List.forall_mem_cons.mpr ⟨jcd_in jcw36, List.forall_mem_cons.mpr ⟨jcd_in jcw37, List.forall_mem_cons.mpr ⟨jcd_in jcw38, List.forall_mem_cons.mpr ⟨jcd_in jcw39, List.forall_mem_cons.mpr ⟨jcd_in jcw40, List.forall_mem_cons.mpr ⟨jcd_in jcw41, List.forall_mem_cons.mpr ⟨jcd_in jcw42, List.forall_mem_cons.mpr ⟨jcd_in jcw43, List.forall_mem_cons.mpr ⟨jcd_in jcw44, List.forall_mem_cons.mpr ⟨jcd_in jcw45, List.forall_mem_cons.mpr ⟨jcd_in jcw46, List.forall_mem_cons.mpr ⟨jcd_in jcw47, List.forall_mem_cons.mpr ⟨jcd_in jcw48, List.forall_mem_cons.mpr ⟨jcd_in jcw49, fun _ h => absurd h List.not_mem_nil⟩⟩⟩⟩⟩⟩⟩⟩⟩⟩⟩⟩⟩⟩⟩⟩⟩⟩⟩⟩⟩⟩⟩⟩⟩⟩⟩⟩⟩⟩⟩⟩⟩⟩⟩⟩⟩⟩⟩⟩⟩⟩⟩⟩⟩⟩⟩⟩⟩⟩
theorem jMc1 : ∀ q ∈ jML1, jMcd q := List.forall_mem_cons.mpr ⟨jcd_in jcw50, List.forall_mem_cons.mpr ⟨jcd_in jcw51, List.forall_mem_cons.mpr ⟨jcd_in jcw52, List.forall_mem_cons.mpr ⟨jcd_in jcw53, List.forall_mem_cons.mpr ⟨jcd_in jcw54, List.forall_mem_cons.mpr ⟨jcd_in jcw55, List.forall_mem_cons.mpr ⟨jcd_in jcw56, List.forall_mem_cons.mpr ⟨jcd_in jcw57, List.forall_mem_cons.mpr ⟨jcd_in jcw58, List.forall_mem_cons.mpr ⟨jcd_in jcw59, List.forall_mem_cons.mpr ⟨jcd_in jcw60, List.forall_mem_cons.mpr ⟨jcd_in jcw61, List.forall_mem_cons.mpr ⟨jcd_in jcw62, List.forall_mem_cons.mpr ⟨jcd_in jcw63, List.forall_mem_cons.mpr ⟨jcd_in jcw64, List.forall_mem_cons.mpr ⟨jcd_in jcw65, List.forall_mem_cons.mpr ⟨jcd_in jcw66, List.forall_mem_cons.mpr ⟨jcd_in jcw67, List.forall_mem_cons.mpr ⟨jcd_in jcw68, List.forall_mem_cons.mpr ⟨jcd_in jcw69, List.forall_mem_cons.mpr ⟨jcd_in jcw70, List.forall_mem_cons.mpr ⟨jcd_in jcw71, List.forall_mem_cons.mpr ⟨jcd_in jcw72, List.forall_mem_cons.mpr ⟨jcd_in jcw73, List.forall_mem_cons.mpr ⟨jcd_in jcw74, List.forall_mem_cons.mpr ⟨jcd_in jcw75, List.forall_mem_cons.mpr ⟨jcd_in jcw76, List.forall_mem_cons.mpr ⟨jcd_in jcw77, List.forall_mem_cons.mpr ⟨jcd_in jcw78, List.forall_mem_cons.mpr ⟨jcd_in jcw79, List.forall_mem_cons.mpr ⟨jcd_in jcw80, List.forall_mem_cons.mpr ⟨jcd_in jcw81, List.forall_mem_cons.mpr ⟨jcd_in jcw82, List.forall_mem_cons.mpr ⟨jcd_in jcw83, List.forall_mem_cons.mpr ⟨jcd_in jcw84, List.forall_mem_cons.mpr ⟨jcd_in jcw85, List.forall_mem_cons.mpr ⟨jcd_in jcw86, List.forall_mem_cons.mpr ⟨jcd_in jcw87, List.forall_mem_cons.mpr ⟨jcd_in jcw88, List.forall_mem_cons.mpr ⟨jcd_in jcw89, List.forall_mem_cons.mpr ⟨jcd_in jcw90, List.forall_mem_cons.mpr ⟨jcd_in jcw91, List.forall_mem_cons.mpr ⟨jcd_in jcw92, List.forall_mem_cons.mpr ⟨jcd_in jcw93, List.forall_mem_cons.mpr ⟨jcd_in jcw94, List.forall_mem_cons.mpr ⟨jcd_in jcw95, List.forall_mem_cons.mpr ⟨jcd_in jcw96, List.forall_mem_cons.mpr ⟨jcd_in jcw97, List.forall_mem_cons.mpr ⟨jcd_in jcw98, List.forall_mem_cons.mpr ⟨jcd_in jcw99, fun _ h => absurd h List.not_mem_nil⟩⟩⟩⟩⟩⟩⟩⟩⟩⟩⟩⟩⟩⟩⟩⟩⟩⟩⟩⟩⟩⟩⟩⟩⟩⟩⟩⟩⟩⟩⟩⟩⟩⟩⟩⟩⟩⟩⟩⟩⟩⟩⟩⟩⟩⟩⟩⟩⟩⟩
theorem jMc2 : ∀ q ∈ jML2, jMcd q := List.forall_mem_cons.mpr ⟨jcd_in jcw100, List.forall_mem_cons.mpr ⟨jcd_in jcw101, List.forall_mem_cons.mpr ⟨jcd_in jcw102, List.forall_mem_cons.mpr ⟨jcd_in jcw103, List.forall_mem_cons.mpr ⟨jcd_in jcw104, List.forall_mem_cons.mpr ⟨jcd_in jcw105, List.forall_mem_cons.mpr ⟨jcd_in jcw106, List.forall_mem_cons.mpr ⟨jcd_in jcw107, List.forall_mem_cons.mpr ⟨jcd_in jcw108, List.forall_mem_cons.mpr ⟨jcd_in jcw109, List.forall_mem_cons.mpr ⟨jcd_in jcw110, List.forall_mem_cons.mpr ⟨jcd_in jcw111, List.forall_mem_cons.mpr ⟨jcd_in jcw112, List.forall_mem_cons.mpr ⟨jcd_in jcw113, List.forall_mem_cons.mpr ⟨jcd_in jcw114, List.forall_mem_cons.mpr ⟨jcd_in jcw115, List.forall_mem_cons.mpr ⟨jcd_in jcw116, List.forall_mem_cons.mpr ⟨jcd_in jcw117, List.forall_mem_cons.mpr ⟨jcd_in jcw118, List.forall_mem_cons.mpr ⟨jcd_in jcw119, List.forall_mem_cons.mpr ⟨jcd_in jcw120, List.forall_mem_cons.mpr ⟨jcd_in jcw121, List.forall_mem_cons.mpr ⟨jcd_in jcw122, List.forall_mem_cons.mpr ⟨jcd_in jcw123, List.forall_mem_cons.mpr ⟨jcd_in jcw124, List.forall_mem_cons.mpr ⟨jcd_in jcw125, List.forall_mem_cons.mpr ⟨jcd_in jcw126, List.forall_mem_cons.mpr ⟨jcd_in jcw127, List.forall_mem_cons.mpr ⟨jcd_in jcw128, List.forall_mem_cons.mpr ⟨jcd_in jcw129, List.forall_mem_cons.mpr ⟨jcd_in jcw130, List.forall_mem_cons.mpr ⟨jcd_in jcw131, List.forall_mem_cons.mpr ⟨jcd_in jcw132, List.forall_mem_cons.mpr ⟨jcd_in jcw133, List.forall_mem_cons.mpr ⟨jcd_in jcw134, List.forall_mem_cons.mpr ⟨jcd_in jcw135, List.forall_mem_cons.mpr ⟨jcd_in jcw136, List.forall_mem_cons.mpr ⟨jcd_in jcw137, List.forall_mem_cons.mpr ⟨jcd_in jcw138, List.forall_mem_cons.mpr ⟨jcd_in jcw139, List.forall_mem_cons.mpr ⟨jcd_in jcw140, List.forall_mem_cons.mpr ⟨jcd_in jcw141, List.forall_mem_cons.mpr ⟨jcd_in jcw142, List.forall_mem_cons.mpr ⟨jcd_in jcw143, List.forall_mem_cons.mpr ⟨jcd_in jcw144, List.forall_mem_cons.mpr ⟨jcd_in jcw145, List.forall_mem_cons.mpr ⟨jcd_in jcw146, List.forall_mem_cons.mpr ⟨jcd_in jcw147, List.forall_mem_cons.mpr ⟨jcd_in jcw148, List.forall_mem_cons.mpr ⟨jcd_in jcw149, fun _ h => absurd h List.not_mem_nil⟩⟩⟩⟩⟩⟩⟩⟩⟩⟩⟩⟩⟩⟩⟩⟩⟩⟩⟩⟩⟩⟩⟩⟩⟩⟩⟩⟩⟩⟩⟩⟩⟩⟩⟩⟩⟩⟩⟩⟩⟩⟩⟩⟩⟩⟩⟩⟩⟩⟩
theorem jMc3 : ∀ q ∈ jML3, jMcd q := List.forall_mem_cons.mpr ⟨jcd_in jcw150, List.forall_mem_cons.mpr ⟨jcd_in jcw151, List.forall_mem_cons.mpr ⟨jcd_in jcw152, List.forall_mem_cons.mpr ⟨jcd_in jcw153, List.forall_mem_cons.mpr ⟨jcd_in jcw154, List.forall_mem_cons.mpr ⟨jcd_in jcw155, List.forall_mem_cons.mpr ⟨jcd_in jcw156, List.forall_mem_cons.mpr ⟨jcd_in jcw157, List.forall_mem_cons.mpr ⟨jcd_in jcw158, List.forall_mem_cons.mpr ⟨jcd_in jcw159, List.forall_mem_cons.mpr ⟨jcd_in jcw160, List.forall_mem_cons.mpr ⟨jcd_in jcw161, List.forall_mem_cons.mpr ⟨jcd_in jcw162, List.forall_mem_cons.mpr ⟨jcd_in jcw163, List.forall_mem_cons.mpr ⟨jcd_in jcw164, List.forall_mem_cons.mpr ⟨jcd_in jcw165, List.forall_mem_cons.mpr ⟨jcd_in jcw166, List.forall_mem_cons.mpr ⟨jcd_in jcw167, List.forall_mem_cons.mpr ⟨jcd_in jcw168, List.forall_mem_cons.mpr ⟨jcd_in jcw169, List.forall_mem_cons.mpr ⟨jcd_in jcw170, List.forall_mem_cons.mpr ⟨jcd_in jcw171, List.forall_mem_cons.mpr ⟨jcd_in jcw172, List.forall_mem_cons.mpr ⟨jcd_in jcw173, List.forall_mem_cons.mpr ⟨jcd_in jcw174, List.forall_mem_cons.mpr ⟨jcd_in jcw175, List.forall_mem_cons.mpr ⟨jcd_in jcw176, List.forall_mem_cons.mpr ⟨jcd_in jcw177, List.forall_mem_cons.mpr ⟨jcd_in jcw178, List.forall_mem_cons.mpr ⟨jcd_in jcw179, List.forall_mem_cons.mpr ⟨jcd_in jcw180, List.forall_mem_cons.mpr ⟨jcd_in jcw181, List.forall_mem_cons.mpr ⟨jcd_in jcw182, List.forall_mem_cons.mpr ⟨jcd_in jcw183, List.forall_mem_cons.mpr ⟨jcd_in jcw184, List.forall_mem_cons.mpr ⟨jcd_in jcw185, List.forall_mem_cons.mpr ⟨jcd_in jcw186, List.forall_mem_cons.mpr ⟨jcd_in jcw187, List.forall_mem_cons.mpr ⟨jcd_in jcw188, List.forall_mem_cons.mpr ⟨jcd_in jcw189, List.forall_mem_cons.mpr ⟨jcd_in jcw190, List.forall_mem_cons.mpr ⟨jcd_in jcw191, List.forall_mem_cons.mpr ⟨jcd_in jcw192, List.forall_mem_cons.mpr ⟨jcd_in jcw193, List.forall_mem_cons.mpr ⟨jcd_in jcw194, List.forall_mem_cons.mpr ⟨jcd_in jcw195, List.forall_mem_cons.mpr ⟨jcd_in jcw196, List.forall_mem_cons.mpr ⟨jcd_in jcw197, List.forall_mem_cons.mpr ⟨jcd_in jcw198, List.forall_mem_cons.mpr ⟨jcd_in jcw199, fun _ h => absurd h List.not_mem_nil⟩⟩⟩⟩⟩⟩⟩⟩⟩⟩⟩⟩⟩⟩⟩⟩⟩⟩⟩⟩⟩⟩⟩⟩⟩⟩⟩⟩⟩⟩⟩⟩⟩⟩⟩⟩⟩⟩⟩⟩⟩⟩⟩⟩⟩⟩⟩⟩⟩⟩
theorem jMc4 : ∀ q ∈ jML4, jMcd q := List.forall_mem_cons.mpr ⟨jcd_in jcw200, List.forall_mem_cons.mpr ⟨jcd_in jcw201, List.forall_mem_cons.mpr ⟨jcd_in jcw202, List.forall_mem_cons.mpr ⟨jcd_in jcw203, List.forall_mem_cons.mpr ⟨jcd_in jcw204, List.forall_mem_cons.mpr ⟨jcd_in jcw205, List.forall_mem_cons.mpr ⟨jcd_in jcw206, List.forall_mem_cons.mpr ⟨jcd_in jcw207, List.forall_mem_cons.mpr ⟨jcd_in jcw208, List.forall_mem_cons.mpr ⟨jcd_in jcw209, List.forall_mem_cons.mpr ⟨jcd_in jcw210, List.forall_mem_cons.mpr ⟨jcd_in jcw211, List.forall_mem_cons.mpr ⟨jcd_in jcw212, List.forall_mem_cons.mpr ⟨jcd_in jcw213, List.forall_mem_cons.mpr ⟨jcd_in jcw214, List.forall_mem_cons.mpr ⟨jcd_in jcw215, List.forall_mem_cons.mpr ⟨jcd_in jcw216, List.forall_mem_cons.mpr ⟨jcd_in jcw217, List.forall_mem_cons.mpr ⟨jcd_in jcw218, List.forall_mem_cons.mpr ⟨jcd_in jcw219, List.forall_mem_cons.mpr ⟨jcd_in jcw220, List.forall_mem_cons.mpr ⟨jcd_in jcw221, List.forall_mem_cons.mpr ⟨jcd_in jcw222, List.forall_mem_cons.mpr ⟨jcd_in jcw223, List.forall_mem_cons.mpr ⟨jcd_in jcw224, List.forall_mem_cons.mpr ⟨jcd_in jcw225, List.forall_mem_cons.mpr ⟨jcd_in jcw226, List.forall_mem_cons.mpr ⟨jcd_in jcw227, List.forall_mem_cons.mpr ⟨jcd_in jcw228, List.forall_mem_cons.mpr ⟨jcd_in jcw229, List.forall_mem_cons.mpr ⟨jcd_in jcw230, List.forall_mem_cons.mpr ⟨jcd_in jcw231, List.forall_mem_cons.mpr ⟨jcd_in jcw232, List.forall_mem_cons.mpr ⟨jcd_in jcw233, List.forall_mem_cons.mpr ⟨jcd_in jcw234, List.forall_mem_cons.mpr ⟨jcd_in jcw235, List.forall_mem_cons.mpr ⟨jcd_in jcw236, List.forall_mem_cons.mpr ⟨jcd_in jcw237, List.forall_mem_cons.mpr ⟨jcd_in jcw238, List.forall_mem_cons.mpr ⟨jcd_in jcw239, List.forall_mem_cons.mpr ⟨jcd_in jcw240, List.forall_mem_cons.mpr ⟨jcd_in jcw241, List.forall_mem_cons.mpr ⟨jcd_in jcw242, List.forall_mem_cons.mpr ⟨jcd_in jcw243, List.forall_mem_cons.mpr ⟨jcd_in jcw244, List.forall_mem_cons.mpr ⟨jcd_in jcw245, List.forall_mem_cons.mpr ⟨jcd_in jcw246, List.forall_mem_cons.mpr ⟨jcd_in jcw247, List.forall_mem_cons.mpr ⟨jcd_in jcw248, List.forall_mem_cons.mpr ⟨jcd_in jcw249, fun _ h => absurd h List.not_mem_nil⟩⟩⟩⟩⟩⟩⟩⟩⟩⟩⟩⟩⟩⟩⟩⟩⟩⟩⟩⟩⟩⟩⟩⟩⟩⟩⟩⟩⟩⟩⟩⟩⟩⟩⟩⟩⟩⟩⟩⟩⟩⟩⟩⟩⟩⟩⟩⟩⟩⟩
theorem jMc5 : ∀ q ∈ jML5.take 17, jMcd q := List.forall_mem_cons.mpr ⟨jcd_in jcw250, List.forall_mem_cons.mpr ⟨jcd_in jcw251, List.forall_mem_cons.mpr ⟨jcd_in jcw252, List.forall_mem_cons.mpr ⟨jcd_in jcw253, List.forall_mem_cons.mpr ⟨jcd_in jcw254, List.forall_mem_cons.mpr ⟨jcd_in jcw255, List.forall_mem_cons.mpr ⟨jcd_in jcw256, List.forall_mem_cons.mpr ⟨jcd_in jcw257, List.forall_mem_cons.mpr ⟨jcd_in jcw258, List.forall_mem_cons.mpr ⟨jcd_in jcw259, List.forall_mem_cons.mpr ⟨jcd_in jcw260, List.forall_mem_cons.mpr ⟨jcd_in jcw261, List.forall_mem_cons.mpr ⟨jcd_in jcw262, List.forall_mem_cons.mpr ⟨jcd_in jcw263, List.forall_mem_cons.mpr ⟨jcd_in jcw264, List.forall_mem_cons.mpr ⟨jcd_in jcw265, List.forall_mem_cons.mpr ⟨jcd_in jcw266, fun _ h => absurd h List.not_mem_nil⟩⟩⟩⟩⟩⟩⟩⟩⟩⟩⟩⟩⟩⟩⟩⟩⟩
def jMLt : List jMt := jML0 ++ (jML1 ++ (jML2 ++ (jML3 ++ (jML4 ++ (jML5.take 17)))))
theorem jMt_all : ∀ q ∈ jMLt, jMcd q := List.forall_mem_append.mpr ⟨jMc0, List.forall_mem_append.mpr ⟨jMc1, List.forall_mem_append.mpr ⟨jMc2, List.forall_mem_append.mpr ⟨jMc3, List.forall_mem_append.mpr ⟨jMc4, jMc5⟩⟩⟩⟩⟩
set_option maxRecDepth 100000 in
theorem jMt_eq : jMLt = jML.take jlaw := rfl
theorem jM_code {k : Nat} (h : k < jlaw) : Cond.code (jyn k) (jby k) (jmx k) (jrt k) ∈ jTb := by
  have h1 : jlaw < jML.length := by decide +kernel
  have h2 : jM k ∈ jMLt := by
    rw [jMt_eq, jM, List.getD_eq_getElem?_getD, List.getElem?_eq_getElem (by omega), Option.getD_some]
    exact List.mem_take_iff_getElem.mpr ⟨k, by omega, rfl⟩
  exact jMt_all _ h2
def jMok (k : Nat) : Bool := jwd (jM k).2.2.2.2.2.2 (.initialized (jyn k).cls) && (plainName (jyn k).cls && (decide ((jyn k).cls = jcn (jow k)) && (decide (jmx k ≤ 22) && (decide ((jyn k).cls ≠ "java/lang/invoke/MethodHandle") && decide ((jyn k).cls ≠ "java/lang/invoke/VarHandle")))))
theorem jM_ok0 : ∀ k, k < 50 → jMok (0 + k) = true := by decide +kernel
theorem jM_ok1 : ∀ k, k < 50 → jMok (50 + k) = true := by decide +kernel
theorem jM_ok2 : ∀ k, k < 50 → jMok (100 + k) = true := by decide +kernel
theorem jM_ok3 : ∀ k, k < 50 → jMok (150 + k) = true := by decide +kernel
theorem jM_ok4 : ∀ k, k < 50 → jMok (200 + k) = true := by decide +kernel
theorem jM_ok5 : ∀ k, k < 17 → jMok (250 + k) = true := by decide +kernel
theorem jM_ok {k : Nat} (h : k < jlaw) : jMok k = true := by
  have h : k < 267 := h
  rcases Nat.lt_or_ge k 50 with g | g
  · have := jM_ok0 (k - 0) (by omega)
    rwa [show 0 + (k - 0) = k by omega] at this
  rcases Nat.lt_or_ge k 100 with g | g
  · have := jM_ok1 (k - 50) (by omega)
    rwa [show 50 + (k - 50) = k by omega] at this
  rcases Nat.lt_or_ge k 150 with g | g
  · have := jM_ok2 (k - 100) (by omega)
    rwa [show 100 + (k - 100) = k by omega] at this
  rcases Nat.lt_or_ge k 200 with g | g
  · have := jM_ok3 (k - 150) (by omega)
    rwa [show 150 + (k - 150) = k by omega] at this
  rcases Nat.lt_or_ge k 250 with g | g
  · have := jM_ok4 (k - 200) (by omega)
    rwa [show 200 + (k - 200) = k by omega] at this
  · have := jM_ok5 (k - 250) (by omega)
    rwa [show 250 + (k - 250) = k by omega] at this
