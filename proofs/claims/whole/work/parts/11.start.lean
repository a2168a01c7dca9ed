def R_law : String := "FailBadgeLaw"
def lw_P (b : Addr) (xs : List Int32) (args : Array Value) (s : State) : Prop := args = #[.ref b] ∧ s.IntsAt b xs ∧ xs.length ≤ 3072 ∧ (Jvm.Cond.and given_1 narrow_1).before args s = true
def lw_Q (_ : Array Value) (s : State) (o : Outcome) (t : State) : Prop := o = .returned (some (.int 1)) ∧ Framed s o t [] room_1.cells room_1.slots
def lw_Z (below : List Frame) (a : Array Value) (s : State) : State → Prop := fun t => ∃ o, t.status = .running ∧ Ended t below o ∧ lw_Q a s o t
/-- the law's own end, with 1 on the stack, nothing written that was there before, its room as the claim has it -/
theorem lw_ret {p : Program} {l : Launch} {e : Env} {s : State} {m : MethodId} {below : List Frame} {meth : Method} {c : Code} {b : Nat} (hx : p.tables.exec = Jvm.exec) (hb : c.code = code) (hr : meth.sig.returnType = ret) (hlocks : meth.locks = false) {pc : Nat} {H : Heap} {ls : Array Slot} (hdg : decode code pc = .ok (.ireturn, 1)) : W p l e room_1 s m #[Value.ref b] below meth c H [] room_1.cells room_1.slots (lw_Z below #[Value.ref b] s) (F0 m pc ls [.int 1]) := by
  intro T hT X
  obtain ⟨fs, hret, hrun, hended, hW, hframe⟩ := X.leave (v := some (.int 1)) (hlocks := hlocks) (fun h => by rw [hr] at h; cases h)
  have hmeth' : T.vm.method? m = some meth := X.method'
  refine ⟨T.setFrames fs, ?_, .returned (some (.int 1)), hrun, hended, rfl, ⟨_, rfl⟩, hW, hframe⟩
  jvm_step X.here [X.here.top, hx, hb, hdg, hmeth', hr, ret, narrow_b1]
  (try refine ⟨rfl, ?_⟩); (try refine ⟨rfl, ?_⟩)
  first | (intro acts; rw [hret _ acts rfl rfl rfl]) | rw [hret _ _ rfl rfl rfl]
  exact Steps.refl _
/-- what holds at the law's entry: the machine, the code, the tables' words (any of lw_tbl by 'hts w (by decide +kernel)'), the script of L ints xs at the cell b, what the Statement gives of the start (any of its parts by flat_of_before) -/
def lw_At (p : Program) (s : State) (m : MethodId) (meth : Method) (c : Code) (b L : Nat) (xs : Nat → Int32) : Prop :=
  p.tables.exec = Jvm.exec ∧ c.code = code ∧ meth.sig.returnType = ret ∧ c.maxLocals = 4 ∧ s.vm.findClass R_law = some m.cls ∧ (∀ w ∈ lw_tbl, w.before #[Value.ref b] s = true) ∧ va_X b L xs s s.heap ∧ b < s.heap.size ∧ meth.locks = false ∧ (Jvm.Cond.and given_1 narrow_1).before #[Value.ref b] s = true
/-! FROM THE LAW'S ENTRY: the little machine's first heap -/
section JST
variable {s : State} {args : Array Value}
theorem jKn (hts : ∀ w ∈ jTb, w.before args s = true) : ∃ D : va_G, ∀ (c : Nat) (q : vw_C), vwCl[c]? = some q → u_Kn s q.1 q.2.1 q.2.2 (D.1 c) (D.2 c) := by
  have h : ∀ c : Nat, ∃ x : ClassId × (Nat → Nat), ∀ q : vw_C, vwCl[c]? = some q → u_Kn s q.1 q.2.1 q.2.2 x.1 x.2 := by
    intro c
    cases hc : vwCl[c]? with
    | none => exact ⟨(0, fun _ => 0), fun q hq => by cases hq⟩
    | some q =>
      have hob := job_ok c (jcl_lt hc)
      unfold jobOk at hob
      rw [hc] at hob
      obtain ⟨ho1, ho2⟩ := Bool.and_eq_true_iff.mp hob
      obtain ⟨cC, iS, hk⟩ := u_known hts (jcl_ok hc).1 (hts _ (jwd_in ho1))
      exact ⟨(cC, iS), fun q' hq' => by cases hq'; exact hk⟩
  obtain ⟨f, hf⟩ := Classical.axiomOfChoice h
  exact ⟨(fun c => (f c).1, fun c => (f c).2), fun c q hq => hf c q hq⟩
theorem jca1 {ty : FieldType} (h : (Cond.arrayClass ty).before args s = true) : ∃ c : ClassId, ArrOfT s c ty ∧ s.vm.findClass ("[" ++ ty.toString) = some c := by
  obtain ⟨cA, kA, comp, h1, h2, h3⟩ := Cond.arrayClass_spec h
  exact ⟨cA, fun n z => ⟨fun k h => (by cases h), kA, h2, comp, h3⟩, h1⟩
theorem jca2 {C : String} (h : va_AO C s) : ∃ c : ClassId, ArrOfT s c (.object C) ∧ va_RA s c (.object C) := by
  obtain ⟨comp, c, kA, f4, -, f2, f3, f1⟩ := Cond.arrayOver_spec h
  exact ⟨c, fun n z => ⟨fun k h => (by cases h), kA, f2, comp, f3⟩, kA, comp, f2, f3, f4, f1⟩
theorem jcaK (hts : ∀ w ∈ jTb, w.before args s = true) (htn : ∀ w ∈ jTn, va_Nw w s) : ∃ ca : Nat → ClassId, ∀ (k : Nat) (q : ClassId × FieldType), (jtys ca)[k]? = some q → ArrOfT s q.1 q.2 ∧ va_RA s q.1 q.2 := by
  obtain ⟨c1, a1, b1⟩ := jca1 (hts _ (jwd_in jar1))
  obtain ⟨c2, a2, b2⟩ := jca1 (hts _ (jwd_in jar2))
  obtain ⟨c3, a3, b3⟩ := jca1 (hts _ (jwd_in jar3))
  obtain ⟨c4, a4, b4⟩ := jca1 (hts _ (jwd_in jar4))
  obtain ⟨c5, a5, b5⟩ := jca2 (C := RX3) (htn _ (jwn_in jar5))
  obtain ⟨c6, a6, b6⟩ := jca2 (C := RX7) (htn _ (jwn_in jar6))
  obtain ⟨c7, a7, b7⟩ := jca2 (C := RX9) (htn _ (jwn_in jar7))
  refine ⟨fun t => match t with
    | 1 => c1
    | 2 => c2
    | 3 => c3
    | 4 => c4
    | 5 => c5
    | 6 => c6
    | _ => c7, fun k q hq => ?_⟩
  match k, hq with
  | 0, hq => cases hq; exact ⟨a1, b1⟩
  | 1, hq => cases hq; exact ⟨a2, b2⟩
  | 2, hq => cases hq; exact ⟨a3, b3⟩
  | 3, hq => cases hq; exact ⟨a4, b4⟩
  | 4, hq => cases hq; exact ⟨a5, b5⟩
  | 5, hq => cases hq; exact ⟨a6, b6⟩
  | 6, hq => cases hq; exact ⟨a7, b7⟩
  | n + 7, hq => exact absurd hq (by simp [jtys])
def jtm (i : Nat) : Term := match jSL[i]? with
  | some q => .string (jcn q.1) q.2.1
  | none => .int 0
abbrev jgv : Cond := Jvm.Cond.and given_1 narrow_1
theorem jq1 : ∀ i, i < 6 → Cond.exactly (jtm i) "java/lang/String" ∈ flatC jgv := by decide +kernel
theorem jq2 : ∀ i, i < 6 → Cond.eq (.field (jtm i) "java/lang/String" "coder" "B") (.int 0) ∈ flatC jgv := by decide +kernel
theorem jq3 : ∀ i, i < 6 → Cond.arrayOf (.field (jtm i) "java/lang/String" "value" "[B") .byte ∈ flatC jgv := by decide +kernel
theorem jq4 : ∀ i, i < 6 → Cond.eq (.length (.field (jtm i) "java/lang/String" "value" "[B")) (.int (Int32.ofNat (jtl.getD i 0))) ∈ flatC jgv := by decide +kernel
theorem jq5 : ∀ i, i < 6 → ∀ j, j < jtl.getD i 0 → Cond.eq (.elem (.field (jtm i) "java/lang/String" "value" "[B") (.int (Int32.ofNat j))) (.int ((jtb.getD i []).getD j 0)) ∈ flatC jgv := by decide +kernel
theorem jq6 : ∀ i, i < 6 → ∀ j, j < 6 → i ≠ j → Cond.not (Cond.eq (jtm i) (jtm j)) ∈ flatC jgv ∨ Cond.not (Cond.eq (jtm j) (jtm i)) ∈ flatC jgv := by decide +kernel
theorem jq7 : Cond.eq (.static "java/lang/String" "COMPACT_STRINGS" "Z") (.int 1) ∈ flatC jgv := by decide +kernel
theorem jq8 : Cond.isRef (.static "jdk/internal/util/Preconditions" "SIOOBE_FORMATTER" "Ljava/util/function/BiFunction;") ∈ flatC jgv := by decide +kernel
theorem jq9 : lw_tbl[519]? = some (.laysStatic "java/lang/String" "COMPACT_STRINGS" "Z") := by decide +kernel
theorem jq10 : lw_tbl[535]? = some (.laysStatic "jdk/internal/util/Preconditions" "SIOOBE_FORMATTER" "Ljava/util/function/BiFunction;") := by decide +kernel
theorem jq11 : jwd 116 (.initialized "java/lang/String") = true := by decide +kernel
theorem jq12 : jwd 118 (.initialized "jdk/internal/util/Preconditions") = true := by decide +kernel
def jSP : List Nat := [505, 600, 620, 634, 629, 612]
theorem jq13 : ∀ i, i < 6 → lw_tbl[jSP.getD i 0]? = some (.stringRef (jcn (jSL.getD i (0, 0, 0)).1) (jSL.getD i (0, 0, 0)).2.1 (jtx.getD i "")) := by decide +kernel
theorem jq14 : ∀ q ∈ jSL, q.2.2 < 6 ∧ jSL.getD q.2.2 (0, 0, 0) = q := by decide +kernel
theorem jq15 : ∀ i, i < 6 → jtl.getD i 0 < 2 ^ 31 := by decide +kernel
theorem jq16 : ∀ i, i < 6 → ∀ j, j < 6 → Int32.ofNat (jtl.getD i 0) = Int32.ofNat (jtl.getD j 0) → jtl.getD i 0 = jtl.getD j 0 := by decide +kernel
theorem jq17 : jrt jlaw = some .boolean := by decide +kernel
theorem jq18 : jmx jlaw = 4 := by decide +kernel
theorem jq19 : jcn (jow jlaw) = R_law := by decide +kernel
set_option maxRecDepth 100000 in
theorem jq20 : jby jlaw = code := rfl
theorem jq21 : (jyn jlaw).name ≠ "<init>" := by decide +kernel
end JST
/-- the first heap: the script, the texts, nothing else -/
def jK0 (b L : Nat) (adV : Nat → Nat) (a : Nat) : Nat × Nat := match (List.range 6).find? (fun i => adV i == a) with
  | some i => (200 + i, jtl.getD i 0)
  | none => if a = b then (8, L) else (0, 0)
def jI0 (b : Nat) (xs : Nat → Int32) (adV : Nat → Nat) (a j : Nat) : Int32 := match (List.range 6).find? (fun i => adV i == a) with
  | some i => (jtb.getD i []).getD j 0
  | none => if a = b then xs j else 0
def jR0 (adK adV : Nat → Nat) (fm : Option Nat) (a j : Nat) : Option Nat := if a = 0 then (if j < 6 then some (adK j) else if j = 6 then fm else if 10 ≤ j ∧ j < 16 then some (adV (j - 10)) else none) else none
def jh0 (b0 b L : Nat) (xs : Nat → Int32) (adK adV : Nat → Nat) (fm : Option Nat) : jH := (b0, 0, jK0 b L adV, jI0 b xs adV, fun _ _ => 0, jR0 adK adV fm)
def jInit (b0 b L : Nat) (xs : Nat → Int32) (h : jH) : Prop := (jnx h = b0 ∧ jsl h = 0 ∧ 0 < b0 ∧ b < b0) ∧ (jK h b = (8, L) ∧ jI h b = xs) ∧ (∀ a, jtr (jK h a).1 = false) ∧ ∃ tK tV : Nat → Nat, (∀ i j, i < 6 → j < 6 → tK i = tK j → i = j) ∧ ∀ i, i < 6 → jR h 0 i = some (tK i) ∧ jR h 0 (10 + i) = some (tV i) ∧ tV i < b0 ∧ (200 ≤ (jK h (tV i)).1 ∧ (jK h (tV i)).1 < 206) ∧ (jK h (tV i)).2 = jtl.getD i 0 ∧ ∀ j, j < jtl.getD i 0 → jI h (tV i) j = (jtb.getD i []).getD j 0
theorem jfnd {adV : Nat → Nat} {a i : Nat} (h : (List.range 6).find? (fun i => adV i == a) = some i) : i < 6 ∧ adV i = a := by
  have h1 := List.find?_some h
  exact ⟨List.mem_range.mp (List.mem_of_find?_eq_some h), by simpa using h1⟩
theorem jfnd_n {adV : Nat → Nat} {a i : Nat} (h : (List.range 6).find? (fun i => adV i == a) = none) (hi : i < 6) : adV i ≠ a := by
  have h1 := List.find?_eq_none.mp h i (List.mem_range.mpr hi)
  simpa using h1
theorem jfnd_i {adV : Nat → Nat} {i : Nat} (hi : i < 6) : ∃ i', (List.range 6).find? (fun j => adV j == adV i) = some i' ∧ i' < 6 ∧ adV i' = adV i := by
  cases h : (List.range 6).find? (fun j => adV j == adV i) with
  | none => exact absurd rfl (jfnd_n h hi)
  | some i' => exact ⟨i', rfl, jfnd h⟩
theorem va_T.one {t N N' : Nat} {f f' : Nat → Value} {A : Nat → Prop} {U : State} {H : Heap} (h : va_T .byte t N f A U H) (h' : va_T .byte t N' f' A U H) : Int32.ofNat N = Int32.ofNat N' ∧ ∀ j, j < N → j < N' → f j = f' j := by
  obtain ⟨cell, c1, -, -, -, c5, c6, -⟩ := h
  obtain ⟨cell', d1, -, -, -, d5, d6, -⟩ := h'
  rw [c1] at d1
  cases d1
  refine ⟨c5.symm.trans d5, fun j hj hj' => ?_⟩
  have := (c6 j hj).symm.trans (d6 j hj')
  exact Option.some.inj this
theorem va_T.notInt {t N b L : Nat} {f : Nat → Value} {xs : Nat → Int32} {A : Nat → Prop} {U : State} {H : Heap} (h : va_T .byte t N f A U H) (hX : va_X b L xs U H) : t ≠ b := by
  rintro rfl
  obtain ⟨cell, c1, c2, -⟩ := h
  obtain ⟨cell', d1, d2, -⟩ := hX
  rw [c1] at d1
  cases d1
  obtain ⟨-, k1, e1, comp1, f1⟩ := c2
  obtain ⟨-, k2, e2, comp2, f2⟩ := d2
  rw [e1] at e2
  cases e2
  rw [f1] at f2
  cases f2
set_option maxHeartbeats 4000000 in
/-- THE CLAIM OUT OF A RUN OF THE LITTLE MACHINE -/
theorem jlaw_start {p : Program} {e : Env} {s : State} {m : MethodId} {below : List Frame} {meth : Method} {c : Code} (l : Launch) {b L : Nat} {xs : Nat → Int32} (hL : L ≤ 3072) (C0 : lw_At p s m meth c b L xs)
    (hp : ∀ (b0 b L : Nat) (xs : Nat → Int32) (h : jH), L ≤ 3072 → jInit b0 b L xs h → ∃ (n : Nat) (h' : jH), jgo (jrun 2047 n) jlaw n 0 [some (.ref b), none, none, none] [] h = some (some (.int 1), h') ∧ jnx h' ≤ b0 + 500000 ∧ jsl h' ≤ 6000000) : W p l e room_1 s m #[Value.ref b] below meth c s.heap [] 0 0 (lw_Z below #[Value.ref b] s) (entryFrame m ([Value.ref b] : List Value).toArray 4) := by
  obtain ⟨hx, hb, hr, hml, hown, hts0, hX, hbl, hlk, hgv⟩ := C0
  have hfl := flat_of_before _ hgv
  have hA : ∀ a : Nat, a < s.heap.size → ¬ s.heap.size ≤ a := fun a ha => by omega
  have hts : ∀ w ∈ jTb, w.before #[Value.ref b] s = true := fun w hw => hts0 w (jTb_in hw)
  have htn : ∀ w ∈ jTn, va_Nw w s := by
    intro w hw
    obtain ⟨h1, h2⟩ := List.mem_filter.mp hw
    have h3 := hts0 w h1
    unfold jnest at h2
    split at h2
    · exact va_Nw.of rfl h3
    · exact va_Nw.of rfl h3
    · exact va_Nw.of rfl h3
    · exact va_AO.of h3
    · cases h2
  obtain ⟨adK, adV, hS6, hev⟩ := vk_Sof (args := #[Value.ref b]) (s := s) (N := 6) (tm := jtm) (len := jtl) (byt := jtb) (A := fun q => s.heap.size ≤ q) jq15 (fun i hi => hfl _ (jq1 i hi)) (fun i hi => hfl _ (jq2 i hi)) (fun i hi => hfl _ (jq3 i hi)) (fun i hi => hfl _ (jq4 i hi)) (fun i hi j hj => hfl _ (jq5 i hi j hj)) (fun i j hi hj hne => (jq6 i hi j hj hne).imp (hfl _) (hfl _)) hA
  have hZ1 : va_Z "java/lang/String" "COMPACT_STRINGS" "Z" (.int 1) (fun q => s.heap.size ≤ q) s s.heap := va_Zof (hts0 _ (List.mem_of_getElem? jq9)) (hts _ (jwd_in jq11)) (va_eqi (hfl _ jq7)) hA
  have hZq : va_Zq "jdk/internal/util/Preconditions" "SIOOBE_FORMATTER" "Ljava/util/function/BiFunction;" (fun q => s.heap.size ≤ q) s s.heap := va_Zqof (hts0 _ (List.mem_of_getElem? jq10)) (hts _ (jwd_in jq12)) (hfl _ jq8) hA
  obtain ⟨fm, hZ2⟩ : ∃ fm : Option Nat, va_Z "jdk/internal/util/Preconditions" "SIOOBE_FORMATTER" "Ljava/util/function/BiFunction;" (va_rf fm) (fun q => s.heap.size ≤ q) s s.heap := by
    rcases hZq with hz | ⟨t, hz⟩
    · exact ⟨none, hz⟩
    · exact ⟨some t, hz⟩
  obtain ⟨D, hD⟩ := jKn hts
  obtain ⟨ca, hca⟩ := jcaK hts htn
  have hK : va_K D vwCl (jtys ca) s := ⟨hD, hca⟩
  have hnb : ∀ i, i < 6 → adV i ≠ b := fun i hi => (hS6.1 i hi).2.2.2.notInt hX
  have hKb : jK0 b L adV b = (8, L) := by
    unfold jK0
    split
    · next i hi => exact absurd (jfnd hi).2 (hnb i (jfnd hi).1)
    · rw [if_pos rfl]
  have hIb : jI0 b xs adV b = xs := by
    funext j
    unfold jI0
    split
    · next i hi => exact absurd (jfnd hi).2 (hnb i (jfnd hi).1)
    · rw [if_pos rfl]
  have htr : ∀ a, jtr (jK0 b L adV a).1 = false := by
    intro a
    unfold jK0
    split
    · next i hi =>
      have := (jfnd hi).1
      show jtr (200 + i) = false
      simp [jtr]
      omega
    · split <;> rfl
  have h8 : ∀ a n, jK0 b L adV a = (8, n) → a = b ∧ n = L := by
    intro a n ha
    unfold jK0 at ha
    split at ha
    · next i hi =>
      have h9 := congrArg Prod.fst ha
      have h9 : 200 + i = 8 := h9
      omega
    · split at ha
      · next hab => exact ⟨hab, (congrArg Prod.snd ha).symm⟩
      · cases ha
  have h200 : ∀ a i, (jK0 b L adV a).1 = 200 + i → i < 6 → a = adV i ∧ (jK0 b L adV a).2 = jtl.getD i 0 ∧ ∀ j, j < jtl.getD i 0 → jI0 b xs adV a j = (jtb.getD i []).getD j 0 := by
    intro a i ha hi
    unfold jK0 at ha
    unfold jK0 jI0
    split at ha
    · next i' hi' =>
      have ha : 200 + i' = 200 + i := ha
      have e : i' = i := by omega
      subst e
      refine ⟨(jfnd hi').2.symm, ?_, fun j _ => ?_⟩
      · rfl
      · rfl
    · split at ha
      · have ha : 8 = 200 + i := ha
        omega
      · have ha : 0 = 200 + i := ha
        omega
  have hV : ∀ i, i < 6 → adV i < s.heap.size := fun i hi => by
    have := (hS6.1 i hi).2.2.2.out
    omega
  have hinit : jInit s.heap.size b L xs (jh0 s.heap.size b L xs adK adV fm) := by
    refine ⟨⟨rfl, rfl, by omega, hbl⟩, ⟨hKb, hIb⟩, htr, adK, adV, fun i j hi hj => hS6.2 i j hi hj, fun i hi => ?_⟩
    obtain ⟨i', f1, f2, f3⟩ := jfnd_i (adV := adV) hi
    have e1 : jK (jh0 s.heap.size b L xs adK adV fm) (adV i) = (200 + i', jtl.getD i' 0) := by
      show jK0 b L adV (adV i) = _
      unfold jK0
      rw [f1]
    have e2 : ∀ j, jI (jh0 s.heap.size b L xs adK adV fm) (adV i) j = (jtb.getD i' []).getD j 0 := by
      intro j
      show jI0 b xs adV (adV i) j = _
      unfold jI0
      rw [f1]
    have t1 := (hS6.1 i hi).2.2.2
    have t2 := (hS6.1 i' f2).2.2.2
    rw [f3] at t2
    obtain ⟨g1, g2⟩ := t1.one t2
    have g3 := jq16 i hi i' f2 g1
    refine ⟨?_, ?_, hV i hi, ?_, ?_, fun j hj => ?_⟩
    · show jR0 adK adV fm 0 i = _
      unfold jR0
      rw [if_pos rfl, if_pos hi]
    · show jR0 adK adV fm 0 (10 + i) = _
      unfold jR0
      rw [if_pos rfl, if_neg (by omega), if_neg (by omega), if_pos (by omega), show 10 + i - 10 = i by omega]
    · rw [e1]
      show 200 ≤ 200 + i' ∧ 200 + i' < 206
      omega
    · rw [e1]
      exact g3.symm
    · rw [e2]
      exact (Value.int.inj (g2 j hj (by rw [← g3]; exact hj))).symm
  obtain ⟨n, h', hgo, hc1', hc2'⟩ := hp s.heap.size b L xs _ hL hinit
  have hc1 : jnx h' ≤ s.heap.size + room_1.cells := Nat.le_trans hc1' (Nat.add_le_add_left (Nat.le_of_ble_eq_true rfl) _)
  have hc2 : jsl h' ≤ room_1.slots := Nat.le_trans hc2' (Nat.le_of_ble_eq_true rfl)
  have hrel : jRel D ca s.heap.size (jh0 s.heap.size b L xs adK adV fm) s.heap := ⟨rfl, Nat.le_refl _, fun a h1 h2 => by
    have h2 : a < s.heap.size := h2
    omega, fun a ha => by
    have := htr a
    rw [show jtr (jK0 b L adV a).1 = true from ha] at this
    cases this⟩
  have hold : jOld s.heap.size s (jh0 s.heap.size b L xs adK adV fm) := by
    refine ⟨by omega, adK, adV, hS6, fun q hq => ?_, hZ1, ?_, fun i hi => ?_, h200⟩
    · obtain ⟨q6, qe⟩ := jq14 q hq
      refine ⟨q6, ?_⟩
      have w1 := hts0 _ (List.mem_of_getElem? (jq13 q.2.2 q6))
      have w2 := hev q.2.2 q6
      have w3 : jtm q.2.2 = .string (jcn q.1) q.2.1 := by
        unfold jtm
        rw [← qe]
        generalize q.2.2 = i at q6
        match i, q6 with
        | 0, _ => rfl
        | 1, _ => rfl
        | 2, _ => rfl
        | 3, _ => rfl
        | 4, _ => rfl
        | 5, _ => rfl
      rw [qe] at w1
      rw [w3] at w2
      exact vk_R.of w1 w2
    · show va_Z _ _ _ (va_rf (jR0 adK adV fm 0 6)) _ _ _
      have : jR0 adK adV fm 0 6 = fm := by
        unfold jR0
        rw [if_pos rfl, if_neg (by omega), if_pos rfl]
      rw [this]
      exact hZ2
    · refine ⟨?_, ?_⟩
      · show jR0 adK adV fm 0 i = _
        unfold jR0
        rw [if_pos rfl, if_pos hi]
      · show jR0 adK adV fm 0 (10 + i) = _
        unfold jR0
        rw [if_pos rfl, if_neg (by omega), if_neg (by omega), if_pos (by omega), show 10 + i - 10 = i by omega]
  have hscr : jScr s.heap.size jlaw s (jh0 s.heap.size b L xs adK adV fm) := by
    refine ⟨fun _ a n ha => ?_, hold⟩
    obtain ⟨rfl, rfl⟩ := h8 a n ha
    refine ⟨hbl, ?_⟩
    show va_X a n (jI0 a xs adV a) s s.heap
    rw [hIb]
    exact hX
  have F : jFx D ca s.heap.size p room_1 s m #[Value.ref b] meth c jlaw := ⟨⟨hx, by rw [jq20]; exact hb, by rw [jq18]; exact hml⟩, by rw [jq19]; exact hown, hts, htn, hK, ⟨Nat.le_of_ble_eq_true rfl, Nat.le_of_ble_eq_true rfl⟩, Nat.le_refl _, hlk, by rw [jq17]; exact hr, fun e9 => absurd e9 jq21⟩
  rw [lg_entry_eq]
  have hent : jent 4 [Value.ref b] = [some (.ref b), none, none, none] := rfl
  have hhas := jent_has (n := 4) (vs := [Value.ref b]) (Nat.le_of_ble_eq_true rfl)
  rw [hent] at hhas
  refine jgo_sim (sl0 := 0) F (d := 2047) ⟨Nat.le_of_ble_eq_true rfl, Nat.le_of_ble_eq_true rfl⟩ (fun k' as h1 r h2 q => jrun_sim l 2047 n k' as h1 r h2 q) (r := some (.int 1)) (h' := h') ⟨hc1, by rw [Nat.zero_add]; exact hc2⟩ ?_ n 0 _ [] _ _ _ _ _ _ hgo hrel va_S.rf hscr (by rw [jq18]; rfl) hhas rfl rfl
  intro pc i len ls1 st H1 locs1 cells1 slots1 hd hq hrel1 hS hcc hss
  rw [jq20] at hd
  unfold jret at hq
  rw [jq17] at hq
  split at hq
  · next hj => cases hj
  · split at hq
    · cases hq
      refine va_forget hS.2.2 (W.widen (k := room_1.cells) (n := room_1.slots) (by omega) (by omega) ?_)
      exact lw_ret hx hb hr hlk hd
    · cases hq
  · next hj => cases hj
  · next hj => cases hj
  · next hj => cases hj
  · next hj => cases hj
  · next hj => cases hj
  · next hj => cases hj
  · next hj => cases hj
  · cases hq
