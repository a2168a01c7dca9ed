/-! WHAT THE LITTLE MACHINE DOES, THE MACHINE DOES: stack, locals, branches -/
def jal (lv : List (Option Value)) : List (Nat × Value) := (List.range lv.length).filterMap (fun i => (lv.getD i none).map (fun v => (i, v)))
theorem jal_mem {lv : List (Option Value)} {i : Nat} {v : Value} : (i, v) ∈ jal lv ↔ lv.getD i none = some v := by
  unfold jal
  simp only [List.mem_filterMap, List.mem_range, Option.map_eq_some_iff, Prod.mk.injEq]
  constructor
  · rintro ⟨j, hj, w, hw, rfl, rfl⟩
    exact hw
  · intro h
    refine ⟨i, ?_, v, h, rfl, rfl⟩
    rcases Nat.lt_or_ge i lv.length with hl | hl
    · exact hl
    · rw [List.getD_eq_getElem?_getD, List.getElem?_eq_none hl] at h
      cases h
theorem jal_at {ls : Array Slot} {n : Nat} {lv : List (Option Value)} (h : lv_has ls n (jal lv)) {i : Nat} {v : Value} (hv : lv.getD i none = some v) : ls[i]? = some (.val v) := h.2.2 (i, v) (jal_mem.mpr hv)
theorem jal_to {ls : Array Slot} {n : Nat} {lv : List (Option Value)} {big : List (Nat × Value)} (h : lv_has ls n big) (hs : ∀ i v, lv.getD i none = some v → (i, v) ∈ big) : lv_has ls n (jal lv) := ⟨h.1, h.2.1, fun q hq => h.2.2 q (hs q.1 q.2 (jal_mem.mp hq))⟩
theorem jgetD_set {lv : List (Option Value)} {i j : Nat} {x : Option Value} : (lv.set i x).getD j none = if j = i ∧ i < lv.length then x else lv.getD j none := by
  simp only [List.getD_eq_getElem?_getD, List.getElem?_set]
  by_cases h : i = j
  · subst h
    by_cases hl : i < lv.length
    · simp [hl]
    · simp [hl]
  · simp [h, Ne.symm h]
theorem jcl1_some {o : Option Value} {v : Value} (h : jcl1 o = some v) : o = some v ∧ v.category = 1 := by
  unfold jcl1 at h
  split at h
  · cases h
  · cases h
  · next h1 h2 =>
    subst h
    refine ⟨rfl, ?_⟩
    cases v <;> first | rfl | exact absurd rfl (h1 _) | exact absurd rfl (h2 _)
theorem jclr_get {lv : List (Option Value)} {i j : Nat} {v : Value} (h : (jclr lv i).getD j none = some v) : lv.getD j none = some v ∧ ¬ (j + 1 = i ∧ v.category = 2) := by
  cases i with
  | zero => exact ⟨h, fun q => by omega⟩
  | succ i =>
    unfold jclr at h
    simp only [jgetD_set] at h
    split at h
    · next g =>
      obtain ⟨h1, h2⟩ := jcl1_some h
      rw [g.1]
      exact ⟨h1, fun q => by rw [h2] at q; omega⟩
    · next g =>
      refine ⟨h, fun q => g ⟨by omega, ?_⟩⟩
      have : j = i := by omega
      subst this
      rcases Nat.lt_or_ge j lv.length with hl | hl
      · exact hl
      · rw [List.getD_eq_getElem?_getD, List.getElem?_eq_none hl] at h
        cases h
theorem jclr_len (lv : List (Option Value)) (i : Nat) : (jclr lv i).length = lv.length := by
  cases i <;> simp [jclr]
theorem jst1_spec {lv lv' : List (Option Value)} {i : Nat} {v : Value} (h : jst1 lv i v = some lv') : i < lv.length ∧ lv'.length = lv.length ∧ ∀ j w, lv'.getD j none = some w → (j, w) ∈ (i, v) :: (jal lv).filter (fun q => !(q.1 == i) && !(q.1 + 1 == i && q.2.category == 2)) := by
  unfold jst1 at h
  split at h
  · next hi =>
    cases h
    refine ⟨hi, by simp [jclr_len], fun j w hw => ?_⟩
    rw [jgetD_set] at hw
    split at hw
    · next g =>
      cases hw
      rw [g.1]
      exact List.mem_cons_self
    · next g =>
      have hj : j ≠ i := fun q => g ⟨q, by rw [jclr_len]; exact hi⟩
      obtain ⟨h1, h2⟩ := jclr_get hw
      refine List.mem_cons_of_mem _ (List.mem_filter.mpr ⟨jal_mem.mpr h1, ?_⟩)
      simp [hj]
      exact Classical.not_and_iff_not_or_not.mp h2
  · cases h
theorem jst2_spec {lv lv' : List (Option Value)} {i : Nat} {v : Value} (h : jst2 lv i v = some lv') : i + 1 < lv.length ∧ lv'.length = lv.length ∧ ∀ j w, lv'.getD j none = some w → (j, w) ∈ (i, v) :: (jal lv).filter (fun q => !(q.1 == i) && (!(q.1 == i + 1) && !(q.1 + 1 == i && q.2.category == 2))) := by
  unfold jst2 at h
  split at h
  · next hi =>
    cases h
    refine ⟨hi, by simp [jclr_len], fun j w hw => ?_⟩
    rw [jgetD_set] at hw
    split at hw
    · cases hw
    · next g0 =>
      have hj0 : j ≠ i + 1 := fun q => g0 ⟨q, by simpa [jclr_len] using hi⟩
      rw [jgetD_set] at hw
      split at hw
      · next g =>
        cases hw
        rw [g.1]
        exact List.mem_cons_self
      · next g =>
        have hj : j ≠ i := fun q => g ⟨q, by rw [jclr_len]; omega⟩
        obtain ⟨h1, h2⟩ := jclr_get hw
        refine List.mem_cons_of_mem _ (List.mem_filter.mpr ⟨jal_mem.mpr h1, ?_⟩)
        simp [hj, hj0]
        exact Classical.not_and_iff_not_or_not.mp h2
  · cases h
theorem jtg_spec {pc t : Nat} {off : Int} (h : jtg pc off = some t) : (pc : Int) + off = (t : Int) := by
  unfold jtg at h
  split at h
  · next g =>
    cases h
    omega
  · cases h
section JS1
variable {p : Program} {l : Launch} {e : Env} {R : Room} {s : State} {m : MethodId} {args : Array Value} {below : List Frame} {meth : Method} {c : Code} {H : Heap} {locs : List Loc} {cells slots : Nat} {Q : State → Prop}
variable {cc : ByteArray} {pc : Nat} {ls : Array Slot}
set_option maxHeartbeats 4000000 in
theorem jalu_sim (hx : p.tables.exec = Jvm.exec) (hb : c.code = cc) {i : Jvm.ClassFile.Instr} {st st' : List Value} (hd : decode cc pc = .ok (i, jalen i)) (h : jalu i st = some st')
    (kk : W p l e R s m args below meth c H locs cells slots Q (F0 m (pc + jalen i) ls st')) : W p l e R s m args below meth c H locs cells slots Q (F0 m pc ls st) := by
  unfold jalu at h
  split at h
  · cases h; exact lv_iconst hx hb hd rfl kk
  · cases h; exact lv_bipush hx hb hd rfl kk
  · cases h; exact lv_sipush hx hb hd rfl kk
  · cases h; exact lv_lconst hx hb hd rfl kk
  · cases h; exact lv_null hx hb hd kk
  · cases h; exact lv_iadd hx hb hd kk
  · cases h; exact lv_isub hx hb hd kk
  · cases h; exact lv_imul hx hb hd kk
  · cases h; exact lv_iand hx hb hd kk
  · cases h; exact lv_ior hx hb hd kk
  · cases h; exact lv_ixor hx hb hd kk
  · cases h; exact lv_ishl hx hb hd kk
  · cases h; exact lv_ishr hx hb hd kk
  · cases h; exact lv_iushr hx hb hd rfl kk
  · split at h
    · cases h
    · next g => cases h; exact lv_idiv hx hb hd g kk
  · split at h
    · cases h
    · next g => cases h; exact lv_irem hx hb hd g kk
  · cases h; exact lv_ladd hx hb hd kk
  · cases h; exact lv_lsub hx hb hd kk
  · cases h; exact lv_lmul hx hb hd kk
  · cases h; exact lv_land hx hb hd kk
  · cases h; exact lv_lor hx hb hd kk
  · split at h
    · cases h
    · next g => cases h; exact lv_ldiv hx hb hd g kk
  · split at h
    · cases h
    · next g => cases h; exact lv_lrem hx hb hd g kk
  · cases h; exact lv_lshl hx hb hd rfl kk
  · cases h; exact W.lcmp hx hb hd kk
  · cases h; exact lv_i2l hx hb hd rfl kk
  · cases h; exact lv_l2i hx hb hd rfl kk
  · cases h; exact lv_i2c hx hb hd rfl kk
  · cases h; exact lv_i2b hx hb hd rfl kk
  · split at h
    · next g => cases h; exact lv_dup hx hb hd g kk
    · cases h
  · split at h
    · next g => cases h; exact lv_pop hx hb hd g kk
    · cases h
  · split at h
    · next g => cases h; exact lv_dup2_11 hx hb hd g.1 g.2 kk
    · cases h
  · cases h
theorem jfind2 {α : Type} {f : α → Nat} {g : α → Nat} {L : List α} {o x : Nat} {q : α} (h : L.find? (fun q => f q == o && g q == x) = some q) : q ∈ L ∧ f q = o ∧ g q = x := by
  have h1 := List.find?_some h
  simp only [Bool.and_eq_true, beq_iff_eq] at h1
  exact ⟨List.mem_of_find?_eq_some h, h1.1, h1.2⟩
theorem jldc_sim (hx : p.tables.exec = Jvm.exec) (hb : c.code = cc) {o : Nat} (hown : s.vm.findClass (jcn o) = some m.cls) (hts : ∀ w ∈ jTb, w.before args s = true) {i : Jvm.ClassFile.Instr} {len : Nat} {st : List Value} {v : Value} (hd : decode cc pc = .ok (i, len)) (h : jldc o i len = some v)
    (kk : W p l e R s m args below meth c H locs cells slots Q (F0 m (pc + len) ls (v :: st))) : W p l e R s m args below meth c H locs cells slots Q (F0 m pc ls st) := by
  unfold jldc at h
  split at h
  · obtain ⟨q, hq, rfl⟩ := Option.map_eq_some_iff.mp h
    obtain ⟨h1, h2, h3⟩ := jfind2 hq
    have hw := hts _ (jwd_in (jKI_ok q h1))
    rw [h2, h3] at hw
    exact lv_ldc hx hb hown hw hd kk
  · obtain ⟨q, hq, rfl⟩ := Option.map_eq_some_iff.mp h
    obtain ⟨h1, h2, h3⟩ := jfind2 hq
    have hw := hts _ (jwd_in (jKI_ok q h1))
    rw [h2, h3] at hw
    exact lv_ldcw hx hb hown hw hd kk
  · obtain ⟨q, hq, rfl⟩ := Option.map_eq_some_iff.mp h
    obtain ⟨h1, h2, h3⟩ := jfind2 hq
    have hw := hts _ (jwd_in (jKJ_ok q h1))
    rw [h2, h3] at hw
    exact lv_ldc2 hx hb hown hw hd kk
  · cases h
theorem jlod_sim (hx : p.tables.exec = Jvm.exec) (hb : c.code = cc) {nL : Nat} {lv : List (Option Value)} (hl : lv_has ls nL (jal lv)) {i : Jvm.ClassFile.Instr} {len : Nat} {st : List Value} {v : Value} (hd : decode cc pc = .ok (i, len)) (h : jlod i len lv = some v)
    (kk : W p l e R s m args below meth c H locs cells slots Q (F0 m (pc + len) ls (v :: st))) : W p l e R s m args below meth c H locs cells slots Q (F0 m pc ls st) := by
  unfold jlod at h
  split at h
  · split at h
    · next g => cases h; exact lv_iload hx hb hd (jal_at hl g) kk
    · cases h
  · split at h
    · next g => cases h; exact lv_iload_n hx hb hd rfl (jal_at hl g) kk
    · cases h
  · split at h
    · next g => cases h; exact lv_lload hx hb hd (jal_at hl g) kk
    · cases h
  · split at h
    · next g => cases h; exact lv_lload_n hx hb hd rfl (jal_at hl g) kk
    · cases h
  · split at h
    · next g => cases h; exact lv_aload hx hb hd (jal_at hl g) kk
    · next g => cases h; exact lv_aloadN hx hb hd (jal_at hl g) kk
    · cases h
  · split at h
    · next g => cases h; exact lv_aload_n hx hb hd rfl (jal_at hl g) kk
    · next g => cases h; exact lv_aload_nN hx hb hd rfl (jal_at hl g) kk
    · cases h
  · cases h
theorem jsto_sim (hx : p.tables.exec = Jvm.exec) (hb : c.code = cc) {lv lv' : List (Option Value)} (hl : lv_has ls lv.length (jal lv)) {i : Jvm.ClassFile.Instr} {len : Nat} {st st' : List Value} (hd : decode cc pc = .ok (i, len)) (h : jsto i len lv st = some (lv', st'))
    (kk : lv'.length = lv.length → ∀ ls' : Array Slot, lv_has ls' lv'.length (jal lv') → W p l e R s m args below meth c H locs cells slots Q (F0 m (pc + len) ls' st')) : W p l e R s m args below meth c H locs cells slots Q (F0 m pc ls st) := by
  unfold jsto at h
  split at h
  · obtain ⟨q, hq, e⟩ := Option.map_eq_some_iff.mp h
    cases e
    obtain ⟨h1, h2, h3⟩ := jst1_spec hq
    exact lv_istore hx hb hd hl h1 rfl (fun ls' g => kk h2 ls' (h2 ▸ jal_to g h3))
  · obtain ⟨q, hq, e⟩ := Option.map_eq_some_iff.mp h
    cases e
    obtain ⟨h1, h2, h3⟩ := jst1_spec hq
    exact lv_istore_n hx hb hd rfl hl h1 rfl (fun ls' g => kk h2 ls' (h2 ▸ jal_to g h3))
  · obtain ⟨q, hq, e⟩ := Option.map_eq_some_iff.mp h
    cases e
    obtain ⟨h1, h2, h3⟩ := jst2_spec hq
    exact lv_lstore hx hb hd hl h1 rfl (fun ls' g => kk h2 ls' (h2 ▸ jal_to g h3))
  · obtain ⟨q, hq, e⟩ := Option.map_eq_some_iff.mp h
    cases e
    obtain ⟨h1, h2, h3⟩ := jst2_spec hq
    exact lv_lstore_n hx hb hd rfl hl h1 rfl (fun ls' g => kk h2 ls' (h2 ▸ jal_to g h3))
  · obtain ⟨q, hq, e⟩ := Option.map_eq_some_iff.mp h
    cases e
    obtain ⟨h1, h2, h3⟩ := jst1_spec hq
    exact lv_astore hx hb hd hl h1 rfl (fun ls' g => kk h2 ls' (h2 ▸ jal_to g h3))
  · obtain ⟨q, hq, e⟩ := Option.map_eq_some_iff.mp h
    cases e
    obtain ⟨h1, h2, h3⟩ := jst1_spec hq
    exact lv_astore_n hx hb hd rfl hl h1 rfl (fun ls' g => kk h2 ls' (h2 ▸ jal_to g h3))
  · obtain ⟨q, hq, e⟩ := Option.map_eq_some_iff.mp h
    cases e
    obtain ⟨h1, h2, h3⟩ := jst1_spec hq
    exact lv_astoreN hx hb hd hl h1 rfl (fun ls' g => kk h2 ls' (h2 ▸ jal_to g h3))
  · obtain ⟨q, hq, e⟩ := Option.map_eq_some_iff.mp h
    cases e
    obtain ⟨h1, h2, h3⟩ := jst1_spec hq
    exact lv_astore_nN hx hb hd rfl hl h1 rfl (fun ls' g => kk h2 ls' (h2 ▸ jal_to g h3))
  · split at h
    · next g0 =>
      obtain ⟨q, hq, e⟩ := Option.map_eq_some_iff.mp h
      cases e
      obtain ⟨h1, h2, h3⟩ := jst1_spec hq
      obtain ⟨k, hk⟩ := List.mem_iff_getElem?.mp (jal_mem.mpr g0)
      exact lv_iinc hx hb hd hl hk rfl h1 rfl (fun ls' g => kk h2 ls' (h2 ▸ jal_to g h3))
    · cases h
  · cases h
set_option maxHeartbeats 4000000 in
theorem jbr_sim (hx : p.tables.exec = Jvm.exec) (hb : c.code = cc) {i : Jvm.ClassFile.Instr} {len t : Nat} {st st' : List Value} (hd : decode cc pc = .ok (i, len)) (h : jbr pc i len st = some (t, st'))
    (kk : W p l e R s m args below meth c H locs cells slots Q (F0 m t ls st')) : W p l e R s m args below meth c H locs cells slots Q (F0 m pc ls st) := by
  unfold jbr at h
  split at h
  · split at h
    · next g =>
      subst g
      obtain ⟨t', ht, e⟩ := Option.map_eq_some_iff.mp h
      cases e
      exact lv_goto hx hb hd (jtg_spec ht) kk
    · cases h
  · next c0 off x r =>
    split at h
    · next g =>
      subst g
      obtain ⟨t', ht, e⟩ := Option.map_eq_some_iff.mp h
      cases e
      cases c0
      · exact lv_if_eq hx hb hd (jtg_spec ht) (fun z => by rw [if_pos (by simpa [jcmp] using z)] at kk; exact kk) (fun z => by rw [if_neg (by simpa [jcmp] using z)] at kk; exact kk)
      · exact lv_if_ne hx hb hd (jtg_spec ht) (fun z => by rw [if_pos (by simpa [jcmp] using z)] at kk; exact kk) (fun z => by rw [if_neg (by simpa [jcmp] using z)] at kk; exact kk)
      · exact lv_if_lt hx hb hd (jtg_spec ht) (fun z => by rw [if_pos (by simpa [jcmp] using z)] at kk; exact kk) (fun z => by rw [if_neg (by simpa [jcmp] using z)] at kk; exact kk)
      · exact lv_if_ge hx hb hd (jtg_spec ht) (fun z => by rw [if_pos (by simpa [jcmp] using z)] at kk; exact kk) (fun z => by rw [if_neg (by simpa [jcmp] using z)] at kk; exact kk)
      · exact lv_if_gt hx hb hd (jtg_spec ht) (fun z => by rw [if_pos (by simpa [jcmp] using z)] at kk; exact kk) (fun z => by rw [if_neg (by simpa [jcmp] using z)] at kk; exact kk)
      · exact lv_if_le hx hb hd (jtg_spec ht) (fun z => by rw [if_pos (by simpa [jcmp] using z)] at kk; exact kk) (fun z => by rw [if_neg (by simpa [jcmp] using z)] at kk; exact kk)
    · cases h
  · next c0 off y x r =>
    split at h
    · next g =>
      subst g
      obtain ⟨t', ht, e⟩ := Option.map_eq_some_iff.mp h
      cases e
      cases c0
      · exact lv_icmp_eq hx hb hd (jtg_spec ht) (fun z => by rw [if_pos (by simpa [jcmp] using z)] at kk; exact kk) (fun z => by rw [if_neg (by simpa [jcmp] using z)] at kk; exact kk)
      · exact lv_icmp_ne hx hb hd (jtg_spec ht) (fun z => by rw [if_pos (by simpa [jcmp] using z)] at kk; exact kk) (fun z => by rw [if_neg (by simpa [jcmp] using z)] at kk; exact kk)
      · exact lv_icmp_lt hx hb hd (jtg_spec ht) (fun z => by rw [if_pos (by simpa [jcmp] using z)] at kk; exact kk) (fun z => by rw [if_neg (by simpa [jcmp] using z)] at kk; exact kk)
      · exact lv_icmp_ge hx hb hd (jtg_spec ht) (fun z => by rw [if_pos (by simpa [jcmp] using z)] at kk; exact kk) (fun z => by rw [if_neg (by simpa [jcmp] using z)] at kk; exact kk)
      · exact lv_icmp_gt hx hb hd (jtg_spec ht) (fun z => by rw [if_pos (by simpa [jcmp] using z)] at kk; exact kk) (fun z => by rw [if_neg (by simpa [jcmp] using z)] at kk; exact kk)
      · exact lv_icmp_le hx hb hd (jtg_spec ht) (fun z => by rw [if_pos (by simpa [jcmp] using z)] at kk; exact kk) (fun z => by rw [if_neg (by simpa [jcmp] using z)] at kk; exact kk)
    · cases h
  · split at h
    · next g =>
      subst g
      obtain ⟨t', ht, e⟩ := Option.map_eq_some_iff.mp h
      cases e
      exact lv_ifnullN hx hb hd (jtg_spec ht) kk
    · cases h
  · split at h
    · next g =>
      subst g
      cases h
      exact lv_ifnull hx hb hd kk
    · cases h
  · split at h
    · next g =>
      subst g
      cases h
      exact lv_ifnonnullN hx hb hd kk
    · cases h
  · split at h
    · next g =>
      subst g
      obtain ⟨t', ht, e⟩ := Option.map_eq_some_iff.mp h
      cases e
      exact lv_ifnonnull hx hb hd (jtg_spec ht) kk
    · cases h
  · split at h
    · next g =>
      obtain ⟨t', ht, e⟩ := Option.map_eq_some_iff.mp h
      cases e
      exact lv_tableOut hx hb hd g (jtg_spec ht) kk
    · next g =>
      split at h
      · next off ho =>
        obtain ⟨t', ht, e⟩ := Option.map_eq_some_iff.mp h
        cases e
        exact lv_tableIn hx hb hd (fun z => g (Or.inl z)) (fun z => g (Or.inr z)) ho (jtg_spec ht) kk
      · cases h
  · split at h
    · next g =>
      obtain ⟨t', ht, e⟩ := Option.map_eq_some_iff.mp h
      cases e
      exact lv_lookup hx hb hd g rfl (jtg_spec ht) kk
    · cases h
  · cases h
end JS1
