/-! ONE STEP, THEN MANY: what the little machine does from a point on, the machine does -/
/-- what goes on: rows and kinds stay, new cells have kinds of their own -/
def jmono (h h1 : jH) : Prop := (jnx h ≤ jnx h1 ∧ jsl h ≤ jsl h1) ∧ (∀ a, a < jnx h → jK h1 a = jK h a ∧ (jtr (jK h a).1 = false → jI h1 a = jI h a ∧ jR h1 a = jR h a)) ∧ ∀ a, jK h1 a = jK h a ∨ jtr (jK h1 a).1 = true
theorem jwt_I {k : Nat} {i : Jvm.ClassFile.Instr} {st st' : List Value} {h h1 : jH} (hr : jwt k i st h = some (st', h1)) : jmono h h1 := by
  have hw : ∀ (a j : Nat) (v : Int32), jtr (jK h a).1 = true → jmono h (jwI h a j v) := by
    intro a j v ha
    refine ⟨⟨Nat.le_refl _, Nat.le_refl _⟩, fun b _ => ⟨rfl, fun hf => ⟨jup_ne (fun e => ?_), rfl⟩⟩, fun b => Or.inl rfl⟩
    rw [e, ha] at hf
    cases hf
  have hwR : ∀ (a j : Nat) (v : Option Nat), jtr (jK h a).1 = true → jmono h (jwR h a j v) := by
    intro a j v ha
    refine ⟨⟨Nat.le_refl _, Nat.le_refl _⟩, fun b _ => ⟨rfl, fun hf => ⟨rfl, jup_ne (fun e => ?_)⟩⟩, fun b => Or.inl rfl⟩
    rw [e, ha] at hf
    cases hf
  have hn : ∀ (kd n : Nat), jtr kd = true → jmono h (jnew h kd n) := fun kd n hkd => ⟨⟨Nat.le_add_right _ _, Nat.le_add_right _ _⟩, fun b hb => ⟨jur_ne (Nat.ne_of_lt hb), fun _ => ⟨jur_ne (Nat.ne_of_lt hb), jur_ne (Nat.ne_of_lt hb)⟩⟩, fun b => by
    by_cases hb : b = jnx h
    · subst hb; right; rw [jK_new]; exact hkd
    · left; exact jur_ne hb⟩
  unfold jwt at hr
  split at hr
  · split at hr
    · next q hq =>
      split at hr
      · next hk =>
        obtain ⟨h2, hpf, e9⟩ := Option.map_eq_some_iff.mp hr
        cases e9
        obtain ⟨g1, g2, g3⟩ := jfind2 hq
        obtain ⟨r0, hc, -⟩ := jF_spec g1
        obtain ⟨p1, p2, p3, -, -, -, -, p8⟩ := jpf_spec hpf
        refine ⟨⟨by omega, by omega⟩, fun b _ => ⟨by rw [p3], fun hf => p8 b (fun e => ?_)⟩, fun b => Or.inl (by rw [p3])⟩
        rw [e, hk.1, jtr_obj (jcl_lt hc)] at hf
        cases hf
      · cases hr
    · cases hr
  · split at hr
    · next hk => cases hr; exact hw _ _ _ (by rw [hk.1]; rfl)
    · cases hr
  · split at hr
    · next hk => cases hr; exact hw _ _ _ (by rw [hk.1]; rfl)
    · split at hr
      · next hk => cases hr; exact hw _ _ _ (by rw [hk.1]; rfl)
      · cases hr
  · split at hr
    · cases hr; exact ⟨⟨Nat.le_refl _, Nat.le_refl _⟩, fun b _ => ⟨rfl, fun _ => ⟨rfl, rfl⟩⟩, fun b => Or.inl rfl⟩
    · cases hr
  · split at hr
    · next hk => cases hr; exact hwR _ _ _ (jtr_arr (by omega) hk.1.1.2)
    · cases hr
  · split at hr
    · next q hq =>
      cases hr
      obtain ⟨g1, -, -⟩ := jfind2 hq
      exact hn _ _ (jtr_obj (of_decide_eq_true (Bool.and_eq_true_iff.mp (jN_ok q g1)).1))
    · cases hr
  · next t n r =>
    split at hr
    · next hk =>
      cases hr
      refine hn _ _ ?_
      have h0 := hk.1
      cases t <;> first | rfl | exact absurd rfl h0
    · cases hr
  · split at hr
    · next q hq =>
      split at hr
      · cases hr
        obtain ⟨g1, -, -⟩ := jfind2 hq
        obtain ⟨hw2, hw3⟩ := Bool.and_eq_true_iff.mp (Bool.and_eq_true_iff.mp (jA_ok q g1)).1
        have h5 := of_decide_eq_true hw2
        have h7 := of_decide_eq_true hw3
        exact hn _ _ (jtr_arr (by omega) h7)
      · cases hr
    · cases hr
  · cases hr
theorem jown_I {k : Nat} {i : Jvm.ClassFile.Instr} {st st' : List Value} {h h1 : jH} (hr : jown k i st h = some (st', h1)) : jmono h h1 := by
  unfold jown at hr
  split at hr
  · split at hr
    · cases hr; exact ⟨⟨Nat.le_refl _, Nat.le_refl _⟩, fun b _ => ⟨rfl, fun _ => ⟨rfl, rfl⟩⟩, fun b => Or.inl rfl⟩
    · cases hr
  · split at hr
    · next hk =>
      cases hr
      refine ⟨⟨Nat.le_refl _, Nat.le_refl _⟩, fun b' _ => ⟨rfl, fun hf => ⟨jur_ne (fun e => ?_), rfl⟩⟩, fun b => Or.inl rfl⟩
      rw [e, hk.2.1.2] at hf
      cases hf
    · cases hr
  · split at hr
    · cases hr; exact ⟨⟨Nat.le_refl _, Nat.le_refl _⟩, fun b _ => ⟨rfl, fun _ => ⟨rfl, rfl⟩⟩, fun b => Or.inl rfl⟩
    · split at hr
      · cases hr; exact ⟨⟨Nat.le_refl _, Nat.le_refl _⟩, fun b _ => ⟨rfl, fun _ => ⟨rfl, rfl⟩⟩, fun b => Or.inl rfl⟩
      · cases hr
  · split at hr
    · cases hr
      refine ⟨⟨Nat.le_add_right _ _, Nat.le_add_right _ _⟩, fun b hb => ⟨jur_ne (Nat.ne_of_lt hb), fun _ => ⟨(jur_ne (Nat.ne_of_lt hb)).trans (jur_ne (Nat.ne_of_lt hb)), jur_ne (Nat.ne_of_lt hb)⟩⟩, fun b => ?_⟩
      by_cases hb : b = jnx h
      · right
        rw [hb]
        show jtr (jK (jnew h 1 _) (jnx h)).1 = true
        rw [jK_new]
        rfl
      · left; exact jur_ne hb
    · cases hr
  · cases hr
theorem jmono.rfl' (h : jH) : jmono h h := ⟨⟨Nat.le_refl _, Nat.le_refl _⟩, fun _ _ => ⟨rfl, fun _ => ⟨rfl, rfl⟩⟩, fun _ => Or.inl rfl⟩
theorem jmono.trans {h h1 h2 : jH} (a : jmono h h1) (b : jmono h1 h2) : jmono h h2 := ⟨⟨Nat.le_trans a.1.1 b.1.1, Nat.le_trans a.1.2 b.1.2⟩, fun x hx => by
  obtain ⟨a1, a2⟩ := a.2.1 x hx
  obtain ⟨b1, b2⟩ := b.2.1 x (Nat.lt_of_lt_of_le hx a.1.1)
  refine ⟨b1.trans a1, fun hf => ?_⟩
  obtain ⟨c1, c2⟩ := b2 (by rw [a1]; exact hf)
  obtain ⟨c3, c4⟩ := a2 hf
  exact ⟨c1.trans c3, c2.trans c4⟩, fun x => by
  rcases b.2.2 x with g | g
  · rw [g]
    exact a.2.2 x
  · exact Or.inr g⟩
theorem jstp_I {k pc : Nat} {i : Jvm.ClassFile.Instr} {len : Nat} {lv : List (Option Value)} {st : List Value} {h : jH} {t : jS} (hr : jstp k pc i len lv st h = some t) : jmono h t.2.2.2 := by
  unfold jstp at hr
  split at hr
  · cases hr; exact jmono.rfl' h
  · split at hr
    · cases hr; exact jmono.rfl' h
    · split at hr
      · cases hr; exact jmono.rfl' h
      · split at hr
        · cases hr; exact jmono.rfl' h
        · split at hr
          · cases hr; exact jmono.rfl' h
          · split at hr
            · cases hr; exact jmono.rfl' h
            · split at hr
              · next q hq =>
                cases hr
                split at hq
                · exact jwt_I hq
                · cases hq
              · split at hr
                · next q hq =>
                  cases hr
                  split at hq
                  · exact jown_I hq
                  · cases hq
                · cases hr
theorem jgo_I {call : Nat → List Value → jH → jO} (hc : ∀ k as h r h1, call k as h = some (r, h1) → jmono h h1) {k : Nat} : ∀ (n pc : Nat) (lv : List (Option Value)) (st : List Value) (h : jH) (r : Option Value) (h1 : jH), jgo call k n pc lv st h = some (r, h1) → jmono h h1 := by
  intro n
  induction n with
  | zero => intro pc lv st h r h1 hg; cases hg
  | succ n ih =>
    intro pc lv st h r h1 hg
    unfold jgo at hg
    split at hg
    · split at hg
      · next t ht => exact (jstp_I ht).trans (ih _ _ _ _ _ _ hg)
      · split at hg
        · cases hg; exact jmono.rfl' _
        · split at hg
          · split at hg
            · next z hz => exact (hc _ _ _ _ _ hz).trans (ih _ _ _ _ _ _ hg)
            · cases hg
          · cases hg
    · cases hg
theorem jrun_I : ∀ (d n k : Nat) (as : List Value) (h : jH) (r : Option Value) (h1 : jH), jrun d n k as h = some (r, h1) → jmono h h1 := by
  intro d
  induction d with
  | zero => intro n k as h r h1 hg; cases hg
  | succ d ih =>
    intro n k as h r h1 hg
    unfold jrun at hg
    split at hg
    · exact jgo_I (fun k as h r h1 => ih n k as h r h1) _ _ _ _ _ _ _ hg
    · cases hg
section JS4
variable {p : Program} {l : Launch} {e : Env} {R : Room} {s : State} {m : MethodId} {args : Array Value} {below : List Frame} {meth : Method} {c : Code} {H : Heap} {locs : List Loc} {cells slots : Nat} {Q : State → Prop}
variable {pc : Nat} {ls : Array Slot} {D : va_G} {ca : Nat → ClassId} {b0 k : Nat} {h : jH}
theorem jOld.next {h1 : jH} (ho : jOld b0 s h) (hR : jRel D ca b0 h H) (hm : jmono h h1) : jOld b0 s h1 := by
  obtain ⟨hz, adK, adV, hK6, hR6, hZ1, hZ2, hA6, hC6⟩ := ho
  have hf : ∀ a, a < b0 → jtr (jK h a).1 = false := fun a ha => by
    cases hj : jtr (jK h a).1 with
    | false => rfl
    | true => have := hR.2.2.2 a hj; omega
  have h0 : jR h1 0 = jR h 0 := ((hm.2.1 0 (by have := hR.2.1; omega)).2 (hf 0 hz)).2
  have hk : ∀ a x, 100 ≤ x → (jK h1 a).1 = x → jK h1 a = jK h a := fun a x hx ha => by
    rcases hm.2.2 a with g | g
    · exact g
    · rw [ha] at g
      simp only [jtr, Bool.or_eq_true, Bool.and_eq_true, decide_eq_true_eq] at g
      omega
  refine ⟨hz, adK, adV, hK6, hR6, hZ1, by rw [h0]; exact hZ2, fun i hi => by rw [h0]; exact hA6 i hi, fun a i ha hi => ?_⟩
  · have e1 := hk a _ (by omega) ha
    rw [e1] at ha
    obtain ⟨q1, q2, q3⟩ := hC6 a i ha hi
    have hab : a < b0 := by
      have := (hK6.1 i hi).2.2.2.out
      rw [q1]
      omega
    have e2 := ((hm.2.1 a (by have := hR.2.1; omega)).2 (hf a hab)).1
    refine ⟨q1, by rw [e1]; exact q2, fun j hj => by rw [e2]; exact q3 j hj⟩
theorem jOld.same {U : State} (hvm : s.vm = U.vm) (hh : s.heap = U.heap) (ho : jOld b0 s h) : jOld b0 U h := by
  obtain ⟨hz, adK, adV, hK6, hR6, hZ1, hZ2, hA6, hC6⟩ := ho
  have hal : s.vm.Alike U.vm := by rw [hvm]; exact Vm.Alike.refl _
  rw [hh] at hK6 hZ1 hZ2
  exact ⟨hz, adK, adV, hK6.moved hal, fun q hq => ⟨(hR6 q hq).1, (hR6 q hq).2.same hvm.symm⟩, hZ1.moved hal, hZ2.moved hal, hA6, hC6⟩
theorem jOld.warm {U : State} (hW : s.WarmedH U.vm) (hU : U.heap = H) (hS : va_S (fun q => b0 ≤ q) s.heap H locs) (ho : jOld b0 s h) : jOld b0 U h := by
  obtain ⟨hz, adK, adV, hK6, hR6, hZ1, hZ2, hA6, hC6⟩ := ho
  rw [← hU] at hS
  exact ⟨hz, adK, adV, (hK6.moved hW.alike).kept hS.2.1, fun q hq => ⟨(hR6 q hq).1, (hR6 q hq).2.warm hW⟩, (hZ1.moved hW.alike).kept hS.2.1, (hZ2.moved hW.alike).kept hS.2.1, hA6, hC6⟩
theorem jScr.next {h1 : jH} (hscr : jScr b0 k s h) (hR : jRel D ca b0 h H) (hm : jmono h h1) : jScr b0 k s h1 := by
  refine ⟨fun hk a n ha => ?_, hscr.2.next hR hm⟩
  have ha0 : jK h a = (8, n) := by
    rcases hm.2.2 a with g | g
    · rw [← g]; exact ha
    · rw [ha] at g; cases g
  obtain ⟨q1, q2⟩ := hscr.1 hk a n ha0
  refine ⟨q1, ?_⟩
  rw [((hm.2.1 a (by have := hR.2.1; omega)).2 (by rw [ha0]; rfl)).1]
  exact q2
set_option maxHeartbeats 4000000 in
theorem jstp_sim (F : jFx D ca b0 p R s m args meth c k) (hR : jRel D ca b0 h H) (hS : va_S (fun q => b0 ≤ q) s.heap H locs) (hscr : jScr b0 k s h) {lv : List (Option Value)} (hlv : lv.length = jmx k) (hl : lv_has ls lv.length (jal lv)) {i : Jvm.ClassFile.Instr} {len : Nat} {st : List Value} {t : jS} (hd : decode (jby k) pc = .ok (i, len)) (hr : jstp k pc i len lv st h = some t)
    {sl0 : Nat} (hcl : s.heap.size + cells = jnx h) (hsl : sl0 + slots = jsl h) (hle : jnx t.2.2.2 ≤ s.heap.size + R.cells ∧ jsl t.2.2.2 ≤ sl0 + R.slots)
    (kk : ∀ (H1 : Heap) (locs1 : List Loc) (cells1 slots1 : Nat) (ls1 : Array Slot), jRel D ca b0 t.2.2.2 H1 → va_S (fun q => b0 ≤ q) s.heap H1 locs1 → t.2.1.length = jmx k → lv_has ls1 t.2.1.length (jal t.2.1) → s.heap.size + cells1 = jnx t.2.2.2 → sl0 + slots1 = jsl t.2.2.2 → W p l e R s m args below meth c H1 locs1 cells1 slots1 Q (F0 m t.1 ls1 t.2.2.1)) : W p l e R s m args below meth c H locs cells slots Q (F0 m pc ls st) := by
  obtain ⟨hx, hb, hml⟩ := F.1
  unfold jstp at hr
  split at hr
  · next st' hq =>
    cases hr
    split at hq
    · next hlen => exact jalu_sim hx hb (by rw [← hlen]; exact hd) hq (by rw [← hlen]; exact kk H locs cells slots ls hR hS hlv hl hcl hsl)
    · cases hq
  · split at hr
    · next v hq => cases hr; exact jldc_sim hx hb F.2.1 F.2.2.1 hd hq (kk H locs cells slots ls hR hS hlv hl hcl hsl)
    · split at hr
      · next v hq => cases hr; exact jlod_sim hx hb hl hd hq (kk H locs cells slots ls hR hS hlv hl hcl hsl)
      · split at hr
        · next q hq => cases hr; exact jsto_sim hx hb hl hd hq (fun h9 ls' g => kk H locs cells slots ls' hR hS (h9.trans hlv) g hcl hsl)
        · split at hr
          · next q hq => cases hr; exact jbr_sim hx hb hd hq (kk H locs cells slots ls hR hS hlv hl hcl hsl)
          · split at hr
            · next st' hq =>
              cases hr
              split at hq
              · next hlen => exact jrd_sim F hR hS hscr (by rw [← hlen]; exact hd) hq (by rw [← hlen]; exact kk H locs cells slots ls hR hS hlv hl hcl hsl)
              · cases hq
            · split at hr
              · next q hq =>
                cases hr
                split at hq
                · next hlen => exact jwt_sim F hR hS (by rw [← hlen]; exact hd) hq hcl hsl hle (fun H1 locs1 c1 s1 q1 q2 q3 q4 => by rw [← hlen]; exact kk H1 locs1 c1 s1 ls q1 q2 hlv hl q3 q4)
                · cases hq
              · split at hr
                · next q hq =>
                  cases hr
                  split at hq
                  · next hlen => subst hlen; exact jown_sim F hR hS (by rw [hl.1, hlv]) hd hq hcl hsl hle (fun H1 locs1 c1 s1 q1 q2 q3 q4 => kk H1 locs1 c1 s1 ls q1 q2 hlv hl q3 q4)
                  · cases hq
                · cases hr
/-- a method's start and end, as the little machine sees them -/
def jPc (D : va_G) (ca : Nat → ClassId) (b0 : Nat) (as : List Value) (h : jH) : Array Value → State → Prop := fun a U => a = as.toArray ∧ jRel D ca b0 h U.heap ∧ va_K D vwCl (jtys ca) U ∧ (∀ w ∈ jTn, va_Nw w U) ∧ jOld b0 U h
def jQc (D : va_G) (ca : Nat → ClassId) (b0 : Nat) (r : Option Value) (h : jH) : Array Value → State → Outcome → State → Prop := fun _ st o t => o = .returned r ∧ jRel D ca b0 h t.heap ∧ va_F (fun q => b0 ≤ q) st t
def jwk (k : Nat) : List Cond := Cond.code (jyn k) (jby k) (jmx k) (jrt k) :: jTb
def jrm (d : Nat) (h h1 : jH) : Room := { frames := d, cells := jnx h1 - jnx h, slots := jsl h1 - jsl h, locals := 41 * d }
def jMet (l : Launch) (d k : Nat) (as : List Value) (h : jH) (r : Option Value) (h1 : jH) : Prop := ∀ (D : va_G) (ca : Nat → ClassId) (b0 : Nat), Met l (jyn k) (jwk k) (jrm d h h1) (jPc D ca b0 as h) (jQc D ca b0 r h1) (jnx h1 - jnx h) (jsl h1 - jsl h) (fun q => b0 ≤ q)
theorem jTn_same {U : State} (hvm : s.vm = U.vm) (h : ∀ w ∈ jTn, va_Nw w s) : ∀ w ∈ jTn, va_Nw w U := by
  intro w hw
  have h1 := h w hw
  have h2 := (List.mem_filter.mp hw).2
  unfold jnest at h2
  split at h2
  · exact va_Nw.same rfl hvm h1
  · exact va_Nw.same rfl hvm h1
  · exact va_Nw.same rfl hvm h1
  · exact va_AO.moved (by rw [hvm]; exact Vm.Alike.refl _) h1
  · cases h2
theorem jTn_warm {U : State} (hW : s.WarmedH U.vm) (h : ∀ w ∈ jTn, va_Nw w s) : ∀ w ∈ jTn, va_Nw w U := by
  intro w hw
  have h1 := h w hw
  have h2 := (List.mem_filter.mp hw).2
  unfold jnest at h2
  split at h2
  · exact va_Nw.warmF hW h1
  · exact va_Nw.warmM hW h1
  · exact va_Nw.warmC hW h1
  · exact va_AO.moved hW.alike h1
  · cases h2
theorem jPc_blind (as : List Value) : FrameBlind (jPc D ca b0 as h) := by
  rintro a U g mk ⟨q1, q2, q3, q4, q5⟩
  exact ⟨q1, q2, va_K.moved (u := U) (U := U.calling g mk a) (Vm.Alike.refl U.vm) q3, jTn_same (s := U) (U := U.calling g mk a) rfl q4, jOld.same (s := U) (U := U.calling g mk a) rfl rfl q5⟩
theorem jgood (k : Nat) (hk : k < jlaw) : GoodIn jTb (jwk k) := by
  intro w hw
  rcases List.mem_cons.mp hw with rfl | hw
  · exact ⟨jM_code hk, Or.inl rfl⟩
  · exact ⟨hw, good_of_word (jTb_good hw)⟩
/-- what is known of a method by its number -/
theorem jM_spec {k : Nat} (hk : k < jlaw) : Cond.initialized (jyn k).cls ∈ jTb ∧ plainName (jyn k).cls = true ∧ (jyn k).cls = jcn (jow k) ∧ jmx k ≤ 22 ∧ (jyn k).cls ≠ "java/lang/invoke/MethodHandle" ∧ (jyn k).cls ≠ "java/lang/invoke/VarHandle" := by
  have h := jM_ok hk
  simp only [jMok, Bool.and_eq_true, decide_eq_true_eq] at h
  exact ⟨jwd_in h.1, h.2.1, h.2.2.1, h.2.2.2.1, h.2.2.2.2.1, h.2.2.2.2.2⟩
theorem j_call {rest st0 : List Value} {mc ms : Nat} {a : Array Value} {r : Option Value} {h2 : jH} (hr : va_Run p l e R s m args below meth c H locs cells slots mc ms (F0 m pc ls st0) rest (jQc D ca b0 r h2 a) (fun q => b0 ≤ q)) (hS : va_S (fun q => b0 ≤ q) s.heap H locs)
    (kk : ∀ (H1 : Heap) (locs1 : List Loc), jRel D ca b0 h2 H1 → va_S (fun q => b0 ≤ q) s.heap H1 locs1 → W p l e R s m args below meth c H1 locs1 (cells + mc) (slots + ms) Q (F0 m (pc + 3) ls (r.toList ++ rest))) : W p l e R s m args below meth c H locs cells slots Q (F0 m pc ls st0) := by
  intro T hT X
  obtain ⟨v, st₀, t, T', L, h0, X', hL, e1, e2, ⟨hv, hrel, hz, hk⟩, st⟩ := hr T hT X
  cases hv
  rw [h0] at hz hk
  obtain ⟨t2, a1, b1⟩ := kk T'.heap (locs ++ L) (by rw [e1]; exact hrel) ⟨Nat.le_trans hS.1 (by rw [e1]; exact hz), fun q g1 g2 => by rw [e1, hk q (Nat.lt_of_lt_of_le g1 hS.1) g2]; exact hS.2.1 q g1 g2, fun q hq => by
    rcases List.mem_append.mp hq with g | g
    · exact hS.2.2 q g
    · exact hL q g⟩ T' rfl X'
  exact ⟨t2, st t2 a1, b1⟩
theorem jfind3 {α : Type} {f g : α → Nat} {b : α → Bool} {L : List α} {o x : Nat} {q : α} (h : L.find? (fun q => f q == o && (g q == x && b q)) = some q) : q ∈ L ∧ f q = o ∧ g q = x ∧ b q = true := by
  have h1 := List.find?_some h
  simp only [Bool.and_eq_true, beq_iff_eq] at h1
  exact ⟨List.mem_of_find?_eq_some h, h1.1, h1.2.1, h1.2.2⟩
end JS4
