/-! THE HEAP OF THE LITTLE MACHINE, AND THE MACHINE'S; what is read of it -/
def jtr (kd : Nat) : Bool := (decide (1 ≤ kd) && decide (kd ≤ 7)) || (decide (20 ≤ kd) && decide (kd < 33))
def jcell (ca : Nat → ClassId) (h : jH) (a : Nat) : va_E :=
  if (jK h a).1 ≤ 3 then .inl (ca (jK h a).1, (jK h a).2, .inl (jI h a))
  else if (jK h a).1 = 4 then .inl (ca 4, (jK h a).2, .inr (.inl (jJ h a)))
  else if (jK h a).1 ≤ 7 then .inl (ca (jK h a).1, (jK h a).2, .inr (.inr (.inr (.inr (jR h a)))))
  else .inr ((jK h a).1 - 20, jfs ((jK h a).1 - 20) h a)
def jws (ca : Nat → ClassId) (b0 : Nat) (h : jH) : va_W := (List.range (jnx h - b0)).map (fun i => (b0 + i, jcell ca h (b0 + i)))
def jtys (ca : Nat → ClassId) : List (ClassId × FieldType) := [(ca 1, .int), (ca 2, .boolean), (ca 3, .byte), (ca 4, .long), (ca 5, .object RX3), (ca 6, .object RX7), (ca 7, .object RX9)]
def jRel (D : va_G) (ca : Nat → ClassId) (b0 : Nat) (h : jH) (H : Heap) : Prop :=
  jnx h = H.size ∧ b0 ≤ jnx h ∧ (∀ a, b0 ≤ a → a < jnx h → va_at D vwCl (a, jcell ca h a) H) ∧ ∀ a, jtr (jK h a).1 = true → b0 ≤ a ∧ a < jnx h
def jFx (D : va_G) (ca : Nat → ClassId) (b0 : Nat) (p : Program) (R : Room) (s : State) (m : MethodId) (args : Array Value) (meth : Method) (c : Code) (k : Nat) : Prop :=
  (p.tables.exec = Jvm.exec ∧ c.code = jby k ∧ c.maxLocals = jmx k) ∧ s.vm.findClass (jcn (jow k)) = some m.cls ∧ (∀ w ∈ jTb, w.before args s = true) ∧ (∀ w ∈ jTn, va_Nw w s) ∧ va_K D vwCl (jtys ca) s ∧ (1 ≤ R.frames ∧ 41 ≤ R.locals) ∧ b0 ≤ s.heap.size ∧ (meth.locks = false ∧ meth.sig.returnType = jrt k ∧ ((jyn k).name = "<init>" → meth.name = "<init>"))
theorem jws_get (ca : Nat → ClassId) {b0 : Nat} {h : jH} {a : Nat} (h1 : b0 ≤ a) (h2 : a < jnx h) : (jws ca b0 h)[a - b0]? = some (a, jcell ca h a) := by
  unfold jws
  rw [List.getElem?_map, List.getElem?_range (by omega)]
  simp only [Option.map_some]
  rw [show b0 + (a - b0) = a by omega]
theorem jws_inv {ca : Nat → ClassId} {b0 : Nat} {h : jH} {k : Nat} {q : Nat × va_E} (hk : (jws ca b0 h)[k]? = some q) : k < jnx h - b0 ∧ q = (b0 + k, jcell ca h (b0 + k)) := by
  unfold jws at hk
  rw [List.getElem?_map] at hk
  obtain ⟨i, hi, rfl⟩ := Option.map_eq_some_iff.mp hk
  have hl : k < jnx h - b0 := by
    have := (List.getElem?_eq_some_iff.mp hi).1
    simpa using this
  rw [List.getElem?_range hl] at hi
  cases hi
  exact ⟨hl, rfl⟩
theorem jRel.P {D : va_G} {ca : Nat → ClassId} {b0 : Nat} {h : jH} {H : Heap} (hR : jRel D ca b0 h H) : va_P D vwCl (jws ca b0 h) H := by
  intro k q hk
  obtain ⟨h1, rfl⟩ := jws_inv hk
  exact hR.2.2.1 _ (by omega) (by omega)
theorem jws_D (ca : Nat → ClassId) (b0 : Nat) (h : jH) : va_D (fun q => b0 ≤ q) (jws ca b0 h) := by
  refine ⟨fun i j x y hi hj he => ?_, fun k x hk => ?_⟩
  · obtain ⟨-, rfl⟩ := jws_inv hi
    obtain ⟨-, rfl⟩ := jws_inv hj
    have he : b0 + i = b0 + j := he
    omega
  · obtain ⟨-, rfl⟩ := jws_inv hk
    exact Nat.le_add_right _ _
theorem jws_set (ca : Nat → ClassId) {b0 : Nat} {h h1 : jH} {a : Nat} (hn : jnx h1 = jnx h) (hc : ∀ b, b ≠ a → jcell ca h1 b = jcell ca h b) (ha : b0 ≤ a) (hb : a < jnx h) : (jws ca b0 h).set (a - b0) (a, jcell ca h1 a) = jws ca b0 h1 := by
  apply List.ext_getElem?
  intro k
  rw [List.getElem?_set]
  by_cases hk : a - b0 = k
  · subst hk
    rw [if_pos rfl, jws_get ca ha (by omega)]
    rw [if_pos (by unfold jws; simp; omega)]
  · rw [if_neg hk]
    unfold jws
    rw [List.getElem?_map, List.getElem?_map, hn]
    by_cases hl : k < jnx h - b0
    · rw [List.getElem?_range hl]
      simp only [Option.map_some]
      rw [hc _ (by omega)]
    · rw [List.getElem?_eq_none (by simp; omega)]
      rfl
theorem jcell_obj {ca : Nat → ClassId} {h : jH} {a ci : Nat} (hk : (jK h a).1 = 20 + ci) : jcell ca h a = .inr (ci, jfs ci h a) := by
  unfold jcell
  rw [hk, if_neg (by omega), if_neg (by omega), if_neg (by omega), show 20 + ci - 20 = ci by omega]
theorem jcell_i {ca : Nat → ClassId} {h : jH} {a t : Nat} (hk : (jK h a).1 = t) (ht : t ≤ 3) : jcell ca h a = .inl (ca t, (jK h a).2, .inl (jI h a)) := by
  unfold jcell
  rw [hk, if_pos ht]
theorem jcell_l {ca : Nat → ClassId} {h : jH} {a : Nat} (hk : (jK h a).1 = 4) : jcell ca h a = .inl (ca 4, (jK h a).2, .inr (.inl (jJ h a))) := by
  unfold jcell
  rw [hk, if_neg (by omega), if_pos rfl]
theorem jcell_r {ca : Nat → ClassId} {h : jH} {a t : Nat} (hk : (jK h a).1 = t) (h5 : 5 ≤ t) (h7 : t ≤ 7) : jcell ca h a = .inl (ca t, (jK h a).2, .inr (.inr (.inr (.inr (jR h a))))) := by
  unfold jcell
  rw [hk, if_neg (by omega), if_neg (by omega), if_pos h7]
theorem jcell_len {ca : Nat → ClassId} {h : jH} {a : Nat} (_h1 : 1 ≤ (jK h a).1) (h7 : (jK h a).1 ≤ 7) : ∃ x : vp_A, jcell ca h a = .inl (ca (jK h a).1, x) ∧ x.1 = (jK h a).2 := by
  rcases (by omega : (jK h a).1 ≤ 3 ∨ (jK h a).1 = 4 ∨ 5 ≤ (jK h a).1) with g | g | g
  · exact ⟨_, jcell_i rfl g, rfl⟩
  · exact ⟨_, by rw [g]; exact jcell_l g, rfl⟩
  · exact ⟨_, jcell_r rfl g h7, rfl⟩
theorem jtr_arr {t : Nat} (h1 : 1 ≤ t) (h7 : t ≤ 7) : jtr t = true := by simp [jtr, h1, h7]
theorem jtr_obj {ci : Nat} (h : ci < 13) : jtr (20 + ci) = true := by
  simp only [jtr, Bool.or_eq_true, Bool.and_eq_true, decide_eq_true_eq]
  omega
theorem jinb_in {i : Int32} {n : Nat} (h : jinb i n = true) : vp_in i n := by
  simp only [jinb, Bool.and_eq_true, decide_eq_true_eq] at h
  rintro (q | q)
  · exact h.1 q
  · omega
theorem jN_of {ci : Nat} {r : vw_C} (h : vwCl[ci]? = some r) : jN ci = r.2.2 := by
  unfold jN
  rw [h]
theorem jfs_get {ci k : Nat} (h : jH) (a : Nat) (hk : k < jN ci) : (jfs ci h a)[k]? = some (jfv ci k h a) := by
  unfold jfs
  rw [List.getElem?_map, List.getElem?_range hk]
  rfl
theorem jfs_len (ci : Nat) (h : jH) (a : Nat) : (jfs ci h a).length = jN ci := by simp [jfs]
/-- a field reference, unfolded -/
theorem jF_spec {q : Nat × Nat × Nat × Nat × Nat × Nat} (hq : q ∈ jFL) : ∃ r : vw_C, vwCl[q.2.2.1]? = some r ∧ q.2.2.2.1 < r.2.2 ∧ ((q.2.2.2.2.1 = 0 ∧ Cond.fieldLink (jcn q.1) q.2.1 r.1 (r.2.1 q.2.2.2.1).2.1 (r.2.1 q.2.2.2.1).2.2.1 ∈ jTb) ∨ (q.2.2.2.2.1 ≠ 0 ∧ Cond.fieldLinkNest (jcn q.1) q.2.1 r.1 (r.2.1 q.2.2.2.1).2.1 (r.2.1 q.2.2.2.1).2.2.1 "FailBadge" ∈ jTn)) := by
  have h := jF_ok q hq
  unfold jFok at h
  split at h
  · next r hr =>
    obtain ⟨h1, h2⟩ := Bool.and_eq_true_iff.mp h
    refine ⟨r, hr, of_decide_eq_true h1, ?_⟩
    split at h2
    · next g => exact Or.inl ⟨g, jwd_in h2⟩
    · next g => exact Or.inr ⟨g, jwn_in h2⟩
  · cases h
theorem jcl_lt {ci : Nat} {r : vw_C} (h : vwCl[ci]? = some r) : ci < 13 := (List.getElem?_eq_some_iff.mp h).1
section JS2
variable {p : Program} {l : Launch} {e : Env} {R : Room} {s : State} {m : MethodId} {args : Array Value} {below : List Frame} {meth : Method} {c : Code} {H : Heap} {locs : List Loc} {cells slots : Nat} {Q : State → Prop}
variable {pc : Nat} {ls : Array Slot} {D : va_G} {ca : Nat → ClassId} {b0 k : Nat} {h : jH}
/-- what was there before the law: the texts, two statics -/
def jOld (b0 : Nat) (U : State) (h : jH) : Prop := 0 < b0 ∧ ∃ adK adV : Nat → Nat, vk_S 6 jtl jtb adK adV (fun q => b0 ≤ q) U U.heap ∧ (∀ q ∈ jSL, q.2.2 < 6 ∧ vk_R (jcn q.1) q.2.1 (jtx.getD q.2.2 "") (adK q.2.2) U) ∧ va_Z "java/lang/String" "COMPACT_STRINGS" "Z" (.int 1) (fun q => b0 ≤ q) U U.heap ∧ va_Z "jdk/internal/util/Preconditions" "SIOOBE_FORMATTER" "Ljava/util/function/BiFunction;" (va_rf (jR h 0 6)) (fun q => b0 ≤ q) U U.heap ∧
  (∀ i, i < 6 → jR h 0 i = some (adK i) ∧ jR h 0 (10 + i) = some (adV i)) ∧ (∀ a i, (jK h a).1 = 200 + i → i < 6 → a = adV i ∧ (jK h a).2 = jtl.getD i 0 ∧ ∀ j, j < jtl.getD i 0 → jI h a j = (jtb.getD i []).getD j 0)
theorem jtxt_spec {h : jH} {a i : Nat} (hi : jtxt h a = some i) : i < 6 ∧ jR h 0 i = some a := by
  have h1 := List.find?_some hi
  have h2 := List.mem_of_find?_eq_some hi
  exact ⟨List.mem_range.mp h2, by simpa using h1⟩
def jScr (b0 k : Nat) (s : State) (h : jH) : Prop := (k = jlaw → ∀ a n, jK h a = (8, n) → a < b0 ∧ va_X a n (jI h a) s s.heap) ∧ jOld b0 s h
set_option maxHeartbeats 4000000 in
theorem jrd_sim (F : jFx D ca b0 p R s m args meth c k) (hR : jRel D ca b0 h H) (hS : va_S (fun q => b0 ≤ q) s.heap H locs) (hscr : jScr b0 k s h) {i : Jvm.ClassFile.Instr} {st st' : List Value} (hd : decode (jby k) pc = .ok (i, jrln i)) (hr : jrd k i st h = some st')
    (kk : W p l e R s m args below meth c H locs cells slots Q (F0 m (pc + jrln i) ls st')) : W p l e R s m args below meth c H locs cells slots Q (F0 m pc ls st) := by
  obtain ⟨⟨hx, hb, hml⟩, hown, hts, htn, hK, hrm, hb0, hmt⟩ := F
  have hP := hR.P
  unfold jrd at hr
  split at hr
  · next x a r =>
    split at hr
    · next q hq =>
      split at hr
      · next hk =>
        cases hr
        obtain ⟨h1, h2, h3⟩ := jfind2 hq
        obtain ⟨r, hc, hlt, hlk⟩ := jF_spec h1
        obtain ⟨hin, hty, hnm, hfo⟩ := jcl_ok hc
        have hac := hR.2.2.2 _ (by rw [hk]; exact jtr_obj (jcl_lt hc))
        have he := jws_get ca hac.1 hac.2
        rw [jcell_obj hk] at he
        have hv := jfs_get h (by assumption) (by rw [jN_of hc]; exact hlt)
        rw [h2, h3] at hlk
        rcases hlk with ⟨-, hlk⟩ | ⟨-, hlk⟩
        · exact va_get hx hb hts hin hown hK hP _ he hc _ hlt (hts _ hlk) (fun x hxx => by rw [hfo _ hlt] at hxx; exact hxx) hv hd kk
        · exact va_getN hx hb hts hin hown hK hP _ he hc _ hlt (va_Nw.use rfl (htn _ hlk)) (fun x hxx => by rw [hfo _ hlt] at hxx; exact hxx) hv hd kk
      · cases hr
    · split at hr
      · next q hq =>
        split at hr
        · next i hi =>
          obtain ⟨h1, h2, h3⟩ := jfind2 hq
          have hw := jT_ok q h1
          unfold jTok at hw
          obtain ⟨hz, adK, adV, hK6, hR6, hZ1, hZ2, hA6, hC6⟩ := hscr.2
          obtain ⟨hi6, hia⟩ := jtxt_spec hi
          have ha : adK i = a := Option.some.inj ((hA6 i hi6).1.symm.trans hia)
          subst ha
          split at hr
          · next hq0 =>
            rw [hq0] at hw
            have hw := hts _ (jwd_in hw)
            rw [h2, h3] at hw
            rw [(hA6 i hi6).2] at hr
            cases hr
            exact vk_getf hx hb (hK6.1 i hi6).2.2.1 hS hown hw (fun _ h9 => h9) hd kk
          · next hq0 =>
            cases hr
            have hw : jwd q.2.2.2 (.fieldLink (jcn q.1) q.2.1 "java/lang/String" "coder" "B") = true := by
              split at hw
              · next hq1 => exact absurd hq1 hq0
              · exact hw
            have hw := hts _ (jwd_in hw)
            rw [h2, h3] at hw
            exact vk_getf hx hb (hK6.1 i hi6).2.1 hS hown hw (fun _ h9 => h9) hd kk
        · cases hr
      · cases hr
  · split at hr
    · next q hq =>
      obtain ⟨h1, h2, h3⟩ := jfind2 hq
      obtain ⟨hz, adK, adV, hK6, hR6, hZ1, hZ2, hA6, hC6⟩ := hscr.2
      obtain ⟨h6, hR⟩ := hR6 q h1
      rw [(hA6 _ h6).1] at hr
      cases hr
      rw [h2, h3] at hR
      exact va_ldcS hx hb hown hR hd kk
    · cases hr
  · split at hr
    · next q hq =>
      obtain ⟨h1, h2, h3⟩ := jfind2 hq
      obtain ⟨hz, adK, adV, hK6, hR6, hZ1, hZ2, hA6, hC6⟩ := hscr.2
      have hw := jG_ok q h1
      unfold jGok at hw
      split at hr
      · next hq0 =>
        cases hr
        rw [hq0] at hw
        have hw := hts _ (jwd_in hw)
        rw [h2, h3] at hw
        exact va_gets hx hb hZ1 hS hown hw (fun _ h9 => h9) hd kk
      · next hq0 =>
        cases hr
        have hw : jwd q.2.2.2 (.fieldLink (jcn q.1) q.2.1 "jdk/internal/util/Preconditions" "SIOOBE_FORMATTER" "Ljava/util/function/BiFunction;") = true := by
          split at hw
          · next hq1 => exact absurd hq1 hq0
          · exact hw
        have hw := hts _ (jwd_in hw)
        rw [h2, h3] at hw
        exact va_gets hx hb hZ2 hS hown hw (fun _ h9 => h9) hd kk
    · cases hr
  · split at hr
    · next hk =>
      cases hr
      obtain ⟨hk, hj⟩ := hk
      rcases hk with hk | ⟨hk, hlw⟩
      · have hac := hR.2.2.2 _ (by rw [hk]; rfl)
        have he := jws_get ca hac.1 hac.2
        rw [jcell_i hk (by omega)] at he
        exact va_iald hx hb hK hP _ 0 he rfl (jinb_in hj) hd kk
      · obtain ⟨h1, h2⟩ := hscr.1 hlw _ _ (Prod.ext hk rfl)
        exact va_sld hx hb h2 (by omega) (by omega) hS (jinb_in hj) hd kk
    · cases hr
  · next j a r =>
    split at hr
    · next hk =>
      cases hr
      obtain ⟨hk, hj⟩ := hk
      rcases hk with hk | hk | hk
      · have hac := hR.2.2.2 _ (by rw [hk]; rfl)
        have he := jws_get ca hac.1 hac.2
        rw [jcell_i hk (by omega)] at he
        exact va_zald hx hb hK hP _ 1 he rfl (jinb_in hj) hd kk
      · have hac := hR.2.2.2 _ (by rw [hk]; rfl)
        have he := jws_get ca hac.1 hac.2
        rw [jcell_i hk (by omega)] at he
        exact va_bald hx hb hK hP _ 2 he rfl (jinb_in hj) hd kk
      · obtain ⟨hz, adK, adV, hK6, hR6, hZ1, hZ2, hA6, hC6⟩ := hscr.2
        obtain ⟨i, hi, hi6⟩ : ∃ i, (jK h a).1 = 200 + i ∧ i < 6 := ⟨(jK h a).1 - 200, by omega, by omega⟩
        obtain ⟨ha, hn, hby⟩ := hC6 _ i hi hi6
        rw [hn] at hj
        have hjl : j.toNatClampNeg < jtl.getD i 0 := of_decide_eq_true (Bool.and_eq_true_iff.mp hj).2
        rw [hby _ hjl] at kk
        subst ha
        exact va_tb hx hb (hK6.1 i hi6).2.2.2 hS (jinb_in hj) rfl hd kk
    · cases hr
  · split at hr
    · next hk =>
      cases hr
      obtain ⟨hk, hj⟩ := hk
      have hac := hR.2.2.2 _ (by rw [hk]; rfl)
      have he := jws_get ca hac.1 hac.2
      rw [jcell_l hk] at he
      exact va_lald hx hb hK hP _ 3 he rfl (jinb_in hj) hd kk
    · cases hr
  · split at hr
    · next hk =>
      cases hr
      obtain ⟨⟨h5, h7⟩, hj⟩ := hk
      have hac := hR.2.2.2 _ (jtr_arr (by omega) h7)
      have he := jws_get ca hac.1 hac.2
      rw [jcell_r rfl h5 h7] at he
      generalize (jK h _).1 = t at h5 h7 he
      have ht : ∃ (t0 : Nat) (C : String), (jtys ca)[t0]? = some (ca t, .object C) := by
        rcases (by omega : t = 5 ∨ t = 6 ∨ t = 7) with rfl | rfl | rfl
        · exact ⟨4, RX3, rfl⟩
        · exact ⟨5, RX7, rfl⟩
        · exact ⟨6, RX9, rfl⟩
      obtain ⟨t0, C, ht⟩ := ht
      exact va_aldq hx hb hK hP _ t0 he ht (jinb_in hj) hd kk
    · cases hr
  · next a r =>
    split at hr
    · next hk =>
      cases hr
      rcases hk with ⟨h1, h7⟩ | ⟨hk, hlw⟩ | hk
      · have hac := hR.2.2.2 _ (jtr_arr h1 h7)
        have he := jws_get ca hac.1 hac.2
        obtain ⟨x, hx2, hx3⟩ := jcell_len (ca := ca) h1 h7
        rw [hx2] at he
        generalize (jK h _).1 = t at h1 h7 he
        have ht : ∃ (t0 : Nat) (ty : FieldType), (jtys ca)[t0]? = some (ca t, ty) := by
          rcases (by omega : t = 1 ∨ t = 2 ∨ t = 3 ∨ t = 4 ∨ t = 5 ∨ t = 6 ∨ t = 7) with rfl | rfl | rfl | rfl | rfl | rfl | rfl
          · exact ⟨0, _, rfl⟩
          · exact ⟨1, _, rfl⟩
          · exact ⟨2, _, rfl⟩
          · exact ⟨3, _, rfl⟩
          · exact ⟨4, _, rfl⟩
          · exact ⟨5, _, rfl⟩
          · exact ⟨6, _, rfl⟩
        obtain ⟨t0, ty, ht⟩ := ht
        exact va_alen hx hb hK hP _ t0 he ht (by rw [hx3]) hd kk
      · obtain ⟨h1, h2⟩ := hscr.1 hlw _ _ (Prod.ext hk rfl)
        exact va_slen hx hb h2 (by omega) (by omega) hS hd kk
      · obtain ⟨hz, adK, adV, hK6, hR6, hZ1, hZ2, hA6, hC6⟩ := hscr.2
        obtain ⟨i, hi, hi6⟩ : ∃ i, (jK h a).1 = 200 + i ∧ i < 6 := ⟨(jK h a).1 - 200, by omega, by omega⟩
        obtain ⟨ha, hn, hby⟩ := hC6 _ i hi hi6
        rw [hn] at kk
        subst ha
        exact va_tlen hx hb (hK6.1 i hi6).2.2.2 hS rfl hd kk
    · cases hr
  · split at hr
    · next hk =>
      cases hr
      obtain ⟨hX, hk⟩ := hk
      have hac := hR.2.2.2 _ (by rw [hk]; rfl)
      have he := jws_get ca hac.1 hac.2
      rw [jcell_i hk (by omega)] at he
      obtain ⟨q, hq, hq2⟩ := List.any_eq_true.mp hX
      simp only [Bool.and_eq_true, beq_iff_eq] at hq2
      have hw := hts _ (jwd_in (jX_ok q hq))
      rw [hq2.1, hq2.2] at hw
      have hnm : s.vm.findClass "[I" = some (ca 1) := (hK.2 0 _ rfl).2
      exact va_castA hx hb hown hw hP _ he hnm hd kk
    · cases hr
  · cases hr
end JS2
