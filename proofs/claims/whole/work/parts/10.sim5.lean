/-! CALLS, AND THE WHOLE: a run of the little machine is a contract of the machine -/
section JS5
variable {p : Program} {l : Launch} {e : Env} {R : Room} {s : State} {m : MethodId} {args : Array Value} {below : List Frame} {meth : Method} {c : Code} {H : Heap} {locs : List Loc} {cells slots : Nat} {Q : State → Prop}
variable {pc : Nat} {ls : Array Slot} {D : va_G} {ca : Nat → ClassId} {b0 k : Nat} {h : jH}
set_option maxHeartbeats 4000000 in
theorem jcal_sim (F : jFx D ca b0 p R s m args meth c k) (hR : jRel D ca b0 h H) (hS : va_S (fun q => b0 ≤ q) s.heap H locs) (hscr : jScr b0 k s h) (hls : ls.size = jmx k) {i : Jvm.ClassFile.Instr} {len d k' : Nat} {st as rest : List Value} {r : Option Value} {h2 : jH} (hd : decode (jby k) pc = .ok (i, len)) (hr : jcal k i len st h = some (k', as, rest))
    (hk' : k' < jlaw) (hM : jMet l d k' as h r h2) (hm : jmono h h2) (hrm : d + 1 ≤ R.frames ∧ 41 * (d + 1) ≤ R.locals)
    {sl0 : Nat} (hcl : s.heap.size + cells = jnx h) (hsl : sl0 + slots = jsl h) (hle : jnx h2 ≤ s.heap.size + R.cells ∧ jsl h2 ≤ sl0 + R.slots)
    (kk : ∀ (H1 : Heap) (locs1 : List Loc) (cells1 slots1 : Nat), jRel D ca b0 h2 H1 → va_S (fun q => b0 ≤ q) s.heap H1 locs1 → s.heap.size + cells1 = jnx h2 → sl0 + slots1 = jsl h2 → W p l e R s m args below meth c H1 locs1 cells1 slots1 Q (F0 m (pc + 3) ls (r.toList ++ rest))) : W p l e R s m args below meth c H locs cells slots Q (F0 m pc ls st) := by
  obtain ⟨⟨hx, hb, hml⟩, hown, hts, htn, hK, -, hb0, hmt⟩ := F
  obtain ⟨hini, hpl, hcn, h22, hn1, hn2⟩ := jM_spec hk'
  have hG := jgood k' hk'
  have hmc : cells + (jnx h2 - jnx h) ≤ R.cells := by have := hm.1.1; omega
  have hms : slots + (jsl h2 - jsl h) ≤ R.slots := by have := hm.1.2; omega
  have hRr : (jrm d h h2).frames + 1 ≤ R.frames ∧ 8 + (jmx k' + 11) + (jrm d h h2).locals ≤ R.locals := ⟨hrm.1, by show 8 + (jmx k' + 11) + 41 * d ≤ _; omega⟩
  have hpre : PreS s H (jPc D ca b0 as h) as := ⟨jPc_blind as, fun U hU hW => ⟨rfl, by rw [hU]; exact hR, va_K.moved hW.alike hK, jTn_warm hW htn, hscr.2.warm hW hU hS⟩⟩
  have fin : ∀ (H1 : Heap) (locs1 : List Loc), jRel D ca b0 h2 H1 → va_S (fun q => b0 ≤ q) s.heap H1 locs1 → W p l e R s m args below meth c H1 locs1 (cells + (jnx h2 - jnx h)) (slots + (jsl h2 - jsl h)) Q (F0 m (pc + 3) ls (r.toList ++ rest)) := fun H1 locs1 q1 q2 => kk H1 locs1 _ _ q1 q2 (by have := hm.1.1; omega) (by have := hm.1.2; omega)
  unfold jcal at hr
  split at hr
  · next hlen =>
    subst hlen
    split at hr
    · next x =>
      split at hr
      · next q hq =>
        obtain ⟨g1, g2, g3, g4⟩ := jfind3 hq
        have g4 : q.2.2.1 = 1 := by simpa using g4
        have hok := jC_ok q g1
        unfold jCok at hok
        rw [g4] at hok
        simp only [Bool.and_eq_true] at hok
        split at hr
        · next n hn =>
          split at hr
          · next hcd =>
            cases hr
            have hlk := hts _ (jwd_in hok.2.1)
            rw [g2, g3] at hlk
            have hcat : ((st.drop n).map fun v => v.category).sum ≤ 8 := hcd.2
            refine j_call (va_runS (As := (st.take n).reverse) (rest := st.drop n) ⟨hx, hb, hml, hown, hts⟩ (hM D ca b0) ⟨callB_of n hts hG rfl rfl rfl (hts _ hini) hlk ⟨hn1, hn2, hn⟩ hRr, hts _ (jwd_in hok.2.2)⟩ hpre rfl (by simp; omega) hls (by simp) (lv_room hcat) hd ⟨hmc, hms⟩) hS fin
          · cases hr
        · cases hr
      · cases hr
    · next x =>
      split at hr
      · next q hq =>
        obtain ⟨g1, g2, g3, g4⟩ := jfind3 hq
        have g4 : q.2.2.1 = 0 := by simpa using g4
        have hok := jC_ok q g1
        unfold jCok at hok
        rw [g4] at hok
        simp only [Bool.and_eq_true] at hok
        split at hr
        · next n hn =>
          split at hr
          · next b r' hdr =>
            split at hr
            · next hcd =>
              cases hr
              have hlk := hts _ (jwd_in hok.2.1)
              rw [g2, g3] at hlk
              have hcat : (rest.map fun v => v.category).sum ≤ 8 := hcd.2
              have hnl : n ≤ st.length := by
                rcases Nat.lt_or_ge st.length n with g | g
                · rw [List.drop_eq_nil_of_le (by omega)] at hdr
                  cases hdr
                · exact g
              have hcell : ∃ cellB : Cell, H[b]? = some cellB ∧ cellB.vm.isStatics = false ∧ s.vm.findClass (jyn q.2.2.2.1).cls = some cellB.cls := by
                rcases hcd.1 with ⟨h13, hkb⟩ | ⟨h17, hkb⟩
                · have hbc := hR.2.2.2 b (by rw [hkb]; exact jtr_obj h13)
                  have hat := hR.2.2.1 b hbc.1 hbc.2
                  rw [jcell_obj hkb] at hat
                  obtain ⟨r0, hc, cell, c1, c2, c3, -⟩ := hat
                  have hcla := (hK.1 _ _ hc).2.1
                  exact ⟨cell, c1, by rw [c3]; rfl, by rw [hcn, ← jcn_cl hc, c2]; exact hcla⟩
                · obtain ⟨hz, adK, adV, hK6, hR6, hZ1, hZ2, hA6, hC6⟩ := hscr.2
                  obtain ⟨i, hi⟩ := Option.isSome_iff_exists.mp hkb
                  obtain ⟨hi6, hia⟩ := jtxt_spec hi
                  have hb9 : adK i = b := Option.some.inj ((hA6 i hi6).1.symm.trans hia)
                  rw [← hb9, hcn, h17]
                  exact vk_recv hK6 hi6 hS
              have hpv : PreV s H (jyn q.2.2.2.1).cls b (jPc D ca b0 (Value.ref b :: (st.take n).reverse) h) (st.take n).reverse := ⟨hpre.1, hcell, hpre.2⟩
              refine j_call (va_runV (As := (st.take n).reverse) (rest := rest) ⟨hx, hb, hml, hown, hts⟩ (hM D ca b0) ⟨callB_of n hts hG rfl rfl rfl (hts _ hini) hlk ⟨hn1, hn2, hn⟩ hRr, hts _ (jwd_in hok.2.2.1), hts _ (jwd_in hok.2.2.2)⟩ hpv rfl (by simp; omega) hls (by simp [← hdr]) (lv_room hcat) hd ⟨hmc, hms⟩) hS fin
            · cases hr
          · cases hr
        · cases hr
      · cases hr
    · next x =>
      split at hr
      · next q hq =>
        obtain ⟨g1, g2, g3, g4⟩ := jfind3 hq
        split at hr
        · next n hn =>
          split at hr
          · next b r' hdr =>
            split at hr
            · next hcd =>
              cases hr
              have hcat : (rest.map fun v => v.category).sum ≤ 8 := hcd
              have hnl : n ≤ st.length := by
                rcases Nat.lt_or_ge st.length n with g | g
                · rw [List.drop_eq_nil_of_le (by omega)] at hdr
                  cases hdr
                · exact g
              have hok := jC_ok q g1
              unfold jCok at hok
              have g4 : q.2.2.1 = 2 ∨ q.2.2.1 = 3 := by simpa using g4
              rcases g4 with g4 | g4
              · rw [g4] at hok
                simp only [Bool.and_eq_true, decide_eq_true_eq] at hok
                have hlk := hts _ (jwd_in hok.2.1)
                rw [g2, g3] at hlk
                have hrt := hok.2.2.2.2
                unfold jMet jwk at hM
                unfold jwk at hG
                rw [hrt] at hM hG
                exact j_call (va_runI (As := (st.take n).reverse) (rest := rest) ⟨hx, hb, hml, hown, hts⟩ (hM D ca b0) ⟨callB_of n hts hG rfl rfl rfl (hts _ hini) hlk ⟨hn1, hn2, hn⟩ hRr, hok.2.2.2.1, hts _ (jwd_in hok.2.2.1)⟩ hpre rfl (by simp; omega) hls (by simp [← hdr]) (lv_room hcat) hd ⟨hmc, hms⟩) hS fin
              · rw [g4] at hok
                simp only [Bool.and_eq_true, decide_eq_true_eq] at hok
                have hlk := htn _ (jwn_in hok.2.1)
                rw [g2, g3] at hlk
                have hrt := hok.2.2.2.2
                unfold jMet jwk at hM
                unfold jwk at hG
                rw [hrt] at hM hG
                exact j_call (va_runIN (As := (st.take n).reverse) (rest := rest) ⟨hx, hb, hml, hown, hts⟩ (hM D ca b0) ⟨va_cnB n hts hG rfl rfl rfl hlk (hts _ hini) ⟨hn1, hn2, hn⟩ hRr, hok.2.2.2.1, hts _ (jwd_in hok.2.2.1)⟩ hpre rfl (by simp; omega) hls (by simp [← hdr]) (lv_room hcat) hd ⟨hmc, hms⟩) hS fin
            · cases hr
          · cases hr
        · cases hr
      · cases hr
    · cases hr
  · cases hr
set_option maxHeartbeats 4000000 in
theorem jgo_sim (F : jFx D ca b0 p R s m args meth c k) {call : Nat → List Value → jH → jO} {d : Nat} (hrm : d + 1 ≤ R.frames ∧ 41 * (d + 1) ≤ R.locals) (hcall : ∀ k' as h1 r h2, call k' as h1 = some (r, h2) → k' < jlaw ∧ jMet l d k' as h1 r h2 ∧ jmono h1 h2)
    {r : Option Value} {h' : jH} {sl0 : Nat} (hle : jnx h' ≤ s.heap.size + R.cells ∧ jsl h' ≤ sl0 + R.slots)
    (hret : ∀ (pc : Nat) (i : Jvm.ClassFile.Instr) (len : Nat) (ls1 : Array Slot) (st : List Value) (H1 : Heap) (locs1 : List Loc) (cells1 slots1 : Nat), decode (jby k) pc = .ok (i, len) → jret k i len st = some r → jRel D ca b0 h' H1 → va_S (fun q => b0 ≤ q) s.heap H1 locs1 → s.heap.size + cells1 = jnx h' → sl0 + slots1 = jsl h' → W p l e R s m args below meth c H1 locs1 cells1 slots1 Q (F0 m pc ls1 st)) :
    ∀ (n pc : Nat) (lv : List (Option Value)) (st : List Value) (h : jH) (ls : Array Slot) (H : Heap) (locs : List Loc) (cells slots : Nat), jgo call k n pc lv st h = some (r, h') → jRel D ca b0 h H → va_S (fun q => b0 ≤ q) s.heap H locs → jScr b0 k s h → lv.length = jmx k → lv_has ls lv.length (jal lv) → s.heap.size + cells = jnx h → sl0 + slots = jsl h → W p l e R s m args below meth c H locs cells slots Q (F0 m pc ls st) := by
  intro n
  induction n with
  | zero => intro pc lv st h ls H locs cells slots hg; cases hg
  | succ n ih =>
    intro pc lv st h ls H locs cells slots hg hR hS hscr hlv hl hcl hsl
    have hmc : ∀ k as h r h1, call k as h = some (r, h1) → jmono h h1 := fun k as h r h1 q => (hcall k as h r h1 q).2.2
    unfold jgo at hg
    split at hg
    · next q hd =>
      split at hg
      · next t ht =>
        have hm := jgo_I hmc _ _ _ _ _ _ _ hg
        have hm0 := jstp_I ht
        exact jstp_sim F hR hS hscr hlv hl hd ht hcl hsl ⟨Nat.le_trans hm.1.1 hle.1, Nat.le_trans hm.1.2 hle.2⟩ (fun H1 locs1 c1 s1 ls1 q1 q2 q3 q4 q5 q6 => ih _ _ _ _ _ _ _ _ _ hg q1 q2 (hscr.next hR hm0) q3 q4 q5 q6)
      · split at hg
        · next rr hq =>
          cases hg
          exact hret _ _ _ _ _ _ _ _ _ hd hq hR hS hcl hsl
        · split at hg
          · next t ht =>
            split at hg
            · next z hz =>
              obtain ⟨hk', hM, hm0⟩ := hcall _ _ _ _ _ hz
              have hm := jgo_I hmc _ _ _ _ _ _ _ hg
              exact jcal_sim F hR hS hscr (by rw [hl.1, hlv]) hd ht hk' hM hm0 hrm hcl hsl ⟨Nat.le_trans hm.1.1 hle.1, Nat.le_trans hm.1.2 hle.2⟩ (fun H1 locs1 c1 s1 q1 q2 q5 q6 => ih _ _ _ _ _ _ _ _ _ hg q1 q2 (hscr.next hR hm0) hlv hl q5 q6)
            · cases hg
          · cases hg
    · cases hg
end JS5
theorem jsp_len (vs : List Value) : (jsp vs).length = (lg_sl vs).length := by
  induction vs with
  | nil => rfl
  | cons v r ih =>
    unfold jsp
    have e : lg_sl (v :: r) = (if v.category = 2 then [Slot.val v, .second] else [Slot.val v]) ++ lg_sl r := by simp [lg_sl]
    rw [e]
    split <;> simp [ih]
theorem jsp_args : ∀ (vs : List Value) (off i : Nat) (v : Value), (jsp vs).getD i none = some v → (off + i, v) ∈ lv_args off vs := by
  intro vs
  induction vs with
  | nil => intro off i v h; simp [jsp] at h
  | cons w r ih =>
    intro off i v h
    unfold jsp at h
    unfold lv_args
    by_cases hw : w.category = 2
    · rw [if_pos hw] at h
      rw [if_pos hw]
      match i, h with
      | 0, h => simp at h; subst h; exact List.mem_cons_self
      | 1, h => simp at h
      | i + 2, h =>
        have := ih (off + 2) i v (by simpa using h)
        rw [show off + (i + 2) = off + 2 + i by omega]
        exact List.mem_cons_of_mem _ this
    · rw [if_neg hw] at h
      rw [if_neg hw]
      match i, h with
      | 0, h => simp at h; subst h; exact List.mem_cons_self
      | i + 1, h =>
        have := ih (off + 1) i v (by simpa using h)
        rw [show off + (i + 1) = off + 1 + i by omega]
        exact List.mem_cons_of_mem _ this
theorem jent_len {n : Nat} {vs : List Value} (h : (jsp vs).length ≤ n) : (jent n vs).length = n := by
  simp [jent]
  omega
theorem jent_args {n : Nat} {vs : List Value} {i : Nat} {v : Value} (h : (jent n vs).getD i none = some v) : (i, v) ∈ lv_args 0 vs := by
  have := jsp_args vs 0 i v ?_
  · simpa using this
  · unfold jent at h
    rw [List.getD_eq_getElem?_getD] at h ⊢
    rcases Nat.lt_or_ge i (jsp vs).length with g | g
    · rw [List.getElem?_append_left g] at h
      exact h
    · rw [List.getElem?_append_right g, List.getElem?_replicate] at h
      split at h <;> cases h
theorem jent_has {n : Nat} {vs : List Value} (h : (jsp vs).length ≤ n) : lv_has ((lg_sl vs ++ List.replicate (n - (lg_sl vs).length) Slot.unset).toArray) (jent n vs).length (jal (jent n vs)) := by
  rw [jent_len h]
  exact jal_to (lv_entry vs (by rw [← jsp_len]; exact h)) (fun i v hv => jent_args hv)
/-- a return of a method -/
theorem jret_sim {p : Program} {l : Launch} {e : Env} {R : Room} {s : State} {m : MethodId} {args : Array Value} {below : List Frame} {meth : Method} {c : Code} {D : va_G} {ca : Nat → ClassId} {b0 k : Nat} (F : jFx D ca b0 p R s m args meth c k) {h' : jH} {r : Option Value} {pc : Nat} {i : Jvm.ClassFile.Instr} {len : Nat} {ls : Array Slot} {st : List Value} {H : Heap} {locs : List Loc} {cells slots : Nat} (hd : decode (jby k) pc = .ok (i, len)) (hq : jret k i len st = some r) (hR : jRel D ca b0 h' H) (hS : va_S (fun q => b0 ≤ q) s.heap H locs) :
    W p l e R s m args below meth c H locs cells slots (MQ below (jQc D ca b0 r h') args s cells slots (fun q => b0 ≤ q)) (F0 m pc ls st) := by
  obtain ⟨⟨hx, hb, hml⟩, hown, hts, htn, hK, -, hb0, hlk, hrt, hnm⟩ := F
  have hQ : ∀ t : State, t.heap = H → s.WarmedH t.vm → jQc D ca b0 r h' args s (.returned r) t := fun t ht _ => ⟨rfl, by rw [ht]; exact hR, hS.F ht⟩
  unfold jret at hq
  split at hq
  · next hj => cases hq; exact W.iret hx hb (hrt.trans hj) hQ hS.2.2 hd hlk
  · next hj =>
    split at hq
    · next hv =>
      cases hq
      exact W.zret hx hb (hrt.trans hj) (by rcases hv with rfl | rfl <;> rfl) hQ hS.2.2 hd hlk
    · cases hq
  · next hj =>
    split at hq
    · next hv =>
      cases hq
      exact W.zret hx hb (hrt.trans hj) (congrArg Value.int hv) hQ hS.2.2 hd hlk
    · cases hq
  · next hj =>
    split at hq
    · next hv =>
      cases hq
      exact W.zret hx hb (hrt.trans hj) (congrArg Value.int hv) hQ hS.2.2 hd hlk
    · cases hq
  · next hj => cases hq; exact W.lret hx hb (hrt.trans hj) hQ hS.2.2 hd hlk
  · next hj => cases hq; exact W.aret hx hb (hrt.trans hj) (Or.inl ⟨_, rfl⟩) (Or.inr ⟨_, rfl⟩) hQ hS.2.2 hd hlk
  · next hj => cases hq; exact W.aret hx hb (hrt.trans hj) (Or.inl ⟨_, rfl⟩) (Or.inl rfl) hQ hS.2.2 hd hlk
  · next hj => cases hq; exact W.aret hx hb (hrt.trans hj) (Or.inr ⟨_, rfl⟩) (Or.inr ⟨_, rfl⟩) hQ hS.2.2 hd hlk
  · next hj => cases hq; exact W.vret hx hb (hrt.trans hj) hQ hS.2.2 hd hlk
  · cases hq
set_option maxHeartbeats 4000000 in
/-- THE LITTLE MACHINE IS SOUND: what it runs, the machine runs, as a contract -/
theorem jrun_sim (l : Launch) : ∀ (d n k : Nat) (as : List Value) (h : jH) (r : Option Value) (h' : jH), jrun d n k as h = some (r, h') → k < jlaw ∧ jMet l d k as h r h' ∧ jmono h h' := by
  intro d
  induction d with
  | zero => intro n k as h r h' hg; cases hg
  | succ d ih =>
    intro n k as h r h' hg
    have hmo := jrun_I _ _ _ _ _ _ _ hg
    unfold jrun at hg
    split at hg
    · next hc =>
      obtain ⟨hlen, hk⟩ := hc
      refine ⟨hk, fun D ca b0 => ?_, hmo⟩
      obtain ⟨hini, hpl, hcn, h22, hn1, hn2⟩ := jM_spec hk
      refine Met.ofW (cc := jby k) (maxL := jmx k) (ret := jrt k) hpl rfl ?_
      intro p e s m args below meth c s₁ B hml hv
      obtain ⟨rfl, hrel, hK, htn, hold⟩ := hv
      have hts0 := atoms_spec (ws := jwk k) B.pre
      have hown : s.vm.findClass (jcn (jow k)) = some m.cls := by rw [← hcn]; exact findClass_of_methodNamed B.named
      have F : jFx D ca b0 p (headSpec (jwk k) (jrm (d + 1) h h')).room s m as.toArray meth c k := ⟨⟨B.exec, B.bytes, hml⟩, hown, fun w hw => hts0 w (List.mem_cons_of_mem _ hw), htn, hK, ⟨by show 1 ≤ d + 1; omega, by show 41 ≤ 41 * (d + 1); omega⟩, by have := hrel.1; have := hrel.2.1; omega, B.notSynchronized, B.returns, fun e9 => (name_of_methodNamed B.named B.method).1.trans e9⟩
      rw [lg_entry_eq]
      have hsz := hrel.1
      refine jgo_sim (sl0 := jsl h) F (d := d) ⟨Nat.le_refl _, Nat.le_refl _⟩ (fun k' as h1 r h2 q => ih n k' as h1 r h2 q) (r := r) (h' := h') ⟨by show jnx h' ≤ s.heap.size + (jnx h' - jnx h); omega, by show jsl h' ≤ jsl h + (jsl h' - jsl h); omega⟩ ?_ n 0 (jent (jmx k) as) [] h _ _ _ _ _ hg hrel va_S.rf ⟨fun e => by omega, hold⟩ (jent_len hlen) (jent_has hlen) (by omega) (by omega)
      intro pc i len ls1 st H1 locs1 cells1 slots1 q1 q2 q3 q4 q5 q6
      have e1 : cells1 = jnx h' - jnx h := by omega
      have e2 : slots1 = jsl h' - jsl h := by omega
      subst e1
      subst e2
      exact jret_sim F q1 q2 q3 q4
    · cases hg
