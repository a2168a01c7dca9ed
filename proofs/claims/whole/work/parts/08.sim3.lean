/-! what is written: the heap after it -/
theorem jnx_wI (h : jH) (a k : Nat) (v : Int32) : jnx (jwI h a k v) = jnx h := rfl
theorem jrel_of {D : va_G} {ca : Nat → ClassId} {b0 : Nat} {h1 : jH} {H1 : Heap} {sz cells1 : Nat} (hP : va_P D vwCl (jws ca b0 h1) H1) (hb : b0 ≤ sz) (hs : sz ≤ H1.size) (hc : sz + cells1 = jnx h1) (hu : H1.size ≤ sz + cells1) (htr : ∀ a, jtr (jK h1 a).1 = true → b0 ≤ a ∧ a < jnx h1) : jRel D ca b0 h1 H1 := by
  have hlo : jnx h1 ≤ H1.size := by
    rcases Nat.eq_zero_or_pos cells1 with h0 | h0
    · omega
    · have := (hP _ _ (jws_get ca (a := jnx h1 - 1) (by omega) (by omega))).lt
      have h2 : jnx h1 - 1 < H1.size := this
      omega
  exact ⟨by omega, by omega, fun q q1 q2 => hP _ _ (jws_get ca q1 q2), htr⟩
theorem jrel_keep {D : va_G} {ca : Nat → ClassId} {b0 : Nat} {h h1 : jH} {H1 : Heap} {a sz cells1 : Nat} (hb : b0 ≤ sz) (hs : sz ≤ H1.size) (hc : sz + cells1 = jnx h) (hu : H1.size ≤ sz + cells1) (hn : jnx h1 = jnx h) (hk : jK h1 = jK h) (htr : ∀ a, jtr (jK h a).1 = true → b0 ≤ a ∧ a < jnx h) (hcl : ∀ b, b ≠ a → jcell ca h1 b = jcell ca h b) (ha : b0 ≤ a) (hal : a < jnx h)
    (hP : va_P D vwCl ((jws ca b0 h).set (a - b0) (a, jcell ca h1 a)) H1) : jRel D ca b0 h1 H1 := by
  rw [jws_set ca hn hcl ha hal] at hP
  exact jrel_of hP hb hs (by rw [hn]; exact hc) hu (fun q hq => by rw [hk] at hq; rw [hn]; exact htr q hq)
/-- a new cell: its address is the next, and the relation goes on -/
theorem jrel_new {D : va_G} {ca : Nat → ClassId} {b0 : Nat} {h h1 : jH} {H1 : Heap} {q sz cells1 : Nat} {e : va_E} (hb : b0 ≤ sz) (hs : sz ≤ H1.size) (hc : sz + cells1 = jnx h) (hu : H1.size ≤ sz + (cells1 + 1)) (hP : va_P D vwCl (jws ca b0 h ++ [(q, e)]) H1) (hD : va_D (fun q => b0 ≤ q) (jws ca b0 h ++ [(q, e)]))
    (hn : jnx h1 = jnx h + 1) (htr : ∀ a, jtr (jK h a).1 = true → b0 ≤ a ∧ a < jnx h) (hkk : ∀ b, b ≠ jnx h → jK h1 b = jK h b) (hcl : ∀ b, b ≠ jnx h → jcell ca h1 b = jcell ca h b) (he : e = jcell ca h1 (jnx h)) : q = jnx h ∧ jRel D ca b0 h1 H1 := by
  have hlen : (jws ca b0 h).length = jnx h - b0 := by simp [jws]
  have hlast : (jws ca b0 h ++ [(q, e)])[jnx h - b0]? = some (q, e) := by rw [List.getElem?_append_right (by omega), hlen]; simp
  have hq0 : b0 ≤ q := hD.2 _ _ hlast
  have hq1 : q < H1.size := (hP _ _ hlast).lt
  have hq : q = jnx h := by
    by_cases hlt : q < jnx h
    · have h2 : (jws ca b0 h ++ [(q, e)])[q - b0]? = some (q, jcell ca h q) := by rw [List.getElem?_append_left (by omega)]; exact jws_get ca hq0 hlt
      have := hD.1 _ _ _ _ h2 hlast rfl
      omega
    · omega
  refine ⟨hq, jrel_of (cells1 := cells1 + 1) ?_ hb hs (by omega) hu ?_⟩
  · intro k x hx
    obtain ⟨k1, rfl⟩ := jws_inv hx
    by_cases hk : b0 + k = jnx h
    · rw [hk]
      have := hP _ _ hlast
      rw [he, hq] at this
      exact this
    · rw [hcl _ hk]
      refine hP k _ ?_
      rw [List.getElem?_append_left (by omega)]
      have := jws_get ca (h := h) (b0 := b0) (a := b0 + k) (by omega) (by omega)
      rw [show b0 + k - b0 = k by omega] at this
      exact this
  · intro a ha
    by_cases hk : a = jnx h
    · omega
    · rw [hkk a hk] at ha
      have := htr a ha
      omega
theorem W.sized {p : Program} {l : Launch} {e : Env} {R : Room} {s : State} {m : MethodId} {args : Array Value} {below : List Frame} {meth : Method} {c : Code} {H : Heap} {locs : List Loc} {cells slots : Nat} {Q : State → Prop} {g : JFrame} (k : H.size ≤ s.heap.size + cells → W p l e R s m args below meth c H locs cells slots Q g) : W p l e R s m args below meth c H locs cells slots Q g := fun T hT X => k (by rw [← hT]; exact X.heapSize) T hT X
theorem jcell_same {ca : Nat → ClassId} {h h1 : jH} {b : Nat} (hk : jK h1 b = jK h b) (hI : jI h1 b = jI h b) (hJ : jJ h1 b = jJ h b) (hr : jR h1 b = jR h b) : jcell ca h1 b = jcell ca h b := by
  unfold jcell jfs jfv
  rw [hk, hI, hJ, hr]
theorem jup_ne {α : Type} {f : Nat → Nat → α} {a k b : Nat} {v : α} (h : b ≠ a) : jup f a k v b = f b := by
  funext j
  simp [jup, h]
theorem jur_ne {α : Type} {f : Nat → α} {a b : Nat} {v : α} (h : b ≠ a) : jur f a v b = f b := by simp [jur, h]
theorem jur_eq {α : Type} {f : Nat → α} {a : Nat} {v : α} : jur f a v a = v := by simp [jur]
theorem jup_eq (f : Nat → Nat → Int32) (a k : Nat) (v : Int32) : jup f a k v a = upd (f a) k v := by
  funext j
  simp [jup, upd]
theorem jup_eqJ (f : Nat → Nat → Int64) (a k : Nat) (v : Int64) : jup f a k v a = vp_updL (f a) k v := by
  funext j
  simp [jup, vp_updL]
theorem jup_eqR (f : Nat → Nat → Option Nat) (a k : Nat) (v : Option Nat) : jup f a k v a = va_up (f a) k v := by
  funext j
  simp [jup, va_up]
theorem jcell_wI (ca : Nat → ClassId) (h : jH) (a k : Nat) (v : Int32) {b : Nat} (hb : b ≠ a) : jcell ca (jwI h a k v) b = jcell ca h b := jcell_same rfl (jup_ne hb) rfl rfl
theorem jcell_wJ (ca : Nat → ClassId) (h : jH) (a k : Nat) (v : Int64) {b : Nat} (hb : b ≠ a) : jcell ca (jwJ h a k v) b = jcell ca h b := jcell_same rfl rfl (jup_ne hb) rfl
theorem jcell_wR (ca : Nat → ClassId) (h : jH) (a k : Nat) (v : Option Nat) {b : Nat} (hb : b ≠ a) : jcell ca (jwR h a k v) b = jcell ca h b := jcell_same rfl rfl rfl (jup_ne hb)
theorem jcell_wr (ca : Nat → ClassId) (h : jH) (a : Nat) (f : Nat → Int32) {b : Nat} (hb : b ≠ a) : jcell ca (jwr h a f) b = jcell ca h b := jcell_same rfl (jur_ne hb) rfl rfl
/-- fields after a store -/
theorem jfs_set {ci k : Nat} {h h1 : jH} {a : Nat} {v : Value} (hv : jfv ci k h1 a = v) (ho : ∀ j, j ≠ k → jfv ci j h1 a = jfv ci j h a) : (jfs ci h a).set k v = jfs ci h1 a := by
  apply List.ext_getElem?
  intro j
  unfold jfs
  rw [List.getElem?_set, List.getElem?_map, List.getElem?_map]
  by_cases hj : k = j
  · subst hj
    rw [if_pos rfl]
    by_cases hl : k < jN ci
    · rw [if_pos (by simpa using hl), List.getElem?_range hl]
      simp [hv]
    · rw [if_neg (by simpa using hl), List.getElem?_eq_none (by simp; omega)]
      rfl
  · rw [if_neg hj]
    by_cases hl : j < jN ci
    · rw [List.getElem?_range hl]
      simp only [Option.map_some]
      rw [ho j (Ne.symm hj)]
    · rw [List.getElem?_eq_none (by simp; omega)]
      rfl
/-- a field's store: the new heap's own cell, and what the machine asks of the value -/
theorem jpf_spec {ci k : Nat} {h h1 : jH} {a : Nat} {v : Value} (hp : jpf ci k h a v = some h1) : jnx h1 = jnx h ∧ jsl h1 = jsl h ∧ jK h1 = jK h ∧ (∀ ca b, b ≠ a → jcell ca h1 b = jcell ca h b) ∧ (jfs ci h a).set k v = jfs ci h1 a ∧ narrow (jty ci k) v = v ∧ fits (jty ci k) v = true ∧ ∀ b, b ≠ a → jI h1 b = jI h b ∧ jR h1 b = jR h b := by
  unfold jpf at hp
  split at hp
  · next ht => cases hp; exact ⟨rfl, rfl, rfl, fun ca b hb => jcell_wI ca h a k _ hb, jfs_set (by simp [jfv, ht, jfk, jwI, jI, jup]) (fun j hj => by simp [jfv, jwI, jI, jJ, jR, jup, hj]), by rw [ht]; rfl, by rw [ht]; rfl, fun b hb => ⟨jup_ne hb, rfl⟩⟩
  · next ht =>
    split at hp
    · next hx => cases hp; exact ⟨rfl, rfl, rfl, fun ca b hb => jcell_wI ca h a k _ hb, jfs_set (by simp [jfv, ht, jfk, jwI, jI, jup]) (fun j hj => by simp [jfv, jwI, jI, jJ, jR, jup, hj]), by rw [ht]; rcases hx with rfl | rfl <;> rfl, by rw [ht]; rcases hx with rfl | rfl <;> rfl, fun b hb => ⟨jup_ne hb, rfl⟩⟩
    · cases hp
  · next ht => cases hp; exact ⟨rfl, rfl, rfl, fun ca b hb => jcell_wJ ca h a k _ hb, jfs_set (by simp [jfv, ht, jfk, jwJ, jJ, jup]) (fun j hj => by simp [jfv, jwJ, jI, jJ, jR, jup, hj]), by rw [ht]; rfl, by rw [ht]; rfl, fun b hb => ⟨rfl, rfl⟩⟩
  · next ht => cases hp; exact ⟨rfl, rfl, rfl, fun ca b hb => jcell_wR ca h a k _ hb, jfs_set (by simp [jfv, ht, jfk, jwR, jR, jup, va_rf]) (fun j hj => by simp [jfv, jwR, jI, jJ, jR, jup, hj]), by rw [ht]; rfl, by rw [ht]; rfl, fun b hb => ⟨rfl, jup_ne hb⟩⟩
  · next ht => cases hp; exact ⟨rfl, rfl, rfl, fun ca b hb => jcell_wR ca h a k _ hb, jfs_set (by simp [jfv, ht, jfk, jwR, jR, jup, va_rf]) (fun j hj => by simp [jfv, jwR, jI, jJ, jR, jup, hj]), by rw [ht]; rfl, by rw [ht]; rfl, fun b hb => ⟨rfl, jup_ne hb⟩⟩
  · next ht => cases hp; exact ⟨rfl, rfl, rfl, fun ca b hb => jcell_wR ca h a k _ hb, jfs_set (by simp [jfv, ht, jfk, jwR, jR, jup, va_rf]) (fun j hj => by simp [jfv, jwR, jI, jJ, jR, jup, hj]), by rw [ht]; rfl, by rw [ht]; rfl, fun b hb => ⟨rfl, jup_ne hb⟩⟩
  · next ht => cases hp; exact ⟨rfl, rfl, rfl, fun ca b hb => jcell_wR ca h a k _ hb, jfs_set (by simp [jfv, ht, jfk, jwR, jR, jup, va_rf]) (fun j hj => by simp [jfv, jwR, jI, jJ, jR, jup, hj]), by rw [ht]; rfl, by rw [ht]; rfl, fun b hb => ⟨rfl, jup_ne hb⟩⟩
  · cases hp
theorem jcell_new (ca : Nat → ClassId) (h : jH) (kd n : Nat) {b : Nat} (hb : b ≠ jnx h) : jcell ca (jnew h kd n) b = jcell ca h b := jcell_same (jur_ne hb) (jur_ne hb) (jur_ne hb) (jur_ne hb)
theorem jK_new (h : jH) (kd n : Nat) : jK (jnew h kd n) (jnx h) = (kd, n) := jur_eq
theorem jI_new (h : jH) (kd n : Nat) : jI (jnew h kd n) (jnx h) = fun _ => 0 := jur_eq
theorem jJ_new (h : jH) (kd n : Nat) : jJ (jnew h kd n) (jnx h) = fun _ => 0 := jur_eq
theorem jR_new (h : jH) (kd n : Nat) : jR (jnew h kd n) (jnx h) = fun _ => none := jur_eq
/-- types of fields: every one is a kind that the little machine knows -/
theorem jfk_ok : ∀ ci, ci < 13 → ∀ k, k < jN ci → jfk (jty ci k) ≠ 3 := by decide +kernel
theorem jfv_new {ci k : Nat} (h : jH) (kd n : Nat) (hci : ci < 13) (hk : k < jN ci) : jfv ci k (jnew h kd n) (jnx h) = defaultValue (jty ci k) := by
  have h3 := jfk_ok ci hci k hk
  unfold jfv
  rw [jI_new, jJ_new, jR_new]
  generalize jty ci k = t at h3 ⊢
  cases t <;> first | rfl | exact absurd rfl h3
theorem jcn_cl {ci : Nat} {r : vw_C} (h : vwCl[ci]? = some r) : r.1 = jcn ci := by
  match ci, h with
  | 0, h => cases h; rfl
  | 1, h => cases h; rfl
  | 2, h => cases h; rfl
  | 3, h => cases h; rfl
  | 4, h => cases h; rfl
  | 5, h => cases h; rfl
  | 6, h => cases h; rfl
  | 7, h => cases h; rfl
  | 8, h => cases h; rfl
  | 9, h => cases h; rfl
  | 10, h => cases h; rfl
  | 11, h => cases h; rfl
  | 12, h => cases h; rfl
  | n + 13, h => exact absurd h (by simp [vwCl])
section JS3
variable {p : Program} {l : Launch} {e : Env} {R : Room} {s : State} {m : MethodId} {args : Array Value} {below : List Frame} {meth : Method} {c : Code} {H : Heap} {locs : List Loc} {cells slots : Nat} {Q : State → Prop}
variable {pc : Nat} {ls : Array Slot} {D : va_G} {ca : Nat → ClassId} {b0 k : Nat} {h : jH}
theorem jcA {t0 : Nat} {cA cB : ClassId} {ty : FieldType} {tys : List (ClassId × FieldType)} (hK : va_K D vwCl tys s) (hK1 : va_K D vwCl (tys ++ [(cA, ty)]) s) (h0 : tys[t0]? = some (cB, ty)) : cA = cB := by
  have h1 := (hK.2 t0 _ h0).2
  have h2 := (hK1.2 tys.length (cA, ty) (by simp)).2
  cases ty with
  | object C =>
    obtain ⟨_, _, -, -, -, g1⟩ := h1
    obtain ⟨_, _, -, -, -, g2⟩ := h2
    exact Option.some.inj (g2.symm.trans g1)
  | _ => exact Option.some.inj (h2.symm.trans h1)
set_option maxHeartbeats 4000000 in
theorem jwt_sim (F : jFx D ca b0 p R s m args meth c k) (hR : jRel D ca b0 h H) (hS : va_S (fun q => b0 ≤ q) s.heap H locs) {i : Jvm.ClassFile.Instr} {st st' : List Value} {h1 : jH} (hd : decode (jby k) pc = .ok (i, jwln i)) (hr : jwt k i st h = some (st', h1))
    {sl0 : Nat} (hcl : s.heap.size + cells = jnx h) (hsl : sl0 + slots = jsl h) (hle : jnx h1 ≤ s.heap.size + R.cells ∧ jsl h1 ≤ sl0 + R.slots)
    (kk : ∀ (H1 : Heap) (locs1 : List Loc) (cells1 slots1 : Nat), jRel D ca b0 h1 H1 → va_S (fun q => b0 ≤ q) s.heap H1 locs1 → s.heap.size + cells1 = jnx h1 → sl0 + slots1 = jsl h1 → W p l e R s m args below meth c H1 locs1 cells1 slots1 Q (F0 m (pc + jwln i) ls st')) : W p l e R s m args below meth c H locs cells slots Q (F0 m pc ls st) := by
  obtain ⟨⟨hx, hb, hml⟩, hown, hts, htn, hK, hrm, hb0, hmt⟩ := F
  have hP := hR.P
  have hD := jws_D ca b0 h
  have hA : ∀ q, s.heap.size ≤ q → b0 ≤ q := fun q hq => Nat.le_trans hb0 hq
  unfold jwt at hr
  split at hr
  · next x v a r =>
    split at hr
    · next q hq =>
      split at hr
      · next hk =>
        obtain ⟨hk, hfn⟩ := hk
        obtain ⟨h2, hpf, e9⟩ := Option.map_eq_some_iff.mp hr
        cases e9
        obtain ⟨g1, g2, g3⟩ := jfind2 hq
        obtain ⟨r, hc, hlt, hlk⟩ := jF_spec g1
        obtain ⟨hin, hty, hnm, hfo⟩ := jcl_ok hc
        obtain ⟨p1, p2, p3, p4, p5, p6, p7, -⟩ := jpf_spec hpf
        have hac := hR.2.2.2 _ (by rw [hk]; exact jtr_obj (jcl_lt hc))
        have he := jws_get ca hac.1 hac.2
        rw [jcell_obj hk] at he
        have hl : q.2.2.2.1 < (jfs q.2.2.1 h a).length := by rw [jfs_len, jN_of hc]; exact hlt
        have hk1 : (jK h1 a).1 = 20 + q.2.2.1 := by rw [p3]; exact hk
        have fin : ∀ (H1 : Heap) (locs1 : List Loc), va_P D vwCl ((jws ca b0 h).set (a - b0) (a, .inr (q.2.2.1, (jfs q.2.2.1 h a).set q.2.2.2.1 v))) H1 → va_D (fun q => b0 ≤ q) ((jws ca b0 h).set (a - b0) (a, .inr (q.2.2.1, (jfs q.2.2.1 h a).set q.2.2.2.1 v))) → va_S (fun q => b0 ≤ q) s.heap H1 locs1 → W p l e R s m args below meth c H1 locs1 cells slots Q (F0 m (pc + 3) ls st') := by
          intro H1 locs1 q1 q2 q3
          refine W.sized fun q4 => ?_
          rw [p5, ← jcell_obj (ca := ca) hk1] at q1
          exact kk H1 locs1 cells slots (jrel_keep hb0 q3.1 hcl q4 p1 p3 hR.2.2.2 (p4 ca) hac.1 hac.2 q1) q3 (by rw [p1]; exact hcl) (by rw [p2]; exact hsl)
        have hjf : jfin q.2.2.1 q.2.2.2.1 = (r.2.1 q.2.2.2.1).2.2.2 := by unfold jfin; rw [hc]
        rw [hjf] at hfn
        rw [g2, g3] at hlk
        rcases hlk with ⟨hn0, hlk⟩ | ⟨hn0, hlk⟩
        · cases hf : (r.2.1 q.2.2.2.1).2.2.2 with
          | false => exact va_put hx hb hts hin (jty q.2.2.1) hty hnm hown hK hP hD hS _ he hc _ hlt (hts _ hlk) (fun x hxx => by rw [hfo _ hlt] at hxx; exact hxx) hf (hty _ hlt) p6 p7 hl hd fin
          | true =>
            rcases hfn with hfn | ⟨hi1, hi2, -⟩
            · rw [hf] at hfn; cases hfn
            · have hrn : (r.2.1 q.2.2.2.1).1 = jcn (jow k) := by
                rw [hfo _ hlt, hi2]
                exact jcn_cl hc
              exact va_putF hx hb hts hin (jty q.2.2.1) hty hnm hown hK hP hD hS _ he hc _ hlt (hts _ hlk) (fun x hxx => by rw [hfo _ hlt] at hxx; exact hxx) hf (hmt.2.2 hi1) hrn (hty _ hlt) p6 p7 hl hd fin
        · rcases hfn with hfn | ⟨-, -, hi3⟩
          · exact va_putN hx hb hts hin (jty q.2.2.1) hty hnm hown hK hP hD hS _ he hc _ hlt (va_Nw.use rfl (htn _ hlk)) (fun x hxx => by rw [hfo _ hlt] at hxx; exact hxx) hfn (hty _ hlt) p6 p7 hl hd fin
          · exact absurd hi3 hn0
      · cases hr
    · cases hr
  · next x j a r =>
    split at hr
    · next hk =>
      cases hr
      obtain ⟨hk, hj⟩ := hk
      have hac := hR.2.2.2 _ (by rw [hk]; rfl)
      have he := jws_get ca hac.1 hac.2
      rw [jcell_i hk (by omega)] at he
      refine va_iast hx hb hK hP hD hS _ 0 he rfl (jinb_in hj) hd fun H1 locs1 q1 q2 q3 => W.sized fun q4 => ?_
      refine kk H1 locs1 cells slots (jrel_keep hb0 q3.1 hcl q4 rfl rfl hR.2.2.2 (fun b hb => jcell_wI ca h a _ _ hb) hac.1 hac.2 ?_) q3 hcl hsl
      rw [jcell_i (t := 1) (h := jwI h a j.toNatClampNeg x) hk (by omega)]
      show va_P D vwCl ((jws ca b0 h).set (a - b0) (a, .inl (ca 1, (jK h a).2, .inl (jup (jI h) a j.toNatClampNeg x a)))) H1
      rw [jup_eq]
      exact q1
    · cases hr
  · next x j a r =>
    split at hr
    · next hk =>
      cases hr
      obtain ⟨hk, hj⟩ := hk
      have hac := hR.2.2.2 _ (by rw [hk]; rfl)
      have he := jws_get ca hac.1 hac.2
      rw [jcell_i hk (by omega)] at he
      refine va_zast hx hb hK hP hD hS _ 1 he rfl (jinb_in hj) hd fun H1 locs1 q1 q2 q3 => W.sized fun q4 => ?_
      refine kk H1 locs1 cells slots (jrel_keep hb0 q3.1 hcl q4 rfl rfl hR.2.2.2 (fun b hb => jcell_wI ca h a _ _ hb) hac.1 hac.2 ?_) q3 hcl hsl
      rw [jcell_i (t := 2) (h := jwI h a j.toNatClampNeg (vp_nar .boolean x)) hk (by omega)]
      show va_P D vwCl ((jws ca b0 h).set (a - b0) (a, .inl (ca 2, (jK h a).2, .inl (jup (jI h) a j.toNatClampNeg (vp_nar .boolean x) a)))) H1
      rw [jup_eq]
      exact q1
    · split at hr
      · next hk =>
        cases hr
        obtain ⟨hk, hj⟩ := hk
        have hac := hR.2.2.2 _ (by rw [hk]; rfl)
        have he := jws_get ca hac.1 hac.2
        rw [jcell_i hk (by omega)] at he
        refine va_bast hx hb hK hP hD hS _ 2 he rfl (jinb_in hj) hd fun H1 locs1 q1 q2 q3 => W.sized fun q4 => ?_
        refine kk H1 locs1 cells slots (jrel_keep hb0 q3.1 hcl q4 rfl rfl hR.2.2.2 (fun b hb => jcell_wI ca h a _ _ hb) hac.1 hac.2 ?_) q3 hcl hsl
        rw [jcell_i (t := 3) (h := jwI h a j.toNatClampNeg (vp_nar .byte x)) hk (by omega)]
        show va_P D vwCl ((jws ca b0 h).set (a - b0) (a, .inl (ca 3, (jK h a).2, .inl (jup (jI h) a j.toNatClampNeg (vp_nar .byte x) a)))) H1
        rw [jup_eq]
        exact q1
      · cases hr
  · next x j a r =>
    split at hr
    · next hk =>
      cases hr
      obtain ⟨hk, hj⟩ := hk
      have hac := hR.2.2.2 _ (by rw [hk]; rfl)
      have he := jws_get ca hac.1 hac.2
      rw [jcell_l hk] at he
      refine va_last hx hb hK hP hD hS _ 3 he rfl (jinb_in hj) hd fun H1 locs1 q1 q2 q3 => W.sized fun q4 => ?_
      refine kk H1 locs1 cells slots (jrel_keep hb0 q3.1 hcl q4 rfl rfl hR.2.2.2 (fun b hb => jcell_wJ ca h a _ _ hb) hac.1 hac.2 ?_) q3 hcl hsl
      rw [jcell_l (h := jwJ h a j.toNatClampNeg x) hk]
      show va_P D vwCl ((jws ca b0 h).set (a - b0) (a, .inl (ca 4, (jK h a).2, .inr (.inl (jup (jJ h) a j.toNatClampNeg x a))))) H1
      rw [jup_eqJ]
      exact q1
    · cases hr
  · next b j a r =>
    split at hr
    · next hk =>
      cases hr
      obtain ⟨⟨⟨h5, h7⟩, hkb⟩, hj⟩ := hk
      have hac := hR.2.2.2 _ (jtr_arr (by omega) h7)
      have he := jws_get ca hac.1 hac.2
      rw [jcell_r rfl h5 h7] at he
      generalize ht : (jK h a).1 = t at h5 h7 he hkb
      have hz : ∃ (t0 : Nat) (r : vw_C), (jtys ca)[t0]? = some (ca t, .object r.1) ∧ vwCl[jarC t]? = some r ∧ jarC t < 13 := by
        rcases (by omega : t = 5 ∨ t = 6 ∨ t = 7) with rfl | rfl | rfl
        · exact ⟨4, (RX3, TX3, 5), rfl, rfl, by decide⟩
        · exact ⟨5, (RX7, TX7, 4), rfl, rfl, by decide⟩
        · exact ⟨6, (RX9, TX9, 5), rfl, rfl, by decide⟩
      obtain ⟨t0, r0, ht0, hr0, hj13⟩ := hz
      have hbc := hR.2.2.2 b (by rw [hkb]; exact jtr_obj hj13)
      have heb := jws_get ca hbc.1 hbc.2
      rw [jcell_obj hkb] at heb
      refine va_astq hx hb hK hP hD hS _ t0 _ _ he ht0 heb hr0 (jinb_in hj) hd fun H1 locs1 q1 q2 q3 => W.sized fun q4 => ?_
      refine kk H1 locs1 cells slots (jrel_keep hb0 q3.1 hcl q4 rfl rfl hR.2.2.2 (fun b hb => jcell_wR ca h a _ _ hb) hac.1 hac.2 ?_) q3 hcl hsl
      rw [jcell_r (t := t) (h := jwR h a j.toNatClampNeg (some b)) ht h5 h7]
      show va_P D vwCl ((jws ca b0 h).set (a - b0) (a, .inl (ca t, (jK h a).2, .inr (.inr (.inr (.inr (jup (jR h) a j.toNatClampNeg (some b) a))))))) H1
      rw [jup_eqR]
      exact q1
    · cases hr
  · next x r =>
    split at hr
    · next q hq =>
      cases hr
      obtain ⟨g1, g2, g3⟩ := jfind2 hq
      obtain ⟨hw0, hw1⟩ := Bool.and_eq_true_iff.mp (jN_ok q g1)
      have h13 := of_decide_eq_true hw0
      have hw1 := hts _ (jwd_in hw1)
      rw [g2, g3] at hw1
      obtain ⟨r0, hc⟩ : ∃ r0, vwCl[q.2.2.1]? = some r0 := ⟨_, List.getElem?_eq_getElem (by exact h13)⟩
      obtain ⟨hin, hty, hnm, hfo⟩ := jcl_ok hc
      have hob := job_ok q.2.2.1 h13
      unfold jobOk at hob
      rw [hc] at hob
      obtain ⟨ho1, ho2⟩ := Bool.and_eq_true_iff.mp hob
      rw [← jcn_cl hc] at hw1
      have e1 : jnx h + 1 ≤ s.heap.size + R.cells := hle.1
      have e2 : jsl h + jN q.2.2.1 ≤ sl0 + R.slots := hle.2
      rw [jN_of hc] at e2
      refine va_new hx hb hts hin (jty q.2.2.1) hty hown hw1 (hts _ (jwd_in ho1)) (hts _ (jwd_in ho2)) hK hP hD hS hA hc (fs := jfs q.2.2.1 (jnew h (20 + q.2.2.1) (jN q.2.2.1)) (jnx h)) (fun j hj => ?_) (by omega) (by omega) hd fun qa H1 q1 q2 q3 => W.sized fun q4 => ?_
      · rw [← jN_of hc] at hj
        unfold vp_V
        rw [List.getD_eq_getElem?_getD, jfs_get _ _ hj, Option.getD_some, jfv_new h _ _ h13 hj]
      · obtain ⟨z1, z2⟩ := jrel_new (h1 := jnew h (20 + q.2.2.1) (jN q.2.2.1)) hb0 q3.1 hcl q4 q1 q2 rfl hR.2.2.2 (fun b hb => jur_ne hb) (fun b hb => jcell_new ca h _ _ hb) (jcell_obj (by rw [jK_new])).symm
        subst z1
        exact kk H1 locs (cells + 1) _ z2 q3 (by show _ = jnx h + 1; omega) (by show _ = jsl h + jN q.2.2.1; rw [jN_of hc]; omega)
    · cases hr
  · next t n r =>
    split at hr
    · next hk =>
      cases hr
      obtain ⟨hk0, hn, hn2⟩ := hk
      have e1 : jnx h + 1 ≤ s.heap.size + R.cells := hle.1
      have e2 : jsl h + n.toNatClampNeg ≤ sl0 + R.slots := hle.2
      have hcb : n.toNatClampNeg * componentBytes (newarray.typeOf t) ≤ 536870912 := by
        have : componentBytes (newarray.typeOf t) ≤ 8 := by cases t <;> decide
        have := Nat.mul_le_mul hn2 this
        omega
      cases t <;> first | exact absurd rfl hk0 | skip
      · refine va_newa (atype := .boolean) (a0 := (n.toNatClampNeg, .inl (fun _ => 0))) hx hb (hts _ (jwd_in jar2)) (ty := .boolean) rfl hK hP hD hS hA (fun cA => rfl) hn rfl hcb (by omega) (by omega) hd fun qa cA H1 qK q1 q2 q3 => W.sized fun q4 => ?_
        have hcA := jcA (t0 := 1) hK qK rfl
        subst hcA
        obtain ⟨z1, z2⟩ := jrel_new (h1 := jnew h 2 n.toNatClampNeg) hb0 q3.1 hcl q4 q1 q2 rfl hR.2.2.2 (fun b hb => jur_ne hb) (fun b hb => jcell_new ca h _ _ hb) (by rw [jcell_i (t := 2) (by rw [jK_new]) (by omega), jK_new, jI_new])
        subst z1
        exact kk H1 locs (cells + 1) _ z2 q3 (by show _ = jnx h + 1; omega) (by show _ = jsl h + n.toNatClampNeg; omega)
      · refine va_newa (atype := .byte) (a0 := (n.toNatClampNeg, .inl (fun _ => 0))) hx hb (hts _ (jwd_in jar3)) (ty := .byte) rfl hK hP hD hS hA (fun cA => rfl) hn rfl hcb (by omega) (by omega) hd fun qa cA H1 qK q1 q2 q3 => W.sized fun q4 => ?_
        have hcA := jcA (t0 := 2) hK qK rfl
        subst hcA
        obtain ⟨z1, z2⟩ := jrel_new (h1 := jnew h 3 n.toNatClampNeg) hb0 q3.1 hcl q4 q1 q2 rfl hR.2.2.2 (fun b hb => jur_ne hb) (fun b hb => jcell_new ca h _ _ hb) (by rw [jcell_i (t := 3) (by rw [jK_new]) (by omega), jK_new, jI_new])
        subst z1
        exact kk H1 locs (cells + 1) _ z2 q3 (by show _ = jnx h + 1; omega) (by show _ = jsl h + n.toNatClampNeg; omega)
      · refine va_newa (atype := .int) (a0 := (n.toNatClampNeg, .inl (fun _ => 0))) hx hb (hts _ (jwd_in jar1)) (ty := .int) rfl hK hP hD hS hA (fun cA => rfl) hn rfl hcb (by omega) (by omega) hd fun qa cA H1 qK q1 q2 q3 => W.sized fun q4 => ?_
        have hcA := jcA (t0 := 0) hK qK rfl
        subst hcA
        obtain ⟨z1, z2⟩ := jrel_new (h1 := jnew h 1 n.toNatClampNeg) hb0 q3.1 hcl q4 q1 q2 rfl hR.2.2.2 (fun b hb => jur_ne hb) (fun b hb => jcell_new ca h _ _ hb) (by rw [jcell_i (t := 1) (by rw [jK_new]) (by omega), jK_new, jI_new])
        subst z1
        exact kk H1 locs (cells + 1) _ z2 q3 (by show _ = jnx h + 1; omega) (by show _ = jsl h + n.toNatClampNeg; omega)
      · refine va_newa (atype := .long) (a0 := (n.toNatClampNeg, .inr (.inl (fun _ => 0)))) hx hb (hts _ (jwd_in jar4)) (ty := .long) rfl hK hP hD hS hA (fun cA => rfl) hn rfl hcb (by omega) (by omega) hd fun qa cA H1 qK q1 q2 q3 => W.sized fun q4 => ?_
        have hcA := jcA (t0 := 3) hK qK rfl
        subst hcA
        obtain ⟨z1, z2⟩ := jrel_new (h1 := jnew h 4 n.toNatClampNeg) hb0 q3.1 hcl q4 q1 q2 rfl hR.2.2.2 (fun b hb => jur_ne hb) (fun b hb => jcell_new ca h _ _ hb) (by rw [jcell_l (by rw [jK_new]), jK_new, jJ_new])
        subst z1
        exact kk H1 locs (cells + 1) _ z2 q3 (by show _ = jnx h + 1; omega) (by show _ = jsl h + n.toNatClampNeg; omega)
    · cases hr
  · next x n r =>
    split at hr
    · next q hq =>
      split at hr
      · next hn =>
        cases hr
        obtain ⟨hn, hn2⟩ := hn
        obtain ⟨g1, g2, g3⟩ := jfind2 hq
        obtain ⟨hw0, hw1⟩ := Bool.and_eq_true_iff.mp (jA_ok q g1)
        obtain ⟨hw2, hw3⟩ := Bool.and_eq_true_iff.mp hw0
        obtain ⟨hw4, hw5⟩ := Bool.and_eq_true_iff.mp hw1
        have h5 := of_decide_eq_true hw2
        have h7 := of_decide_eq_true hw3
        have hw4 := hts _ (jwd_in hw4)
        have hw5 := htn _ (jwn_in hw5)
        rw [g2, g3] at hw4
        have e1 : jnx h + 1 ≤ s.heap.size + R.cells := hle.1
        have e2 : jsl h + n.toNatClampNeg ≤ sl0 + R.slots := hle.2
        generalize q.2.2.1 = t at h5 h7 hw4 hw5 kk
        have hz : ∃ t0 : Nat, (jtys ca)[t0]? = some (ca t, .object (jcn (jarC t))) := by
          rcases (by omega : t = 5 ∨ t = 6 ∨ t = 7) with rfl | rfl | rfl
          · exact ⟨4, rfl⟩
          · exact ⟨5, rfl⟩
          · exact ⟨6, rfl⟩
        obtain ⟨t0, ht0⟩ := hz
        refine va_newq hx hb hown hw4 hw5 hK hP hD hS hA hn rfl (by omega) (by omega) (by omega) hd fun qa cA H1 qK q1 q2 q3 => W.sized fun q4 => ?_
        have hcA := jcA (t0 := t0) hK qK ht0
        subst hcA
        obtain ⟨z1, z2⟩ := jrel_new (h1 := jnew h t n.toNatClampNeg) hb0 q3.1 hcl q4 q1 q2 rfl hR.2.2.2 (fun b hb => jur_ne hb) (fun b hb => jcell_new ca h _ _ hb) (by rw [jcell_r (t := t) (by rw [jK_new]) h5 h7, jK_new, jR_new])
        subst z1
        exact kk H1 locs (cells + 1) _ z2 q3 (by show _ = jnx h + 1; omega) (by show _ = jsl h + n.toNatClampNeg; omega)
      · cases hr
    · cases hr
  · cases hr
set_option maxHeartbeats 4000000 in
theorem jown_sim (F : jFx D ca b0 p R s m args meth c k) (hR : jRel D ca b0 h H) (hS : va_S (fun q => b0 ≤ q) s.heap H locs) (hls : ls.size = jmx k) {i : Jvm.ClassFile.Instr} {st st' : List Value} {h1 : jH} (hd : decode (jby k) pc = .ok (i, 3)) (hr : jown k i st h = some (st', h1))
    {sl0 : Nat} (hcl : s.heap.size + cells = jnx h) (hsl : sl0 + slots = jsl h) (hle : jnx h1 ≤ s.heap.size + R.cells ∧ jsl h1 ≤ sl0 + R.slots)
    (kk : ∀ (H1 : Heap) (locs1 : List Loc) (cells1 slots1 : Nat), jRel D ca b0 h1 H1 → va_S (fun q => b0 ≤ q) s.heap H1 locs1 → s.heap.size + cells1 = jnx h1 → sl0 + slots1 = jsl h1 → W p l e R s m args below meth c H1 locs1 cells1 slots1 Q (F0 m (pc + 3) ls st')) : W p l e R s m args below meth c H locs cells slots Q (F0 m pc ls st) := by
  obtain ⟨⟨hx, hb, hml⟩, hown, hts, htn, hK, hrm, hb0, hmt⟩ := F
  have hP := hR.P
  have hD := jws_D ca b0 h
  have hA : ∀ q, s.heap.size ≤ q → b0 ≤ q := fun q hq => Nat.le_trans hb0 hq
  have jw : ∀ (x w : Nat), (jOL.any (fun q => q.1 == jow k && (q.2.1 == x && q.2.2.1 == w))) = true → ∃ q ∈ jOL, q.1 = jow k ∧ q.2.1 = x ∧ q.2.2.1 = w := by
    intro x w hw
    obtain ⟨q, hq, hq2⟩ := List.any_eq_true.mp hw
    simp only [Bool.and_eq_true, beq_iff_eq] at hq2
    exact ⟨q, hq, hq2⟩
  unfold jown at hr
  split at hr
  · next x a r =>
    split at hr
    · next hk =>
      cases hr
      obtain ⟨hk, hcat⟩ := hk
      obtain ⟨q, hq, g1, g2, g3⟩ := jw _ _ hk
      have hw := jO_ok q hq
      unfold jOok at hw
      rw [g3] at hw
      have hw := hts _ (jwd_in hw)
      rw [g1, g2] at hw
      refine W.objInit hx hb hown hw (hts _ (jwd_in jw_oi)) (hts _ (jwd_in jw_oc)) rfl (hls.trans hml.symm) rfl hd hrm.1 ?_ ?_
      · have := lv_room (m := m) (pc := pc) (ls := ls) (rest := Value.ref a :: st') hcat
        omega
      · exact kk H locs cells slots hR hS hcl hsl
    · cases hr
  · next x n dp b sp a r =>
    split at hr
    · next hk =>
      cases hr
      obtain ⟨⟨hk, hcat⟩, ⟨hka, hkb⟩, ⟨h3, h4, h5⟩, h6, h7⟩ := hk
      obtain ⟨q, hq, g1, g2, g3⟩ := jw _ _ hk
      have hw := jO_ok q hq
      unfold jOok at hw
      rw [g3] at hw
      have hw := hts _ (jwd_in hw)
      rw [g1, g2] at hw
      have hac := hR.2.2.2 a (by rw [hka]; rfl)
      have hea := jws_get ca hac.1 hac.2
      rw [jcell_i hka (by omega)] at hea
      have hbc := hR.2.2.2 b (by rw [hkb]; rfl)
      have heb := jws_get ca hbc.1 hbc.2
      rw [jcell_i hkb (by omega)] at heb
      have hnat : nativeFrameWords "java/lang/System" "arraycopy" 5 + 11 ≤ 33 := by decide
      have hcat : (st'.map fun v => v.category).sum ≤ 8 := hcat
      refine va_copyi hx hb (hml.trans hls.symm) hown hw (hts _ (jwd_in jw_an)) (hts _ (jwd_in jw_as)) (hts _ (jwd_in jw_ai)) hK hP hD hS _ _ 0 0 hea heb rfl rfl rfl h3 h4 h5 h6 h7 (fun _ _ => rfl) hrm.1 (by omega) hd fun H1 locs1 q1 q2 q3 => W.sized fun q4 => ?_
      refine kk H1 locs1 cells slots (jrel_keep hb0 q3.1 hcl q4 rfl rfl hR.2.2.2 (fun b' hb => jcell_wr ca h b _ hb) hbc.1 hbc.2 ?_) q3 hcl hsl
      rw [jcell_i (t := 1) (h := jwr h b (va_cpy (jI h a) (jI h b) sp.toNatClampNeg dp.toNatClampNeg n.toNatClampNeg)) hkb (by omega)]
      show va_P D vwCl ((jws ca b0 h).set (b - b0) (b, .inl (ca 1, (jK h b).2, .inl (jur (jI h) b (va_cpy (jI h a) (jI h b) sp.toNatClampNeg dp.toNatClampNeg n.toNatClampNeg) b)))) H1
      rw [jur_eq]
      exact q1
    · cases hr
  · next x w v r hno =>
    split at hr
    · next hk =>
      cases hr
      obtain ⟨hk, hcat⟩ := hk
      obtain ⟨q, hq, g1, g2, g3⟩ := jw _ _ hk
      have hw := jO_ok q hq
      unfold jOok at hw
      rw [g3] at hw
      have hw := hts _ (jwd_in hw)
      rw [g1, g2] at hw
      have hcat : (r.map fun v => v.category).sum ≤ 8 := hcat
      exact va_mmax hx hb (hml.trans hls.symm) hown hw (hts _ (jwd_in jw_maxs)) (hts _ (jwd_in jw_mi)) (hts _ (jcd_in jw_maxc)) hrm.1 (by omega) (by omega) (by omega) hd (kk H locs cells slots hR hS hcl hsl)
    · split at hr
      · next hk =>
        cases hr
        obtain ⟨hk, hcat⟩ := hk
        obtain ⟨q, hq, g1, g2, g3⟩ := jw _ _ hk
        have hw := jO_ok q hq
        unfold jOok at hw
        rw [g3] at hw
        have hw := hts _ (jwd_in hw)
        rw [g1, g2] at hw
        have hcat : (r.map fun v => v.category).sum ≤ 8 := hcat
        exact va_mmin hx hb (hml.trans hls.symm) hown hw (hts _ (jwd_in jw_mins)) (hts _ (jwd_in jw_mi)) (hts _ (jcd_in jw_minc)) hrm.1 (by omega) (by omega) (by omega) hd (kk H locs cells slots hR hS hcl hsl)
      · cases hr
  · next x a r =>
    split at hr
    · next hk =>
      cases hr
      obtain ⟨⟨hk, hcat⟩, hka⟩ := hk
      obtain ⟨q, hq, g1, g2, g3⟩ := jw _ _ hk
      have hw := jO_ok q hq
      unfold jOok at hw
      rw [g3] at hw
      have hw := hts _ (jwd_in hw)
      rw [g1, g2] at hw
      have hac := hR.2.2.2 a (by rw [hka]; rfl)
      have hea := jws_get ca hac.1 hac.2
      rw [jcell_i hka (by omega)] at hea
      have hcat : (r.map fun v => v.category).sum ≤ 8 := hcat
      have hnm : s.vm.findClass "[I" = some (ca 1) := (hK.2 0 _ rfl).2
      have e1 : jnx h + 1 ≤ s.heap.size + R.cells := hle.1
      have e2 : jsl h + (jK h a).2 ≤ sl0 + R.slots := hle.2
      refine va_clone hx hb (hml.trans hls.symm) hown hw (hts _ (jwd_in jw_cs)) (hts _ (jwd_in jw_cn)) (hts _ (jwd_in jw_ci)) (hts _ (jwd_in jw_ce)) (htn _ (jwn_in jw_cc)) hK hP hD hS hA _ 0 hea rfl hnm ?_ hrm.1 (by omega) (by omega) (by show slots + (jK h a).2 ≤ _; omega) hd fun qa H1 qK q1 q2 q3 => W.sized fun q4 => ?_
      · intro i v hv
        rw [vp_cell_i] at hv
        simp only [arrV, Array.getElem?_ofFn] at hv
        split at hv
        · cases hv; rfl
        · cases hv
      · obtain ⟨z1, z2⟩ := jrel_new (h1 := jwr (jnew h 1 (jK h a).2) (jnx h) (jI h a)) hb0 q3.1 hcl q4 q1 q2 rfl hR.2.2.2 (fun b hb => jur_ne hb) (fun b hb => (jcell_wr ca _ _ _ hb).trans (jcell_new ca h _ _ hb)) (by
          rw [jcell_i (t := 1) (by show (jK (jnew h 1 (jK h a).2) (jnx h)).1 = 1; rw [jK_new]) (by omega)]
          have k1 : jK (jwr (jnew h 1 (jK h a).2) (jnx h) (jI h a)) (jnx h) = (1, (jK h a).2) := jK_new h 1 _
          have k2 : jI (jwr (jnew h 1 (jK h a).2) (jnx h) (jI h a)) (jnx h) = jI h a := jur_eq
          rw [k1, k2])
        subst z1
        exact kk H1 locs (cells + 1) _ z2 q3 (by show _ = jnx h + 1; omega) (by show _ = jsl h + (jK h a).2; show sl0 + (slots + (jK h a).2) = _; omega)
    · cases hr
  · cases hr
end JS3
