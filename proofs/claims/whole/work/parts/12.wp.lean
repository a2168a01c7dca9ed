/-! RUNS OF THE LITTLE MACHINE, BACKWARDS: jW from a point of a method, jC a call; a row an instruction -/
theorem jgo_mono {call call' : Nat → List Value → jH → jO} (hc : ∀ k as h x, call k as h = some x → call' k as h = some x) {k : Nat} : ∀ (n n' pc : Nat) (lv : List (Option Value)) (st : List Value) (h : jH) (x : Option Value × jH), n ≤ n' → jgo call k n pc lv st h = some x → jgo call' k n' pc lv st h = some x := by
  intro n
  induction n with
  | zero => intro n' pc lv st h x _ hg; cases hg
  | succ n ih =>
    intro n' pc lv st h x hn hg
    obtain ⟨m, rfl⟩ : ∃ m, n' = m + 1 := ⟨n' - 1, by omega⟩
    unfold jgo at hg ⊢
    cases hd : decode (jby k) pc with
    | error e => simp only [hd] at hg; cases hg
    | ok q =>
      simp only [hd] at hg ⊢
      cases hs : jstp k pc q.1 q.2 lv st h with
      | some t =>
        simp only [hs] at hg ⊢
        exact ih m _ _ _ _ _ (by omega) hg
      | none =>
        simp only [hs] at hg ⊢
        cases hr : jret k q.1 q.2 st with
        | some r =>
          simp only [hr] at hg ⊢
          exact hg
        | none =>
          simp only [hr] at hg ⊢
          cases hl : jcal k q.1 q.2 st h with
          | none => simp only [hl] at hg; cases hg
          | some t =>
            simp only [hl] at hg ⊢
            cases hz : call t.1 t.2.1 h with
            | none => simp only [hz] at hg; cases hg
            | some z =>
              simp only [hz] at hg
              simp only [hc _ _ _ _ hz]
              exact ih m _ _ _ _ _ (by omega) hg
theorem jrun_mono : ∀ (d n n' k : Nat) (as : List Value) (h : jH) (x : Option Value × jH), n ≤ n' → jrun d n k as h = some x → jrun d n' k as h = some x := by
  intro d
  induction d with
  | zero => intro n n' k as h x _ hg; cases hg
  | succ d ih =>
    intro n n' k as h x hn hg
    unfold jrun at hg ⊢
    split at hg
    · next hcd =>
      rw [if_pos hcd]
      exact jgo_mono (fun k as h x => ih n n' k as h x hn) n n' _ _ _ _ _ hn hg
    · cases hg
theorem jrun_deep : ∀ (d n k : Nat) (as : List Value) (h : jH) (x : Option Value × jH), jrun d n k as h = some x → jrun (d + 1) n k as h = some x := by
  intro d
  induction d with
  | zero => intro n k as h x hg; cases hg
  | succ d ih =>
    intro n k as h x hg
    unfold jrun at hg
    rw [jrun]
    split at hg
    · next hcd =>
      rw [if_pos hcd]
      exact jgo_mono (fun k as h x => ih n k as h x) n n _ _ _ _ _ (Nat.le_refl _) hg
    · cases hg
def jW (d k pc : Nat) (lv : List (Option Value)) (st : List Value) (h : jH) (Q : Option Value → jH → Prop) : Prop := ∃ n r h', jgo (jrun d n) k n pc lv st h = some (r, h') ∧ Q r h'
def jC (d k : Nat) (as : List Value) (h : jH) (Q : Option Value → jH → Prop) : Prop := ∃ n r h', jrun d n k as h = some (r, h') ∧ Q r h'
section JWP
variable {d k pc len : Nat} {lv : List (Option Value)} {st : List Value} {h : jH} {Q : Option Value → jH → Prop} {i : Jvm.ClassFile.Instr}
theorem jW_step {t : jS} (hd : decode (jby k) pc = .ok (i, len)) (hs : jstp k pc i len lv st h = some t) : jW d k pc lv st h Q ↔ jW d k t.1 t.2.1 t.2.2.1 t.2.2.2 Q := by
  constructor
  · rintro ⟨n, r, h', hg, hq⟩
    cases n with
    | zero => cases hg
    | succ n =>
      unfold jgo at hg
      rw [hd] at hg
      simp only [hs] at hg
      exact ⟨n + 1, r, h', jgo_mono (fun _ _ _ _ q => q) n (n + 1) _ _ _ _ _ (Nat.le_succ _) hg, hq⟩
  · rintro ⟨n, r, h', hg, hq⟩
    refine ⟨n + 1, r, h', ?_, hq⟩
    unfold jgo
    rw [hd]
    simp only [hs]
    exact jgo_mono (fun k as h x q => jrun_mono d n (n + 1) k as h x (Nat.le_succ _) q) n n _ _ _ _ _ (Nat.le_refl _) hg
theorem jW_ret {r : Option Value} (hd : decode (jby k) pc = .ok (i, len)) (hs : jstp k pc i len lv st h = none) (hr : jret k i len st = some r) : jW d k pc lv st h Q ↔ Q r h := by
  constructor
  · rintro ⟨n, r', h', hg, hq⟩
    cases n with
    | zero => cases hg
    | succ n =>
      unfold jgo at hg
      rw [hd] at hg
      simp only [hs, hr] at hg
      cases hg
      exact hq
  · intro hq
    refine ⟨1, r, h, ?_, hq⟩
    unfold jgo
    rw [hd]
    simp only [hs, hr]
theorem jW_call {k' : Nat} {as rest : List Value} (hd : decode (jby k) pc = .ok (i, len)) (hs : jstp k pc i len lv st h = none) (hr : jret k i len st = none) (hc : jcal k i len st h = some (k', as, rest)) : jW d k pc lv st h Q ↔ jC d k' as h (fun r h' => jW d k (pc + 3) lv (r.toList ++ rest) h' Q) := by
  constructor
  · rintro ⟨n, r', h', hg, hq⟩
    cases n with
    | zero => cases hg
    | succ n =>
      unfold jgo at hg
      rw [hd] at hg
      simp only [hs, hr, hc] at hg
      split at hg
      · next z hz => exact ⟨n + 1, z.1, z.2, hz, n + 1, r', h', jgo_mono (fun _ _ _ _ q => q) n (n + 1) _ _ _ _ _ (Nat.le_succ _) hg, hq⟩
      · cases hg
  · rintro ⟨n1, r1, h1, hg1, n2, r', h', hg2, hq⟩
    refine ⟨n1 + n2 + 1, r', h', ?_, hq⟩
    unfold jgo
    rw [hd]
    simp only [hs, hr, hc]
    rw [jrun_mono d n1 (n1 + n2 + 1) _ _ _ _ (by omega) hg1]
    exact jgo_mono (fun k as h x q => jrun_mono d n2 (n1 + n2 + 1) k as h x (by omega) q) n2 (n1 + n2) _ _ _ _ _ (by omega) hg2
theorem jC_enter {as : List Value} (hk : k < jlaw) (hl : (jsp as).length ≤ jmx k) {lv : List (Option Value)} (he : jent (jmx k) as = lv) : jC (d + 1) k as h Q ↔ jW d k 0 lv [] h Q := by
  subst he
  constructor
  · rintro ⟨n, r, h', hg, hq⟩
    unfold jrun at hg
    rw [if_pos ⟨hl, hk⟩] at hg
    exact ⟨n, r, h', hg, hq⟩
  · rintro ⟨n, r, h', hg, hq⟩
    refine ⟨n, r, h', ?_, hq⟩
    unfold jrun
    rw [if_pos ⟨hl, hk⟩]
    exact hg
theorem jC_mono {as : List Value} {Q' : Option Value → jH → Prop} (hc : jC d k as h Q) (hq : ∀ r h', Q r h' → Q' r h') : jC d k as h Q' := by
  obtain ⟨n, r, h', hg, hq'⟩ := hc
  exact ⟨n, r, h', hg, hq r h' hq'⟩
theorem jW_mono {Q' : Option Value → jH → Prop} (hc : jW d k pc lv st h Q) (hq : ∀ r h', Q r h' → Q' r h') : jW d k pc lv st h Q' := by
  obtain ⟨n, r, h', hg, hq'⟩ := hc
  exact ⟨n, r, h', hg, hq r h' hq'⟩
theorem jC_deep {as : List Value} (hc : jC d k as h Q) : jC (d + 1) k as h Q := by
  obtain ⟨n, r, h', hg, hq⟩ := hc
  exact ⟨n, r, h', jrun_deep _ _ _ _ _ _ hg, hq⟩
/-! rows by kinds of instruction -/
theorem jW_i {n : Int} {v : Int32} (hd : decode (jby k) pc = .ok (.iconst n, 1)) (hv : Int32.ofInt n = v) : jW d k pc lv st h Q ↔ jW d k (pc + 1) lv (.int v :: st) h Q := by subst hv; exact jW_step hd rfl
theorem jW_b {n : Int} {v : Int32} (hd : decode (jby k) pc = .ok (.bipush n, 2)) (hv : (Int8.ofInt n).toInt32 = v) : jW d k pc lv st h Q ↔ jW d k (pc + 2) lv (.int v :: st) h Q := by subst hv; exact jW_step hd rfl
theorem jW_s {n : Int} {v : Int32} (hd : decode (jby k) pc = .ok (.sipush n, 3)) (hv : (Int16.ofInt n).toInt32 = v) : jW d k pc lv st h Q ↔ jW d k (pc + 3) lv (.int v :: st) h Q := by subst hv; exact jW_step hd rfl
theorem jW_l {n : Fin 2} {v : Int64} (hd : decode (jby k) pc = .ok (.lconst n, 1)) (hv : Int64.ofNat (n : Nat) = v) : jW d k pc lv st h Q ↔ jW d k (pc + 1) lv (.long v :: st) h Q := by subst hv; exact jW_step hd rfl
theorem jW_inc {x n : Nat} {m : Int} {v w : Int32} {lv' : List (Option Value)} (hd : decode (jby k) pc = .ok (.iinc x m, 3)) (hx : lv.getD x none = some (.int v)) (hw : Int32.ofInt m = w) (hs : jst1 lv x (.int (v + w)) = some lv') : jW d k pc lv st h Q ↔ jW d k (pc + 3) lv' st h Q := by
  subst hw
  refine jW_step (t := (pc + 3, lv', st, h)) hd ?_
  have h1 : jsto (.iinc x m) 3 lv st = some (lv', st) := by
    unfold jsto
    simp only [hx, hs, Option.map_some]
  have h2 : jlod (.iinc x m) 3 lv = none := by unfold jlod; rfl
  have h3 : jldc (jow k) (.iinc x m) 3 = none := by unfold jldc; rfl
  unfold jstp
  rw [h3, h2, h1]
  rfl
theorem jW_if {c : Jvm.ClassFile.Cond} {off : Int} {t : Nat} {x : Int32} (hd : decode (jby k) pc = .ok (.ifCond c off, 3)) (ht : jtg pc off = some t) : jW d k pc lv (.int x :: st) h Q ↔ if jcmp c x 0 = true then jW d k t lv st h Q else jW d k (pc + 3) lv st h Q := by
  have hs : jstp k pc (.ifCond c off) 3 lv (.int x :: st) h = some (if jcmp c x 0 = true then t else pc + 3, lv, st, h) := by
    have h1 : jbr pc (.ifCond c off) 3 (.int x :: st) = some (if jcmp c x 0 = true then t else pc + 3, st) := by
      unfold jbr
      simp only [ht, if_true, Option.map_some]
    have h2 : jlod (.ifCond c off) 3 lv = none := by unfold jlod; rfl
    have h3 : jldc (jow k) (.ifCond c off) 3 = none := by unfold jldc; rfl
    have h4 : jsto (.ifCond c off) 3 lv (.int x :: st) = none := by unfold jsto; rfl
    unfold jstp
    rw [h3, h2, h4, h1]
    rfl
  rw [jW_step hd hs]
  split <;> rfl
theorem jW_icmp {c : Jvm.ClassFile.Cond} {off : Int} {t : Nat} {x y : Int32} (hd : decode (jby k) pc = .ok (.if_icmp c off, 3)) (ht : jtg pc off = some t) : jW d k pc lv (.int y :: .int x :: st) h Q ↔ if jcmp c x y = true then jW d k t lv st h Q else jW d k (pc + 3) lv st h Q := by
  have hs : jstp k pc (.if_icmp c off) 3 lv (.int y :: .int x :: st) h = some (if jcmp c x y = true then t else pc + 3, lv, st, h) := by
    have h1 : jbr pc (.if_icmp c off) 3 (.int y :: .int x :: st) = some (if jcmp c x y = true then t else pc + 3, st) := by
      unfold jbr
      simp only [ht, if_true, Option.map_some]
    have h2 : jlod (.if_icmp c off) 3 lv = none := by unfold jlod; rfl
    have h3 : jldc (jow k) (.if_icmp c off) 3 = none := by unfold jldc; rfl
    have h4 : jsto (.if_icmp c off) 3 lv (.int y :: .int x :: st) = none := by unfold jsto; rfl
    unfold jstp
    rw [h3, h2, h4, h1]
    rfl
  rw [jW_step hd hs]
  split <;> rfl
theorem jcm_eq (x y : Int32) : (jcmp .eq x y = true) = (x = y) := by simp [jcmp]
theorem jcm_ne (x y : Int32) : (jcmp .ne x y = true) = ¬ (x = y) := by simp [jcmp]
theorem jcm_lt (x y : Int32) : (jcmp .lt x y = true) = (x < y) := by simp [jcmp]
theorem jcm_ge (x y : Int32) : (jcmp .ge x y = true) = (y ≤ x) := by simp [jcmp]
theorem jcm_gt (x y : Int32) : (jcmp .gt x y = true) = (y < x) := by simp [jcmp]
theorem jcm_le (x y : Int32) : (jcmp .le x y = true) = (x ≤ y) := by simp [jcmp]
end JWP
