/-! MATCH: the search of the reference is what the class reckons -/
/-- the most of a first number and of those that there are, and which -/
def DMk (base : Nat) (v : Nat → Option Nat) : Nat → Nat
  | 0 => base
  | k + 1 => match v k with
    | none => DMk base v k
    | some x => if DMk base v k < x then x else DMk base v k
def chk (base : Nat) (v : Nat → Option Nat) : Nat → Option Nat
  | 0 => none
  | k + 1 => match v k with
    | none => chk base v k
    | some x => if DMk base v k < x then some k else chk base v k
def vopt (ab : Nat → Bool) (tk : Nat) (D : Nat → Nat) (k : Nat) : Option Nat := if ab k && !tk.testBit k then some (1 + D (tk ||| 2 ^ k)) else none
def addk (tk : Nat) : Option Nat → Nat
  | none => tk
  | some k => tk ||| 2 ^ k
def DM (ab : Nat → Nat → Bool) : Nat → Nat → Nat → Nat
  | 0, _, _ => 0
  | r + 1, s, tk => DMk (DM ab r (s + 1) tk) (vopt (ab s) tk (DM ab r (s + 1))) 6
def cho (ab : Nat → Nat → Bool) (r s tk : Nat) : Option Nat := chk (DM ab r (s + 1) tk) (vopt (ab s) tk (DM ab r (s + 1))) 6
def FC (ab : Nat → Nat → Bool) : Nat → Nat → Nat → (Nat → Int32) → Nat → Int32
  | 0, _, _, row => row
  | r + 1, s, tk, row => FC ab r (s + 1) (addk tk (cho ab r s tk)) (upd row s (oI (cho ab r s tk)))
theorem DMk_ge {base : Nat} {v : Nat → Option Nat} : ∀ n, base ≤ DMk base v n ∧ ∀ k x, k < n → v k = some x → x ≤ DMk base v n := by
  intro n
  induction n with
  | zero => exact ⟨Nat.le_refl _, fun k x hk => by omega⟩
  | succ n ih =>
    obtain ⟨i1, i2⟩ := ih
    unfold DMk
    cases hv : v n with
    | none =>
      refine ⟨i1, fun k x hk e => ?_⟩
      rcases (by omega : k < n ∨ k = n) with q | q
      · exact i2 k x q e
      · rw [q, hv] at e; cases e
    | some w =>
      simp only
      split
      · next hlt =>
        refine ⟨by omega, fun k x hk e => ?_⟩
        rcases (by omega : k < n ∨ k = n) with q | q
        · have := i2 k x q e
          omega
        · rw [q, hv] at e; cases e; omega
      · next hlt =>
        refine ⟨i1, fun k x hk e => ?_⟩
        rcases (by omega : k < n ∨ k = n) with q | q
        · exact i2 k x q e
        · rw [q, hv] at e; cases e; omega
theorem chk_fst {base : Nat} {v : Nat → Option Nat} : ∀ n, (base = DMk base v n → chk base v n = none) ∧ (¬ base = DMk base v n → chk base v n = fst1 (fun k => decide (v k = some (DMk base v n))) n 0 ∧ (chk base v n).isSome = true) := by
  intro n
  induction n with
  | zero => exact ⟨fun _ => rfl, fun h => absurd rfl h⟩
  | succ n ih =>
    obtain ⟨i1, i2⟩ := ih
    obtain ⟨g1, g2⟩ := DMk_ge (base := base) (v := v) n
    have e1 : DMk base v (n + 1) = match v n with
      | none => DMk base v n
      | some x => if DMk base v n < x then x else DMk base v n := rfl
    have e2 : chk base v (n + 1) = match v n with
      | none => chk base v n
      | some x => if DMk base v n < x then some n else chk base v n := rfl
    have same : DMk base v (n + 1) = DMk base v n → chk base v (n + 1) = chk base v n → (base = DMk base v (n + 1) → chk base v (n + 1) = none) ∧ (¬ base = DMk base v (n + 1) → chk base v (n + 1) = fst1 (fun k => decide (v k = some (DMk base v (n + 1)))) (n + 1) 0 ∧ (chk base v (n + 1)).isSome = true) := by
      intro h1 h2
      rw [h1, h2]
      refine ⟨i1, fun hne => ?_⟩
      obtain ⟨j1, j2⟩ := i2 hne
      refine ⟨?_, j2⟩
      rw [fst1_snoc, ← j1]
      cases hc : chk base v n with
      | none => rw [hc] at j2; cases j2
      | some j => rfl
    cases hv : v n with
    | none =>
      rw [hv] at e1 e2
      exact same e1 e2
    | some x =>
      rw [hv] at e1 e2
      simp only at e1 e2
      by_cases hlt : DMk base v n < x
      · rw [if_pos hlt] at e1 e2
        rw [e1, e2]
        refine ⟨fun w => by omega, fun _ => ⟨?_, rfl⟩⟩
        rw [fst1_snoc]
        have : fst1 (fun k => decide (v k = some x)) n 0 = none := by
          have := (fst1_none (p := fun k => decide (v k = some x)) n 0).mpr (fun j _ hj => decide_eq_false (fun w => by
            have := g2 j x (by omega) w
            omega))
          cases hf : fst1 (fun k => decide (v k = some x)) n 0 with
          | none => rfl
          | some j => rw [hf] at this; cases this
        rw [this, Nat.zero_add, hv]
        simp
      · rw [if_neg hlt] at e1 e2
        exact same e1 e2
theorem DM_le {ab : Nat → Nat → Bool} : ∀ r s tk, DM ab r s tk ≤ r := by
  intro r
  induction r with
  | zero => intro s tk; exact Nat.le_refl _
  | succ r ih =>
    intro s tk
    show DMk (DM ab r (s + 1) tk) (vopt (ab s) tk (DM ab r (s + 1))) 6 ≤ r + 1
    have : ∀ n, DMk (DM ab r (s + 1) tk) (vopt (ab s) tk (DM ab r (s + 1))) n ≤ r + 1 := by
      intro n
      induction n with
      | zero => have := ih (s + 1) tk; show DM ab r (s + 1) tk ≤ r + 1; omega
      | succ n ihn =>
        unfold DMk
        cases hv : vopt (ab s) tk (DM ab r (s + 1)) n with
        | none => exact ihn
        | some x =>
          simp only
          have : x ≤ r + 1 := by
            unfold vopt at hv
            split at hv
            · cases hv
              have := ih (s + 1) (tk ||| 2 ^ n)
              omega
            · cases hv
          split <;> omega
    exact this 6
/-! the search -/
def pre (s tk : Nat) (row : Nat → Int32) : Prop := tk < 64 ∧ ∀ k, k < 6 → (tk.testBit k = true ↔ tkn row s (nI k) = true)
theorem tkn_iff {row : Nat → Int32} {s : Nat} {k : Int32} : tkn row s k = true ↔ ∃ i, i < s ∧ row i = k := by
  unfold tkn
  constructor
  · intro h
    cases hf : fst1 (fun i => decide (row i = k)) s 0 with
    | none => rw [hf] at h; cases h
    | some j =>
      have nn : ¬ (∀ i, 0 ≤ i → i < 0 + s → (fun i => decide (row i = k)) i = false) := fun w => by
        have := (fst1_none (p := fun i => decide (row i = k)) s 0).mpr w
        rw [hf] at this
        cases this
      apply Classical.byContradiction
      intro hne
      exact nn (fun i _ hi => decide_eq_false (fun w => hne ⟨i, by omega, w⟩))
  · rintro ⟨i, hi, e⟩
    cases hf : fst1 (fun i => decide (row i = k)) s 0 with
    | none =>
      have := (fst1_none (p := fun i => decide (row i = k)) s 0).mp (by rw [hf]; rfl) i (by omega) (by omega)
      rw [decide_eq_true e] at this
      cases this
    | some j => rfl
theorem tkn_upd {row : Nat → Int32} {s : Nat} {k v : Int32} : tkn (upd row s v) (s + 1) k = true ↔ tkn row s k = true ∨ v = k := by
  rw [tkn_iff, tkn_iff]
  constructor
  · rintro ⟨i, hi, e⟩
    rcases (by omega : i < s ∨ i = s) with q | q
    · rw [upd_n (by omega)] at e
      exact Or.inl ⟨i, q, e⟩
    · rw [q, upd_s] at e
      exact Or.inr e
  · rintro (⟨i, hi, e⟩ | e)
    · exact ⟨i, by omega, by rw [upd_n (by omega)]; exact e⟩
    · exact ⟨s, by omega, by rw [upd_s]; exact e⟩
theorem pre_none {s tk : Nat} {row : Nat → Int32} (P : pre s tk row) : pre (s + 1) tk (upd row s (oI none)) := by
  refine ⟨P.1, fun k hk => ?_⟩
  rw [tkn_upd, P.2 k hk]
  constructor
  · exact Or.inl
  · rintro (w | w)
    · exact w
    · exact absurd w.symm (oI_ne hk)
theorem pre_some {s tk j : Nat} {row : Nat → Int32} (hj : j < 6) (P : pre s tk row) : pre (s + 1) (tk ||| 2 ^ j) (upd row s (oI (some j))) := by
  refine ⟨(mb_or tk P.1 j hj).2, fun k hk => ?_⟩
  rw [tkn_upd, Nat.testBit_or, Nat.testBit_two_pow, Bool.or_eq_true, P.2 k hk]
  constructor
  · rintro (w | w)
    · exact Or.inl w
    · right
      have := of_decide_eq_true w
      rw [this]
      rfl
  · rintro (w | w)
    · exact Or.inl w
    · right
      have : j = k := (nI_eq (by omega) (by omega)).mp w
      exact decide_eq_true this
theorem mcnt_c {row row' : Nat → Int32} : ∀ s, (∀ i, i < s → row' i = row i) → mcnt row' s = mcnt row s := by
  intro s
  induction s with
  | zero => intro _; rfl
  | succ s ih =>
    intro h
    simp only [mcnt]
    rw [ih (fun i hi => h i (by omega)), h s (by omega)]
theorem mcnt_upd {row : Nat → Int32} {s : Nat} {v : Int32} : mcnt (upd row s v) (s + 1) = mcnt row s + (if v < 0 then 0 else 1) := by
  show mcnt (upd row s v) s + (if upd row s v s < 0 then 0 else 1) = _
  rw [upd_s, mcnt_c s (fun i hi => upd_n (by omega))]
def abS (S : Nat → Int32) (c : Int32) (s k : Nat) : Bool := decide (k < sK S) && !decide (S (29 + 6 * s + k) + c < S (77 + k))
theorem jput_jput {f g g' : Nat → Int32} {n : Nat} : jput (jput f g 0 n) g' 0 n = jput f g' 0 n := by
  funext k
  unfold jput
  by_cases h : 0 ≤ k ∧ k < 0 + n
  · rw [if_pos h, if_pos h]
  · rw [if_neg h, if_neg h, if_neg h]
/-- the state of the search: the first of those who match most -/
def mup (b : Int32 × (Nat → Int32)) (N m : Nat) (row : Nat → Int32) : Int32 × (Nat → Int32) := if b.1 < nI m then (nI m, jput b.2 row 0 N) else b
theorem mup_mup {b : Int32 × (Nat → Int32)} {N m m' : Nat} {row row' : Nat → Int32} (hm : m < 100) (hm' : m' < 100) : mup (mup b N m row) N m' row' = if m < m' then mup b N m' row' else mup b N m row := by
  unfold mup
  by_cases h1 : b.1 < nI m
  · rw [if_pos h1]
    by_cases h2 : m < m'
    · have h3 : nI m < nI m' := nI_lt h2 (by omega)
      rw [if_pos h2, if_pos h3, if_pos (Int32.lt_trans h1 h3), jput_jput]
    · have h3 : ¬ nI m < nI m' := fun w => h2 ((nI_ltI (by omega) (by omega)).mp w)
      rw [if_neg h2, if_neg h3]
  · rw [if_neg h1]
    by_cases h2 : m < m'
    · rw [if_pos h2]
    · rw [if_neg h2]
      have : ¬ b.1 < nI m' := fun w => h1 (Int32.lt_of_lt_of_le w (nI_le (by omega) (by omega)))
      rw [if_neg this]
theorem mdF_ok {S : Nat → Int32} {c : Int32} (hK : sK S ≤ 6) : ∀ (r s tk : Nat) (row : Nat → Int32) (b : Int32 × (Nat → Int32)), s + r ≤ 6 → pre s tk row → mdF S c r s row b = mup b (s + r) (mcnt row s + DM (abS S c) r s tk) (FC (abS S c) r s tk row) := by
  intro r
  induction r with
  | zero => intro s tk row b _ _; rfl
  | succ r ih =>
    intro s tk row b hs P
    have hcs := mcnt_le (row := row) s
    have stepN : ∀ b', mdF S c r (s + 1) (upd row s (nI 0 - 1)) b' = mup b' (s + (r + 1)) (mcnt row s + DM (abS S c) r (s + 1) tk) (FC (abS S c) r (s + 1) tk (upd row s (oI none))) := by
      intro b'
      have e : nI 0 - 1 = oI none := rfl
      rw [e, ih (s + 1) tk _ b' (by omega) (pre_none P), mcnt_upd, show s + 1 + r = s + (r + 1) by omega]
      rfl
    have stepK : ∀ b' j, j < 6 → mdF S c r (s + 1) (upd row s (nI (j + 1) - 1)) b' = mup b' (s + (r + 1)) (mcnt row s + (1 + DM (abS S c) r (s + 1) (tk ||| 2 ^ j))) (FC (abS S c) r (s + 1) (tk ||| 2 ^ j) (upd row s (oI (some j)))) := by
      intro b' j hj
      have e : nI (j + 1) - 1 = oI (some j) := by
        have := nI_sb (a := 1) (b := j + 1) (by omega)
        rw [Nat.add_sub_cancel] at this
        exact this
      have hn : ¬ oI (some j) < 0 := nI_pos (by omega)
      rw [e, ih (s + 1) (tk ||| 2 ^ j) _ b' (by omega) (pre_some hj P), mcnt_upd, if_neg hn, show s + 1 + r = s + (r + 1) by omega, Nat.add_assoc]
    have hal : ∀ j, j < sK S → mal S c row s (j + 1) = (abS S c s j && !tk.testBit j) := by
      intro j hj
      have := P.2 j (by omega)
      show (!decide (S (29 + 6 * s + j) + c < S (77 + j)) && !tkn row s (nI j)) = _
      unfold abS
      rw [decide_eq_true hj, Bool.true_and]
      congr 2
      exact bool_ext this.symm
    have dle := fun s tk => DM_le (ab := abS S c) r s tk
    -- the options behind the first one
    have inner : ∀ (n j : Nat), j + n = sK S → mdI (fun v b => mdF S c r (s + 1) (upd row s v) b) (mal S c row s) n (j + 1) (mup b (s + (r + 1)) (mcnt row s + DMk (DM (abS S c) r (s + 1) tk) (vopt (abS S c s) tk (DM (abS S c) r (s + 1))) j) (FC (abS S c) r (s + 1) (addk tk (chk (DM (abS S c) r (s + 1) tk) (vopt (abS S c s) tk (DM (abS S c) r (s + 1))) j)) (upd row s (oI (chk (DM (abS S c) r (s + 1) tk) (vopt (abS S c s) tk (DM (abS S c) r (s + 1))) j))))) = mup b (s + (r + 1)) (mcnt row s + DMk (DM (abS S c) r (s + 1) tk) (vopt (abS S c s) tk (DM (abS S c) r (s + 1))) (sK S)) (FC (abS S c) r (s + 1) (addk tk (chk (DM (abS S c) r (s + 1) tk) (vopt (abS S c s) tk (DM (abS S c) r (s + 1))) (sK S))) (upd row s (oI (chk (DM (abS S c) r (s + 1) tk) (vopt (abS S c s) tk (DM (abS S c) r (s + 1))) (sK S))))) := by
      intro n
      induction n with
      | zero =>
        intro j hj
        have ej : j = sK S := by omega
        rw [← ej]
        rfl
      | succ n ihn =>
        intro j hj
        rw [← ihn (j + 1) (by omega)]
        show mdI _ _ n (j + 1 + 1) (if mal S c row s (j + 1) = true then _ else _) = _
        congr 1
        have hv : vopt (abS S c s) tk (DM (abS S c) r (s + 1)) j = if (abS S c s j && !tk.testBit j) = true then some (1 + DM (abS S c) r (s + 1) (tk ||| 2 ^ j)) else none := rfl
        have e1 : DMk (DM (abS S c) r (s + 1) tk) (vopt (abS S c s) tk (DM (abS S c) r (s + 1))) (j + 1) = match vopt (abS S c s) tk (DM (abS S c) r (s + 1)) j with
          | none => DMk (DM (abS S c) r (s + 1) tk) (vopt (abS S c s) tk (DM (abS S c) r (s + 1))) j
          | some x => if DMk (DM (abS S c) r (s + 1) tk) (vopt (abS S c s) tk (DM (abS S c) r (s + 1))) j < x then x else DMk (DM (abS S c) r (s + 1) tk) (vopt (abS S c s) tk (DM (abS S c) r (s + 1))) j := rfl
        have e2 : chk (DM (abS S c) r (s + 1) tk) (vopt (abS S c s) tk (DM (abS S c) r (s + 1))) (j + 1) = match vopt (abS S c s) tk (DM (abS S c) r (s + 1)) j with
          | none => chk (DM (abS S c) r (s + 1) tk) (vopt (abS S c s) tk (DM (abS S c) r (s + 1))) j
          | some x => if DMk (DM (abS S c) r (s + 1) tk) (vopt (abS S c s) tk (DM (abS S c) r (s + 1))) j < x then some j else chk (DM (abS S c) r (s + 1) tk) (vopt (abS S c s) tk (DM (abS S c) r (s + 1))) j := rfl
        have dk : DMk (DM (abS S c) r (s + 1) tk) (vopt (abS S c s) tk (DM (abS S c) r (s + 1))) j ≤ 50 := by
          have h6 := (DMk_ge (base := DM (abS S c) r (s + 1) tk) (v := vopt (abS S c s) tk (DM (abS S c) r (s + 1))) 6)
          have : ∀ n, DMk (DM (abS S c) r (s + 1) tk) (vopt (abS S c s) tk (DM (abS S c) r (s + 1))) n ≤ 50 := by
            intro n
            induction n with
            | zero => have := dle (s + 1) tk; show DM (abS S c) r (s + 1) tk ≤ 50; omega
            | succ n ihn =>
              unfold DMk
              cases hvn : vopt (abS S c s) tk (DM (abS S c) r (s + 1)) n with
              | none => exact ihn
              | some x =>
                simp only
                have : x ≤ 50 := by
                  unfold vopt at hvn
                  split at hvn
                  · cases hvn
                    have := dle (s + 1) (tk ||| 2 ^ n)
                    omega
                  · cases hvn
                split <;> omega
          exact this j
        rw [hal j (by omega), e1, e2, hv]
        generalize DMk (DM (abS S c) r (s + 1) tk) (vopt (abS S c s) tk (DM (abS S c) r (s + 1))) j = M at *
        generalize chk (DM (abS S c) r (s + 1) tk) (vopt (abS S c s) tk (DM (abS S c) r (s + 1))) j = ch at *
        cases hab : abS S c s j && !tk.testBit j with
        | false => rfl
        | true =>
          simp only [if_true]
          rw [stepK _ j (by omega)]
          have := dle (s + 1) (tk ||| 2 ^ j)
          rw [mup_mup (by omega) (by omega)]
          by_cases hlt : M < 1 + DM (abS S c) r (s + 1) (tk ||| 2 ^ j)
          · rw [if_pos (by omega), if_pos hlt, if_pos hlt]
            rfl
          · rw [if_neg (by omega), if_neg hlt, if_neg hlt]
    show mdI (fun v b => mdF S c r (s + 1) (upd row s v) b) (mal S c row s) (sK S + 1) 0 b = _
    have e0 : mdI (fun v b => mdF S c r (s + 1) (upd row s v) b) (mal S c row s) (sK S + 1) 0 b = mdI (fun v b => mdF S c r (s + 1) (upd row s v) b) (mal S c row s) (sK S) 1 (mdF S c r (s + 1) (upd row s (nI 0 - 1)) b) := rfl
    rw [e0, stepN b]
    have i0 := inner (sK S) 0 (by omega)
    refine Eq.trans i0 ?_
    -- kinds that are not there change nothing
    have cut : ∀ n, sK S + n ≤ 6 → DMk (DM (abS S c) r (s + 1) tk) (vopt (abS S c s) tk (DM (abS S c) r (s + 1))) (sK S + n) = DMk (DM (abS S c) r (s + 1) tk) (vopt (abS S c s) tk (DM (abS S c) r (s + 1))) (sK S) ∧ chk (DM (abS S c) r (s + 1) tk) (vopt (abS S c s) tk (DM (abS S c) r (s + 1))) (sK S + n) = chk (DM (abS S c) r (s + 1) tk) (vopt (abS S c s) tk (DM (abS S c) r (s + 1))) (sK S) := by
      intro n
      induction n with
      | zero => intro _; exact ⟨rfl, rfl⟩
      | succ n ihn =>
        intro hn
        obtain ⟨j1, j2⟩ := ihn (by omega)
        have hv : vopt (abS S c s) tk (DM (abS S c) r (s + 1)) (sK S + n) = none := by
          unfold vopt abS
          rw [decide_eq_false (by omega), Bool.false_and, Bool.false_and]
          rfl
        constructor
        · rw [← j1]
          show (match vopt (abS S c s) tk (DM (abS S c) r (s + 1)) (sK S + n) with | none => _ | some x => _) = _
          rw [hv]
          rfl
        · rw [← j2]
          show (match vopt (abS S c s) tk (DM (abS S c) r (s + 1)) (sK S + n) with | none => _ | some x => _) = _
          rw [hv]
          rfl
    obtain ⟨j1, j2⟩ := cut (6 - sK S) (by omega)
    rw [Nat.add_sub_cancel' hK] at j1 j2
    rw [← j1, ← j2]
    rfl
