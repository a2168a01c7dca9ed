/-! THE REFERENCE: its making -/
def asum : Nat → Nat := fun i => ((mArr.take i).map (fun q => q.2.2.2)).sum
def mMk (h0 h : jH) (m i : Nat) (F : Nat → Int32) : Prop := (jnx h = m + 1 + i ∧ jsl h = jsl h0 + asum i) ∧ jK h m = (32, 43) ∧ jI h m = F ∧ (∀ a, a < m → jK h a = jK h0 a ∧ jI h a = jI h0 a ∧ jJ h a = jJ h0 a ∧ jR h a = jR h0 a) ∧ (∀ q ∈ mArr.take i, jR h m q.1 = some (m + q.2.1) ∧ jK h (m + q.2.1) = (q.2.2.1, q.2.2.2) ∧ jI h (m + q.2.1) = (fun _ => 0) ∧ jJ h (m + q.2.1) = fun _ => 0) ∧ jJ h m = fun _ => 0
theorem mMk_i {h0 h : jH} {m i : Nat} {F : Nat → Int32} {k : Nat} {v : Int32} (A : mMk h0 h m i F) (hq : ∀ q ∈ mArr.take i, q.2.1 ≠ 0) : mMk h0 (jwI h m k v) m i (upd F k v) := by
  obtain ⟨a, b, c, e, f, g⟩ := A
  rw [jwI_row, c]
  refine ⟨a, b, jI_wr_s, fun x hx => ?_, fun q hqm => ?_, g⟩
  · obtain ⟨e1, e2, e3, e4⟩ := e x hx
    exact ⟨e1, by rw [jI_wr_n (by omega)]; exact e2, e3, e4⟩
  · obtain ⟨f1, f2, f3, f4⟩ := f q hqm
    exact ⟨f1, f2, by rw [jI_wr_b (hq q hqm)]; exact f3, f4⟩
theorem mMk_a {h0 h : jH} {m i : Nat} {F : Nat → Int32} {f kd n : Nat} (A : mMk h0 h m i F) (hi : mArr[i]? = some (f, i + 1, kd, n)) (hq : ∀ q ∈ mArr.take i, q.1 ≠ f ∧ q.2.1 ≤ i) : mMk h0 (jwR (jnew h kd n) m f (some (jnx h))) m (i + 1) F := by
  obtain ⟨⟨a1, a2⟩, b, c, e, g, k⟩ := A
  have hm : m ≠ jnx h := by omega
  have hlen : i < mArr.length := by
    rcases Nat.lt_or_ge i mArr.length with q | q
    · exact q
    · rw [List.getElem?_eq_none q] at hi; cases hi
  have htk : mArr.take (i + 1) = mArr.take i ++ [(f, i + 1, kd, n)] := by
    rw [List.take_add_one, hi]
    rfl
  have eK : ∀ x, x ≠ jnx h → jK (jwR (jnew h kd n) m f (some (jnx h))) x = jK h x := fun x hx => jur_ne hx
  have eI : ∀ x, x ≠ jnx h → jI (jwR (jnew h kd n) m f (some (jnx h))) x = jI h x := fun x hx => jur_ne hx
  have eJ : ∀ x, x ≠ jnx h → jJ (jwR (jnew h kd n) m f (some (jnx h))) x = jJ h x := fun x hx => jur_ne hx
  have eR : ∀ x, x ≠ jnx h → x ≠ m → jR (jwR (jnew h kd n) m f (some (jnx h))) x = jR h x := fun x hx hx2 => by
    show jup (jur (jR h) (jnx h) (fun _ => none)) m f (some (jnx h)) x = _
    funext j
    unfold jup
    rw [if_neg hx2, jur_ne hx]
  have eRm : ∀ j, j ≠ f → jR (jwR (jnew h kd n) m f (some (jnx h))) m j = jR h m j := fun j hj => by
    show jup (jur (jR h) (jnx h) (fun _ => none)) m f (some (jnx h)) m j = _
    unfold jup
    rw [if_pos rfl, if_neg hj, jur_ne hm]
  refine ⟨⟨?_, ?_⟩, by rw [eK m hm]; exact b, by rw [eI m hm]; exact c, fun x hx => ?_, fun q hqm => ?_, by rw [eJ m hm]; exact k⟩
  · show jnx h + 1 = _
    omega
  · show jsl h + n = jsl h0 + asum (i + 1)
    have : asum (i + 1) = asum i + n := by
      unfold asum
      rw [htk, List.map_append, List.sum_append]
      show _ + (n + 0) = _
      rfl
    rw [a2, this]
    omega
  · obtain ⟨e1, e2, e3, e4⟩ := e x hx
    exact ⟨by rw [eK x (by omega)]; exact e1, by rw [eI x (by omega)]; exact e2, by rw [eJ x (by omega)]; exact e3, by rw [eR x (by omega) (by omega)]; exact e4⟩
  · rw [htk] at hqm
    rcases List.mem_append.mp hqm with q1 | q1
    · obtain ⟨f1, f2, f3, f4⟩ := g q q1
      obtain ⟨q2, q3⟩ := hq q q1
      exact ⟨by rw [eRm _ q2]; exact f1, by rw [eK _ (by omega)]; exact f2, by rw [eI _ (by omega)]; exact f3, by rw [eJ _ (by omega)]; exact f4⟩
    · rw [List.mem_singleton] at q1
      subst q1
      have ea : m + (i + 1) = jnx h := by omega
      refine ⟨?_, ?_, ?_, ?_⟩
      · show jup (jur (jR h) (jnx h) (fun _ => none)) m f (some (jnx h)) m f = some (m + (i + 1))
        unfold jup
        rw [if_pos rfl, if_pos rfl, ea]
      · show jur (jK h) (jnx h) (kd, n) (m + (i + 1)) = _
        rw [ea, jur_eq]
      · show jur (jI h) (jnx h) (fun _ => 0) (m + (i + 1)) = _
        rw [ea, jur_eq]
      · show jur (jJ h) (jnx h) (fun _ => 0) (m + (i + 1)) = _
        rw [ea, jur_eq]
theorem mMk_k {h0 h : jH} {m i : Nat} {F : Nat → Int32} {kd n : Nat} (A : mMk h0 h m i F) : (jK (jnew h kd n) m).1 = 32 := by
  obtain ⟨⟨a1, a2⟩, b, -⟩ := A
  show (jur (jK h) (jnx h) (kd, n) m).1 = 32
  rw [jur_ne (by omega), b]
theorem mMk_inv {h0 h : jH} {m : Nat} {F : Nat → Int32} (A : mMk h0 h m 24 F) : mInv h m := ⟨A.2.1, fun q hq => by
  have := A.2.2.2.2.1 q (by rw [List.take_of_length_le (show mArr.length ≤ 24 from Nat.le_of_ble_eq_true rfl)]; exact hq)
  exact ⟨this.1, this.2.1⟩⟩
section
variable {h0 h : jH} {m : Nat} {d : Nat} {Q : Option Value → jH → Prop} {F : Nat → Int32}
theorem c141_4 (A : mMk h0 h m 0 F) (hQ : ∀ h', mMk h0 h' m 1 F → jW d 141 13 [some (.ref m)] [] h' Q) : jW d 141 4 [some (.ref m)] [] h Q := by
  rw [s141_4, s141_5, s141_8 (by decide), s141_10 (mMk_k A)]
  exact hQ _ (mMk_a (f := 0) (kd := 3) (n := 400) A rfl (by decide))
theorem c141_13 (A : mMk h0 h m 1 F) (hQ : ∀ h', mMk h0 h' m 2 F → jW d 141 22 [some (.ref m)] [] h' Q) : jW d 141 13 [some (.ref m)] [] h Q := by
  rw [s141_13, s141_14, s141_17 (by decide), s141_19 (mMk_k A)]
  exact hQ _ (mMk_a (f := 3) (kd := 1) (n := 2400) A rfl (by decide))
theorem c141_22 (A : mMk h0 h m 2 F) (hQ : ∀ h', mMk h0 h' m 3 F → jW d 141 30 [some (.ref m)] [] h' Q) : jW d 141 22 [some (.ref m)] [] h Q := by
  rw [s141_22, s141_23, s141_25 (by decide), s141_27 (mMk_k A)]
  exact hQ _ (mMk_a (f := 4) (kd := 1) (n := 7) A rfl (by decide))
theorem c141_30 (A : mMk h0 h m 3 F) (hQ : ∀ h', mMk h0 h' m 4 F → jW d 141 39 [some (.ref m)] [] h' Q) : jW d 141 30 [some (.ref m)] [] h Q := by
  rw [s141_30, s141_31, s141_34 (by decide), s141_36 (mMk_k A)]
  exact hQ _ (mMk_a (f := 5) (kd := 1) (n := 288) A rfl (by decide))
theorem c141_39 (A : mMk h0 h m 4 F) (hQ : ∀ h', mMk h0 h' m 5 F → jW d 141 47 [some (.ref m)] [] h' Q) : jW d 141 39 [some (.ref m)] [] h Q := by
  rw [s141_39, s141_40, s141_42 (by decide), s141_44 (mMk_k A)]
  exact hQ _ (mMk_a (f := 6) (kd := 1) (n := 6) A rfl (by decide))
theorem c141_47 (A : mMk h0 h m 5 F) (hQ : ∀ h', mMk h0 h' m 6 F → jW d 141 55 [some (.ref m)] [] h' Q) : jW d 141 47 [some (.ref m)] [] h Q := by
  rw [s141_47, s141_48, s141_50 (by decide), s141_52 (mMk_k A)]
  exact hQ _ (mMk_a (f := 7) (kd := 1) (n := 119) A rfl (by decide))
theorem c141_55 (A : mMk h0 h m 6 F) (hQ : ∀ h', mMk h0 h' m 7 F → jW d 141 64 [some (.ref m)] [] h' Q) : jW d 141 55 [some (.ref m)] [] h Q := by
  rw [s141_55, s141_56, s141_59 (by decide), s141_61 (mMk_k A)]
  exact hQ _ (mMk_a (f := 15) (kd := 1) (n := 400) A rfl (by decide))
theorem c141_64 (A : mMk h0 h m 7 F) (hQ : ∀ h', mMk h0 h' m 8 F → jW d 141 72 [some (.ref m)] [] h' Q) : jW d 141 64 [some (.ref m)] [] h Q := by
  rw [s141_64, s141_65, s141_67 (by decide), s141_69 (mMk_k A)]
  exact hQ _ (mMk_a (f := 17) (kd := 4) (n := 64) A rfl (by decide))
theorem c141_72 (A : mMk h0 h m 8 F) (hQ : ∀ h', mMk h0 h' m 9 F → jW d 141 80 [some (.ref m)] [] h' Q) : jW d 141 72 [some (.ref m)] [] h Q := by
  rw [s141_72, s141_73, s141_75 (by decide), s141_77 (mMk_k A)]
  exact hQ _ (mMk_a (f := 19) (kd := 4) (n := 12) A rfl (by decide))
theorem c141_80 (A : mMk h0 h m 9 F) (hQ : ∀ h', mMk h0 h' m 10 F → jW d 141 89 [some (.ref m)] [] h' Q) : jW d 141 80 [some (.ref m)] [] h Q := by
  rw [s141_80, s141_81, s141_84 (by decide), s141_86 (mMk_k A)]
  exact hQ _ (mMk_a (f := 20) (kd := 1) (n := 160) A rfl (by decide))
theorem c141_89 (A : mMk h0 h m 10 F) (hQ : ∀ h', mMk h0 h' m 10 (upd F 21 (-1)) → jW d 141 94 [some (.ref m)] [] h' Q) : jW d 141 89 [some (.ref m)] [] h Q := by
  rw [s141_89, s141_90, s141_91 (by rw [A.2.1])]
  exact hQ _ (mMk_i A (by decide))
theorem c141_94 (A : mMk h0 h m 10 F) (hQ : ∀ h', mMk h0 h' m 10 (upd F 23 (-1)) → jW d 141 99 [some (.ref m)] [] h' Q) : jW d 141 94 [some (.ref m)] [] h Q := by
  rw [s141_94, s141_95, s141_96 (by rw [A.2.1])]
  exact hQ _ (mMk_i A (by decide))
theorem c141_99 (A : mMk h0 h m 10 F) (hQ : ∀ h', mMk h0 h' m 11 F → jW d 141 107 [some (.ref m)] [] h' Q) : jW d 141 99 [some (.ref m)] [] h Q := by
  rw [s141_99, s141_100, s141_102 (by decide), s141_104 (mMk_k A)]
  exact hQ _ (mMk_a (f := 26) (kd := 1) (n := 6) A rfl (by decide))
theorem c141_107 (A : mMk h0 h m 11 F) (hQ : ∀ h', mMk h0 h' m 12 F → jW d 141 116 [some (.ref m)] [] h' Q) : jW d 141 107 [some (.ref m)] [] h Q := by
  rw [s141_107, s141_108, s141_111 (by decide), s141_113 (mMk_k A)]
  exact hQ _ (mMk_a (f := 27) (kd := 1) (n := 1100) A rfl (by decide))
theorem c141_116 (A : mMk h0 h m 12 F) (hQ : ∀ h', mMk h0 h' m 13 F → jW d 141 124 [some (.ref m)] [] h' Q) : jW d 141 116 [some (.ref m)] [] h Q := by
  rw [s141_116, s141_117, s141_119 (by decide), s141_121 (mMk_k A)]
  exact hQ _ (mMk_a (f := 29) (kd := 1) (n := 55) A rfl (by decide))
theorem c141_124 (A : mMk h0 h m 13 F) (hQ : ∀ h', mMk h0 h' m 14 F → jW d 141 132 [some (.ref m)] [] h' Q) : jW d 141 124 [some (.ref m)] [] h Q := by
  rw [s141_124, s141_125, s141_127 (by decide), s141_129 (mMk_k A)]
  exact hQ _ (mMk_a (f := 30) (kd := 1) (n := 7) A rfl (by decide))
theorem c141_132 (A : mMk h0 h m 14 F) (hQ : ∀ h', mMk h0 h' m 15 F → jW d 141 140 [some (.ref m)] [] h' Q) : jW d 141 132 [some (.ref m)] [] h Q := by
  rw [s141_132, s141_133, s141_135 (by decide), s141_137 (mMk_k A)]
  exact hQ _ (mMk_a (f := 31) (kd := 1) (n := 6) A rfl (by decide))
theorem c141_140 (A : mMk h0 h m 15 F) (hQ : ∀ h', mMk h0 h' m 16 F → jW d 141 147 [some (.ref m)] [] h' Q) : jW d 141 140 [some (.ref m)] [] h Q := by
  rw [s141_140, s141_141, s141_142 (by decide), s141_144 (mMk_k A)]
  exact hQ _ (mMk_a (f := 33) (kd := 1) (n := 4) A rfl (by decide))
theorem c141_147 (A : mMk h0 h m 16 F) (hQ : ∀ h', mMk h0 h' m 17 F → jW d 141 155 [some (.ref m)] [] h' Q) : jW d 141 147 [some (.ref m)] [] h Q := by
  rw [s141_147, s141_148, s141_150 (by decide), s141_152 (mMk_k A)]
  exact hQ _ (mMk_a (f := 34) (kd := 1) (n := 72) A rfl (by decide))
theorem c141_155 (A : mMk h0 h m 17 F) (hQ : ∀ h', mMk h0 h' m 18 F → jW d 141 164 [some (.ref m)] [] h' Q) : jW d 141 155 [some (.ref m)] [] h Q := by
  rw [s141_155, s141_156, s141_159 (by decide), s141_161 (mMk_k A)]
  exact hQ _ (mMk_a (f := 35) (kd := 1) (n := 2562) A rfl (by decide))
theorem c141_164 (A : mMk h0 h m 18 F) (hQ : ∀ h', mMk h0 h' m 19 F → jW d 141 172 [some (.ref m)] [] h' Q) : jW d 141 164 [some (.ref m)] [] h Q := by
  rw [s141_164, s141_165, s141_167 (by decide), s141_169 (mMk_k A)]
  exact hQ _ (mMk_a (f := 36) (kd := 2) (n := 7) A rfl (by decide))
theorem c141_172 (A : mMk h0 h m 19 F) (hQ : ∀ h', mMk h0 h' m 20 F → jW d 141 180 [some (.ref m)] [] h' Q) : jW d 141 172 [some (.ref m)] [] h Q := by
  rw [s141_172, s141_173, s141_175 (by decide), s141_177 (mMk_k A)]
  exact hQ _ (mMk_a (f := 37) (kd := 1) (n := 42) A rfl (by decide))
theorem c141_180 (A : mMk h0 h m 20 F) (hQ : ∀ h', mMk h0 h' m 21 F → jW d 141 189 [some (.ref m)] [] h' Q) : jW d 141 180 [some (.ref m)] [] h Q := by
  rw [s141_180, s141_181, s141_184 (by decide), s141_186 (mMk_k A)]
  exact hQ _ (mMk_a (f := 39) (kd := 1) (n := 640) A rfl (by decide))
theorem c141_189 (A : mMk h0 h m 21 F) (hQ : ∀ h', mMk h0 h' m 22 F → jW d 141 196 [some (.ref m)] [] h' Q) : jW d 141 189 [some (.ref m)] [] h Q := by
  rw [s141_189, s141_190, s141_191 (by decide), s141_193 (mMk_k A)]
  exact hQ _ (mMk_a (f := 40) (kd := 1) (n := 4) A rfl (by decide))
theorem c141_196 (A : mMk h0 h m 22 F) (hQ : ∀ h', mMk h0 h' m 23 F → jW d 141 203 [some (.ref m)] [] h' Q) : jW d 141 196 [some (.ref m)] [] h Q := by
  rw [s141_196, s141_197, s141_198 (by decide), s141_200 (mMk_k A)]
  exact hQ _ (mMk_a (f := 41) (kd := 1) (n := 4) A rfl (by decide))
theorem c141_203 (A : mMk h0 h m 23 F) (hQ : ∀ h', mMk h0 h' m 24 F → jW d 141 210 [some (.ref m)] [] h' Q) : jW d 141 203 [some (.ref m)] [] h Q := by
  rw [s141_203, s141_204, s141_205 (by decide), s141_207 (mMk_k A)]
  exact hQ _ (mMk_a (f := 42) (kd := 2) (n := 4) A rfl (by decide))
/-- the reference made -/
theorem c141 (A : mMk h0 h m 0 (fun _ => 0)) (hQ : ∀ h', mMk h0 h' m 24 (upd (upd (fun _ => 0) 21 (-1)) 23 (-1)) → Q none h') : jC (d + 1) 141 [.ref m] h Q := by
  rw [e141, s141_0, s141_1]
  refine c141_4 A (fun h1 A1 => ?_)
  refine c141_13 A1 (fun h2 A2 => ?_)
  refine c141_22 A2 (fun h3 A3 => ?_)
  refine c141_30 A3 (fun h4 A4 => ?_)
  refine c141_39 A4 (fun h5 A5 => ?_)
  refine c141_47 A5 (fun h6 A6 => ?_)
  refine c141_55 A6 (fun h7 A7 => ?_)
  refine c141_64 A7 (fun h8 A8 => ?_)
  refine c141_72 A8 (fun h9 A9 => ?_)
  refine c141_80 A9 (fun h10 A10 => ?_)
  refine c141_89 A10 (fun h11 A11 => ?_)
  refine c141_94 A11 (fun h12 A12 => ?_)
  refine c141_99 A12 (fun h13 A13 => ?_)
  refine c141_107 A13 (fun h14 A14 => ?_)
  refine c141_116 A14 (fun h15 A15 => ?_)
  refine c141_124 A15 (fun h16 A16 => ?_)
  refine c141_132 A16 (fun h17 A17 => ?_)
  refine c141_140 A17 (fun h18 A18 => ?_)
  refine c141_147 A18 (fun h19 A19 => ?_)
  refine c141_155 A19 (fun h20 A20 => ?_)
  refine c141_164 A20 (fun h21 A21 => ?_)
  refine c141_172 A21 (fun h22 A22 => ?_)
  refine c141_180 A22 (fun h23 A23 => ?_)
  refine c141_189 A23 (fun h24 A24 => ?_)
  refine c141_196 A24 (fun h25 A25 => ?_)
  refine c141_203 A25 (fun h26 A26 => ?_)
  rw [s141_210]
  exact hQ _ A26
end
