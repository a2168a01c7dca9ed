/-! THE CLASS: camp: a camp made and read -/
section
variable {h : jH} {x L : Nat} {T : Nat → Nat} {d : Nat} {Q : Option Value → jH → Prop} {tK tV : Nat → Nat}
theorem k106a (X : xI h x) (TP : tpI h (x + 1) T L) (Y : txI h tK tV) (hv : ∀ i, i < 6 → tV i < x + 1) (hL : jI h (x + 1) 1 = nI L) (hn : x + 75 ≤ jnx h)
    (hE : ∀ w, aCpl T L (L + 1) 0 (fun _ => 0) 0 = .error w → ∀ h', agx (fun a => a = x + 1) h h' → jnx h' = jnx h + 4 → jsl h' = jsl h + 63 → (∀ a, a < jnx h → jR h' a = jR h a) → tE L w (jI h' (x + 1)) → jW (d + 6) 106 16 [some (.ref x), some (.ref (jnx h)), none] [.int 0] h' Q)
    (hO : ∀ y, aCpl T L (L + 1) 0 (fun _ => 0) 0 = .ok y → ∀ h', agx (fun a => a = x + 1) h h' → jnx h' = jnx h + 4 → jsl h' = jsl h + 63 → (∀ a, a < jnx h → jR h' a = jR h a) → cmI h' (jnx h) → zV h' (jnx h) y → jI h' (jnx h) 0 = 1 → jW (d + 6) 106 16 [some (.ref x), some (.ref (jnx h)), none] [.int 1] h' Q) : jC (d + 7) 106 [.ref x] h Q := by
  obtain ⟨x1, x2, -⟩ := X
  rw [e106, s106_0, s106_3, s106_4]
  refine k0 (a := jnx h) rfl (jK_new h 20 9) (jI_new h 20 9) (fun h1 M => ?_)
  obtain ⟨⟨m1, m2⟩, m3, m4, m5, m6⟩ := M
  have old : ∀ b, b < jnx h → jK h1 b = jK h b ∧ jI h1 b = jI h b ∧ jJ h1 b = jJ h b ∧ jR h1 b = jR h b := fun b hb => by
    obtain ⟨a1, a2, a3, a4⟩ := m5 b hb
    have ne : b ≠ jnx h := by omega
    rw [a1, a2, a3, a4]
    exact ⟨jur_ne ne, jur_ne ne, jur_ne ne, jur_ne ne⟩
  have C1 : cmI h1 (jnx h) := ⟨m3, ⟨(m6 0 (by omega)).1, (m6 0 (by omega)).2.1⟩, ⟨(m6 1 (by omega)).1, (m6 1 (by omega)).2.1⟩, (m6 2 (by omega)).1, (m6 2 (by omega)).2.1⟩
  have Z1 : zV h1 (jnx h) (fun _ => 0) := by
    have j1 : jI h1 (jnx h + 1) = fun _ => 0 := (m6 0 (by omega)).2.2
    have j2 : jI h1 (jnx h + 2) = fun _ => 0 := (m6 1 (by omega)).2.2
    have j3 : jI h1 (jnx h + 3) = fun _ => 0 := (m6 2 (by omega)).2.2
    unfold zV
    rw [m4, j1, j2, j3]
    exact ⟨⟨rfl, rfl, rfl, rfl, rfl⟩, fun _ _ => rfl, fun _ _ => rfl, fun _ _ => rfl⟩
  have T1 : tpI h1 (x + 1) T L := by
    obtain ⟨a1, a2, a3, a4, a5⟩ := TP
    refine ⟨by rw [(old _ (by omega)).1]; exact a1, by rw [(old _ (by omega)).2.2.2]; exact a2, by rw [(old _ (by omega)).1]; exact a3, a4, fun p hp => ?_⟩
    rw [(old _ (by omega)).2.1]
    exact a5 p hp
  have Y1 : txI h1 tK tV := by
    refine ⟨Y.1, fun i hi => ?_⟩
    obtain ⟨y1, y2, y3, y4, y5⟩ := Y.2 i hi
    have := hv i hi
    rw [(old 0 (by omega)).2.2.2, (old (tV i) (by omega)).1, (old (tV i) (by omega)).2.1]
    exact ⟨y1, y2, y3, y4, y5⟩
  have k1 : jK h1 x = (31, 9) := by rw [(old x (by omega)).1]; exact x1
  have k2 : jR h1 x 0 = some (x + 1) := by rw [(old x (by omega)).2.2.2]; exact x2
  have c1 : (jK h1 (jnx h)).1 = 20 := by rw [m3]
  have nx : jnx h1 = jnx h + 4 := m1
  have sl : jsl h1 = jsl h + 63 := m2
  simp only [Option.toList, List.nil_append]
  simp (config := { decide := true }) (disch := (first | assumption | omega | (simp (config := { decide := true }) only [k1, k2, c1, jK_wI, jK_wJ, jK_wR, jK_wr, jR_wr, jR_wI, jR_wJ, jK_wj, jR_wj, stI_wr, cmI_wr, stI_wj, cmI_wj]; done) | (simp only [k1, k2, c1, jK_wI, jK_wJ, jK_wR, jK_wr, jR_wr, jR_wI, jR_wJ, jK_wj, jR_wj, stI_wr, cmI_wr, stI_wj, cmI_wj]; refine jinb_nI ?_ ?_ <;> omega) | (refine jinb_nI ?_ ?_ <;> omega) | (simp only [stI_wr, cmI_wr, stI_wj, cmI_wj]; assumption))) only [s106_7, s106_7N, s106_8, s106_8N, s106_9, s106_10, s106_13, va_rf_some, va_rf_none, jK_wI, jR_wI, jJ_wI, jK_wJ, jR_wJ, jI_wJ, jK_wR, jI_wR, jJ_wR, jK_wr, jR_wr, jJ_wr, jcl1_i, jcl1_r, jcl1_z, jcl1_n, jcl1_l, jwI_row, jwr_jwr, jwr_cm, jwr_cc, upd_upd, jI_wr_s, jI_wr_a, jI_wr_b, jI_wr_c, mInv_wr, upd_s, upd_n, Option.toList, List.cons_append, List.nil_append, true_or, or_true, eq_self, and_self, ite_true, ite_false, if_true, if_false, jK_wj, jR_wj, jI_wj, jwJ_row, jwj_jwj, jJ_wj_s, jJ_wj_n, jI_wr_n, jinb_nI, nI_clamp, tc0, tc1, tc2, tc3, tc4, tc5, tc6, tc7, tc8, tc9, tc10, tc11, tc12, tc13, tc14, tc15, tc16, tc17, tc18, tc19, tc20, tc21, tc22, tc23, tc24, tc25, tc26, tc27, tc28, tc29, tc30, tc31, tc32, tc33, tc34, tc35, tc36, tc37, tc38, tc39, tc40, tc41, tc42, tc43, tc44, tc45, tc46, tc47, tc48, tc49, tc50, tc51, tc52, tc53, tc54, tc55, tc56, tc57, tc58, tc59, tc60, tc61, tc62, tc63, tc64, tc65, tc66, tc67, tc68, tc69, tc77, tc83, tc119, tc159, tc160, nI_add, al0, ar0, ml0, mr0, al1, ar1, ml1, mr1, al2, ar2, ml2, mr2, al3, ar3, ml3, mr3, al4, ar4, ml4, mr4, al5, ar5, ml5, mr5, al6, ar6, ml6, mr6, al8, ar8, ml8, mr8, al10, ar10, ml10, mr10, al11, ar11, ml11, mr11, al12, ar12, ml12, mr12, al13, ar13, ml13, mr13, al16, ar16, ml16, mr16, al20, ar20, ml20, mr20, al24, ar24, ml24, mr24, al29, ar29, ml29, mr29, al36, ar36, ml36, mr36, al42, ar42, ml42, mr42, al48, ar48, ml48, mr48, al55, ar55, ml55, mr55, al60, ar60, ml60, mr60, al65, ar65, ml65, mr65, al77, ar77, ml77, mr77, al83, ar83, ml83, mr83, al119, ar119, ml119, mr119, al159, ar159, ml159, mr159, al160, ar160, ml160, mr160, al400, ar400, ml400, mr400, k1, k2, c1]
  have ag : ∀ h', cfr (jnx h) (x + 1) h1 h' → agx (fun a => a = x + 1) h h' ∧ jnx h' = jnx h + 4 ∧ jsl h' = jsl h + 63 ∧ ∀ a, a < jnx h → jR h' a = jR h a := fun h' G => by
    obtain ⟨⟨g1, g2, g3, g4, g5⟩, g6⟩ := G
    refine ⟨⟨by rw [g1, nx]; omega, fun a ha => by rw [g3]; exact (old a ha).1, fun a ha hw => ?_⟩, by rw [g1, nx], by rw [g2, sl], fun a ha => by rw [g4]; exact (old a ha).2.2.2⟩
    obtain ⟨o1, o2, o3, o4⟩ := old a ha
    exact ⟨by rw [g6 a hw (Or.inl ha)]; exact o2, by rw [g5]; exact o3, by rw [g4]; exact o4⟩
  refine kk1 C1 T1 Y1 (by omega) hv (by rw [(old (x + 1) (by omega)).2.1]; exact hL) Z1 ?_
  cases hx : aCpl T L (L + 1) 0 (fun _ => 0) 0 with
  | error w =>
    intro h' G e
    obtain ⟨a1, a2, a3, a4⟩ := ag h' G
    exact hE w hx h' a1 a2 a3 a4 e
  | ok y =>
    intro h' G _ z o
    obtain ⟨a1, a2, a3, a4⟩ := ag h' G
    exact hO y hx h' a1 a2 a3 a4 (cfr_cm G C1) z o
end
