/-! THE REFERENCE, first rows: its cells; the least methods -/
theorem va_rf_some (a : Nat) : va_rf (some a) = .ref a := rfl
theorem va_rf_none : va_rf none = .null := rfl
section
variable {h : jH} {a k : Nat}
theorem jK_wI {v : Int32} : jK (jwI h a k v) = jK h := rfl
theorem jR_wI {v : Int32} : jR (jwI h a k v) = jR h := rfl
theorem jJ_wI {v : Int32} : jJ (jwI h a k v) = jJ h := rfl
theorem jK_wJ {v : Int64} : jK (jwJ h a k v) = jK h := rfl
theorem jR_wJ {v : Int64} : jR (jwJ h a k v) = jR h := rfl
theorem jI_wJ {v : Int64} : jI (jwJ h a k v) = jI h := rfl
theorem jK_wR {v : Option Nat} : jK (jwR h a k v) = jK h := rfl
theorem jI_wR {v : Option Nat} : jI (jwR h a k v) = jI h := rfl
theorem jJ_wR {v : Option Nat} : jJ (jwR h a k v) = jJ h := rfl
theorem jK_wr {f : Nat → Int32} : jK (jwr h a f) = jK h := rfl
theorem jR_wr {f : Nat → Int32} : jR (jwr h a f) = jR h := rfl
theorem jJ_wr {f : Nat → Int32} : jJ (jwr h a f) = jJ h := rfl
theorem jI_wI {v : Int32} {b j : Nat} : jI (jwI h a k v) b j = if b = a then (if j = k then v else jI h b j) else jI h b j := rfl
end
theorem jwI_row {h : jH} {a k : Nat} {v : Int32} : jwI h a k v = jwr h a (upd (jI h a) k v) := by
  unfold jwI jwr
  congr 4
  funext b
  by_cases hb : b = a
  · subst hb
    rw [jup_eq, jur_eq]
  · rw [jup_ne hb, jur_ne hb]
theorem jwr_jwr {h : jH} {a : Nat} {f g : Nat → Int32} : jwr (jwr h a f) a g = jwr h a g := by
  have e : jur (jur (jI h) a f) a g = jur (jI h) a g := by
    funext b
    by_cases hb : b = a
    · subst hb
      rw [jur_eq, jur_eq]
    · rw [jur_ne hb, jur_ne hb, jur_ne hb]
  show (jnx h, jsl h, jK h, jur (jur (jI h) a f) a g, jJ h, jR h) = (jnx h, jsl h, jK h, jur (jI h) a g, jJ h, jR h)
  rw [e]
theorem upd_s {f : Nat → Int32} {i : Nat} {x : Int32} : upd f i x i = x := if_pos rfl
theorem upd_n {f : Nat → Int32} {i j : Nat} {x : Int32} (h : j ≠ i) : upd f i x j = f j := if_neg h
theorem jwr_com {h : jH} {a b : Nat} {f g : Nat → Int32} (hab : a ≠ b) : jwr (jwr h a f) b g = jwr (jwr h b g) a f := by
  have e : jur (jur (jI h) a f) b g = jur (jur (jI h) b g) a f := by
    funext c
    by_cases h1 : c = a
    · subst h1
      rw [jur_ne hab, jur_eq, jur_eq]
    · by_cases h2 : c = b
      · subst h2
        rw [jur_eq, jur_ne h1, jur_eq]
      · rw [jur_ne h2, jur_ne h1, jur_ne h1, jur_ne h2]
  show (jnx h, jsl h, jK h, jur (jur (jI h) a f) b g, jJ h, jR h) = (jnx h, jsl h, jK h, jur (jur (jI h) b g) a f, jJ h, jR h)
  rw [e]
theorem jwr_cm {h : jH} {m c : Nat} {f g : Nat → Int32} (hc : c ≠ 0) : jwr (jwr h m f) (m + c) g = jwr (jwr h (m + c) g) m f := jwr_com (by omega)
theorem jwr_cc {h : jH} {m c e : Nat} {f g : Nat → Int32} (hc : e < c) : jwr (jwr h (m + c) f) (m + e) g = jwr (jwr h (m + e) g) (m + c) f := jwr_com (by omega)
theorem upd_upd {f : Nat → Int32} {i : Nat} {x y : Int32} : upd (upd f i x) i y = upd f i y := by
  funext j
  unfold upd
  by_cases hj : j = i <;> simp [hj]
theorem jI_wr_s {h : jH} {a : Nat} {f : Nat → Int32} : jI (jwr h a f) a = f := jur_eq
theorem jI_wr_n {h : jH} {a b : Nat} {f : Nat → Int32} (hb : b ≠ a) : jI (jwr h a f) b = jI h b := jur_ne hb
theorem jI_wr_a {h : jH} {m c e : Nat} {f : Nat → Int32} (hb : e ≠ c) : jI (jwr h (m + c) f) (m + e) = jI h (m + e) := jur_ne (by omega)
theorem jI_wr_b {h : jH} {m e : Nat} {f : Nat → Int32} (hb : e ≠ 0) : jI (jwr h m f) (m + e) = jI h (m + e) := jur_ne (by omega)
theorem jI_wr_c {h : jH} {m c : Nat} {f : Nat → Int32} (hb : c ≠ 0) : jI (jwr h (m + c) f) m = jI h m := jur_ne (by omega)
theorem jcl1_i {x : Int32} : jcl1 (some (.int x)) = some (.int x) := rfl
theorem jcl1_r {a : Nat} : jcl1 (some (.ref a)) = some (.ref a) := rfl
theorem jcl1_z : jcl1 none = none := rfl
theorem jcl1_n : jcl1 (some .null) = some .null := rfl
theorem jcl1_l {u : Int64} : jcl1 (some (.long u)) = none := rfl
theorem nI_mul (a b : Nat) : nI a * nI b = nI (a * b) := (Int32.ofNat_mul a b).symm
theorem al0 (n : Nat) : (0 : Int32) + nI n = nI (0 + n) := nI_add 0 n
theorem ar0 (n : Nat) : nI n + (0 : Int32) = nI (n + 0) := nI_add n 0
theorem ml0 (n : Nat) : (0 : Int32) * nI n = nI (0 * n) := nI_mul 0 n
theorem mr0 (n : Nat) : nI n * (0 : Int32) = nI (n * 0) := nI_mul n 0
theorem al1 (n : Nat) : (1 : Int32) + nI n = nI (1 + n) := nI_add 1 n
theorem ar1 (n : Nat) : nI n + (1 : Int32) = nI (n + 1) := nI_add n 1
theorem ml1 (n : Nat) : (1 : Int32) * nI n = nI (1 * n) := nI_mul 1 n
theorem mr1 (n : Nat) : nI n * (1 : Int32) = nI (n * 1) := nI_mul n 1
theorem al2 (n : Nat) : (2 : Int32) + nI n = nI (2 + n) := nI_add 2 n
theorem ar2 (n : Nat) : nI n + (2 : Int32) = nI (n + 2) := nI_add n 2
theorem ml2 (n : Nat) : (2 : Int32) * nI n = nI (2 * n) := nI_mul 2 n
theorem mr2 (n : Nat) : nI n * (2 : Int32) = nI (n * 2) := nI_mul n 2
theorem al3 (n : Nat) : (3 : Int32) + nI n = nI (3 + n) := nI_add 3 n
theorem ar3 (n : Nat) : nI n + (3 : Int32) = nI (n + 3) := nI_add n 3
theorem ml3 (n : Nat) : (3 : Int32) * nI n = nI (3 * n) := nI_mul 3 n
theorem mr3 (n : Nat) : nI n * (3 : Int32) = nI (n * 3) := nI_mul n 3
theorem al4 (n : Nat) : (4 : Int32) + nI n = nI (4 + n) := nI_add 4 n
theorem ar4 (n : Nat) : nI n + (4 : Int32) = nI (n + 4) := nI_add n 4
theorem ml4 (n : Nat) : (4 : Int32) * nI n = nI (4 * n) := nI_mul 4 n
theorem mr4 (n : Nat) : nI n * (4 : Int32) = nI (n * 4) := nI_mul n 4
theorem al5 (n : Nat) : (5 : Int32) + nI n = nI (5 + n) := nI_add 5 n
theorem ar5 (n : Nat) : nI n + (5 : Int32) = nI (n + 5) := nI_add n 5
theorem ml5 (n : Nat) : (5 : Int32) * nI n = nI (5 * n) := nI_mul 5 n
theorem mr5 (n : Nat) : nI n * (5 : Int32) = nI (n * 5) := nI_mul n 5
theorem al6 (n : Nat) : (6 : Int32) + nI n = nI (6 + n) := nI_add 6 n
theorem ar6 (n : Nat) : nI n + (6 : Int32) = nI (n + 6) := nI_add n 6
theorem ml6 (n : Nat) : (6 : Int32) * nI n = nI (6 * n) := nI_mul 6 n
theorem mr6 (n : Nat) : nI n * (6 : Int32) = nI (n * 6) := nI_mul n 6
theorem al8 (n : Nat) : (8 : Int32) + nI n = nI (8 + n) := nI_add 8 n
theorem ar8 (n : Nat) : nI n + (8 : Int32) = nI (n + 8) := nI_add n 8
theorem ml8 (n : Nat) : (8 : Int32) * nI n = nI (8 * n) := nI_mul 8 n
theorem mr8 (n : Nat) : nI n * (8 : Int32) = nI (n * 8) := nI_mul n 8
theorem al10 (n : Nat) : (10 : Int32) + nI n = nI (10 + n) := nI_add 10 n
theorem ar10 (n : Nat) : nI n + (10 : Int32) = nI (n + 10) := nI_add n 10
theorem ml10 (n : Nat) : (10 : Int32) * nI n = nI (10 * n) := nI_mul 10 n
theorem mr10 (n : Nat) : nI n * (10 : Int32) = nI (n * 10) := nI_mul n 10
theorem al11 (n : Nat) : (11 : Int32) + nI n = nI (11 + n) := nI_add 11 n
theorem ar11 (n : Nat) : nI n + (11 : Int32) = nI (n + 11) := nI_add n 11
theorem ml11 (n : Nat) : (11 : Int32) * nI n = nI (11 * n) := nI_mul 11 n
theorem mr11 (n : Nat) : nI n * (11 : Int32) = nI (n * 11) := nI_mul n 11
theorem al12 (n : Nat) : (12 : Int32) + nI n = nI (12 + n) := nI_add 12 n
theorem ar12 (n : Nat) : nI n + (12 : Int32) = nI (n + 12) := nI_add n 12
theorem ml12 (n : Nat) : (12 : Int32) * nI n = nI (12 * n) := nI_mul 12 n
theorem mr12 (n : Nat) : nI n * (12 : Int32) = nI (n * 12) := nI_mul n 12
theorem al13 (n : Nat) : (13 : Int32) + nI n = nI (13 + n) := nI_add 13 n
theorem ar13 (n : Nat) : nI n + (13 : Int32) = nI (n + 13) := nI_add n 13
theorem ml13 (n : Nat) : (13 : Int32) * nI n = nI (13 * n) := nI_mul 13 n
theorem mr13 (n : Nat) : nI n * (13 : Int32) = nI (n * 13) := nI_mul n 13
theorem al16 (n : Nat) : (16 : Int32) + nI n = nI (16 + n) := nI_add 16 n
theorem ar16 (n : Nat) : nI n + (16 : Int32) = nI (n + 16) := nI_add n 16
theorem ml16 (n : Nat) : (16 : Int32) * nI n = nI (16 * n) := nI_mul 16 n
theorem mr16 (n : Nat) : nI n * (16 : Int32) = nI (n * 16) := nI_mul n 16
theorem al20 (n : Nat) : (20 : Int32) + nI n = nI (20 + n) := nI_add 20 n
theorem ar20 (n : Nat) : nI n + (20 : Int32) = nI (n + 20) := nI_add n 20
theorem ml20 (n : Nat) : (20 : Int32) * nI n = nI (20 * n) := nI_mul 20 n
theorem mr20 (n : Nat) : nI n * (20 : Int32) = nI (n * 20) := nI_mul n 20
theorem al24 (n : Nat) : (24 : Int32) + nI n = nI (24 + n) := nI_add 24 n
theorem ar24 (n : Nat) : nI n + (24 : Int32) = nI (n + 24) := nI_add n 24
theorem ml24 (n : Nat) : (24 : Int32) * nI n = nI (24 * n) := nI_mul 24 n
theorem mr24 (n : Nat) : nI n * (24 : Int32) = nI (n * 24) := nI_mul n 24
theorem al29 (n : Nat) : (29 : Int32) + nI n = nI (29 + n) := nI_add 29 n
theorem ar29 (n : Nat) : nI n + (29 : Int32) = nI (n + 29) := nI_add n 29
theorem ml29 (n : Nat) : (29 : Int32) * nI n = nI (29 * n) := nI_mul 29 n
theorem mr29 (n : Nat) : nI n * (29 : Int32) = nI (n * 29) := nI_mul n 29
theorem al36 (n : Nat) : (36 : Int32) + nI n = nI (36 + n) := nI_add 36 n
theorem ar36 (n : Nat) : nI n + (36 : Int32) = nI (n + 36) := nI_add n 36
theorem ml36 (n : Nat) : (36 : Int32) * nI n = nI (36 * n) := nI_mul 36 n
theorem mr36 (n : Nat) : nI n * (36 : Int32) = nI (n * 36) := nI_mul n 36
theorem al42 (n : Nat) : (42 : Int32) + nI n = nI (42 + n) := nI_add 42 n
theorem ar42 (n : Nat) : nI n + (42 : Int32) = nI (n + 42) := nI_add n 42
theorem ml42 (n : Nat) : (42 : Int32) * nI n = nI (42 * n) := nI_mul 42 n
theorem mr42 (n : Nat) : nI n * (42 : Int32) = nI (n * 42) := nI_mul n 42
theorem al48 (n : Nat) : (48 : Int32) + nI n = nI (48 + n) := nI_add 48 n
theorem ar48 (n : Nat) : nI n + (48 : Int32) = nI (n + 48) := nI_add n 48
theorem ml48 (n : Nat) : (48 : Int32) * nI n = nI (48 * n) := nI_mul 48 n
theorem mr48 (n : Nat) : nI n * (48 : Int32) = nI (n * 48) := nI_mul n 48
theorem al55 (n : Nat) : (55 : Int32) + nI n = nI (55 + n) := nI_add 55 n
theorem ar55 (n : Nat) : nI n + (55 : Int32) = nI (n + 55) := nI_add n 55
theorem ml55 (n : Nat) : (55 : Int32) * nI n = nI (55 * n) := nI_mul 55 n
theorem mr55 (n : Nat) : nI n * (55 : Int32) = nI (n * 55) := nI_mul n 55
theorem al60 (n : Nat) : (60 : Int32) + nI n = nI (60 + n) := nI_add 60 n
theorem ar60 (n : Nat) : nI n + (60 : Int32) = nI (n + 60) := nI_add n 60
theorem ml60 (n : Nat) : (60 : Int32) * nI n = nI (60 * n) := nI_mul 60 n
theorem mr60 (n : Nat) : nI n * (60 : Int32) = nI (n * 60) := nI_mul n 60
theorem al65 (n : Nat) : (65 : Int32) + nI n = nI (65 + n) := nI_add 65 n
theorem ar65 (n : Nat) : nI n + (65 : Int32) = nI (n + 65) := nI_add n 65
theorem ml65 (n : Nat) : (65 : Int32) * nI n = nI (65 * n) := nI_mul 65 n
theorem mr65 (n : Nat) : nI n * (65 : Int32) = nI (n * 65) := nI_mul n 65
theorem al77 (n : Nat) : (77 : Int32) + nI n = nI (77 + n) := nI_add 77 n
theorem ar77 (n : Nat) : nI n + (77 : Int32) = nI (n + 77) := nI_add n 77
theorem ml77 (n : Nat) : (77 : Int32) * nI n = nI (77 * n) := nI_mul 77 n
theorem mr77 (n : Nat) : nI n * (77 : Int32) = nI (n * 77) := nI_mul n 77
theorem al83 (n : Nat) : (83 : Int32) + nI n = nI (83 + n) := nI_add 83 n
theorem ar83 (n : Nat) : nI n + (83 : Int32) = nI (n + 83) := nI_add n 83
theorem ml83 (n : Nat) : (83 : Int32) * nI n = nI (83 * n) := nI_mul 83 n
theorem mr83 (n : Nat) : nI n * (83 : Int32) = nI (n * 83) := nI_mul n 83
theorem al119 (n : Nat) : (119 : Int32) + nI n = nI (119 + n) := nI_add 119 n
theorem ar119 (n : Nat) : nI n + (119 : Int32) = nI (n + 119) := nI_add n 119
theorem ml119 (n : Nat) : (119 : Int32) * nI n = nI (119 * n) := nI_mul 119 n
theorem mr119 (n : Nat) : nI n * (119 : Int32) = nI (n * 119) := nI_mul n 119
theorem al159 (n : Nat) : (159 : Int32) + nI n = nI (159 + n) := nI_add 159 n
theorem ar159 (n : Nat) : nI n + (159 : Int32) = nI (n + 159) := nI_add n 159
theorem ml159 (n : Nat) : (159 : Int32) * nI n = nI (159 * n) := nI_mul 159 n
theorem mr159 (n : Nat) : nI n * (159 : Int32) = nI (n * 159) := nI_mul n 159
theorem al160 (n : Nat) : (160 : Int32) + nI n = nI (160 + n) := nI_add 160 n
theorem ar160 (n : Nat) : nI n + (160 : Int32) = nI (n + 160) := nI_add n 160
theorem ml160 (n : Nat) : (160 : Int32) * nI n = nI (160 * n) := nI_mul 160 n
theorem mr160 (n : Nat) : nI n * (160 : Int32) = nI (n * 160) := nI_mul n 160
theorem al400 (n : Nat) : (400 : Int32) + nI n = nI (400 + n) := nI_add 400 n
theorem ar400 (n : Nat) : nI n + (400 : Int32) = nI (n + 400) := nI_add n 400
theorem ml400 (n : Nat) : (400 : Int32) * nI n = nI (400 * n) := nI_mul 400 n
theorem mr400 (n : Nat) : nI n * (400 : Int32) = nI (n * 400) := nI_mul n 400
theorem tc0 : (0 : Int32).toNatClampNeg = 0 := by decide
theorem tc1 : (1 : Int32).toNatClampNeg = 1 := by decide
theorem tc2 : (2 : Int32).toNatClampNeg = 2 := by decide
theorem tc3 : (3 : Int32).toNatClampNeg = 3 := by decide
theorem tc4 : (4 : Int32).toNatClampNeg = 4 := by decide
theorem tc5 : (5 : Int32).toNatClampNeg = 5 := by decide
theorem tc6 : (6 : Int32).toNatClampNeg = 6 := by decide
theorem tc7 : (7 : Int32).toNatClampNeg = 7 := by decide
theorem tc8 : (8 : Int32).toNatClampNeg = 8 := by decide
theorem tc9 : (9 : Int32).toNatClampNeg = 9 := by decide
theorem tc10 : (10 : Int32).toNatClampNeg = 10 := by decide
theorem tc11 : (11 : Int32).toNatClampNeg = 11 := by decide
theorem tc12 : (12 : Int32).toNatClampNeg = 12 := by decide
theorem tc13 : (13 : Int32).toNatClampNeg = 13 := by decide
theorem tc14 : (14 : Int32).toNatClampNeg = 14 := by decide
theorem tc15 : (15 : Int32).toNatClampNeg = 15 := by decide
theorem tc16 : (16 : Int32).toNatClampNeg = 16 := by decide
theorem tc17 : (17 : Int32).toNatClampNeg = 17 := by decide
theorem tc18 : (18 : Int32).toNatClampNeg = 18 := by decide
theorem tc19 : (19 : Int32).toNatClampNeg = 19 := by decide
theorem tc20 : (20 : Int32).toNatClampNeg = 20 := by decide
theorem tc21 : (21 : Int32).toNatClampNeg = 21 := by decide
theorem tc22 : (22 : Int32).toNatClampNeg = 22 := by decide
theorem tc23 : (23 : Int32).toNatClampNeg = 23 := by decide
theorem tc24 : (24 : Int32).toNatClampNeg = 24 := by decide
theorem tc25 : (25 : Int32).toNatClampNeg = 25 := by decide
theorem tc26 : (26 : Int32).toNatClampNeg = 26 := by decide
theorem tc27 : (27 : Int32).toNatClampNeg = 27 := by decide
theorem tc28 : (28 : Int32).toNatClampNeg = 28 := by decide
theorem tc29 : (29 : Int32).toNatClampNeg = 29 := by decide
theorem tc30 : (30 : Int32).toNatClampNeg = 30 := by decide
theorem tc31 : (31 : Int32).toNatClampNeg = 31 := by decide
theorem tc32 : (32 : Int32).toNatClampNeg = 32 := by decide
theorem tc33 : (33 : Int32).toNatClampNeg = 33 := by decide
theorem tc34 : (34 : Int32).toNatClampNeg = 34 := by decide
theorem tc35 : (35 : Int32).toNatClampNeg = 35 := by decide
theorem tc36 : (36 : Int32).toNatClampNeg = 36 := by decide
theorem tc37 : (37 : Int32).toNatClampNeg = 37 := by decide
theorem tc38 : (38 : Int32).toNatClampNeg = 38 := by decide
theorem tc39 : (39 : Int32).toNatClampNeg = 39 := by decide
theorem tc40 : (40 : Int32).toNatClampNeg = 40 := by decide
theorem tc41 : (41 : Int32).toNatClampNeg = 41 := by decide
theorem tc42 : (42 : Int32).toNatClampNeg = 42 := by decide
theorem tc43 : (43 : Int32).toNatClampNeg = 43 := by decide
theorem tc44 : (44 : Int32).toNatClampNeg = 44 := by decide
theorem tc45 : (45 : Int32).toNatClampNeg = 45 := by decide
theorem tc46 : (46 : Int32).toNatClampNeg = 46 := by decide
theorem tc47 : (47 : Int32).toNatClampNeg = 47 := by decide
theorem tc48 : (48 : Int32).toNatClampNeg = 48 := by decide
theorem tc49 : (49 : Int32).toNatClampNeg = 49 := by decide
theorem tc50 : (50 : Int32).toNatClampNeg = 50 := by decide
theorem tc51 : (51 : Int32).toNatClampNeg = 51 := by decide
theorem tc52 : (52 : Int32).toNatClampNeg = 52 := by decide
theorem tc53 : (53 : Int32).toNatClampNeg = 53 := by decide
theorem tc54 : (54 : Int32).toNatClampNeg = 54 := by decide
theorem tc55 : (55 : Int32).toNatClampNeg = 55 := by decide
theorem tc56 : (56 : Int32).toNatClampNeg = 56 := by decide
theorem tc57 : (57 : Int32).toNatClampNeg = 57 := by decide
theorem tc58 : (58 : Int32).toNatClampNeg = 58 := by decide
theorem tc59 : (59 : Int32).toNatClampNeg = 59 := by decide
theorem tc60 : (60 : Int32).toNatClampNeg = 60 := by decide
theorem tc61 : (61 : Int32).toNatClampNeg = 61 := by decide
theorem tc62 : (62 : Int32).toNatClampNeg = 62 := by decide
theorem tc63 : (63 : Int32).toNatClampNeg = 63 := by decide
theorem tc64 : (64 : Int32).toNatClampNeg = 64 := by decide
theorem tc65 : (65 : Int32).toNatClampNeg = 65 := by decide
theorem tc66 : (66 : Int32).toNatClampNeg = 66 := by decide
theorem tc67 : (67 : Int32).toNatClampNeg = 67 := by decide
theorem tc68 : (68 : Int32).toNatClampNeg = 68 := by decide
theorem tc69 : (69 : Int32).toNatClampNeg = 69 := by decide
theorem tc77 : (77 : Int32).toNatClampNeg = 77 := by decide
theorem tc83 : (83 : Int32).toNatClampNeg = 83 := by decide
theorem tc119 : (119 : Int32).toNatClampNeg = 119 := by decide
theorem tc159 : (159 : Int32).toNatClampNeg = 159 := by decide
theorem tc160 : (160 : Int32).toNatClampNeg = 160 := by decide
theorem jinb_nI {n N : Nat} (h : n < N) (hN : N < 2 ^ 31) : jinb (nI n) N = true := by
  simp only [jinb, Bool.and_eq_true, decide_eq_true_eq]
  exact ⟨nI_pos (by omega), by rw [nI_clamp (by omega)]; exact h⟩
/-- the reference's rows: field, place behind the object, kind, size -/
def mArr : List (Nat × Nat × Nat × Nat) := [(0, 1, 3, 400), (3, 2, 1, 2400), (4, 3, 1, 7), (5, 4, 1, 288), (6, 5, 1, 6), (7, 6, 1, 119), (15, 7, 1, 400), (17, 8, 4, 64), (19, 9, 4, 12), (20, 10, 1, 160), (26, 11, 1, 6), (27, 12, 1, 1100), (29, 13, 1, 55), (30, 14, 1, 7), (31, 15, 1, 6), (33, 16, 1, 4), (34, 17, 1, 72), (35, 18, 1, 2562), (36, 19, 2, 7), (37, 20, 1, 42), (39, 21, 1, 640), (40, 22, 1, 4), (41, 23, 1, 4), (42, 24, 2, 4)]
def mInv (h : jH) (m : Nat) : Prop := jK h m = (32, 43) ∧ ∀ q ∈ mArr, jR h m q.1 = some (m + q.2.1) ∧ jK h (m + q.2.1) = (q.2.2.1, q.2.2.2)
theorem mInv_wr {h : jH} {m a : Nat} {f : Nat → Int32} : mInv (jwr h a f) m = mInv h m := rfl
theorem mInv.at {h : jH} {m : Nat} (H : mInv h m) (i : Nat) {f o kd n : Nat} (hi : mArr[i]? = some (f, o, kd, n)) : jR h m f = some (m + o) ∧ jK h (m + o) = (kd, n) := H.2 _ (List.mem_of_getElem? hi)
section
variable {h : jH} {m : Nat} {d : Nat} {Q : Option Value → jH → Prop}
/-- in -/
theorem c159 {v lo hi : Int64} : jC (d + 1) 159 [.long v, .long lo, .long hi] h Q ↔ Q (some (.int (if v < lo then 0 else if hi < v then 0 else 1))) h := by
  rw [e159]
  simp (config := { decide := true }) (disch := (first | assumption | omega | (simp (config := { decide := true }) only [lg_cmp_lt, lg_cmp_gt, jK_wI, jK_wJ, jK_wR, jK_wr, jR_wr, jR_wI, jR_wJ]; done) | (simp only [lg_cmp_lt, lg_cmp_gt, jK_wI, jK_wJ, jK_wR, jK_wr, jR_wr, jR_wI, jR_wJ]; refine jinb_nI ?_ ?_ <;> omega) | (refine jinb_nI ?_ ?_ <;> omega))) only [s159_0, s159_1, s159_2, s159_3, s159_6, s159_7, s159_9, s159_10, s159_13, s159_14, s159_17, s159_18, va_rf_some, va_rf_none, jK_wI, jR_wI, jJ_wI, jK_wJ, jR_wJ, jI_wJ, jK_wR, jI_wR, jJ_wR, jK_wr, jR_wr, jJ_wr, jcl1_i, jcl1_r, jcl1_z, jcl1_n, jcl1_l, jwI_row, jwr_jwr, jwr_cm, jwr_cc, upd_upd, jI_wr_s, jI_wr_a, jI_wr_b, jI_wr_c, mInv_wr, upd_s, upd_n, Option.toList, List.cons_append, List.nil_append, true_or, or_true, eq_self, and_self, ite_true, ite_false, if_true, if_false, jinb_nI, nI_clamp, tc0, tc1, tc2, tc3, tc4, tc5, tc6, tc7, tc8, tc9, tc10, tc11, tc12, tc13, tc14, tc15, tc16, tc17, tc18, tc19, tc20, tc21, tc22, tc23, tc24, tc25, tc26, tc27, tc28, tc29, tc30, tc31, tc32, tc33, tc34, tc35, tc36, tc37, tc38, tc39, tc40, tc41, tc42, tc43, tc44, tc45, tc46, tc47, tc48, tc49, tc50, tc51, tc52, tc53, tc54, tc55, tc56, tc57, tc58, tc59, tc60, tc61, tc62, tc63, tc64, tc65, tc66, tc67, tc68, tc69, tc77, tc83, tc119, tc159, tc160, nI_add, al0, ar0, ml0, mr0, al1, ar1, ml1, mr1, al2, ar2, ml2, mr2, al3, ar3, ml3, mr3, al4, ar4, ml4, mr4, al5, ar5, ml5, mr5, al6, ar6, ml6, mr6, al8, ar8, ml8, mr8, al10, ar10, ml10, mr10, al11, ar11, ml11, mr11, al12, ar12, ml12, mr12, al13, ar13, ml13, mr13, al16, ar16, ml16, mr16, al20, ar20, ml20, mr20, al24, ar24, ml24, mr24, al29, ar29, ml29, mr29, al36, ar36, ml36, mr36, al42, ar42, ml42, mr42, al48, ar48, ml48, mr48, al55, ar55, ml55, mr55, al60, ar60, ml60, mr60, al65, ar65, ml65, mr65, al77, ar77, ml77, mr77, al83, ar83, ml83, mr83, al119, ar119, ml119, mr119, al159, ar159, ml159, mr159, al160, ar160, ml160, mr160, al400, ar400, ml400, mr400, lg_cmp_lt, lg_cmp_gt]
  by_cases h1 : v < lo <;> by_cases h2 : hi < v <;> simp [h1, h2]
/-- isOf -/
theorem c201 {x k : Int32} : jC (d + 1) 201 [.int x, .int k] h Q ↔ Q (some (.int (if x >>> (k &&& 31) &&& 1 = 1 then 1 else 0))) h := by
  rw [e201]
  simp (config := { decide := true }) (disch := (first | assumption | omega | (simp (config := { decide := true }) only [true_and, jK_wI, jK_wJ, jK_wR, jK_wr, jR_wr, jR_wI, jR_wJ]; done) | (simp only [true_and, jK_wI, jK_wJ, jK_wR, jK_wr, jR_wr, jR_wI, jR_wJ]; refine jinb_nI ?_ ?_ <;> omega) | (refine jinb_nI ?_ ?_ <;> omega))) only [s201_0, s201_1, s201_2, s201_3, s201_4, s201_5, s201_6, s201_9, s201_10, s201_13, s201_14, va_rf_some, va_rf_none, jK_wI, jR_wI, jJ_wI, jK_wJ, jR_wJ, jI_wJ, jK_wR, jI_wR, jJ_wR, jK_wr, jR_wr, jJ_wr, jcl1_i, jcl1_r, jcl1_z, jcl1_n, jcl1_l, jwI_row, jwr_jwr, jwr_cm, jwr_cc, upd_upd, jI_wr_s, jI_wr_a, jI_wr_b, jI_wr_c, mInv_wr, upd_s, upd_n, Option.toList, List.cons_append, List.nil_append, true_or, or_true, eq_self, and_self, ite_true, ite_false, if_true, if_false, jinb_nI, nI_clamp, tc0, tc1, tc2, tc3, tc4, tc5, tc6, tc7, tc8, tc9, tc10, tc11, tc12, tc13, tc14, tc15, tc16, tc17, tc18, tc19, tc20, tc21, tc22, tc23, tc24, tc25, tc26, tc27, tc28, tc29, tc30, tc31, tc32, tc33, tc34, tc35, tc36, tc37, tc38, tc39, tc40, tc41, tc42, tc43, tc44, tc45, tc46, tc47, tc48, tc49, tc50, tc51, tc52, tc53, tc54, tc55, tc56, tc57, tc58, tc59, tc60, tc61, tc62, tc63, tc64, tc65, tc66, tc67, tc68, tc69, tc77, tc83, tc119, tc159, tc160, nI_add, al0, ar0, ml0, mr0, al1, ar1, ml1, mr1, al2, ar2, ml2, mr2, al3, ar3, ml3, mr3, al4, ar4, ml4, mr4, al5, ar5, ml5, mr5, al6, ar6, ml6, mr6, al8, ar8, ml8, mr8, al10, ar10, ml10, mr10, al11, ar11, ml11, mr11, al12, ar12, ml12, mr12, al13, ar13, ml13, mr13, al16, ar16, ml16, mr16, al20, ar20, ml20, mr20, al24, ar24, ml24, mr24, al29, ar29, ml29, mr29, al36, ar36, ml36, mr36, al42, ar42, ml42, mr42, al48, ar48, ml48, mr48, al55, ar55, ml55, mr55, al60, ar60, ml60, mr60, al65, ar65, ml65, mr65, al77, ar77, ml77, mr77, al83, ar83, ml83, mr83, al119, ar119, ml119, mr119, al159, ar159, ml159, mr159, al160, ar160, ml160, mr160, al400, ar400, ml400, mr400, true_and]
  by_cases h1 : x >>> (k &&& 31) &&& 1 = 1 <;> simp [h1]
/-- isCamp -/
theorem c197 (H : mInv h m) : jC (d + 1) 197 [.ref m] h Q ↔ Q (some (.int (if jI h (m + 10) 0 = 1 then 1 else 0))) h := by
  rw [e197]
  have hm : jK h m = (32, 43) := H.1
  obtain ⟨r0, k0⟩ := H.at 9 rfl
  simp (config := { decide := true }) (disch := (first | assumption | omega | (simp (config := { decide := true }) only [hm, r0, k0, jK_wI, jK_wJ, jK_wR, jK_wr, jR_wr, jR_wI, jR_wJ]; done) | (simp only [hm, r0, k0, jK_wI, jK_wJ, jK_wR, jK_wr, jR_wr, jR_wI, jR_wJ]; refine jinb_nI ?_ ?_ <;> omega) | (refine jinb_nI ?_ ?_ <;> omega))) only [s197_0, s197_1, s197_4, s197_5, s197_6, s197_7, s197_10, s197_11, s197_14, s197_15, va_rf_some, va_rf_none, jK_wI, jR_wI, jJ_wI, jK_wJ, jR_wJ, jI_wJ, jK_wR, jI_wR, jJ_wR, jK_wr, jR_wr, jJ_wr, jcl1_i, jcl1_r, jcl1_z, jcl1_n, jcl1_l, jwI_row, jwr_jwr, jwr_cm, jwr_cc, upd_upd, jI_wr_s, jI_wr_a, jI_wr_b, jI_wr_c, mInv_wr, upd_s, upd_n, Option.toList, List.cons_append, List.nil_append, true_or, or_true, eq_self, and_self, ite_true, ite_false, if_true, if_false, jinb_nI, nI_clamp, tc0, tc1, tc2, tc3, tc4, tc5, tc6, tc7, tc8, tc9, tc10, tc11, tc12, tc13, tc14, tc15, tc16, tc17, tc18, tc19, tc20, tc21, tc22, tc23, tc24, tc25, tc26, tc27, tc28, tc29, tc30, tc31, tc32, tc33, tc34, tc35, tc36, tc37, tc38, tc39, tc40, tc41, tc42, tc43, tc44, tc45, tc46, tc47, tc48, tc49, tc50, tc51, tc52, tc53, tc54, tc55, tc56, tc57, tc58, tc59, tc60, tc61, tc62, tc63, tc64, tc65, tc66, tc67, tc68, tc69, tc77, tc83, tc119, tc159, tc160, nI_add, al0, ar0, ml0, mr0, al1, ar1, ml1, mr1, al2, ar2, ml2, mr2, al3, ar3, ml3, mr3, al4, ar4, ml4, mr4, al5, ar5, ml5, mr5, al6, ar6, ml6, mr6, al8, ar8, ml8, mr8, al10, ar10, ml10, mr10, al11, ar11, ml11, mr11, al12, ar12, ml12, mr12, al13, ar13, ml13, mr13, al16, ar16, ml16, mr16, al20, ar20, ml20, mr20, al24, ar24, ml24, mr24, al29, ar29, ml29, mr29, al36, ar36, ml36, mr36, al42, ar42, ml42, mr42, al48, ar48, ml48, mr48, al55, ar55, ml55, mr55, al60, ar60, ml60, mr60, al65, ar65, ml65, mr65, al77, ar77, ml77, mr77, al83, ar83, ml83, mr83, al119, ar119, ml119, mr119, al159, ar159, ml159, mr159, al160, ar160, ml160, mr160, al400, ar400, ml400, mr400, hm, r0, k0]
  by_cases h1 : jI h (m + 10) 0 = 1 <;> simp [h1]
/-- skillOf -/
theorem c190 (H : mInv h m) {s k : Nat} (hs : s < 6) (hk : k < 6) : jC (d + 1) 190 [.ref m, .int (nI s), .int (nI k)] h Q ↔ Q (some (.int (jI h (m + 10) (29 + 6 * s + k)))) h := by
  rw [e190]
  have hm : jK h m = (32, 43) := H.1
  obtain ⟨r0, k0⟩ := H.at 9 rfl
  simp (config := { decide := true }) (disch := (first | assumption | omega | (simp (config := { decide := true }) only [hm, r0, k0, jK_wI, jK_wJ, jK_wR, jK_wr, jR_wr, jR_wI, jR_wJ]; done) | (simp only [hm, r0, k0, jK_wI, jK_wJ, jK_wR, jK_wr, jR_wr, jR_wI, jR_wJ]; refine jinb_nI ?_ ?_ <;> omega) | (refine jinb_nI ?_ ?_ <;> omega))) only [s190_0, s190_1, s190_4, s190_6, s190_8, s190_9, s190_10, s190_11, s190_12, s190_13, s190_14, va_rf_some, va_rf_none, jK_wI, jR_wI, jJ_wI, jK_wJ, jR_wJ, jI_wJ, jK_wR, jI_wR, jJ_wR, jK_wr, jR_wr, jJ_wr, jcl1_i, jcl1_r, jcl1_z, jcl1_n, jcl1_l, jwI_row, jwr_jwr, jwr_cm, jwr_cc, upd_upd, jI_wr_s, jI_wr_a, jI_wr_b, jI_wr_c, mInv_wr, upd_s, upd_n, Option.toList, List.cons_append, List.nil_append, true_or, or_true, eq_self, and_self, ite_true, ite_false, if_true, if_false, jinb_nI, nI_clamp, tc0, tc1, tc2, tc3, tc4, tc5, tc6, tc7, tc8, tc9, tc10, tc11, tc12, tc13, tc14, tc15, tc16, tc17, tc18, tc19, tc20, tc21, tc22, tc23, tc24, tc25, tc26, tc27, tc28, tc29, tc30, tc31, tc32, tc33, tc34, tc35, tc36, tc37, tc38, tc39, tc40, tc41, tc42, tc43, tc44, tc45, tc46, tc47, tc48, tc49, tc50, tc51, tc52, tc53, tc54, tc55, tc56, tc57, tc58, tc59, tc60, tc61, tc62, tc63, tc64, tc65, tc66, tc67, tc68, tc69, tc77, tc83, tc119, tc159, tc160, nI_add, al0, ar0, ml0, mr0, al1, ar1, ml1, mr1, al2, ar2, ml2, mr2, al3, ar3, ml3, mr3, al4, ar4, ml4, mr4, al5, ar5, ml5, mr5, al6, ar6, ml6, mr6, al8, ar8, ml8, mr8, al10, ar10, ml10, mr10, al11, ar11, ml11, mr11, al12, ar12, ml12, mr12, al13, ar13, ml13, mr13, al16, ar16, ml16, mr16, al20, ar20, ml20, mr20, al24, ar24, ml24, mr24, al29, ar29, ml29, mr29, al36, ar36, ml36, mr36, al42, ar42, ml42, mr42, al48, ar48, ml48, mr48, al55, ar55, ml55, mr55, al60, ar60, ml60, mr60, al65, ar65, ml65, mr65, al77, ar77, ml77, mr77, al83, ar83, ml83, mr83, al119, ar119, ml119, mr119, al159, ar159, ml159, mr159, al160, ar160, ml160, mr160, al400, ar400, ml400, mr400, hm, r0, k0]
/-- badgesOf -/
theorem c191 (H : mInv h m) {s : Nat} (hs : s < 6) : jC (d + 1) 191 [.ref m, .int (nI s)] h Q ↔ Q (some (.int (jI h (m + 10) (11 + 3 * s)))) h := by
  rw [e191]
  have hm : jK h m = (32, 43) := H.1
  obtain ⟨r0, k0⟩ := H.at 9 rfl
  simp (config := { decide := true }) (disch := (first | assumption | omega | (simp (config := { decide := true }) only [hm, r0, k0, jK_wI, jK_wJ, jK_wR, jK_wr, jR_wr, jR_wI, jR_wJ]; done) | (simp only [hm, r0, k0, jK_wI, jK_wJ, jK_wR, jK_wr, jR_wr, jR_wI, jR_wJ]; refine jinb_nI ?_ ?_ <;> omega) | (refine jinb_nI ?_ ?_ <;> omega))) only [s191_0, s191_1, s191_4, s191_6, s191_7, s191_8, s191_9, s191_10, s191_11, va_rf_some, va_rf_none, jK_wI, jR_wI, jJ_wI, jK_wJ, jR_wJ, jI_wJ, jK_wR, jI_wR, jJ_wR, jK_wr, jR_wr, jJ_wr, jcl1_i, jcl1_r, jcl1_z, jcl1_n, jcl1_l, jwI_row, jwr_jwr, jwr_cm, jwr_cc, upd_upd, jI_wr_s, jI_wr_a, jI_wr_b, jI_wr_c, mInv_wr, upd_s, upd_n, Option.toList, List.cons_append, List.nil_append, true_or, or_true, eq_self, and_self, ite_true, ite_false, if_true, if_false, jinb_nI, nI_clamp, tc0, tc1, tc2, tc3, tc4, tc5, tc6, tc7, tc8, tc9, tc10, tc11, tc12, tc13, tc14, tc15, tc16, tc17, tc18, tc19, tc20, tc21, tc22, tc23, tc24, tc25, tc26, tc27, tc28, tc29, tc30, tc31, tc32, tc33, tc34, tc35, tc36, tc37, tc38, tc39, tc40, tc41, tc42, tc43, tc44, tc45, tc46, tc47, tc48, tc49, tc50, tc51, tc52, tc53, tc54, tc55, tc56, tc57, tc58, tc59, tc60, tc61, tc62, tc63, tc64, tc65, tc66, tc67, tc68, tc69, tc77, tc83, tc119, tc159, tc160, nI_add, al0, ar0, ml0, mr0, al1, ar1, ml1, mr1, al2, ar2, ml2, mr2, al3, ar3, ml3, mr3, al4, ar4, ml4, mr4, al5, ar5, ml5, mr5, al6, ar6, ml6, mr6, al8, ar8, ml8, mr8, al10, ar10, ml10, mr10, al11, ar11, ml11, mr11, al12, ar12, ml12, mr12, al13, ar13, ml13, mr13, al16, ar16, ml16, mr16, al20, ar20, ml20, mr20, al24, ar24, ml24, mr24, al29, ar29, ml29, mr29, al36, ar36, ml36, mr36, al42, ar42, ml42, mr42, al48, ar48, ml48, mr48, al55, ar55, ml55, mr55, al60, ar60, ml60, mr60, al65, ar65, ml65, mr65, al77, ar77, ml77, mr77, al83, ar83, ml83, mr83, al119, ar119, ml119, mr119, al159, ar159, ml159, mr159, al160, ar160, ml160, mr160, al400, ar400, ml400, mr400, hm, r0, k0]
/-- passedBy -/
theorem c204 (H : mInv h m) {s : Nat} (hs : s < 6) : jC (d + 1) 204 [.ref m, .int (nI s)] h Q ↔ Q (some (.int (jI h (m + 10) (11 + 3 * s + 1)))) h := by
  rw [e204]
  have hm : jK h m = (32, 43) := H.1
  obtain ⟨r0, k0⟩ := H.at 9 rfl
  simp (config := { decide := true }) (disch := (first | assumption | omega | (simp (config := { decide := true }) only [hm, r0, k0, jK_wI, jK_wJ, jK_wR, jK_wr, jR_wr, jR_wI, jR_wJ]; done) | (simp only [hm, r0, k0, jK_wI, jK_wJ, jK_wR, jK_wr, jR_wr, jR_wI, jR_wJ]; refine jinb_nI ?_ ?_ <;> omega) | (refine jinb_nI ?_ ?_ <;> omega))) only [s204_0, s204_1, s204_4, s204_6, s204_7, s204_8, s204_9, s204_10, s204_11, s204_12, s204_13, va_rf_some, va_rf_none, jK_wI, jR_wI, jJ_wI, jK_wJ, jR_wJ, jI_wJ, jK_wR, jI_wR, jJ_wR, jK_wr, jR_wr, jJ_wr, jcl1_i, jcl1_r, jcl1_z, jcl1_n, jcl1_l, jwI_row, jwr_jwr, jwr_cm, jwr_cc, upd_upd, jI_wr_s, jI_wr_a, jI_wr_b, jI_wr_c, mInv_wr, upd_s, upd_n, Option.toList, List.cons_append, List.nil_append, true_or, or_true, eq_self, and_self, ite_true, ite_false, if_true, if_false, jinb_nI, nI_clamp, tc0, tc1, tc2, tc3, tc4, tc5, tc6, tc7, tc8, tc9, tc10, tc11, tc12, tc13, tc14, tc15, tc16, tc17, tc18, tc19, tc20, tc21, tc22, tc23, tc24, tc25, tc26, tc27, tc28, tc29, tc30, tc31, tc32, tc33, tc34, tc35, tc36, tc37, tc38, tc39, tc40, tc41, tc42, tc43, tc44, tc45, tc46, tc47, tc48, tc49, tc50, tc51, tc52, tc53, tc54, tc55, tc56, tc57, tc58, tc59, tc60, tc61, tc62, tc63, tc64, tc65, tc66, tc67, tc68, tc69, tc77, tc83, tc119, tc159, tc160, nI_add, al0, ar0, ml0, mr0, al1, ar1, ml1, mr1, al2, ar2, ml2, mr2, al3, ar3, ml3, mr3, al4, ar4, ml4, mr4, al5, ar5, ml5, mr5, al6, ar6, ml6, mr6, al8, ar8, ml8, mr8, al10, ar10, ml10, mr10, al11, ar11, ml11, mr11, al12, ar12, ml12, mr12, al13, ar13, ml13, mr13, al16, ar16, ml16, mr16, al20, ar20, ml20, mr20, al24, ar24, ml24, mr24, al29, ar29, ml29, mr29, al36, ar36, ml36, mr36, al42, ar42, ml42, mr42, al48, ar48, ml48, mr48, al55, ar55, ml55, mr55, al60, ar60, ml60, mr60, al65, ar65, ml65, mr65, al77, ar77, ml77, mr77, al83, ar83, ml83, mr83, al119, ar119, ml119, mr119, al159, ar159, ml159, mr159, al160, ar160, ml160, mr160, al400, ar400, ml400, mr400, hm, r0, k0]
end
