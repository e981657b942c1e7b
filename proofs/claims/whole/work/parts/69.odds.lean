/-! luck, mean -/
section ODDS
variable {mi : Nat → Nat → Int32} {ml : Nat → Nat → Int64} {m : kMem} {Q : Option Value → kMem → Prop} {S : gS} {T U : tT} {a b p n k v i A B : Nat}
theorem kNLn2 : (kNL none = true) = True := kNLn
theorem J_power (hn : n < 100) : kJ 99 0 [some (.long (lI b)), none, some (.int (nI n)), none, none, none] [] m Q = Q (some (.long (lI (b ^ n)))) m := by
  simp only [↓s99_0, ↓s99_1, ↓s99_2, ↓s99_3, ↓s99_7, ↓s99_8, ↓s99_11, ↓s99_12, ↓s99_13, ↓s99_14, ↓s99_15, ↓s99_18, ↓s99_21, ↓s99_22, kNLn, kNLi, kNLr, va_rf_s, kOl_n, kOl_s, kap_n, kap_c, kb0, kb1, kbif]
  have loop : ∀ (k i : Nat), i + k = n → kJ 99 5 [some (.long (lI b)), none, some (.int (nI n)), some (.long (lI (b ^ i))), none, some (.int (nI i))] [] m Q = Q (some (.long (lI (b ^ n)))) m := by
    intro k
    induction k with
    | zero =>
      intro i hk
      have e : i = n := by omega
      subst e
      rw [s99_5]
      simp only [↓s99_0, ↓s99_1, ↓s99_2, ↓s99_3, ↓s99_7, ↓s99_8, ↓s99_11, ↓s99_12, ↓s99_13, ↓s99_14, ↓s99_15, ↓s99_18, ↓s99_21, ↓s99_22, kNLn, kNLi, kNLr, va_rf_s, kOl_n, kOl_s, kap_n, kap_c, kb0, kb1, kbif, zif, z0, z1, Bool.false_eq_true, eq_self, not_true_eq_false, not_false_eq_true, if_true, if_false, and_self, true_and, false_and, and_true, and_false, Int32.le_refl]
    | succ k ih =>
      intro i hk
      have hlt : ¬ nI n ≤ nI i := nI_ge (by omega) (by omega)
      rw [s99_5]
      simp only [↓s99_0, ↓s99_1, ↓s99_2, ↓s99_3, ↓s99_7, ↓s99_8, ↓s99_11, ↓s99_12, ↓s99_13, ↓s99_14, ↓s99_15, ↓s99_18, ↓s99_21, ↓s99_22, kNLn, kNLi, kNLr, va_rf_s, kOl_n, kOl_s, kap_n, kap_c, kb0, kb1, kbif, zif, z0, z1, Bool.false_eq_true, eq_self, not_true_eq_false, not_false_eq_true, if_true, if_false, and_self, true_and, false_and, and_true, and_false, hlt, lI_mul, nI_add, ← Nat.pow_succ]
      exact ih (i + 1) (by omega)
  exact loop n 0 (by omega)
theorem J_weight (hv : v < 11) (hn : n < 9) (hp : p ≤ n) : kJ 100 0 [some (.int (nI v)), some (.int (nI n)), some (.int (nI p)), none, none, none] [] m Q = Q (some (.long (lI (wgt v n p)))) m := by
  have es : nI n - nI p = nI (n - p) := pk_sub hp
  have e10 : nI 10 - nI v = nI (10 - v) := pk_sub (by omega)
  have l1 : (nI v).toInt64 = lI v := lI_of (by omega)
  have l2 : (nI (10 - v)).toInt64 = lI (10 - v) := lI_of (by omega)
  simp only [↓s100_0, ↓s100_1, ↓s100_2, ↓s100_3, ↓s100_7, ↓s100_8, ↓s100_11, ↓s100_12, ↓s100_13, ↓s100_14, ↓s100_15, ↓s100_17, ↓s100_18, ↓s100_19, ↓s100_20, ↓s100_22, ↓s100_23, ↓s100_24, ↓s100_25, ↓s100_28, ↓s100_31, ↓s100_32, ↓s100_34, ↓s100_35, ↓s100_36, ↓s100_37, ↓s100_38, ↓s100_41, ↓s100_42, ↓s100_43, ↓s100_44, ↓s100_45, ↓s100_46, ↓s100_47, ↓s100_50, ↓s100_51, kNLn, kNLi, kNLr, va_rf_s, kOl_n, kOl_s, kap_n, kap_c, kb0, kb1, kbif]
  have loop : ∀ (k j : Nat), j + k = p → kJ 100 5 [some (.int (nI v)), some (.int (nI n)), some (.int (nI p)), some (.long (lI (wy (n - p) j))), none, some (.int (nI (j + 1)))] [] m Q = Q (some (.long (lI (wgt v n p)))) m := by
    intro k
    induction k with
    | zero =>
      intro j hk
      have e : j = p := by omega
      subst e
      have hlt : nI j < nI (j + 1) := nI_lt (by omega) (by omega)
      rw [s100_5]
      simp only [↓s100_0, ↓s100_1, ↓s100_2, ↓s100_3, ↓s100_7, ↓s100_8, ↓s100_11, ↓s100_12, ↓s100_13, ↓s100_14, ↓s100_15, ↓s100_17, ↓s100_18, ↓s100_19, ↓s100_20, ↓s100_22, ↓s100_23, ↓s100_24, ↓s100_25, ↓s100_28, ↓s100_31, ↓s100_32, ↓s100_34, ↓s100_35, ↓s100_36, ↓s100_37, ↓s100_38, ↓s100_41, ↓s100_42, ↓s100_43, ↓s100_44, ↓s100_45, ↓s100_46, ↓s100_47, ↓s100_50, ↓s100_51, ↓J_power (by omega : j < 100), ↓J_power (by omega : n - j < 100), kNLn, kNLi, kNLr, va_rf_s, kOl_n, kOl_s, kap_n, kap_c, kb0, kb1, kbif, zif, z0, z1, Bool.false_eq_true, eq_self, not_true_eq_false, not_false_eq_true, if_true, if_false, and_self, true_and, false_and, and_true, and_false, hlt, es, e10, l1, l2, lI_mul]
      rfl
    | succ k ih =>
      intro j hk
      have hlt : ¬ nI p < nI (j + 1) := nI_nlt (by omega) (by omega)
      have l3 : (nI (n - p + (j + 1))).toInt64 = lI (n - p + (j + 1)) := lI_of (by omega)
      have l4 : (nI (j + 1)).toInt64 = lI (j + 1) := lI_of (by omega)
      have nz : ¬ lI (j + 1) = 0 := lI_nz (by omega) (by omega)
      have wl := wy_lt (n - p) (by omega) j (by omega)
      have wl2 : wy (n - p) j * (n - p + (j + 1)) < 2 ^ 40 * 20 := Nat.mul_lt_mul_of_lt_of_le wl (by omega) (by omega)
      have ed : lI (wy (n - p) j * (n - p + (j + 1))) / lI (j + 1) = lI (wy (n - p) (j + 1)) := lI_div (by omega) (by omega) (by omega)
      rw [s100_5]
      simp only [↓s100_0, ↓s100_1, ↓s100_2, ↓s100_3, ↓s100_7, ↓s100_8, ↓s100_11, ↓s100_12, ↓s100_13, ↓s100_14, ↓s100_15, ↓s100_17, ↓s100_18, ↓s100_19, ↓s100_20, ↓s100_22, ↓s100_23, ↓s100_24, ↓s100_25, ↓s100_28, ↓s100_31, ↓s100_32, ↓s100_34, ↓s100_35, ↓s100_36, ↓s100_37, ↓s100_38, ↓s100_41, ↓s100_42, ↓s100_43, ↓s100_44, ↓s100_45, ↓s100_46, ↓s100_47, ↓s100_50, ↓s100_51, kNLn, kNLi, kNLr, va_rf_s, kOl_n, kOl_s, kap_n, kap_c, kb0, kb1, kbif, zif, z0, z1, Bool.false_eq_true, eq_self, not_true_eq_false, not_false_eq_true, if_true, if_false, and_self, true_and, false_and, and_true, and_false, hlt, es, nI_add, l3, l4, nz, lI_mul, ed]
      exact ih (j + 1) (by omega)
  exact loop p 0 (by omega)
theorem J_gcd (ha : a < 2 ^ 60) (hb : b < 2 ^ 60) : kJ 102 0 [some (.long (lI a)), none, some (.long (lI b)), none, none, none, none, none, none, none, none] [] m Q = Q (some (.long (lI (Nat.gcd a b)))) m := by
  simp only [↓s102_0, ↓s102_1, ↓s102_3, ↓s102_4, ↓s102_6, ↓s102_7, ↓s102_11, ↓s102_14, ↓s102_17, ↓s102_19, ↓s102_20, ↓s102_21, ↓s102_24, ↓s102_26, ↓s102_28, ↓s102_29, ↓s102_31, ↓s102_33, ↓s102_35, ↓s102_37, ↓s102_39, ↓s102_42, ↓s102_45, ↓s102_47, kNLn, kNLi, kNLr, va_rf_s, kOl_n, kOl_s, kap_n, kap_c, kb0, kb1, kbif]
  have done : ∀ (x s : Nat) (l9 l10 : Option Value), kJ 102 9 [some (.long (lI a)), none, some (.long (lI b)), none, some (.long (lI x)), none, some (.long (lI 0)), none, some (.int (nI s)), l9, l10] [] m Q = Q (some (.long (lI x))) m := by
    intro x s l9 l10
    have e0 : lI 0 = 0 := rfl
    rw [s102_9]
    by_cases c : nI 200 ≤ nI s
    · simp only [↓s102_0, ↓s102_1, ↓s102_3, ↓s102_4, ↓s102_6, ↓s102_7, ↓s102_11, ↓s102_14, ↓s102_17, ↓s102_19, ↓s102_20, ↓s102_21, ↓s102_24, ↓s102_26, ↓s102_28, ↓s102_29, ↓s102_31, ↓s102_33, ↓s102_35, ↓s102_37, ↓s102_39, ↓s102_42, ↓s102_45, ↓s102_47, kNLn, kNLi, kNLr, va_rf_s, kOl_n, kOl_s, kap_n, kap_c, kb0, kb1, kbif, zif, z0, z1, Bool.false_eq_true, eq_self, not_true_eq_false, not_false_eq_true, if_true, if_false, and_self, true_and, false_and, and_true, and_false, c]
    · simp only [↓s102_0, ↓s102_1, ↓s102_3, ↓s102_4, ↓s102_6, ↓s102_7, ↓s102_11, ↓s102_14, ↓s102_17, ↓s102_19, ↓s102_20, ↓s102_21, ↓s102_24, ↓s102_26, ↓s102_28, ↓s102_29, ↓s102_31, ↓s102_33, ↓s102_35, ↓s102_37, ↓s102_39, ↓s102_42, ↓s102_45, ↓s102_47, kNLn, kNLi, kNLr, va_rf_s, kOl_n, kOl_s, kap_n, kap_c, kb0, kb1, kbif, zif, z0, z1, Bool.false_eq_true, eq_self, not_true_eq_false, not_false_eq_true, if_true, if_false, and_self, true_and, false_and, and_true, and_false, c, lg_eq0, e0]
  have step : ∀ (x y s : Nat) (l9 l10 : Option Value), x < 2 ^ 60 → 0 < y → y < 2 ^ 60 → s < 200 → kJ 102 9 [some (.long (lI a)), none, some (.long (lI b)), none, some (.long (lI x)), none, some (.long (lI y)), none, some (.int (nI s)), l9, l10] [] m Q = kJ 102 9 [some (.long (lI a)), none, some (.long (lI b)), none, some (.long (lI y)), none, some (.long (lI (x % y))), none, some (.int (nI (s + 1))), some (.long (lI (x % y))), none] [] m Q := by
    intro x y s l9 l10 hx h0 hy hs
    have hlt : ¬ nI 200 ≤ nI s := nI_ge hs (by decide)
    have nz := lI_nz h0 (by omega : y < 2 ^ 63)
    have er := lI_rem (by omega : x < 2 ^ 63) h0 (by omega : y < 2 ^ 63)
    conv => lhs; rw [s102_9]
    simp only [↓s102_0, ↓s102_1, ↓s102_3, ↓s102_4, ↓s102_6, ↓s102_7, ↓s102_11, ↓s102_14, ↓s102_17, ↓s102_19, ↓s102_20, ↓s102_21, ↓s102_24, ↓s102_26, ↓s102_28, ↓s102_29, ↓s102_31, ↓s102_33, ↓s102_35, ↓s102_37, ↓s102_39, ↓s102_42, ↓s102_45, ↓s102_47, kNLn, kNLi, kNLr, va_rf_s, kOl_n, kOl_s, kap_n, kap_c, kb0, kb1, kbif, zif, z0, z1, Bool.false_eq_true, eq_self, not_true_eq_false, not_false_eq_true, if_true, if_false, and_self, true_and, false_and, and_true, and_false, hlt, lg_eq0, nz, er, nI_add]
  have loop : ∀ (k x y s : Nat) (l9 l10 : Option Value), x < 2 ^ 60 → y < 2 ^ 60 → y < 2 ^ k → s + 2 * k ≤ 200 → kJ 102 9 [some (.long (lI a)), none, some (.long (lI b)), none, some (.long (lI x)), none, some (.long (lI y)), none, some (.int (nI s)), l9, l10] [] m Q = Q (some (.long (lI (Nat.gcd x y)))) m := by
    intro k
    induction k with
    | zero =>
      intro x y s l9 l10 hx hy hk hs
      have e : y = 0 := by omega
      subst e
      rw [done, Nat.gcd_zero_right]
    | succ k ih =>
      intro x y s l9 l10 hx hy hk hs
      by_cases cy : y = 0
      · subst cy
        rw [done, Nat.gcd_zero_right]
      · have h1 : x % y < y := Nat.mod_lt _ (by omega)
        rw [step x y s l9 l10 hx (by omega) hy (by omega), Nat.gcd_comm, Nat.gcd_rec, Nat.gcd_comm]
        by_cases cr : x % y = 0
        · rw [cr, done, Nat.gcd_zero_right]
        · have h2 : y % (x % y) < x % y := Nat.mod_lt _ (by omega)
          have h3 : 2 * (y % (x % y)) < y := by
            have e := Nat.div_add_mod y (x % y)
            have hd : 1 ≤ y / (x % y) := (Nat.one_le_div_iff (by omega)).mpr (by omega)
            have : (x % y) * 1 ≤ (x % y) * (y / (x % y)) := Nat.mul_le_mul_left _ hd
            omega
          rw [step y (x % y) (s + 1) _ _ hy (by omega) (by omega) (by omega), Nat.gcd_comm, Nat.gcd_rec, Nat.gcd_comm]
          rw [Nat.pow_succ] at hk
          exact ih _ _ _ _ _ (by omega) (by omega) (by omega) (by omega)
  exact loop 60 a b 0 none none ha hb hb (by omega)
theorem R_gcd (ha : a < 2 ^ 60) (hb : b < 2 ^ 60) : kJ 175 0 [some (.long (lI a)), none, some (.long (lI b)), none, none, none, none, none, none, none] [] m Q = Q (some (.long (lI (Nat.gcd a b)))) m := by
  simp only [↓s175_0, ↓s175_1, ↓s175_3, ↓s175_4, ↓s175_8, ↓s175_9, ↓s175_10, ↓s175_13, ↓s175_15, ↓s175_17, ↓s175_18, ↓s175_20, ↓s175_22, ↓s175_24, ↓s175_26, ↓s175_28, ↓s175_31, ↓s175_33, kNLn, kNLi, kNLr, va_rf_s, kOl_n, kOl_s, kap_n, kap_c, kb0, kb1, kbif]
  have loop : ∀ (y x : Nat) (l8 l9 : Option Value), x < 2 ^ 60 → y < 2 ^ 60 → kJ 175 6 [some (.long (lI a)), none, some (.long (lI b)), none, some (.long (lI x)), none, some (.long (lI y)), none, l8, l9] [] m Q = Q (some (.long (lI (Nat.gcd x y)))) m := by
    intro y
    induction y using Nat.strongRecOn with
    | _ y ih =>
      intro x l8 l9 hx hy
      by_cases cy : y = 0
      · subst cy
        have e0 : lI 0 = 0 := rfl
        rw [s175_6]
        simp only [↓s175_0, ↓s175_1, ↓s175_3, ↓s175_4, ↓s175_8, ↓s175_9, ↓s175_10, ↓s175_13, ↓s175_15, ↓s175_17, ↓s175_18, ↓s175_20, ↓s175_22, ↓s175_24, ↓s175_26, ↓s175_28, ↓s175_31, ↓s175_33, kNLn, kNLi, kNLr, va_rf_s, kOl_n, kOl_s, kap_n, kap_c, kb0, kb1, kbif, zif, z0, z1, Bool.false_eq_true, eq_self, not_true_eq_false, not_false_eq_true, if_true, if_false, and_self, true_and, false_and, and_true, and_false, lg_eq0, e0, Nat.gcd_zero_right]
      · have h1 : x % y < y := Nat.mod_lt _ (by omega)
        have nz := lI_nz (by omega : 0 < y) (by omega : y < 2 ^ 63)
        have er := lI_rem (by omega : x < 2 ^ 63) (by omega : 0 < y) (by omega : y < 2 ^ 63)
        rw [s175_6]
        simp only [↓s175_0, ↓s175_1, ↓s175_3, ↓s175_4, ↓s175_8, ↓s175_9, ↓s175_10, ↓s175_13, ↓s175_15, ↓s175_17, ↓s175_18, ↓s175_20, ↓s175_22, ↓s175_24, ↓s175_26, ↓s175_28, ↓s175_31, ↓s175_33, kNLn, kNLi, kNLr, va_rf_s, kOl_n, kOl_s, kap_n, kap_c, kb0, kb1, kbif, zif, z0, z1, Bool.false_eq_true, eq_self, not_true_eq_false, not_false_eq_true, if_true, if_false, and_self, true_and, false_and, and_true, and_false, lg_eq0, nz, er]
        rw [ih (x % y) h1 y _ _ hy (by omega), Nat.gcd_comm y, ← Nat.gcd_rec, Nat.gcd_comm]
  exact loop b a none none ha hb
def glow (a b : Nat) (x : Int32) : Int64 := if x = 0 then lI (a / Nat.gcd a b) else lI (b / Nat.gcd a b)
theorem J_lowest {x : Int32} (ha : a < 2 ^ 60) (hb : b < 2 ^ 60) (h0 : 0 < b) : kJ 101 0 [some (.long (lI a)), none, some (.long (lI b)), none, some (.int x), none, none] [] m Q = Q (some (.long (glow a b x))) m := by
  have g0 : 0 < Nat.gcd a b := Nat.gcd_pos_of_pos_right a h0
  have gl : Nat.gcd a b ≤ b := Nat.gcd_le_right a h0
  have nz := lI_nz g0 (by omega)
  have hgt : (0 : Int64) < lI (Nat.gcd a b) := by
    rw [Int64.lt_iff_toInt_lt, Int64.toInt_zero, lI_toInt (by omega)]; omega
  have e1 := lI_div (by omega : a < 2 ^ 63) g0 (by omega)
  have e2 := lI_div (by omega : b < 2 ^ 63) g0 (by omega)
  by_cases c : x = 0
  · simp only [↓s101_0, ↓s101_1, ↓s101_2, ↓s101_5, ↓s101_7, ↓s101_9, ↓s101_10, ↓s101_11, ↓s101_14, ↓s101_16, ↓s101_19, ↓s101_20, ↓s101_23, ↓s101_24, ↓s101_25, ↓s101_27, ↓s101_30, ↓s101_31, ↓s101_33, ↓s101_34, ↓s101_37, ↓s101_38, ↓s101_40, ↓s101_41, ↓J_gcd ha hb, kNLn, kNLi, kNLr, va_rf_s, kOl_n, kOl_s, kap_n, kap_c, kb0, kb1, kbif, zif, z0, z1, Bool.false_eq_true, eq_self, not_true_eq_false, not_false_eq_true, if_true, if_false, and_self, true_and, false_and, and_true, and_false, lg_gt0, hgt, nz, c, e1, e2, glow]
  · simp only [↓s101_0, ↓s101_1, ↓s101_2, ↓s101_5, ↓s101_7, ↓s101_9, ↓s101_10, ↓s101_11, ↓s101_14, ↓s101_16, ↓s101_19, ↓s101_20, ↓s101_23, ↓s101_24, ↓s101_25, ↓s101_27, ↓s101_30, ↓s101_31, ↓s101_33, ↓s101_34, ↓s101_37, ↓s101_38, ↓s101_40, ↓s101_41, ↓J_gcd ha hb, kNLn, kNLi, kNLr, va_rf_s, kOl_n, kOl_s, kap_n, kap_c, kb0, kb1, kbif, zif, z0, z1, Bool.false_eq_true, eq_self, not_true_eq_false, not_false_eq_true, if_true, if_false, and_self, true_and, false_and, and_true, and_false, lg_gt0, hgt, nz, c, e1, e2, glow]
theorem R_lowest {x : Int32} (ha : a < 2 ^ 60) (hb : b < 2 ^ 60) (h0 : 0 < b) : kJ 176 0 [some (.long (lI a)), none, some (.long (lI b)), none, some (.int x), none, none] [] m Q = Q (some (.long (glow a b x))) m := by
  have g0 : 0 < Nat.gcd a b := Nat.gcd_pos_of_pos_right a h0
  have gl : Nat.gcd a b ≤ b := Nat.gcd_le_right a h0
  have nz := lI_nz g0 (by omega)
  have ec : Nat.gcd b a = Nat.gcd a b := Nat.gcd_comm b a
  have e1 := lI_div (by omega : a < 2 ^ 63) g0 (by omega)
  have e2 := lI_div (by omega : b < 2 ^ 63) g0 (by omega)
  by_cases c : x = 0
  · simp only [↓s176_0, ↓s176_1, ↓s176_2, ↓s176_5, ↓s176_7, ↓s176_9, ↓s176_12, ↓s176_13, ↓s176_15, ↓s176_16, ↓s176_19, ↓s176_20, ↓s176_22, ↓s176_23, ↓R_gcd hb ha, kNLn, kNLi, kNLr, va_rf_s, kOl_n, kOl_s, kap_n, kap_c, kb0, kb1, kbif, zif, z0, z1, Bool.false_eq_true, eq_self, not_true_eq_false, not_false_eq_true, if_true, if_false, and_self, true_and, false_and, and_true, and_false, ec, nz, c, e1, e2, glow]
  · simp only [↓s176_0, ↓s176_1, ↓s176_2, ↓s176_5, ↓s176_7, ↓s176_9, ↓s176_12, ↓s176_13, ↓s176_15, ↓s176_16, ↓s176_19, ↓s176_20, ↓s176_22, ↓s176_23, ↓R_gcd hb ha, kNLn, kNLi, kNLr, va_rf_s, kOl_n, kOl_s, kap_n, kap_c, kb0, kb1, kbif, zif, z0, z1, Bool.false_eq_true, eq_self, not_true_eq_false, not_false_eq_true, if_true, if_false, and_self, true_and, false_and, and_true, and_false, ec, nz, c, e1, e2, glow]
theorem J_isOdds {x y z : Int32} : kJ 92 0 [some (.int x), some (.int y), some (.int z)] [] m Q = Q (some (.int (if gin x 11 = true ∧ gin y 9 = true ∧ gin z 2 = true then nI 1 else nI 0))) m := by
  by_cases c1 : gin x 11 = true
  · by_cases c2 : gin y 9 = true
    · by_cases c3 : gin z 2 = true
      · simp only [↓s92_0, ↓s92_1, ↓s92_2, ↓s92_4, ↓s92_7, ↓s92_10, ↓s92_11, ↓s92_12, ↓s92_14, ↓s92_17, ↓s92_20, ↓s92_21, ↓s92_22, ↓s92_23, ↓s92_26, ↓s92_29, ↓s92_30, ↓s92_33, ↓s92_34, ↓kb0, ↓kb1, ↓J_w10, ↓J_w8, ↓J_w1, kNLn, kNLi, kNLr, va_rf_s, kOl_n, kOl_s, kap_n, kap_c, kb0, kb1, kbif, zif, z0, z1, Bool.false_eq_true, eq_self, not_true_eq_false, not_false_eq_true, if_true, if_false, and_self, true_and, false_and, and_true, and_false, c1, c2, c3]
      · simp only [↓s92_0, ↓s92_1, ↓s92_2, ↓s92_4, ↓s92_7, ↓s92_10, ↓s92_11, ↓s92_12, ↓s92_14, ↓s92_17, ↓s92_20, ↓s92_21, ↓s92_22, ↓s92_23, ↓s92_26, ↓s92_29, ↓s92_30, ↓s92_33, ↓s92_34, ↓kb0, ↓kb1, ↓J_w10, ↓J_w8, ↓J_w1, kNLn, kNLi, kNLr, va_rf_s, kOl_n, kOl_s, kap_n, kap_c, kb0, kb1, kbif, zif, z0, z1, Bool.false_eq_true, eq_self, not_true_eq_false, not_false_eq_true, if_true, if_false, and_self, true_and, false_and, and_true, and_false, c1, c2, c3]
    · simp only [↓s92_0, ↓s92_1, ↓s92_2, ↓s92_4, ↓s92_7, ↓s92_10, ↓s92_11, ↓s92_12, ↓s92_14, ↓s92_17, ↓s92_20, ↓s92_21, ↓s92_22, ↓s92_23, ↓s92_26, ↓s92_29, ↓s92_30, ↓s92_33, ↓s92_34, ↓kb0, ↓kb1, ↓J_w10, ↓J_w8, ↓J_w1, kNLn, kNLi, kNLr, va_rf_s, kOl_n, kOl_s, kap_n, kap_c, kb0, kb1, kbif, zif, z0, z1, Bool.false_eq_true, eq_self, not_true_eq_false, not_false_eq_true, if_true, if_false, and_self, true_and, false_and, and_true, and_false, c1, c2]
  · simp only [↓s92_0, ↓s92_1, ↓s92_2, ↓s92_4, ↓s92_7, ↓s92_10, ↓s92_11, ↓s92_12, ↓s92_14, ↓s92_17, ↓s92_20, ↓s92_21, ↓s92_22, ↓s92_23, ↓s92_26, ↓s92_29, ↓s92_30, ↓s92_33, ↓s92_34, ↓kb0, ↓kb1, ↓J_w10, ↓J_w8, ↓J_w1, kNLn, kNLi, kNLr, va_rf_s, kOl_n, kOl_s, kap_n, kap_c, kb0, kb1, kbif, zif, z0, z1, Bool.false_eq_true, eq_self, not_true_eq_false, not_false_eq_true, if_true, if_false, and_self, true_and, false_and, and_true, and_false, c1]
/-- a day without a post -/
theorem R_day0 (h : kRM mi T A B) (ho : tOK T) (hQ : ∀ mi', kRM mi' (tup T 0 12 (T 0 12 + 1)) A B → kFq mi mi' → Q none (mi', ml, MR, 95)) : kJ 144 0 [some (.ref 83), some (.int (nI 0)), none] [] (mi, ml, MR, 95) Q := by
  have c52 : (nI 52).toNatClampNeg = 52 := rfl
  have v52 : vp_in (nI 52) 74 := vp_in_nI (by decide) (by decide)
  have c54 : (nI 54).toNatClampNeg = 54 := rfl
  have v54 : vp_in (nI 54) 74 := vp_in_nI (by decide) (by decide)
  have h9 := hQ (kup mi 85 54 (nI (T 0 12 + 1))) ⟨by rw [kup_eq]; exact kRR_day ho h.1, by rw [kup_ne (by decide)]; exact h.2.1, by rw [kup_ne (by decide)]; exact h.2.2⟩ (kFq_up kFq_rf)
  have hl := h.1.1.2.1
  have hd := h.1.1.2.2.2.1
  simp only [↓s144_0, ↓s144_1, ↓s144_3, ↓s144_4, ↓s144_7, ↓s144_9, ↓s144_10, ↓s144_13, ↓s144_14, ↓s144_17, ↓s144_18, ↓s144_19, ↓s144_22, ↓s144_25, ↓s144_26, ↓s144_27, ↓s144_30, ↓s144_33, ↓s144_36, ↓s144_37, ↓s144_40, ↓s144_42, ↓s144_43, ↓s144_44, ↓s144_45, ↓s144_46, ↓s144_47, kNLn, kNLi, kNLr, va_rf_s, kOl_n, kOl_s, kap_n, kap_c, kb0, kb1, kbif]
  rw [s144_2]
  by_cases c : nI (T 0 4) ≤ nI 0
  · simp only [↓s144_0, ↓s144_1, ↓s144_3, ↓s144_4, ↓s144_7, ↓s144_9, ↓s144_10, ↓s144_13, ↓s144_14, ↓s144_17, ↓s144_18, ↓s144_19, ↓s144_22, ↓s144_25, ↓s144_26, ↓s144_27, ↓s144_30, ↓s144_33, ↓s144_36, ↓s144_37, ↓s144_40, ↓s144_42, ↓s144_43, ↓s144_44, ↓s144_45, ↓s144_46, ↓s144_47, kNLn, kNLi, kNLr, va_rf_s, kOl_n, kOl_s, kap_n, kap_c, kb0, kb1, kbif, zif, z0, z1, Bool.false_eq_true, eq_self, not_true_eq_false, not_false_eq_true, if_true, if_false, and_self, true_and, false_and, and_true, and_false, ki_83, ki_85, kl_85, mr_83_1, c52, v52, c54, v54, hl, hd, c, nI_add]
    exact h9
  · simp only [↓s144_0, ↓s144_1, ↓s144_3, ↓s144_4, ↓s144_7, ↓s144_9, ↓s144_10, ↓s144_13, ↓s144_14, ↓s144_17, ↓s144_18, ↓s144_19, ↓s144_22, ↓s144_25, ↓s144_26, ↓s144_27, ↓s144_30, ↓s144_33, ↓s144_36, ↓s144_37, ↓s144_40, ↓s144_42, ↓s144_43, ↓s144_44, ↓s144_45, ↓s144_46, ↓s144_47, kNLn, kNLi, kNLr, va_rf_s, kOl_n, kOl_s, kap_n, kap_c, kb0, kb1, kbif, zif, z0, z1, Bool.false_eq_true, eq_self, not_true_eq_false, not_false_eq_true, if_true, if_false, and_self, true_and, false_and, and_true, and_false, ki_83, ki_85, kl_85, mr_83_1, c52, v52, c54, v54, hl, hd, c, nI_add]
    exact h9
def tU (T : tT) (p k : Nat) : tT := tup (tdays p T) 0 12 (T 0 12 + k)
theorem tU_ok (h : tOK T) (hk : T 0 12 + k < 2000) : tOK (tU T p k) := tOK_day (tdays_ok h p).1 hk
theorem tU_12 : tU T p k 0 12 = T 0 12 + k := tup_s
theorem tU_0 : tup (tU T p k) 0 12 (tU T p k 0 12 + 1) = tU T p (k + 1) := by
  rw [tU_12]; unfold tU; rw [tup_tup]; rfl
theorem tU_1 : tup (tday (tU T p k)) 0 12 (tU T p k 0 12 + 1) = tU T (p + 1) (k + 1) := by
  rw [tU_12]; unfold tU; rw [tday_date, tup_tup, tdays_s]; rfl
theorem bit_I : ∀ s, s < 256 → ∀ k, k < 8 → (nI s >>> (nI k &&& 31)) &&& nI 1 = nI (s / 2 ^ k % 2) := by decide +kernel
theorem shl_I : ∀ n, n < 9 → nI 1 <<< (nI n &&& 31) = nI (2 ^ n) := by decide +kernel
def gC (T : tT) (x : Int32) (p : Nat) : Nat := if x = (-4) then 0 else if tdays p T 9 x.toNatClampNeg = 2 then 1 else 0
def gM (T : tT) (p : Nat) : Nat := tmoods (tdays p T)
theorem R_oddsI {x : Int32} {s : Nat} (hv : v < 11) (hn : n < 9) (hs : s < 2 ^ n) (ho : tOK T) (hd : T 0 12 < 1000)
    (hQ : ∀ mi' A B, kRM mi' (tU T (pz s n) n) A B → kFq mi mi' → ∀ l8, kJ 177 127 [some (.ref 83), some (.int (nI v)), some (.int x), some (.int (nI n)), some (.int (nI s)), some (.long (lI (wz v (10 - v) s n))), none, some (.int (nI n)), l8] [] (mi', ml, MR, 95) Q) :
    ∀ (kk k : Nat) (mi1 : Nat → Nat → Int32) (A B : Nat) (l8 : Option Value), k + kk = n → kRM mi1 (tU T (pz s k) k) A B → kFq mi mi1 → kJ 177 63 [some (.ref 83), some (.int (nI v)), some (.int x), some (.int (nI n)), some (.int (nI s)), some (.long (lI (wz v (10 - v) s k))), none, some (.int (nI k)), l8] [] (mi1, ml, MR, 95) Q := by
  have hs2 : s < 256 := Nat.lt_of_lt_of_le hs (Nat.pow_le_pow_right (by decide) (by omega : n ≤ 8))
  have l1 : (nI v).toInt64 = lI v := lI_of (by omega)
  have l2 : (nI (10 - v)).toInt64 = lI (10 - v) := lI_of (by omega)
  have e10 : nI 10 - nI v = nI (10 - v) := pk_sub (by omega)
  intro kk
  induction kk with
  | zero =>
    intro k mi1 A B l8 hk h1 f1
    have e : k = n := by omega
    subst e
    rw [s177_63]
    simp only [↓s177_0, ↓s177_1, ↓s177_2, ↓s177_5, ↓s177_6, ↓s177_7, ↓s177_10, ↓s177_11, ↓s177_12, ↓s177_15, ↓s177_16, ↓s177_20, ↓s177_21, ↓s177_24, ↓s177_25, ↓s177_26, ↓s177_29, ↓s177_32, ↓s177_33, ↓s177_36, ↓s177_39, ↓s177_42, ↓s177_43, ↓s177_47, ↓s177_48, ↓s177_49, ↓s177_50, ↓s177_53, ↓s177_54, ↓s177_56, ↓s177_57, ↓s177_60, ↓s177_61, ↓s177_65, ↓s177_66, ↓s177_69, ↓s177_71, ↓s177_73, ↓s177_74, ↓s177_75, ↓s177_76, ↓s177_77, ↓s177_80, ↓s177_81, ↓s177_84, ↓s177_85, ↓s177_87, ↓s177_89, ↓s177_91, ↓s177_94, ↓s177_95, ↓s177_96, ↓s177_99, ↓s177_101, ↓s177_102, ↓s177_103, ↓s177_104, ↓s177_105, ↓s177_107, ↓s177_108, ↓s177_110, ↓s177_113, ↓s177_114, ↓s177_117, ↓s177_118, ↓s177_121, ↓s177_124, ↓s177_128, ↓s177_129, ↓s177_132, ↓s177_133, ↓s177_135, ↓s177_138, ↓s177_139, ↓s177_140, ↓s177_141, ↓s177_144, ↓s177_145, ↓s177_148, ↓s177_150, ↓s177_153, ↓s177_154, ↓s177_155, ↓s177_158, ↓s177_159, ↓s177_160, ↓s177_163, ↓s177_165, ↓s177_166, ↓s177_169, ↓s177_170, ↓s177_171, ↓s177_172, ↓s177_175, ↓s177_178, ↓s177_181, kNLn, kNLi, kNLr, va_rf_s, kOl_n, kOl_s, kap_n, kap_c, kb0, kb1, kbif, zif, z0, z1, Bool.false_eq_true, eq_self, not_true_eq_false, not_false_eq_true, if_true, if_false, and_self, true_and, false_and, and_true, and_false, Int32.le_refl]
    exact hQ mi1 A B h1 f1 l8
  | succ kk ih =>
    intro k mi1 A B l8 hk h1 f1
    have hlt : ¬ nI n ≤ nI k := nI_ge (by omega) (by omega)
    have hb := bit_I s hs2 k (by omega)
    have oU : tOK (tU T (pz s k) k) := tU_ok ho (by omega)
    have ew : wz v (10 - v) s (k + 1) = wz v (10 - v) s k * (if s / 2 ^ k % 2 = 1 then v else 10 - v) := rfl
    have ep : pz s (k + 1) = pz s k + (if s / 2 ^ k % 2 = 1 then 0 else 1) := rfl
    rw [s177_63]
    by_cases cb : s / 2 ^ k % 2 = 1
    · rw [cb] at hb
      rw [if_pos cb] at ew ep
      simp only [↓s177_0, ↓s177_1, ↓s177_2, ↓s177_5, ↓s177_6, ↓s177_7, ↓s177_10, ↓s177_11, ↓s177_12, ↓s177_15, ↓s177_16, ↓s177_20, ↓s177_21, ↓s177_24, ↓s177_25, ↓s177_26, ↓s177_29, ↓s177_32, ↓s177_33, ↓s177_36, ↓s177_39, ↓s177_42, ↓s177_43, ↓s177_47, ↓s177_48, ↓s177_49, ↓s177_50, ↓s177_53, ↓s177_54, ↓s177_56, ↓s177_57, ↓s177_60, ↓s177_61, ↓s177_65, ↓s177_66, ↓s177_69, ↓s177_71, ↓s177_73, ↓s177_74, ↓s177_75, ↓s177_76, ↓s177_77, ↓s177_80, ↓s177_81, ↓s177_84, ↓s177_85, ↓s177_87, ↓s177_89, ↓s177_91, ↓s177_94, ↓s177_95, ↓s177_96, ↓s177_99, ↓s177_101, ↓s177_102, ↓s177_103, ↓s177_104, ↓s177_105, ↓s177_107, ↓s177_108, ↓s177_110, ↓s177_113, ↓s177_114, ↓s177_117, ↓s177_118, ↓s177_121, ↓s177_124, ↓s177_128, ↓s177_129, ↓s177_132, ↓s177_133, ↓s177_135, ↓s177_138, ↓s177_139, ↓s177_140, ↓s177_141, ↓s177_144, ↓s177_145, ↓s177_148, ↓s177_150, ↓s177_153, ↓s177_154, ↓s177_155, ↓s177_158, ↓s177_159, ↓s177_160, ↓s177_163, ↓s177_165, ↓s177_166, ↓s177_169, ↓s177_170, ↓s177_171, ↓s177_172, ↓s177_175, ↓s177_178, ↓s177_181, kNLn, kNLi, kNLr, va_rf_s, kOl_n, kOl_s, kap_n, kap_c, kb0, kb1, kbif, zif, z0, z1, Bool.false_eq_true, eq_self, not_true_eq_false, not_false_eq_true, if_true, if_false, and_self, true_and, false_and, and_true, and_false, hlt, hb, l1, lI_mul, ki_83]
      refine R_day0 h1 oU (fun mi2 h2 f2 => ?_)
      rw [tU_0] at h2
      simp only [↓s177_0, ↓s177_1, ↓s177_2, ↓s177_5, ↓s177_6, ↓s177_7, ↓s177_10, ↓s177_11, ↓s177_12, ↓s177_15, ↓s177_16, ↓s177_20, ↓s177_21, ↓s177_24, ↓s177_25, ↓s177_26, ↓s177_29, ↓s177_32, ↓s177_33, ↓s177_36, ↓s177_39, ↓s177_42, ↓s177_43, ↓s177_47, ↓s177_48, ↓s177_49, ↓s177_50, ↓s177_53, ↓s177_54, ↓s177_56, ↓s177_57, ↓s177_60, ↓s177_61, ↓s177_65, ↓s177_66, ↓s177_69, ↓s177_71, ↓s177_73, ↓s177_74, ↓s177_75, ↓s177_76, ↓s177_77, ↓s177_80, ↓s177_81, ↓s177_84, ↓s177_85, ↓s177_87, ↓s177_89, ↓s177_91, ↓s177_94, ↓s177_95, ↓s177_96, ↓s177_99, ↓s177_101, ↓s177_102, ↓s177_103, ↓s177_104, ↓s177_105, ↓s177_107, ↓s177_108, ↓s177_110, ↓s177_113, ↓s177_114, ↓s177_117, ↓s177_118, ↓s177_121, ↓s177_124, ↓s177_128, ↓s177_129, ↓s177_132, ↓s177_133, ↓s177_135, ↓s177_138, ↓s177_139, ↓s177_140, ↓s177_141, ↓s177_144, ↓s177_145, ↓s177_148, ↓s177_150, ↓s177_153, ↓s177_154, ↓s177_155, ↓s177_158, ↓s177_159, ↓s177_160, ↓s177_163, ↓s177_165, ↓s177_166, ↓s177_169, ↓s177_170, ↓s177_171, ↓s177_172, ↓s177_175, ↓s177_178, ↓s177_181, kNLn, kNLi, kNLr, va_rf_s, kOl_n, kOl_s, kap_n, kap_c, kb0, kb1, kbif, nI_add, ← ew]
      exact ih (k + 1) mi2 _ _ _ (by omega) (by rw [ep]; exact h2) (kFq_tr f1 f2)
    · have c0 : s / 2 ^ k % 2 = 0 := by omega
      rw [c0] at hb
      rw [if_neg cb] at ew ep
      simp only [↓s177_0, ↓s177_1, ↓s177_2, ↓s177_5, ↓s177_6, ↓s177_7, ↓s177_10, ↓s177_11, ↓s177_12, ↓s177_15, ↓s177_16, ↓s177_20, ↓s177_21, ↓s177_24, ↓s177_25, ↓s177_26, ↓s177_29, ↓s177_32, ↓s177_33, ↓s177_36, ↓s177_39, ↓s177_42, ↓s177_43, ↓s177_47, ↓s177_48, ↓s177_49, ↓s177_50, ↓s177_53, ↓s177_54, ↓s177_56, ↓s177_57, ↓s177_60, ↓s177_61, ↓s177_65, ↓s177_66, ↓s177_69, ↓s177_71, ↓s177_73, ↓s177_74, ↓s177_75, ↓s177_76, ↓s177_77, ↓s177_80, ↓s177_81, ↓s177_84, ↓s177_85, ↓s177_87, ↓s177_89, ↓s177_91, ↓s177_94, ↓s177_95, ↓s177_96, ↓s177_99, ↓s177_101, ↓s177_102, ↓s177_103, ↓s177_104, ↓s177_105, ↓s177_107, ↓s177_108, ↓s177_110, ↓s177_113, ↓s177_114, ↓s177_117, ↓s177_118, ↓s177_121, ↓s177_124, ↓s177_128, ↓s177_129, ↓s177_132, ↓s177_133, ↓s177_135, ↓s177_138, ↓s177_139, ↓s177_140, ↓s177_141, ↓s177_144, ↓s177_145, ↓s177_148, ↓s177_150, ↓s177_153, ↓s177_154, ↓s177_155, ↓s177_158, ↓s177_159, ↓s177_160, ↓s177_163, ↓s177_165, ↓s177_166, ↓s177_169, ↓s177_170, ↓s177_171, ↓s177_172, ↓s177_175, ↓s177_178, ↓s177_181, kNLn, kNLi, kNLr, va_rf_s, kOl_n, kOl_s, kap_n, kap_c, kb0, kb1, kbif, zif, z0, z1, Bool.false_eq_true, eq_self, not_true_eq_false, not_false_eq_true, if_true, if_false, and_self, true_and, false_and, and_true, and_false, nl_0_1, nl_0_2, nl_0_3, nl_0_4, nl_0_5, nl_0_6, nl_1_0, nl_1_2, nl_1_3, nl_1_4, nl_1_5, nl_1_6, nl_2_0, nl_2_1, nl_2_3, nl_2_4, nl_2_5, nl_2_6, nl_3_0, nl_3_1, nl_3_2, nl_3_4, nl_3_5, nl_3_6, nl_4_0, nl_4_1, nl_4_2, nl_4_3, nl_4_5, nl_4_6, nl_5_0, nl_5_1, nl_5_2, nl_5_3, nl_5_4, nl_5_6, nl_6_0, nl_6_1, nl_6_2, nl_6_3, nl_6_4, nl_6_5, nz_1, nz_2, nz_3, nz_4, nz_5, nz_6, hlt, hb, e10, l2, lI_mul, ki_83]
      refine R_day h1 oU (by rw [tU_12]; omega) (fun mi2 h2 f2 => ?_)
      rw [tU_1] at h2
      simp only [↓s177_0, ↓s177_1, ↓s177_2, ↓s177_5, ↓s177_6, ↓s177_7, ↓s177_10, ↓s177_11, ↓s177_12, ↓s177_15, ↓s177_16, ↓s177_20, ↓s177_21, ↓s177_24, ↓s177_25, ↓s177_26, ↓s177_29, ↓s177_32, ↓s177_33, ↓s177_36, ↓s177_39, ↓s177_42, ↓s177_43, ↓s177_47, ↓s177_48, ↓s177_49, ↓s177_50, ↓s177_53, ↓s177_54, ↓s177_56, ↓s177_57, ↓s177_60, ↓s177_61, ↓s177_65, ↓s177_66, ↓s177_69, ↓s177_71, ↓s177_73, ↓s177_74, ↓s177_75, ↓s177_76, ↓s177_77, ↓s177_80, ↓s177_81, ↓s177_84, ↓s177_85, ↓s177_87, ↓s177_89, ↓s177_91, ↓s177_94, ↓s177_95, ↓s177_96, ↓s177_99, ↓s177_101, ↓s177_102, ↓s177_103, ↓s177_104, ↓s177_105, ↓s177_107, ↓s177_108, ↓s177_110, ↓s177_113, ↓s177_114, ↓s177_117, ↓s177_118, ↓s177_121, ↓s177_124, ↓s177_128, ↓s177_129, ↓s177_132, ↓s177_133, ↓s177_135, ↓s177_138, ↓s177_139, ↓s177_140, ↓s177_141, ↓s177_144, ↓s177_145, ↓s177_148, ↓s177_150, ↓s177_153, ↓s177_154, ↓s177_155, ↓s177_158, ↓s177_159, ↓s177_160, ↓s177_163, ↓s177_165, ↓s177_166, ↓s177_169, ↓s177_170, ↓s177_171, ↓s177_172, ↓s177_175, ↓s177_178, ↓s177_181, kNLn, kNLi, kNLr, va_rf_s, kOl_n, kOl_s, kap_n, kap_c, kb0, kb1, kbif, nI_add, ← ew]
      exact ih (k + 1) mi2 _ _ _ (by omega) (by rw [ep]; exact h2) (kFq_tr f1 f2)
def sumC (T : tT) (x : Int32) (v n s : Nat) : Nat := sums (fun s => wz v (10 - v) s n * gC T x (pz s n)) s
def sumM (T : tT) (v n s : Nat) : Nat := sums (fun s => wz v (10 - v) s n * gM T (pz s n)) s
theorem tmood_le (h : tOK T) : ∀ k, k ≤ T 0 0 → tmoodF T k ≤ 20 * k := by
  intro k
  induction k with
  | zero => intro _; exact Nat.le_refl _
  | succ k ih =>
    intro hk
    show tmoodF T k + T 3 k ≤ 20 * (k + 1)
    have := ih (by omega)
    have := (h.2.2.2.2.2.1 k (by omega)).2.2
    omega
theorem tmoods_le (h : tOK T) : tmoods T ≤ 100 := by
  have := tmood_le h (T 0 0) (Nat.le_refl _)
  have := h.1
  unfold tmoods
  omega
theorem R_odds {x : Int32} (h : kRR (mi 84) T) (hg : tGood T) (hv : v < 11) (hn : n < 9) (hx : x = (-4) ∨ ∃ i, i < T 0 4 ∧ x = nI i)
    (hQ : ∀ mi' ml', wR mi mi' → ml' 83 18 = lI (sumC T x v n (2 ^ n)) → ml' 83 19 = lI (sumM T v n (2 ^ n)) → ml' 83 20 = lI (10 ^ n) → Q none (mi', ml', MR, 95)) :
    kJ 177 0 [some (.ref 83), some (.int (nI v)), some (.int x), some (.int (nI n)), none, none, none, none, none] [] (mi, ml, MR, 95) Q := by
  have ho := hg.1
  have hd := hg.2
  have p8 : 2 ^ n ≤ 256 := Nat.pow_le_pow_right (by decide) (by omega : n ≤ 8)
  have hsh := shl_I n hn
  simp only [↓s177_0, ↓s177_1, ↓s177_2, ↓s177_5, ↓s177_6, ↓s177_7, ↓s177_10, ↓s177_11, ↓s177_12, ↓s177_15, ↓s177_16, ↓s177_20, ↓s177_21, ↓s177_24, ↓s177_25, ↓s177_26, ↓s177_29, ↓s177_32, ↓s177_33, ↓s177_36, ↓s177_39, ↓s177_42, ↓s177_43, ↓s177_47, ↓s177_48, ↓s177_49, ↓s177_50, ↓s177_53, ↓s177_54, ↓s177_56, ↓s177_57, ↓s177_60, ↓s177_61, ↓s177_65, ↓s177_66, ↓s177_69, ↓s177_71, ↓s177_73, ↓s177_74, ↓s177_75, ↓s177_76, ↓s177_77, ↓s177_80, ↓s177_81, ↓s177_84, ↓s177_85, ↓s177_87, ↓s177_89, ↓s177_91, ↓s177_94, ↓s177_95, ↓s177_96, ↓s177_99, ↓s177_101, ↓s177_102, ↓s177_103, ↓s177_104, ↓s177_105, ↓s177_107, ↓s177_108, ↓s177_110, ↓s177_113, ↓s177_114, ↓s177_117, ↓s177_118, ↓s177_121, ↓s177_124, ↓s177_127, ↓s177_128, ↓s177_129, ↓s177_132, ↓s177_133, ↓s177_135, ↓s177_138, ↓s177_139, ↓s177_140, ↓s177_141, ↓s177_144, ↓s177_145, ↓s177_148, ↓s177_150, ↓s177_153, ↓s177_154, ↓s177_155, ↓s177_158, ↓s177_159, ↓s177_160, ↓s177_163, ↓s177_165, ↓s177_166, ↓s177_169, ↓s177_170, ↓s177_171, ↓s177_172, ↓s177_175, ↓s177_178, ↓s177_181, kNLn, kNLi, kNLr, va_rf_s, kOl_n, kOl_s, kap_n, kap_c, kb0, kb1, kbif, ki_83]
  have outer : ∀ (kk s : Nat) (mi1 : Nat → Nat → Int32) (ml1 : Nat → Nat → Int64) (l5 l6 l7 l8 : Option Value), kNL l6 = true → s + kk = 2 ^ n → wR mi mi1 → ml1 83 18 = lI (sumC T x v n s) → ml1 83 19 = lI (sumM T v n s) → ml1 83 20 = lI (10 ^ n) → kJ 177 45 [some (.ref 83), some (.int (nI v)), some (.int x), some (.int (nI n)), some (.int (nI s)), l5, l6, l7, l8] [] (mi1, ml1, MR, 95) Q := by
    intro kk
    induction kk with
    | zero =>
      intro s mi1 ml1 l5 l6 l7 l8 h6 hs f1 m1 m2 m3
      have e : s = 2 ^ n := by omega
      subst e
      rw [s177_45]
      simp only [↓s177_0, ↓s177_1, ↓s177_2, ↓s177_5, ↓s177_6, ↓s177_7, ↓s177_10, ↓s177_11, ↓s177_12, ↓s177_15, ↓s177_16, ↓s177_20, ↓s177_21, ↓s177_24, ↓s177_25, ↓s177_26, ↓s177_29, ↓s177_32, ↓s177_33, ↓s177_36, ↓s177_39, ↓s177_42, ↓s177_43, ↓s177_47, ↓s177_48, ↓s177_49, ↓s177_50, ↓s177_53, ↓s177_54, ↓s177_56, ↓s177_57, ↓s177_60, ↓s177_61, ↓s177_65, ↓s177_66, ↓s177_69, ↓s177_71, ↓s177_73, ↓s177_74, ↓s177_75, ↓s177_76, ↓s177_77, ↓s177_80, ↓s177_81, ↓s177_84, ↓s177_85, ↓s177_87, ↓s177_89, ↓s177_91, ↓s177_94, ↓s177_95, ↓s177_96, ↓s177_99, ↓s177_101, ↓s177_102, ↓s177_103, ↓s177_104, ↓s177_105, ↓s177_107, ↓s177_108, ↓s177_110, ↓s177_113, ↓s177_114, ↓s177_117, ↓s177_118, ↓s177_121, ↓s177_124, ↓s177_127, ↓s177_128, ↓s177_129, ↓s177_132, ↓s177_133, ↓s177_135, ↓s177_138, ↓s177_139, ↓s177_140, ↓s177_141, ↓s177_144, ↓s177_145, ↓s177_148, ↓s177_150, ↓s177_153, ↓s177_154, ↓s177_155, ↓s177_158, ↓s177_159, ↓s177_160, ↓s177_163, ↓s177_165, ↓s177_166, ↓s177_169, ↓s177_170, ↓s177_171, ↓s177_172, ↓s177_175, ↓s177_178, ↓s177_181, kNLn, kNLi, kNLr, va_rf_s, kOl_n, kOl_s, kap_n, kap_c, kb0, kb1, kbif, zif, z0, z1, Bool.false_eq_true, eq_self, not_true_eq_false, not_false_eq_true, if_true, if_false, and_self, true_and, false_and, and_true, and_false, hsh, Int32.le_refl]
      exact hQ mi1 ml1 f1 m1 m2 m3
    | succ kk ih =>
      intro s mi1 ml1 l5 l6 l7 l8 h6 hs f1 m1 m2 m3
      have hlt : ¬ nI (2 ^ n) ≤ nI s := nI_ge (by omega) (by omega)
      rw [s177_45]
      simp only [↓s177_0, ↓s177_1, ↓s177_2, ↓s177_5, ↓s177_6, ↓s177_7, ↓s177_10, ↓s177_11, ↓s177_12, ↓s177_15, ↓s177_16, ↓s177_20, ↓s177_21, ↓s177_24, ↓s177_25, ↓s177_26, ↓s177_29, ↓s177_32, ↓s177_33, ↓s177_36, ↓s177_39, ↓s177_42, ↓s177_43, ↓s177_47, ↓s177_48, ↓s177_49, ↓s177_50, ↓s177_53, ↓s177_54, ↓s177_56, ↓s177_57, ↓s177_60, ↓s177_61, ↓s177_65, ↓s177_66, ↓s177_69, ↓s177_71, ↓s177_73, ↓s177_74, ↓s177_75, ↓s177_76, ↓s177_77, ↓s177_80, ↓s177_81, ↓s177_84, ↓s177_85, ↓s177_87, ↓s177_89, ↓s177_91, ↓s177_94, ↓s177_95, ↓s177_96, ↓s177_99, ↓s177_101, ↓s177_102, ↓s177_103, ↓s177_104, ↓s177_105, ↓s177_107, ↓s177_108, ↓s177_110, ↓s177_113, ↓s177_114, ↓s177_117, ↓s177_118, ↓s177_121, ↓s177_124, ↓s177_127, ↓s177_128, ↓s177_129, ↓s177_132, ↓s177_133, ↓s177_135, ↓s177_138, ↓s177_139, ↓s177_140, ↓s177_141, ↓s177_144, ↓s177_145, ↓s177_148, ↓s177_150, ↓s177_153, ↓s177_154, ↓s177_155, ↓s177_158, ↓s177_159, ↓s177_160, ↓s177_163, ↓s177_165, ↓s177_166, ↓s177_169, ↓s177_170, ↓s177_171, ↓s177_172, ↓s177_175, ↓s177_178, ↓s177_181, kNLn, kNLi, kNLr, va_rf_s, kOl_n, kOl_s, kap_n, kap_c, kb0, kb1, kbif, zif, z0, z1, Bool.false_eq_true, eq_self, not_true_eq_false, not_false_eq_true, if_true, if_false, and_self, true_and, false_and, and_true, and_false, hsh, hlt, ki_83]
      refine R_startsT (kRR_w h f1) ho (fun mi2 h2 f2 => ?_)
      simp only [↓s177_0, ↓s177_1, ↓s177_2, ↓s177_5, ↓s177_6, ↓s177_7, ↓s177_10, ↓s177_11, ↓s177_12, ↓s177_15, ↓s177_16, ↓s177_20, ↓s177_21, ↓s177_24, ↓s177_25, ↓s177_26, ↓s177_29, ↓s177_32, ↓s177_33, ↓s177_36, ↓s177_39, ↓s177_42, ↓s177_43, ↓s177_47, ↓s177_48, ↓s177_49, ↓s177_50, ↓s177_53, ↓s177_54, ↓s177_56, ↓s177_57, ↓s177_60, ↓s177_61, ↓s177_65, ↓s177_66, ↓s177_69, ↓s177_71, ↓s177_73, ↓s177_74, ↓s177_75, ↓s177_76, ↓s177_77, ↓s177_80, ↓s177_81, ↓s177_84, ↓s177_85, ↓s177_87, ↓s177_89, ↓s177_91, ↓s177_94, ↓s177_95, ↓s177_96, ↓s177_99, ↓s177_101, ↓s177_102, ↓s177_103, ↓s177_104, ↓s177_105, ↓s177_107, ↓s177_108, ↓s177_110, ↓s177_113, ↓s177_114, ↓s177_117, ↓s177_118, ↓s177_121, ↓s177_124, ↓s177_127, ↓s177_128, ↓s177_129, ↓s177_132, ↓s177_133, ↓s177_135, ↓s177_138, ↓s177_139, ↓s177_140, ↓s177_141, ↓s177_144, ↓s177_145, ↓s177_148, ↓s177_150, ↓s177_153, ↓s177_154, ↓s177_155, ↓s177_158, ↓s177_159, ↓s177_160, ↓s177_163, ↓s177_165, ↓s177_166, ↓s177_169, ↓s177_170, ↓s177_171, ↓s177_172, ↓s177_175, ↓s177_178, ↓s177_181, kNLn, kNLi, kNLr, va_rf_s, kOl_n, kOl_s, kap_n, kap_c, kb0, kb1, kbif]
      refine R_oddsI (mi := mi1) hv hn (by omega) ho hd (fun mi3 A B h3 f3 l8' => ?_) n 0 mi2 0 0 l8 (by omega) ?_ f2
      · have oU : tOK (tU T (pz s n) n) := tU_ok ho (by omega)
        have eM : tmoods (tU T (pz s n) n) = gM T (pz s n) := tmoods_day
        have l1 : (nI (gM T (pz s n))).toInt64 = lI (gM T (pz s n)) := lI_of (by have := tmoods_le oU; rw [eM] at this; omega)
        have eC : sumC T x v n (s + 1) = sumC T x v n s + wz v (10 - v) s n * gC T x (pz s n) := rfl
        have eMM : sumM T v n (s + 1) = sumM T v n s + wz v (10 - v) s n * gM T (pz s n) := rfl
        have fin : ∀ c, lI (sumC T x v n s) + c = lI (sumC T x v n (s + 1)) → kJ 177 154 [some (.ref 83), some (.int (nI v)), some (.int x), some (.int (nI n)), some (.int (nI s)), some (.long (lI (wz v (10 - v) s n))), none, some (.int (nI n)), l8'] [.long c, .long (lI (sumC T x v n s)), .ref 83] (mi3, ml1, MR, 95) Q := by
          intro c hc
          have k19 : kupL ml1 83 18 (lI (sumC T x v n (s + 1))) 83 19 = lI (sumM T v n s) := by rw [kupL_eq, pk_uLn (by decide)]; exact m2
          have hm : ∀ ml' Q', kJ 146 0 [some (.ref 83), none, none] [] (mi3, ml', MR, 95) Q' = Q' (some (.int (nI (gM T (pz s n))))) (mi3, ml', MR, 95) := fun ml' Q' => by rw [R_moods h3.1 oU, eM]
          simp only [↓s177_0, ↓s177_1, ↓s177_2, ↓s177_5, ↓s177_6, ↓s177_7, ↓s177_10, ↓s177_11, ↓s177_12, ↓s177_15, ↓s177_16, ↓s177_20, ↓s177_21, ↓s177_24, ↓s177_25, ↓s177_26, ↓s177_29, ↓s177_32, ↓s177_33, ↓s177_36, ↓s177_39, ↓s177_42, ↓s177_43, ↓s177_47, ↓s177_48, ↓s177_49, ↓s177_50, ↓s177_53, ↓s177_54, ↓s177_56, ↓s177_57, ↓s177_60, ↓s177_61, ↓s177_65, ↓s177_66, ↓s177_69, ↓s177_71, ↓s177_73, ↓s177_74, ↓s177_75, ↓s177_76, ↓s177_77, ↓s177_80, ↓s177_81, ↓s177_84, ↓s177_85, ↓s177_87, ↓s177_89, ↓s177_91, ↓s177_94, ↓s177_95, ↓s177_96, ↓s177_99, ↓s177_101, ↓s177_102, ↓s177_103, ↓s177_104, ↓s177_105, ↓s177_107, ↓s177_108, ↓s177_110, ↓s177_113, ↓s177_114, ↓s177_117, ↓s177_118, ↓s177_121, ↓s177_124, ↓s177_127, ↓s177_128, ↓s177_129, ↓s177_132, ↓s177_133, ↓s177_135, ↓s177_138, ↓s177_139, ↓s177_140, ↓s177_141, ↓s177_144, ↓s177_145, ↓s177_148, ↓s177_150, ↓s177_153, ↓s177_154, ↓s177_155, ↓s177_158, ↓s177_159, ↓s177_160, ↓s177_163, ↓s177_165, ↓s177_166, ↓s177_169, ↓s177_170, ↓s177_171, ↓s177_172, ↓s177_175, ↓s177_178, ↓s177_181, ↓hm, kNLn, kNLi, kNLr, va_rf_s, kOl_n, kOl_s, kap_n, kap_c, kb0, kb1, kbif, ki_83, hc, k19, l1, lI_mul, lI_add, ← eMM, nI_add]
          refine ih (s + 1) mi3 _ _ _ _ _ kNL_n (by omega) (wR_tr f1 (wR_q f3)) ?_ ?_ ?_
          · rw [kupL_eq, pk_uLn (by decide), kupL_eq, pk_uLs]
          · rw [kupL_eq, pk_uLs]
          · rw [kupL_eq, pk_uLn (by decide), kupL_eq, pk_uLn (by decide)]; exact m3
        rcases hx with rfl | ⟨i, hi, rfl⟩
        · have g0 : gC T (-4) (pz s n) = 0 := if_pos rfl
          simp only [↓s177_0, ↓s177_1, ↓s177_2, ↓s177_5, ↓s177_6, ↓s177_7, ↓s177_10, ↓s177_11, ↓s177_12, ↓s177_15, ↓s177_16, ↓s177_20, ↓s177_21, ↓s177_24, ↓s177_25, ↓s177_26, ↓s177_29, ↓s177_32, ↓s177_33, ↓s177_36, ↓s177_39, ↓s177_42, ↓s177_43, ↓s177_47, ↓s177_48, ↓s177_49, ↓s177_50, ↓s177_53, ↓s177_54, ↓s177_56, ↓s177_57, ↓s177_60, ↓s177_61, ↓s177_65, ↓s177_66, ↓s177_69, ↓s177_71, ↓s177_73, ↓s177_74, ↓s177_75, ↓s177_76, ↓s177_77, ↓s177_80, ↓s177_81, ↓s177_84, ↓s177_85, ↓s177_87, ↓s177_89, ↓s177_91, ↓s177_94, ↓s177_95, ↓s177_96, ↓s177_99, ↓s177_101, ↓s177_102, ↓s177_103, ↓s177_104, ↓s177_105, ↓s177_107, ↓s177_108, ↓s177_110, ↓s177_113, ↓s177_114, ↓s177_117, ↓s177_118, ↓s177_121, ↓s177_124, ↓s177_127, ↓s177_128, ↓s177_129, ↓s177_132, ↓s177_133, ↓s177_135, ↓s177_138, ↓s177_139, ↓s177_140, ↓s177_141, ↓s177_144, ↓s177_145, ↓s177_148, ↓s177_150, ↓s177_153, ↓s177_155, ↓s177_158, ↓s177_159, ↓s177_160, ↓s177_163, ↓s177_165, ↓s177_166, ↓s177_169, ↓s177_170, ↓s177_171, ↓s177_172, ↓s177_175, ↓s177_178, ↓s177_181, kNLn, kNLi, kNLr, va_rf_s, kOl_n, kOl_s, kap_n, kap_c, kb0, kb1, kbif, zif, z0, z1, Bool.false_eq_true, eq_self, not_true_eq_false, not_false_eq_true, if_true, if_false, and_self, true_and, false_and, and_true, and_false, ki_83, m1, m4_r]
          refine fin 0 ?_
          rw [eC, g0, Nat.mul_zero, Nat.add_zero, Int64.add_zero]
        · have n4 := n_m4 (by have := ho.2.1; omega : i < 2 ^ 31)
          have hil : i < tU T (pz s n) n 0 4 := by
            unfold tU
            rw [tup_n (by omega), (tdays_ok ho (pz s n)).2 0 4 (by omega) (by omega) (by omega) (by omega)]
            exact hi
          have e9 : tU T (pz s n) n 9 i = tdays (pz s n) T 9 i := tup_n (by omega)
          have hl3 := (oU.2.2.2.2.2.2.1 i hil).2.2.2.2.2
          have hof : ∀ Q', kJ 134 0 [some (.ref 83), some (.int (nI i)), some (.int (nI 5))] [] (mi3, ml1, MR, 95) Q' = Q' (some (.int (nI (tdays (pz s n) T 9 i)))) (mi3, ml1, MR, 95) := fun Q' => by rw [R_ofL h3.1 oU hil (w := 5) (by decide), ← e9]
          have el := nI_lit (by rw [e9] at hl3; omega : tdays (pz s n) T 9 i < 2 ^ 31) (by decide : 2 < 2 ^ 31)
          have hcl : (nI i).toNatClampNeg = i := nI_clamp (by have := ho.2.1; omega)
          by_cases c2 : tdays (pz s n) T 9 i = 2
          · have g1 : gC T (nI i) (pz s n) = 1 := by
              unfold gC
              rw [if_neg (fun z => by rw [n4] at z; exact z), hcl, if_pos c2]
            simp only [↓s177_0, ↓s177_1, ↓s177_2, ↓s177_5, ↓s177_6, ↓s177_7, ↓s177_10, ↓s177_11, ↓s177_12, ↓s177_15, ↓s177_16, ↓s177_20, ↓s177_21, ↓s177_24, ↓s177_25, ↓s177_26, ↓s177_29, ↓s177_32, ↓s177_33, ↓s177_36, ↓s177_39, ↓s177_42, ↓s177_43, ↓s177_47, ↓s177_48, ↓s177_49, ↓s177_50, ↓s177_53, ↓s177_54, ↓s177_56, ↓s177_57, ↓s177_60, ↓s177_61, ↓s177_65, ↓s177_66, ↓s177_69, ↓s177_71, ↓s177_73, ↓s177_74, ↓s177_75, ↓s177_76, ↓s177_77, ↓s177_80, ↓s177_81, ↓s177_84, ↓s177_85, ↓s177_87, ↓s177_89, ↓s177_91, ↓s177_94, ↓s177_95, ↓s177_96, ↓s177_99, ↓s177_101, ↓s177_102, ↓s177_103, ↓s177_104, ↓s177_105, ↓s177_107, ↓s177_108, ↓s177_110, ↓s177_113, ↓s177_114, ↓s177_117, ↓s177_118, ↓s177_121, ↓s177_124, ↓s177_127, ↓s177_128, ↓s177_129, ↓s177_132, ↓s177_133, ↓s177_135, ↓s177_138, ↓s177_139, ↓s177_140, ↓s177_141, ↓s177_144, ↓s177_145, ↓s177_148, ↓s177_150, ↓s177_153, ↓s177_155, ↓s177_158, ↓s177_159, ↓s177_160, ↓s177_163, ↓s177_165, ↓s177_166, ↓s177_169, ↓s177_170, ↓s177_171, ↓s177_172, ↓s177_175, ↓s177_178, ↓s177_181, ↓hof, kNLn, kNLi, kNLr, va_rf_s, kOl_n, kOl_s, kap_n, kap_c, kb0, kb1, kbif, zif, z0, z1, Bool.false_eq_true, eq_self, not_true_eq_false, not_false_eq_true, if_true, if_false, and_self, true_and, false_and, and_true, and_false, ki_83, m1, n4, el, c2]
            refine fin _ ?_
            rw [eC, g1, Nat.mul_one, lI_add]
          · have g1 : gC T (nI i) (pz s n) = 0 := by
              unfold gC
              rw [if_neg (fun z => by rw [n4] at z; exact z), hcl, if_neg c2]
            simp only [↓s177_0, ↓s177_1, ↓s177_2, ↓s177_5, ↓s177_6, ↓s177_7, ↓s177_10, ↓s177_11, ↓s177_12, ↓s177_15, ↓s177_16, ↓s177_20, ↓s177_21, ↓s177_24, ↓s177_25, ↓s177_26, ↓s177_29, ↓s177_32, ↓s177_33, ↓s177_36, ↓s177_39, ↓s177_42, ↓s177_43, ↓s177_47, ↓s177_48, ↓s177_49, ↓s177_50, ↓s177_53, ↓s177_54, ↓s177_56, ↓s177_57, ↓s177_60, ↓s177_61, ↓s177_65, ↓s177_66, ↓s177_69, ↓s177_71, ↓s177_73, ↓s177_74, ↓s177_75, ↓s177_76, ↓s177_77, ↓s177_80, ↓s177_81, ↓s177_84, ↓s177_85, ↓s177_87, ↓s177_89, ↓s177_91, ↓s177_94, ↓s177_95, ↓s177_96, ↓s177_99, ↓s177_101, ↓s177_102, ↓s177_103, ↓s177_104, ↓s177_105, ↓s177_107, ↓s177_108, ↓s177_110, ↓s177_113, ↓s177_114, ↓s177_117, ↓s177_118, ↓s177_121, ↓s177_124, ↓s177_127, ↓s177_128, ↓s177_129, ↓s177_132, ↓s177_133, ↓s177_135, ↓s177_138, ↓s177_139, ↓s177_140, ↓s177_141, ↓s177_144, ↓s177_145, ↓s177_148, ↓s177_150, ↓s177_153, ↓s177_155, ↓s177_158, ↓s177_159, ↓s177_160, ↓s177_163, ↓s177_165, ↓s177_166, ↓s177_169, ↓s177_170, ↓s177_171, ↓s177_172, ↓s177_175, ↓s177_178, ↓s177_181, ↓hof, kNLn, kNLi, kNLr, va_rf_s, kOl_n, kOl_s, kap_n, kap_c, kb0, kb1, kbif, zif, z0, z1, Bool.false_eq_true, eq_self, not_true_eq_false, not_false_eq_true, if_true, if_false, and_self, true_and, false_and, and_true, and_false, ki_83, m1, n4, el, c2]
            refine fin 0 ?_
            rw [eC, g1, Nat.mul_zero, Nat.add_zero, Int64.add_zero]
      · have e : tU T (pz s 0) 0 = T := by
          show tup T 0 12 (T 0 12 + 0) = T
          exact tpass_0
        rw [e]
        exact h2
  have first : ∀ (kk k : Nat) (ml1 : Nat → Nat → Int64), k + kk = n → ml1 83 18 = lI 0 → ml1 83 19 = lI 0 → ml1 83 20 = lI (10 ^ k) → kJ 177 18 [some (.ref 83), some (.int (nI v)), some (.int x), some (.int (nI n)), some (.int (nI k)), none, none, none, none] [] (mi, ml1, MR, 95) Q := by
    intro kk
    induction kk with
    | zero =>
      intro k ml1 hk m1 m2 m3
      have e : k = n := by omega
      subst e
      rw [s177_18]
      simp only [↓s177_0, ↓s177_1, ↓s177_2, ↓s177_5, ↓s177_6, ↓s177_7, ↓s177_10, ↓s177_11, ↓s177_12, ↓s177_15, ↓s177_16, ↓s177_20, ↓s177_21, ↓s177_24, ↓s177_25, ↓s177_26, ↓s177_29, ↓s177_32, ↓s177_33, ↓s177_36, ↓s177_39, ↓s177_42, ↓s177_43, ↓s177_47, ↓s177_48, ↓s177_49, ↓s177_50, ↓s177_53, ↓s177_54, ↓s177_56, ↓s177_57, ↓s177_60, ↓s177_61, ↓s177_65, ↓s177_66, ↓s177_69, ↓s177_71, ↓s177_73, ↓s177_74, ↓s177_75, ↓s177_76, ↓s177_77, ↓s177_80, ↓s177_81, ↓s177_84, ↓s177_85, ↓s177_87, ↓s177_89, ↓s177_91, ↓s177_94, ↓s177_95, ↓s177_96, ↓s177_99, ↓s177_101, ↓s177_102, ↓s177_103, ↓s177_104, ↓s177_105, ↓s177_107, ↓s177_108, ↓s177_110, ↓s177_113, ↓s177_114, ↓s177_117, ↓s177_118, ↓s177_121, ↓s177_124, ↓s177_127, ↓s177_128, ↓s177_129, ↓s177_132, ↓s177_133, ↓s177_135, ↓s177_138, ↓s177_139, ↓s177_140, ↓s177_141, ↓s177_144, ↓s177_145, ↓s177_148, ↓s177_150, ↓s177_153, ↓s177_154, ↓s177_155, ↓s177_158, ↓s177_159, ↓s177_160, ↓s177_163, ↓s177_165, ↓s177_166, ↓s177_169, ↓s177_170, ↓s177_171, ↓s177_172, ↓s177_175, ↓s177_178, ↓s177_181, kNLn, kNLi, kNLr, va_rf_s, kOl_n, kOl_s, kap_n, kap_c, kb0, kb1, kbif, zif, z0, z1, Bool.false_eq_true, eq_self, not_true_eq_false, not_false_eq_true, if_true, if_false, and_self, true_and, false_and, and_true, and_false, Int32.le_refl]
      exact outer (2 ^ k) 0 mi ml1 none none none none rfl (by omega) wR_rf m1 m2 m3
    | succ kk ih =>
      intro k ml1 hk m1 m2 m3
      have hlt : ¬ nI n ≤ nI k := nI_ge (by omega) (by omega)
      have e10 : lI (10 ^ k) * 10 = lI (10 ^ (k + 1)) := by rw [lI_10, lI_mul, Nat.pow_succ]
      rw [s177_18]
      simp only [↓s177_0, ↓s177_1, ↓s177_2, ↓s177_5, ↓s177_6, ↓s177_7, ↓s177_10, ↓s177_11, ↓s177_12, ↓s177_15, ↓s177_16, ↓s177_20, ↓s177_21, ↓s177_24, ↓s177_25, ↓s177_26, ↓s177_29, ↓s177_32, ↓s177_33, ↓s177_36, ↓s177_39, ↓s177_42, ↓s177_43, ↓s177_47, ↓s177_48, ↓s177_49, ↓s177_50, ↓s177_53, ↓s177_54, ↓s177_56, ↓s177_57, ↓s177_60, ↓s177_61, ↓s177_65, ↓s177_66, ↓s177_69, ↓s177_71, ↓s177_73, ↓s177_74, ↓s177_75, ↓s177_76, ↓s177_77, ↓s177_80, ↓s177_81, ↓s177_84, ↓s177_85, ↓s177_87, ↓s177_89, ↓s177_91, ↓s177_94, ↓s177_95, ↓s177_96, ↓s177_99, ↓s177_101, ↓s177_102, ↓s177_103, ↓s177_104, ↓s177_105, ↓s177_107, ↓s177_108, ↓s177_110, ↓s177_113, ↓s177_114, ↓s177_117, ↓s177_118, ↓s177_121, ↓s177_124, ↓s177_127, ↓s177_128, ↓s177_129, ↓s177_132, ↓s177_133, ↓s177_135, ↓s177_138, ↓s177_139, ↓s177_140, ↓s177_141, ↓s177_144, ↓s177_145, ↓s177_148, ↓s177_150, ↓s177_153, ↓s177_154, ↓s177_155, ↓s177_158, ↓s177_159, ↓s177_160, ↓s177_163, ↓s177_165, ↓s177_166, ↓s177_169, ↓s177_170, ↓s177_171, ↓s177_172, ↓s177_175, ↓s177_178, ↓s177_181, kNLn, kNLi, kNLr, va_rf_s, kOl_n, kOl_s, kap_n, kap_c, kb0, kb1, kbif, zif, z0, z1, Bool.false_eq_true, eq_self, not_true_eq_false, not_false_eq_true, if_true, if_false, and_self, true_and, false_and, and_true, and_false, hlt, ki_83, m3, e10, nI_add]
      refine ih (k + 1) _ (by omega) ?_ ?_ ?_
      · rw [kupL_eq, pk_uLn (by decide)]; exact m1
      · rw [kupL_eq, pk_uLn (by decide)]; exact m2
      · rw [kupL_eq, pk_uLs]
  refine first n 0 _ (by omega) ?_ ?_ ?_
  · rw [kupL_eq, pk_uLn (by decide), kupL_eq, pk_uLn (by decide), kupL_eq, pk_uLs]; rfl
  · rw [kupL_eq, pk_uLn (by decide), kupL_eq, pk_uLs]; rfl
  · rw [kupL_eq, pk_uLs]; rfl
end ODDS
