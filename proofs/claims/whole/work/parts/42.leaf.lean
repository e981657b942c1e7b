/-! leaves -/
theorem kNLn : (kNL none = true) = True := by simp [kNL_n]
theorem kNLi (x : Int32) : (kNL (some (.int x)) = true) = True := by simp [kNL_i]
theorem kNLr (x : Nat) : (kNL (some (.ref x)) = true) = True := by simp [kNL_r]
theorem kb0 : (nI 0 = 0 ∨ nI 0 = 1) = True := by decide
theorem kb1 : (nI 1 = 0 ∨ nI 1 = 1) = True := by decide
theorem kbif (c : Prop) [Decidable c] : ((if c then nI 1 else nI 0) = 0 ∨ (if c then nI 1 else nI 0) = 1) = True := by
  split <;> decide
theorem kz {n : Nat} (h : n < 2 ^ 31) : (nI n = 0) = (n = 0) := by
  rw [← nI_0]; exact propext (nI_eq h (by decide))
section LEAF
variable {mi : Nat → Nat → Int32} {ml : Nat → Nat → Int64} {m : kMem} {Q : Option Value → kMem → Prop} {b i k t p : Nat}
theorem J_within {v a c : Int32} : kJ 90 0 [some (.int v), some (.int a), some (.int c)] [] m Q = Q (some (.int (if a ≤ v ∧ v ≤ c then nI 1 else nI 0))) m := by
  simp only [↓s90_0, ↓s90_1, ↓s90_2, ↓s90_5, ↓s90_6, ↓s90_7, ↓s90_10, ↓s90_11, ↓s90_14, ↓s90_15, kNLn, kNLi, kNLr, va_rf_s, kOl_n, kOl_s, kap_n, kap_c, kb0, kb1, kbif]
  by_cases h1 : a ≤ v
  · by_cases h2 : v ≤ c
    · have h3 : ¬ v < a := Int32.not_lt.mpr h1
      have h4 : ¬ c < v := Int32.not_lt.mpr h2
      simp [h1, h2, h3, h4]
    · have h3 : ¬ v < a := Int32.not_lt.mpr h1
      have h4 : c < v := Int32.not_le.mp h2
      simp [h2, h3, h4]
  · have h3 : v < a := Int32.not_le.mp h1
    simp [h1, h3]
theorem J_way (hp : kPost b) (hi : i < 6) : kJ 9 0 [some (.ref b), some (.int (nI i))] [] (mi, ml, MR, 95) Q = Q (some (.int (if mi (b + 9) i = 0 ∨ mi (b + 9) i = nI 1 then nI 1 else nI 0))) (mi, ml, MR, 95) := by
  obtain ⟨pis, ⟨r1, r2, r3, r4, r5, r6, r7, r8, r9, r10, r11, r12⟩, ⟨a1, a2, a3, a4, a5, a6, a7, a8, a9, a10, a11, a12⟩, e1, e2, e3, e4, e5, e6, e7, e8, e9, e10, e11, e12⟩ := hp
  have hc : (nI i).toNatClampNeg = i := nI_clamp (by omega)
  have hv : vp_in (nI i) 6 := vp_in_nI hi (by decide)
  simp only [↓s9_0, ↓s9_1, ↓s9_4, ↓s9_5, ↓s9_6, ↓s9_9, ↓s9_10, ↓s9_13, ↓s9_14, ↓s9_15, ↓s9_16, ↓s9_19, ↓s9_20, ↓s9_23, ↓s9_24, kNLn, kNLi, kNLr, va_rf_s, kOl_n, kOl_s, kap_n, kap_c, kb0, kb1, kbif, pis, r1, r2, r3, r4, r5, r6, r7, r8, r9, r10, r11, r12, a1, a2, a3, a4, a5, a6, a7, a8, a9, a10, a11, a12, e1, e2, e3, e4, e5, e6, e7, e8, e9, e10, e11, e12, hc, hv, true_and]
  by_cases h1 : mi (b + 9) i = 0
  · simp [h1]
  · by_cases h2 : mi (b + 9) i = nI 1
    · simp [h1, h2]
    · simp [h1, h2]
theorem J_heads (hp : kPost b) (hi : i < 6) : kJ 10 0 [some (.ref b), some (.int (nI i))] [] (mi, ml, MR, 95) Q = Q (some (.int (if mi (b + 9) i = 0 then mi (b + 6) i else mi (b + 5) i))) (mi, ml, MR, 95) := by
  obtain ⟨pis, ⟨r1, r2, r3, r4, r5, r6, r7, r8, r9, r10, r11, r12⟩, ⟨a1, a2, a3, a4, a5, a6, a7, a8, a9, a10, a11, a12⟩, e1, e2, e3, e4, e5, e6, e7, e8, e9, e10, e11, e12⟩ := hp
  have hc : (nI i).toNatClampNeg = i := nI_clamp (by omega)
  have hv : vp_in (nI i) 6 := vp_in_nI hi (by decide)
  simp only [↓s10_0, ↓s10_1, ↓s10_4, ↓s10_5, ↓s10_6, ↓s10_9, ↓s10_10, ↓s10_13, ↓s10_14, ↓s10_15, ↓s10_18, ↓s10_19, ↓s10_22, ↓s10_23, ↓s10_24, kNLn, kNLi, kNLr, va_rf_s, kOl_n, kOl_s, kap_n, kap_c, kb0, kb1, kbif, pis, r1, r2, r3, r4, r5, r6, r7, r8, r9, r10, r11, r12, a1, a2, a3, a4, a5, a6, a7, a8, a9, a10, a11, a12, e1, e2, e3, e4, e5, e6, e7, e8, e9, e10, e11, e12, hc, hv, true_and]
  by_cases h1 : mi (b + 9) i = 0
  · simp [h1]
  · simp [h1]
theorem J_felt {k t : Int32} : kJ 96 0 [some (.int k), some (.int t), none] [] m Q = Q (some (.int (if k = nI 1 then nI 2 * (t - nI 9) else if k = nI 2 then (if 0 ≤ t - nI 9 then t - nI 9 else (t - nI 9) / nI 2) else if k = nI 3 then (if 0 ≤ t - nI 9 then t - nI 9 else (t - nI 9) / nI 2) + nI 1 else t - nI 9))) m := by
  have h2 : ¬ nI 2 = 0 := by decide
  simp only [↓s96_0, ↓s96_1, ↓s96_3, ↓s96_4, ↓s96_5, ↓s96_6, ↓s96_32, ↓s96_33, ↓s96_34, ↓s96_35, ↓s96_36, ↓s96_37, ↓s96_40, ↓s96_41, ↓s96_42, ↓s96_43, ↓s96_46, ↓s96_47, ↓s96_48, ↓s96_49, ↓s96_52, ↓s96_53, ↓s96_54, ↓s96_55, ↓s96_58, ↓s96_59, ↓s96_60, ↓s96_61, ↓s96_62, ↓s96_63, kNLn, kNLi, kNLr, va_rf_s, kOl_n, kOl_s, kap_n, kap_c, kb0, kb1, kbif, h2, not_false_eq_true]
  by_cases c1 : k = nI 1
  · simp only [c1, if_true]
  · by_cases c2 : k = nI 2
    · by_cases c4 : 0 ≤ t - nI 9
      · simp only [if_neg c1, if_pos c2, if_pos c4]
      · simp only [if_neg c1, if_pos c2, if_neg c4]
    · by_cases c3 : k = nI 3
      · by_cases c4 : 0 ≤ t - nI 9
        · simp only [if_neg c1, if_neg c2, if_pos c3, if_pos c4]
        · simp only [if_neg c1, if_neg c2, if_pos c3, if_neg c4]
      · simp only [if_neg c1, if_neg c2, if_neg c3]
theorem J_sends {k t : Int32} : kJ 97 0 [some (.int k), some (.int t)] [] m Q = Q (some (.int (if k = nI 0 then (if nI 6 ≤ t then nI 1 else nI 0) else if k = nI 1 then (if nI 9 ≤ t then nI 1 else nI 0) else nI 1))) m := by
  simp only [↓s97_0, ↓s97_1, ↓s97_28, ↓s97_29, ↓s97_31, ↓s97_34, ↓s97_35, ↓s97_38, ↓s97_39, ↓s97_40, ↓s97_41, ↓s97_43, ↓s97_46, ↓s97_47, ↓s97_50, ↓s97_51, ↓s97_52, ↓s97_53, kNLn, kNLi, kNLr, va_rf_s, kOl_n, kOl_s, kap_n, kap_c, kb0, kb1, kbif]
  by_cases c0 : k = nI 0
  · by_cases c4 : nI 6 ≤ t
    · simp [c0, c4, Int32.not_lt.mpr c4]
    · simp [c0, c4, Int32.not_le.mp c4]
  · by_cases c1 : k = nI 1
    · by_cases c4 : nI 9 ≤ t
      · simp only [if_neg c0, if_pos c1, if_pos c4, if_neg (Int32.not_lt.mpr c4)]
      · simp only [if_neg c0, if_pos c1, if_neg c4, if_pos (Int32.not_le.mp c4)]
    · simp only [if_neg c0, if_neg c1]
theorem J_altered {k t : Int32} : kJ 98 0 [some (.int k), some (.int t)] [] m Q = Q (some (.int (if k = nI 2 then (if t + nI 1 ≤ nI 18 then t + nI 1 else nI 18) else if k = nI 3 then (if t + nI 2 ≤ nI 18 then t + nI 2 else nI 18) else t))) m := by
  simp only [↓s98_0, ↓s98_1, ↓s98_28, ↓s98_29, ↓s98_30, ↓s98_31, ↓s98_33, ↓s98_36, ↓s98_38, ↓s98_41, ↓s98_42, ↓s98_43, ↓s98_44, ↓s98_45, ↓s98_46, ↓s98_47, ↓s98_48, ↓s98_50, ↓s98_53, ↓s98_55, ↓s98_58, ↓s98_59, ↓s98_60, ↓s98_61, ↓s98_62, ↓s98_63, kNLn, kNLi, kNLr, va_rf_s, kOl_n, kOl_s, kap_n, kap_c, kb0, kb1, kbif]
  by_cases c0 : k = nI 2
  · by_cases c4 : t + nI 1 ≤ nI 18
    · simp [c0, c4, Int32.not_lt.mpr c4]
    · simp [c0, c4, Int32.not_le.mp c4]
  · by_cases c1 : k = nI 3
    · by_cases c4 : t + nI 2 ≤ nI 18
      · simp only [if_neg c0, if_pos c1, if_pos c4]
      · simp only [if_neg c0, if_pos c1, if_neg c4]
    · simp only [if_neg c0, if_neg c1]
theorem J_nearer {a g : Int32} (hp : kPost b) : kJ 24 0 [some (.ref b), some (.int a), some (.int g)] [] (mi, ml, MR, 95) Q = Q (some (.int (if a < g then (if g < a + mi b 11 then g else a + mi b 11) else (if a - mi b 11 < g then g else a - mi b 11)))) (mi, ml, MR, 95) := by
  obtain ⟨pis, ⟨r1, r2, r3, r4, r5, r6, r7, r8, r9, r10, r11, r12⟩, ⟨a1, a2, a3, a4, a5, a6, a7, a8, a9, a10, a11, a12⟩, e1, e2, e3, e4, e5, e6, e7, e8, e9, e10, e11, e12⟩ := hp
  simp only [↓s24_0, ↓s24_1, ↓s24_2, ↓s24_5, ↓s24_6, ↓s24_7, ↓s24_10, ↓s24_11, ↓s24_12, ↓s24_15, ↓s24_16, ↓s24_17, ↓s24_18, ↓s24_21, ↓s24_22, ↓s24_23, ↓s24_26, kNLn, kNLi, kNLr, va_rf_s, kOl_n, kOl_s, kap_n, kap_c, kb0, kb1, kbif, pis, r1, r2, r3, r4, r5, r6, r7, r8, r9, r10, r11, r12, a1, a2, a3, a4, a5, a6, a7, a8, a9, a10, a11, a12, e1, e2, e3, e4, e5, e6, e7, e8, e9, e10, e11, e12]
  by_cases c0 : a < g
  · simp [c0, Int32.not_le.mpr c0]
  · simp [c0, Int32.not_lt.mp c0]
theorem J_cheer {v : Int32} (hp : kPost b) (hi : p < 5) : kJ 26 0 [some (.ref b), some (.int (nI p)), some (.int v), none] [] (mi, ml, MR, 95) Q = Q none (kup mi (b + 3) p (if mi (b + 3) p + v < 0 then nI 0 else if nI 20 < mi (b + 3) p + v then nI 20 else mi (b + 3) p + v), ml, MR, 95) := by
  obtain ⟨pis, ⟨r1, r2, r3, r4, r5, r6, r7, r8, r9, r10, r11, r12⟩, ⟨a1, a2, a3, a4, a5, a6, a7, a8, a9, a10, a11, a12⟩, e1, e2, e3, e4, e5, e6, e7, e8, e9, e10, e11, e12⟩ := hp
  have hc : (nI p).toNatClampNeg = p := nI_clamp (by omega)
  have hv : vp_in (nI p) 5 := vp_in_nI hi (by decide)
  simp only [↓s26_0, ↓s26_1, ↓s26_4, ↓s26_5, ↓s26_6, ↓s26_7, ↓s26_8, ↓s26_9, ↓s26_10, ↓s26_13, ↓s26_14, ↓s26_15, ↓s26_18, ↓s26_19, ↓s26_22, ↓s26_23, ↓s26_25, ↓s26_28, ↓s26_30, ↓s26_33, ↓s26_34, ↓s26_35, kNLn, kNLi, kNLr, va_rf_s, kOl_n, kOl_s, kap_n, kap_c, kb0, kb1, kbif, pis, r1, r2, r3, r4, r5, r6, r7, r8, r9, r10, r11, r12, a1, a2, a3, a4, a5, a6, a7, a8, a9, a10, a11, a12, e1, e2, e3, e4, e5, e6, e7, e8, e9, e10, e11, e12, hc, hv, true_and]
  by_cases c0 : mi (b + 3) p + v < 0
  · simp [c0, Int32.not_le.mpr c0]
  · by_cases c1 : nI 20 < mi (b + 3) p + v
    · simp [c0, c1, Int32.not_lt.mp c0, Int32.not_le.mpr c1]
    · simp [c0, c1, Int32.not_lt.mp c0, Int32.not_lt.mp c1]
theorem J_hasOne {x : Int32} (hp : kPost b) : kJ 7 0 [some (.ref b), some (.int x)] [] (mi, ml, MR, 95) Q = Q (some (.int (if 0 ≤ x ∧ x < mi b 0 then nI 1 else nI 0))) (mi, ml, MR, 95) := by
  obtain ⟨pis, ⟨r1, r2, r3, r4, r5, r6, r7, r8, r9, r10, r11, r12⟩, ⟨a1, a2, a3, a4, a5, a6, a7, a8, a9, a10, a11, a12⟩, e1, e2, e3, e4, e5, e6, e7, e8, e9, e10, e11, e12⟩ := hp
  simp only [↓s7_0, ↓s7_1, ↓s7_4, ↓s7_5, ↓s7_6, ↓s7_9, ↓s7_12, ↓s7_13, ↓s7_16, ↓s7_17, kNLn, kNLi, kNLr, va_rf_s, kOl_n, kOl_s, kap_n, kap_c, kb0, kb1, kbif, pis, r1, r2, r3, r4, r5, r6, r7, r8, r9, r10, r11, r12, a1, a2, a3, a4, a5, a6, a7, a8, a9, a10, a11, a12, e1, e2, e3, e4, e5, e6, e7, e8, e9, e10, e11, e12]
  by_cases c0 : x < 0
  · simp [c0, Int32.not_le.mpr c0]
  · by_cases c1 : x < mi b 0
    · simp [c0, c1, Int32.not_lt.mp c0, Int32.not_le.mpr c1]
    · simp [c0, c1, Int32.not_lt.mp c0, Int32.not_lt.mp c1]
theorem J_hasLetter {x : Int32} (hp : kPost b) : kJ 8 0 [some (.ref b), some (.int x)] [] (mi, ml, MR, 95) Q = Q (some (.int (if 0 ≤ x ∧ x < mi b 4 then nI 1 else nI 0))) (mi, ml, MR, 95) := by
  obtain ⟨pis, ⟨r1, r2, r3, r4, r5, r6, r7, r8, r9, r10, r11, r12⟩, ⟨a1, a2, a3, a4, a5, a6, a7, a8, a9, a10, a11, a12⟩, e1, e2, e3, e4, e5, e6, e7, e8, e9, e10, e11, e12⟩ := hp
  simp only [↓s8_0, ↓s8_1, ↓s8_4, ↓s8_5, ↓s8_6, ↓s8_9, ↓s8_12, ↓s8_13, ↓s8_16, ↓s8_17, kNLn, kNLi, kNLr, va_rf_s, kOl_n, kOl_s, kap_n, kap_c, kb0, kb1, kbif, pis, r1, r2, r3, r4, r5, r6, r7, r8, r9, r10, r11, r12, a1, a2, a3, a4, a5, a6, a7, a8, a9, a10, a11, a12, e1, e2, e3, e4, e5, e6, e7, e8, e9, e10, e11, e12]
  by_cases c0 : x < 0
  · simp [c0, Int32.not_le.mpr c0]
  · by_cases c1 : x < mi b 4
    · simp [c0, c1, Int32.not_lt.mp c0, Int32.not_le.mpr c1]
    · simp [c0, c1, Int32.not_lt.mp c0, Int32.not_lt.mp c1]
end LEAF
