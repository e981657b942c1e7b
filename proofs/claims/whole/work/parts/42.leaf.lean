/-! leaves -/
theorem kb0 : (nI 0 = 0 ∨ nI 0 = 1) = True := by decide
theorem kb1 : (nI 1 = 0 ∨ nI 1 = 1) = True := by decide
theorem kbif (c : Prop) [Decidable c] : ((if c then nI 1 else nI 0) = 0 ∨ (if c then nI 1 else nI 0) = 1) = True := by
  split <;> decide
theorem kz {n : Nat} (h : n < 2 ^ 31) : (nI n = 0) = (n = 0) := by
  rw [← nI_0]; exact propext (nI_eq h (by decide))
section LEAF
variable {mi : Nat → Nat → Int32} {ml : Nat → Nat → Int64} {m : kMem} {Q : Option Value → kMem → Prop} {b i k t p : Nat}
theorem J_within {v a c : Int32} : kJ 90 0 [some (.int v), some (.int a), some (.int c)] [] m Q = Q (some (.int (if a ≤ v ∧ v ≤ c then nI 1 else nI 0))) m := by
  simp only [↓s90_0, ↓s90_1, ↓s90_2, ↓s90_5, ↓s90_6, ↓s90_7, ↓s90_10, ↓s90_11, ↓s90_14, ↓s90_15, kNL_n, kNL_i, kNL_r, va_rf_s, kOl_n, kOl_s, kap_n, kap_c, kb0, kb1, kbif]
  by_cases h1 : a ≤ v
  · by_cases h2 : v ≤ c
    · have h3 : ¬ v < a := Int32.not_lt.mpr h1
      have h4 : ¬ c < v := Int32.not_lt.mpr h2
      simp [h1, h2, h3, h4]
    · have h3 : ¬ v < a := Int32.not_lt.mpr h1
      have h4 : c < v := Int32.not_le.mp h2
      simp [h2, h3, h4]
  · have h3 : v < a := Int32.not_le.mp h1
    simp [h1, h3]
theorem J_way (hp : kPost b) (hi : i < 6) : kJ 9 0 [some (.ref b), some (.int (nI i))] [] (mi, ml, MR, 95) Q = Q (some (.int (if mi (b + 9) i = 0 ∨ mi (b + 9) i = nI 1 then nI 1 else nI 0))) (mi, ml, MR, 95) := by
  obtain ⟨pis, ⟨r1, r2, r3, r4, r5, r6, r7, r8, r9, r10, r11, r12⟩, a1, a2, a3, a4, a5, a6, a7, a8, a9, a10, a11, a12⟩ := hp
  have hc : (nI i).toNatClampNeg = i := nI_clamp (by omega)
  have hv : vp_in (nI i) 6 := vp_in_nI hi (by decide)
  simp only [↓s9_0, ↓s9_1, ↓s9_4, ↓s9_5, ↓s9_6, ↓s9_9, ↓s9_10, ↓s9_13, ↓s9_14, ↓s9_15, ↓s9_16, ↓s9_19, ↓s9_20, ↓s9_23, ↓s9_24, kNL_n, kNL_i, kNL_r, va_rf_s, kOl_n, kOl_s, kap_n, kap_c, kb0, kb1, kbif, pis, r1, r2, r3, r4, r5, r6, r7, r8, r9, r10, r11, r12, a1, a2, a3, a4, a5, a6, a7, a8, a9, a10, a11, a12, hc, hv, true_and]
  by_cases h1 : mi (b + 9) i = 0
  · simp [h1]
  · by_cases h2 : mi (b + 9) i = nI 1
    · simp [h1, h2]
    · simp [h1, h2]
theorem J_heads (hp : kPost b) (hi : i < 6) : kJ 10 0 [some (.ref b), some (.int (nI i))] [] (mi, ml, MR, 95) Q = Q (some (.int (if mi (b + 9) i = 0 then mi (b + 6) i else mi (b + 5) i))) (mi, ml, MR, 95) := by
  obtain ⟨pis, ⟨r1, r2, r3, r4, r5, r6, r7, r8, r9, r10, r11, r12⟩, a1, a2, a3, a4, a5, a6, a7, a8, a9, a10, a11, a12⟩ := hp
  have hc : (nI i).toNatClampNeg = i := nI_clamp (by omega)
  have hv : vp_in (nI i) 6 := vp_in_nI hi (by decide)
  simp only [↓s10_0, ↓s10_1, ↓s10_4, ↓s10_5, ↓s10_6, ↓s10_9, ↓s10_10, ↓s10_13, ↓s10_14, ↓s10_15, ↓s10_18, ↓s10_19, ↓s10_22, ↓s10_23, ↓s10_24, kNL_n, kNL_i, kNL_r, va_rf_s, kOl_n, kOl_s, kap_n, kap_c, kb0, kb1, kbif, pis, r1, r2, r3, r4, r5, r6, r7, r8, r9, r10, r11, r12, a1, a2, a3, a4, a5, a6, a7, a8, a9, a10, a11, a12, hc, hv, true_and]
  by_cases h1 : mi (b + 9) i = 0
  · simp [h1]
  · simp [h1]
theorem J_felt {k t : Int32} : kJ 96 0 [some (.int k), some (.int t), none] [] m Q = Q (some (.int (if k = nI 1 then nI 2 * (t - nI 9) else if k = nI 2 then (if 0 ≤ t - nI 9 then t - nI 9 else (t - nI 9) / nI 2) else if k = nI 3 then (if 0 ≤ t - nI 9 then t - nI 9 else (t - nI 9) / nI 2) + nI 1 else t - nI 9))) m := by
  have h2 : ¬ nI 2 = 0 := by decide
  simp only [↓s96_0, ↓s96_1, ↓s96_3, ↓s96_4, ↓s96_5, ↓s96_6, ↓s96_32, ↓s96_33, ↓s96_34, ↓s96_35, ↓s96_36, ↓s96_37, ↓s96_40, ↓s96_41, ↓s96_42, ↓s96_43, ↓s96_46, ↓s96_47, ↓s96_48, ↓s96_49, ↓s96_52, ↓s96_53, ↓s96_54, ↓s96_55, ↓s96_58, ↓s96_59, ↓s96_60, ↓s96_61, ↓s96_62, ↓s96_63, kNL_n, kNL_i, kNL_r, va_rf_s, kOl_n, kOl_s, kap_n, kap_c, kb0, kb1, kbif, h2, not_false_eq_true]
  repeat' split
  all_goals first | rfl | (exfalso; contradiction)
end LEAF
