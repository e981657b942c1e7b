/-! the constructors -/
theorem ka_0 : ((kAt 0).1 = 4) = True := eq_true (by decide)
theorem ka_1 : ((kAt 1).1 = 1) = True := eq_true (by decide)
theorem ka_2 : (kAt 2 = (10, (nI 5).toNatClampNeg)) = True := eq_true (by decide)
theorem ka_3 : (kAt 3 = (10, (nI 5).toNatClampNeg)) = True := eq_true (by decide)
theorem ka_4 : (kAt 4 = (10, (nI 5).toNatClampNeg)) = True := eq_true (by decide)
theorem ka_5 : (kAt 5 = (10, (nI 6).toNatClampNeg)) = True := eq_true (by decide)
theorem ka_6 : (kAt 6 = (10, (nI 6).toNatClampNeg)) = True := eq_true (by decide)
theorem ka_7 : (kAt 7 = (10, (nI 6).toNatClampNeg)) = True := eq_true (by decide)
theorem ka_8 : (kAt 8 = (10, (nI 6).toNatClampNeg)) = True := eq_true (by decide)
theorem ka_9 : (kAt 9 = (10, (nI 6).toNatClampNeg)) = True := eq_true (by decide)
theorem ka_10 : (kAt 10 = (10, (nI 6).toNatClampNeg)) = True := eq_true (by decide)
theorem ka_11 : (kAt 11 = (10, (nI 6).toNatClampNeg)) = True := eq_true (by decide)
theorem ka_12 : (kAt 12 = (10, (nI 6).toNatClampNeg)) = True := eq_true (by decide)
theorem ka_13 : (kAt 13 = (10, (nI 6).toNatClampNeg)) = True := eq_true (by decide)
theorem ka_14 : ((kAt 14).1 = 1) = True := eq_true (by decide)
theorem ka_15 : (kAt 15 = (10, (nI 5).toNatClampNeg)) = True := eq_true (by decide)
theorem ka_16 : (kAt 16 = (10, (nI 5).toNatClampNeg)) = True := eq_true (by decide)
theorem ka_17 : (kAt 17 = (10, (nI 5).toNatClampNeg)) = True := eq_true (by decide)
theorem ka_18 : (kAt 18 = (10, (nI 6).toNatClampNeg)) = True := eq_true (by decide)
theorem ka_19 : (kAt 19 = (10, (nI 6).toNatClampNeg)) = True := eq_true (by decide)
theorem ka_20 : (kAt 20 = (10, (nI 6).toNatClampNeg)) = True := eq_true (by decide)
theorem ka_21 : (kAt 21 = (10, (nI 6).toNatClampNeg)) = True := eq_true (by decide)
theorem ka_22 : (kAt 22 = (10, (nI 6).toNatClampNeg)) = True := eq_true (by decide)
theorem ka_23 : (kAt 23 = (10, (nI 6).toNatClampNeg)) = True := eq_true (by decide)
theorem ka_24 : (kAt 24 = (10, (nI 6).toNatClampNeg)) = True := eq_true (by decide)
theorem ka_25 : (kAt 25 = (10, (nI 6).toNatClampNeg)) = True := eq_true (by decide)
theorem ka_26 : (kAt 26 = (10, (nI 6).toNatClampNeg)) = True := eq_true (by decide)
theorem ka_27 : ((kAt 27).1 = 0) = True := eq_true (by decide)
theorem ka_28 : ((kAt 28).1 = 3) = True := eq_true (by decide)
theorem ka_29 : (kAt 29 = (10, (nI 160).toNatClampNeg)) = True := eq_true (by decide)
theorem ka_30 : ((kAt 30).1 = 1) = True := eq_true (by decide)
theorem ka_31 : (kAt 31 = (10, (nI 5).toNatClampNeg)) = True := eq_true (by decide)
theorem ka_32 : (kAt 32 = (10, (nI 5).toNatClampNeg)) = True := eq_true (by decide)
theorem ka_33 : (kAt 33 = (10, (nI 5).toNatClampNeg)) = True := eq_true (by decide)
theorem ka_34 : (kAt 34 = (10, (nI 6).toNatClampNeg)) = True := eq_true (by decide)
theorem ka_35 : (kAt 35 = (10, (nI 6).toNatClampNeg)) = True := eq_true (by decide)
theorem ka_36 : (kAt 36 = (10, (nI 6).toNatClampNeg)) = True := eq_true (by decide)
theorem ka_37 : (kAt 37 = (10, (nI 6).toNatClampNeg)) = True := eq_true (by decide)
theorem ka_38 : (kAt 38 = (10, (nI 6).toNatClampNeg)) = True := eq_true (by decide)
theorem ka_39 : (kAt 39 = (10, (nI 6).toNatClampNeg)) = True := eq_true (by decide)
theorem ka_40 : (kAt 40 = (10, (nI 6).toNatClampNeg)) = True := eq_true (by decide)
theorem ka_41 : (kAt 41 = (10, (nI 6).toNatClampNeg)) = True := eq_true (by decide)
theorem ka_42 : (kAt 42 = (10, (nI 6).toNatClampNeg)) = True := eq_true (by decide)
theorem ka_43 : (kAt 43 = (10, (nI 4).toNatClampNeg)) = True := eq_true (by decide)
theorem ka_44 : (kAt 44 = (12, (nI 2).toNatClampNeg)) = True := eq_true (by decide)
theorem ka_45 : (kAt 45 = (11, (nI 2).toNatClampNeg)) = True := eq_true (by decide)
theorem ka_46 : (kAt 46 = (13, (nI 4).toNatClampNeg)) = True := eq_true (by decide)
theorem ka_47 : (kAt 47 = (10, (nI 1995).toNatClampNeg)) = True := eq_true (by decide)
theorem ka_48 : (kAt 48 = (10, (nI 21).toNatClampNeg)) = True := eq_true (by decide)
theorem ka_49 : ((kAt 49).1 = 1) = True := eq_true (by decide)
theorem ka_50 : (kAt 50 = (10, (nI 5).toNatClampNeg)) = True := eq_true (by decide)
theorem ka_51 : (kAt 51 = (10, (nI 5).toNatClampNeg)) = True := eq_true (by decide)
theorem ka_52 : (kAt 52 = (10, (nI 5).toNatClampNeg)) = True := eq_true (by decide)
theorem ka_53 : (kAt 53 = (10, (nI 6).toNatClampNeg)) = True := eq_true (by decide)
theorem ka_54 : (kAt 54 = (10, (nI 6).toNatClampNeg)) = True := eq_true (by decide)
theorem ka_55 : (kAt 55 = (10, (nI 6).toNatClampNeg)) = True := eq_true (by decide)
theorem ka_56 : (kAt 56 = (10, (nI 6).toNatClampNeg)) = True := eq_true (by decide)
theorem ka_57 : (kAt 57 = (10, (nI 6).toNatClampNeg)) = True := eq_true (by decide)
theorem ka_58 : (kAt 58 = (10, (nI 6).toNatClampNeg)) = True := eq_true (by decide)
theorem ka_59 : (kAt 59 = (10, (nI 6).toNatClampNeg)) = True := eq_true (by decide)
theorem ka_60 : (kAt 60 = (10, (nI 6).toNatClampNeg)) = True := eq_true (by decide)
theorem ka_61 : (kAt 61 = (10, (nI 6).toNatClampNeg)) = True := eq_true (by decide)
theorem ka_62 : ((kAt 62).1 = 1) = True := eq_true (by decide)
theorem ka_63 : (kAt 63 = (10, (nI 5).toNatClampNeg)) = True := eq_true (by decide)
theorem ka_64 : (kAt 64 = (10, (nI 5).toNatClampNeg)) = True := eq_true (by decide)
theorem ka_65 : (kAt 65 = (10, (nI 5).toNatClampNeg)) = True := eq_true (by decide)
theorem ka_66 : (kAt 66 = (10, (nI 6).toNatClampNeg)) = True := eq_true (by decide)
theorem ka_67 : (kAt 67 = (10, (nI 6).toNatClampNeg)) = True := eq_true (by decide)
theorem ka_68 : (kAt 68 = (10, (nI 6).toNatClampNeg)) = True := eq_true (by decide)
theorem ka_69 : (kAt 69 = (10, (nI 6).toNatClampNeg)) = True := eq_true (by decide)
theorem ka_70 : (kAt 70 = (10, (nI 6).toNatClampNeg)) = True := eq_true (by decide)
theorem ka_71 : (kAt 71 = (10, (nI 6).toNatClampNeg)) = True := eq_true (by decide)
theorem ka_72 : (kAt 72 = (10, (nI 6).toNatClampNeg)) = True := eq_true (by decide)
theorem ka_73 : (kAt 73 = (10, (nI 6).toNatClampNeg)) = True := eq_true (by decide)
theorem ka_74 : (kAt 74 = (10, (nI 6).toNatClampNeg)) = True := eq_true (by decide)
theorem ka_75 : ((kAt 75).1 = 2) = True := eq_true (by decide)
theorem ka_76 : (kAt 76 = (10, (nI 40).toNatClampNeg)) = True := eq_true (by decide)
theorem ka_77 : ((kAt 77).1 = 2) = True := eq_true (by decide)
theorem ka_78 : (kAt 78 = (10, (nI 40).toNatClampNeg)) = True := eq_true (by decide)
theorem ka_79 : ((kAt 79).1 = 2) = True := eq_true (by decide)
theorem ka_80 : (kAt 80 = (10, (nI 40).toNatClampNeg)) = True := eq_true (by decide)
theorem ka_81 : ((kAt 81).1 = 2) = True := eq_true (by decide)
theorem ka_82 : (kAt 82 = (10, (nI 40).toNatClampNeg)) = True := eq_true (by decide)
theorem ka_83 : ((kAt 83).1 = 5) = True := eq_true (by decide)
theorem ka_84 : (kAt 84 = (10, (nI 222).toNatClampNeg)) = True := eq_true (by decide)
theorem ka_85 : (kAt 85 = (10, (nI 74).toNatClampNeg)) = True := eq_true (by decide)
theorem ka_86 : (kAt 86 = (11, (nI 2).toNatClampNeg)) = True := eq_true (by decide)
theorem ka_87 : (kAt 87 = (10, (nI 74).toNatClampNeg)) = True := eq_true (by decide)
theorem ka_88 : (kAt 88 = (10, (nI 160).toNatClampNeg)) = True := eq_true (by decide)
theorem ka_89 : (kAt 89 = (10, (nI 105).toNatClampNeg)) = True := eq_true (by decide)
theorem ka_90 : (kAt 90 = (10, (nI 1995).toNatClampNeg)) = True := eq_true (by decide)
theorem ka_91 : (kAt 91 = (10, (nI 4).toNatClampNeg)) = True := eq_true (by decide)
theorem ka_92 : (kAt 92 = (10, (nI 4).toNatClampNeg)) = True := eq_true (by decide)
theorem ka_93 : (kAt 93 = (10, (nI 160).toNatClampNeg)) = True := eq_true (by decide)
theorem ka_94 : (kAt 94 = (10, (nI 74).toNatClampNeg)) = True := eq_true (by decide)
theorem kc_2 : ((nI 2).toNatClampNeg ≤ 2000) = True := eq_true (by decide)
theorem kn_2 : (nI 2 < 0) = False := by decide
theorem kc_4 : ((nI 4).toNatClampNeg ≤ 2000) = True := eq_true (by decide)
theorem kn_4 : (nI 4 < 0) = False := by decide
theorem kc_5 : ((nI 5).toNatClampNeg ≤ 2000) = True := eq_true (by decide)
theorem kn_5 : (nI 5 < 0) = False := by decide
theorem kc_6 : ((nI 6).toNatClampNeg ≤ 2000) = True := eq_true (by decide)
theorem kn_6 : (nI 6 < 0) = False := by decide
theorem kc_21 : ((nI 21).toNatClampNeg ≤ 2000) = True := eq_true (by decide)
theorem kn_21 : (nI 21 < 0) = False := by decide
theorem kc_40 : ((nI 40).toNatClampNeg ≤ 2000) = True := eq_true (by decide)
theorem kn_40 : (nI 40 < 0) = False := by decide
theorem kc_74 : ((nI 74).toNatClampNeg ≤ 2000) = True := eq_true (by decide)
theorem kn_74 : (nI 74 < 0) = False := by decide
theorem kc_105 : ((nI 105).toNatClampNeg ≤ 2000) = True := eq_true (by decide)
theorem kn_105 : (nI 105 < 0) = False := by decide
theorem kc_160 : ((nI 160).toNatClampNeg ≤ 2000) = True := eq_true (by decide)
theorem kn_160 : (nI 160 < 0) = False := by decide
theorem kc_222 : ((nI 222).toNatClampNeg ≤ 2000) = True := eq_true (by decide)
theorem kn_222 : (nI 222 < 0) = False := by decide
theorem kc_1995 : ((nI 1995).toNatClampNeg ≤ 2000) = True := eq_true (by decide)
theorem kn_1995 : (nI 1995 < 0) = False := by decide
theorem kis_3_1_1 : (kIs 3 1 1 = true) = True := eq_true (by decide)
theorem kis_4_1_1 : (kIs 4 1 1 = true) = True := eq_true (by decide)
theorem kis_5_1_1 : (kIs 5 1 1 = true) = True := eq_true (by decide)
theorem kis_6_1_1 : (kIs 6 1 1 = true) = True := eq_true (by decide)
theorem kis_7_1_1 : (kIs 7 1 1 = true) = True := eq_true (by decide)
theorem kis_8_1_1 : (kIs 8 1 1 = true) = True := eq_true (by decide)
theorem kis_9_1_1 : (kIs 9 1 1 = true) = True := eq_true (by decide)
theorem kis_10_1_1 : (kIs 10 1 1 = true) = True := eq_true (by decide)
theorem kis_11_1_1 : (kIs 11 1 1 = true) = True := eq_true (by decide)
theorem kis_12_1_1 : (kIs 12 1 1 = true) = True := eq_true (by decide)
theorem kis_13_1_1 : (kIs 13 1 1 = true) = True := eq_true (by decide)
theorem kis_14_1_1 : (kIs 14 1 1 = true) = True := eq_true (by decide)
def mrP1 (mr : Nat → Nat → Option Nat) : Nat → Nat → Option Nat := (kupR (kRow (kupR (kRow (kupR (kRow (kupR (kRow (kupR (kRow (kupR (kRow (kupR (kRow (kupR (kRow (kupR (kRow (kupR (kRow (kupR (kRow (kupR (kRow mr 2 (fun _ => none)) 1 1 (some 2)) 3 (fun _ => none)) 1 2 (some 3)) 4 (fun _ => none)) 1 3 (some 4)) 5 (fun _ => none)) 1 5 (some 5)) 6 (fun _ => none)) 1 6 (some 6)) 7 (fun _ => none)) 1 7 (some 7)) 8 (fun _ => none)) 1 8 (some 8)) 9 (fun _ => none)) 1 9 (some 9)) 10 (fun _ => none)) 1 10 (some 10)) 11 (fun _ => none)) 1 14 (some 11)) 12 (fun _ => none)) 1 15 (some 12)) 13 (fun _ => none)) 1 16 (some 13))
theorem I_post_1 {mi : Nat → Nat → Int32} {ml : Nat → Nat → Int64} {mr : Nat → Nat → Option Nat} {Q : Option Value → kMem → Prop} (hz : mi 1 = fun _ => 0) (hQ : ∀ mi' ml', (∀ q, ¬ (1 ≤ q ∧ q ≤ 13) → mi' q = mi q) → (mi' 1 0 = nI 0 ∧ mi' 1 4 = nI 0 ∧ mi' 1 11 = nI 2 ∧ mi' 1 12 = nI 0 ∧ mi' 1 13 = nI 0) → Q none (mi', ml', mrP1 mr, 14)) : kJ 4 0 [some (.ref 1)] [] (mi, ml, mr, 2) Q := by
  simp only [↓s4_0, ↓s4_1, ↓s4_4, ↓s4_5, ↓s4_6, ↓s4_8, ↓s4_11, ↓s4_12, ↓s4_13, ↓s4_15, ↓s4_18, ↓s4_19, ↓s4_20, ↓s4_22, ↓s4_25, ↓s4_26, ↓s4_28, ↓s4_30, ↓s4_33, ↓s4_34, ↓s4_36, ↓s4_38, ↓s4_41, ↓s4_42, ↓s4_44, ↓s4_46, ↓s4_49, ↓s4_50, ↓s4_52, ↓s4_54, ↓s4_57, ↓s4_58, ↓s4_60, ↓s4_62, ↓s4_65, ↓s4_66, ↓s4_68, ↓s4_70, ↓s4_73, ↓s4_74, ↓s4_75, ↓s4_78, ↓s4_79, ↓s4_81, ↓s4_83, ↓s4_86, ↓s4_87, ↓s4_89, ↓s4_91, ↓s4_94, ↓s4_95, ↓s4_97, ↓s4_99, ↓s4_102, kNLn, kNLi, kNLr, va_rf_s, kOl_n, kOl_s, kap_n, kap_c, kb0, kb1, kbif, ka_2, ka_3, ka_4, ka_5, ka_6, ka_7, ka_8, ka_9, ka_10, ka_11, ka_12, ka_13, kc_2, kn_2, kc_4, kn_4, kc_5, kn_5, kc_6, kn_6, kc_21, kn_21, kc_40, kn_40, kc_74, kn_74, kc_105, kn_105, kc_160, kn_160, kc_222, kn_222, kc_1995, kn_1995, kis_10_1_1, kis_11_1_1, kis_12_1_1, kis_13_1_1, kis_14_1_1, kis_3_1_1, kis_4_1_1, kis_5_1_1, kis_6_1_1, kis_7_1_1, kis_8_1_1, kis_9_1_1, Nat.reduceAdd, Nat.reduceLT, Nat.reduceLeDiff, Nat.reduceEqDiff, not_false_eq_true, eq_self, true_and, and_true, or_true, true_or, false_and, or_false, false_or]
  refine hQ _ _ (fun q hq => ?_) ⟨?_, ?_, ?_, ?_, ?_⟩
  · repeat (first | rw [kRow_ne (by omega)] | rw [kup_ne (by omega)])
  · simp [kRow_ap, kup_ap, upd_ap, hz] <;> rfl
  · simp [kRow_ap, kup_ap, upd_ap, hz] <;> rfl
  · simp [kRow_ap, kup_ap, upd_ap, hz] <;> rfl
  · simp [kRow_ap, kup_ap, upd_ap, hz] <;> rfl
  · simp [kRow_ap, kup_ap, upd_ap, hz] <;> rfl
theorem kis_16_14_1 : (kIs 16 14 1 = true) = True := eq_true (by decide)
theorem kis_17_14_1 : (kIs 17 14 1 = true) = True := eq_true (by decide)
theorem kis_18_14_1 : (kIs 18 14 1 = true) = True := eq_true (by decide)
theorem kis_19_14_1 : (kIs 19 14 1 = true) = True := eq_true (by decide)
theorem kis_20_14_1 : (kIs 20 14 1 = true) = True := eq_true (by decide)
theorem kis_21_14_1 : (kIs 21 14 1 = true) = True := eq_true (by decide)
theorem kis_22_14_1 : (kIs 22 14 1 = true) = True := eq_true (by decide)
theorem kis_23_14_1 : (kIs 23 14 1 = true) = True := eq_true (by decide)
theorem kis_24_14_1 : (kIs 24 14 1 = true) = True := eq_true (by decide)
theorem kis_25_14_1 : (kIs 25 14 1 = true) = True := eq_true (by decide)
theorem kis_26_14_1 : (kIs 26 14 1 = true) = True := eq_true (by decide)
theorem kis_27_14_1 : (kIs 27 14 1 = true) = True := eq_true (by decide)
def mrP14 (mr : Nat → Nat → Option Nat) : Nat → Nat → Option Nat := (kupR (kRow (kupR (kRow (kupR (kRow (kupR (kRow (kupR (kRow (kupR (kRow (kupR (kRow (kupR (kRow (kupR (kRow (kupR (kRow (kupR (kRow (kupR (kRow mr 15 (fun _ => none)) 14 1 (some 15)) 16 (fun _ => none)) 14 2 (some 16)) 17 (fun _ => none)) 14 3 (some 17)) 18 (fun _ => none)) 14 5 (some 18)) 19 (fun _ => none)) 14 6 (some 19)) 20 (fun _ => none)) 14 7 (some 20)) 21 (fun _ => none)) 14 8 (some 21)) 22 (fun _ => none)) 14 9 (some 22)) 23 (fun _ => none)) 14 10 (some 23)) 24 (fun _ => none)) 14 14 (some 24)) 25 (fun _ => none)) 14 15 (some 25)) 26 (fun _ => none)) 14 16 (some 26))
theorem I_post_14 {mi : Nat → Nat → Int32} {ml : Nat → Nat → Int64} {mr : Nat → Nat → Option Nat} {Q : Option Value → kMem → Prop} (hz : mi 14 = fun _ => 0) (hQ : ∀ mi' ml', (∀ q, ¬ (14 ≤ q ∧ q ≤ 26) → mi' q = mi q) → (mi' 14 0 = nI 0 ∧ mi' 14 4 = nI 0 ∧ mi' 14 11 = nI 2 ∧ mi' 14 12 = nI 0 ∧ mi' 14 13 = nI 0) → Q none (mi', ml', mrP14 mr, 27)) : kJ 4 0 [some (.ref 14)] [] (mi, ml, mr, 15) Q := by
  simp only [↓s4_0, ↓s4_1, ↓s4_4, ↓s4_5, ↓s4_6, ↓s4_8, ↓s4_11, ↓s4_12, ↓s4_13, ↓s4_15, ↓s4_18, ↓s4_19, ↓s4_20, ↓s4_22, ↓s4_25, ↓s4_26, ↓s4_28, ↓s4_30, ↓s4_33, ↓s4_34, ↓s4_36, ↓s4_38, ↓s4_41, ↓s4_42, ↓s4_44, ↓s4_46, ↓s4_49, ↓s4_50, ↓s4_52, ↓s4_54, ↓s4_57, ↓s4_58, ↓s4_60, ↓s4_62, ↓s4_65, ↓s4_66, ↓s4_68, ↓s4_70, ↓s4_73, ↓s4_74, ↓s4_75, ↓s4_78, ↓s4_79, ↓s4_81, ↓s4_83, ↓s4_86, ↓s4_87, ↓s4_89, ↓s4_91, ↓s4_94, ↓s4_95, ↓s4_97, ↓s4_99, ↓s4_102, kNLn, kNLi, kNLr, va_rf_s, kOl_n, kOl_s, kap_n, kap_c, kb0, kb1, kbif, ka_15, ka_16, ka_17, ka_18, ka_19, ka_20, ka_21, ka_22, ka_23, ka_24, ka_25, ka_26, kc_2, kn_2, kc_4, kn_4, kc_5, kn_5, kc_6, kn_6, kc_21, kn_21, kc_40, kn_40, kc_74, kn_74, kc_105, kn_105, kc_160, kn_160, kc_222, kn_222, kc_1995, kn_1995, kis_16_14_1, kis_17_14_1, kis_18_14_1, kis_19_14_1, kis_20_14_1, kis_21_14_1, kis_22_14_1, kis_23_14_1, kis_24_14_1, kis_25_14_1, kis_26_14_1, kis_27_14_1, Nat.reduceAdd, Nat.reduceLT, Nat.reduceLeDiff, Nat.reduceEqDiff, not_false_eq_true, eq_self, true_and, and_true, or_true, true_or, false_and, or_false, false_or]
  refine hQ _ _ (fun q hq => ?_) ⟨?_, ?_, ?_, ?_, ?_⟩
  · repeat (first | rw [kRow_ne (by omega)] | rw [kup_ne (by omega)])
  · simp [kRow_ap, kup_ap, upd_ap, hz] <;> rfl
  · simp [kRow_ap, kup_ap, upd_ap, hz] <;> rfl
  · simp [kRow_ap, kup_ap, upd_ap, hz] <;> rfl
  · simp [kRow_ap, kup_ap, upd_ap, hz] <;> rfl
  · simp [kRow_ap, kup_ap, upd_ap, hz] <;> rfl
theorem kis_32_30_1 : (kIs 32 30 1 = true) = True := eq_true (by decide)
theorem kis_33_30_1 : (kIs 33 30 1 = true) = True := eq_true (by decide)
theorem kis_34_30_1 : (kIs 34 30 1 = true) = True := eq_true (by decide)
theorem kis_35_30_1 : (kIs 35 30 1 = true) = True := eq_true (by decide)
theorem kis_36_30_1 : (kIs 36 30 1 = true) = True := eq_true (by decide)
theorem kis_37_30_1 : (kIs 37 30 1 = true) = True := eq_true (by decide)
theorem kis_38_30_1 : (kIs 38 30 1 = true) = True := eq_true (by decide)
theorem kis_39_30_1 : (kIs 39 30 1 = true) = True := eq_true (by decide)
theorem kis_40_30_1 : (kIs 40 30 1 = true) = True := eq_true (by decide)
theorem kis_41_30_1 : (kIs 41 30 1 = true) = True := eq_true (by decide)
theorem kis_42_30_1 : (kIs 42 30 1 = true) = True := eq_true (by decide)
theorem kis_43_30_1 : (kIs 43 30 1 = true) = True := eq_true (by decide)
def mrP30 (mr : Nat → Nat → Option Nat) : Nat → Nat → Option Nat := (kupR (kRow (kupR (kRow (kupR (kRow (kupR (kRow (kupR (kRow (kupR (kRow (kupR (kRow (kupR (kRow (kupR (kRow (kupR (kRow (kupR (kRow (kupR (kRow mr 31 (fun _ => none)) 30 1 (some 31)) 32 (fun _ => none)) 30 2 (some 32)) 33 (fun _ => none)) 30 3 (some 33)) 34 (fun _ => none)) 30 5 (some 34)) 35 (fun _ => none)) 30 6 (some 35)) 36 (fun _ => none)) 30 7 (some 36)) 37 (fun _ => none)) 30 8 (some 37)) 38 (fun _ => none)) 30 9 (some 38)) 39 (fun _ => none)) 30 10 (some 39)) 40 (fun _ => none)) 30 14 (some 40)) 41 (fun _ => none)) 30 15 (some 41)) 42 (fun _ => none)) 30 16 (some 42))
theorem I_post_30 {mi : Nat → Nat → Int32} {ml : Nat → Nat → Int64} {mr : Nat → Nat → Option Nat} {Q : Option Value → kMem → Prop} (hz : mi 30 = fun _ => 0) (hQ : ∀ mi' ml', (∀ q, ¬ (30 ≤ q ∧ q ≤ 42) → mi' q = mi q) → (mi' 30 0 = nI 0 ∧ mi' 30 4 = nI 0 ∧ mi' 30 11 = nI 2 ∧ mi' 30 12 = nI 0 ∧ mi' 30 13 = nI 0) → Q none (mi', ml', mrP30 mr, 43)) : kJ 4 0 [some (.ref 30)] [] (mi, ml, mr, 31) Q := by
  simp only [↓s4_0, ↓s4_1, ↓s4_4, ↓s4_5, ↓s4_6, ↓s4_8, ↓s4_11, ↓s4_12, ↓s4_13, ↓s4_15, ↓s4_18, ↓s4_19, ↓s4_20, ↓s4_22, ↓s4_25, ↓s4_26, ↓s4_28, ↓s4_30, ↓s4_33, ↓s4_34, ↓s4_36, ↓s4_38, ↓s4_41, ↓s4_42, ↓s4_44, ↓s4_46, ↓s4_49, ↓s4_50, ↓s4_52, ↓s4_54, ↓s4_57, ↓s4_58, ↓s4_60, ↓s4_62, ↓s4_65, ↓s4_66, ↓s4_68, ↓s4_70, ↓s4_73, ↓s4_74, ↓s4_75, ↓s4_78, ↓s4_79, ↓s4_81, ↓s4_83, ↓s4_86, ↓s4_87, ↓s4_89, ↓s4_91, ↓s4_94, ↓s4_95, ↓s4_97, ↓s4_99, ↓s4_102, kNLn, kNLi, kNLr, va_rf_s, kOl_n, kOl_s, kap_n, kap_c, kb0, kb1, kbif, ka_31, ka_32, ka_33, ka_34, ka_35, ka_36, ka_37, ka_38, ka_39, ka_40, ka_41, ka_42, kc_2, kn_2, kc_4, kn_4, kc_5, kn_5, kc_6, kn_6, kc_21, kn_21, kc_40, kn_40, kc_74, kn_74, kc_105, kn_105, kc_160, kn_160, kc_222, kn_222, kc_1995, kn_1995, kis_32_30_1, kis_33_30_1, kis_34_30_1, kis_35_30_1, kis_36_30_1, kis_37_30_1, kis_38_30_1, kis_39_30_1, kis_40_30_1, kis_41_30_1, kis_42_30_1, kis_43_30_1, Nat.reduceAdd, Nat.reduceLT, Nat.reduceLeDiff, Nat.reduceEqDiff, not_false_eq_true, eq_self, true_and, and_true, or_true, true_or, false_and, or_false, false_or]
  refine hQ _ _ (fun q hq => ?_) ⟨?_, ?_, ?_, ?_, ?_⟩
  · repeat (first | rw [kRow_ne (by omega)] | rw [kup_ne (by omega)])
  · simp [kRow_ap, kup_ap, upd_ap, hz] <;> rfl
  · simp [kRow_ap, kup_ap, upd_ap, hz] <;> rfl
  · simp [kRow_ap, kup_ap, upd_ap, hz] <;> rfl
  · simp [kRow_ap, kup_ap, upd_ap, hz] <;> rfl
  · simp [kRow_ap, kup_ap, upd_ap, hz] <;> rfl
theorem kis_51_49_1 : (kIs 51 49 1 = true) = True := eq_true (by decide)
theorem kis_52_49_1 : (kIs 52 49 1 = true) = True := eq_true (by decide)
theorem kis_53_49_1 : (kIs 53 49 1 = true) = True := eq_true (by decide)
theorem kis_54_49_1 : (kIs 54 49 1 = true) = True := eq_true (by decide)
theorem kis_55_49_1 : (kIs 55 49 1 = true) = True := eq_true (by decide)
theorem kis_56_49_1 : (kIs 56 49 1 = true) = True := eq_true (by decide)
theorem kis_57_49_1 : (kIs 57 49 1 = true) = True := eq_true (by decide)
theorem kis_58_49_1 : (kIs 58 49 1 = true) = True := eq_true (by decide)
theorem kis_59_49_1 : (kIs 59 49 1 = true) = True := eq_true (by decide)
theorem kis_60_49_1 : (kIs 60 49 1 = true) = True := eq_true (by decide)
theorem kis_61_49_1 : (kIs 61 49 1 = true) = True := eq_true (by decide)
theorem kis_62_49_1 : (kIs 62 49 1 = true) = True := eq_true (by decide)
def mrP49 (mr : Nat → Nat → Option Nat) : Nat → Nat → Option Nat := (kupR (kRow (kupR (kRow (kupR (kRow (kupR (kRow (kupR (kRow (kupR (kRow (kupR (kRow (kupR (kRow (kupR (kRow (kupR (kRow (kupR (kRow (kupR (kRow mr 50 (fun _ => none)) 49 1 (some 50)) 51 (fun _ => none)) 49 2 (some 51)) 52 (fun _ => none)) 49 3 (some 52)) 53 (fun _ => none)) 49 5 (some 53)) 54 (fun _ => none)) 49 6 (some 54)) 55 (fun _ => none)) 49 7 (some 55)) 56 (fun _ => none)) 49 8 (some 56)) 57 (fun _ => none)) 49 9 (some 57)) 58 (fun _ => none)) 49 10 (some 58)) 59 (fun _ => none)) 49 14 (some 59)) 60 (fun _ => none)) 49 15 (some 60)) 61 (fun _ => none)) 49 16 (some 61))
theorem I_post_49 {mi : Nat → Nat → Int32} {ml : Nat → Nat → Int64} {mr : Nat → Nat → Option Nat} {Q : Option Value → kMem → Prop} (hz : mi 49 = fun _ => 0) (hQ : ∀ mi' ml', (∀ q, ¬ (49 ≤ q ∧ q ≤ 61) → mi' q = mi q) → (mi' 49 0 = nI 0 ∧ mi' 49 4 = nI 0 ∧ mi' 49 11 = nI 2 ∧ mi' 49 12 = nI 0 ∧ mi' 49 13 = nI 0) → Q none (mi', ml', mrP49 mr, 62)) : kJ 4 0 [some (.ref 49)] [] (mi, ml, mr, 50) Q := by
  simp only [↓s4_0, ↓s4_1, ↓s4_4, ↓s4_5, ↓s4_6, ↓s4_8, ↓s4_11, ↓s4_12, ↓s4_13, ↓s4_15, ↓s4_18, ↓s4_19, ↓s4_20, ↓s4_22, ↓s4_25, ↓s4_26, ↓s4_28, ↓s4_30, ↓s4_33, ↓s4_34, ↓s4_36, ↓s4_38, ↓s4_41, ↓s4_42, ↓s4_44, ↓s4_46, ↓s4_49, ↓s4_50, ↓s4_52, ↓s4_54, ↓s4_57, ↓s4_58, ↓s4_60, ↓s4_62, ↓s4_65, ↓s4_66, ↓s4_68, ↓s4_70, ↓s4_73, ↓s4_74, ↓s4_75, ↓s4_78, ↓s4_79, ↓s4_81, ↓s4_83, ↓s4_86, ↓s4_87, ↓s4_89, ↓s4_91, ↓s4_94, ↓s4_95, ↓s4_97, ↓s4_99, ↓s4_102, kNLn, kNLi, kNLr, va_rf_s, kOl_n, kOl_s, kap_n, kap_c, kb0, kb1, kbif, ka_50, ka_51, ka_52, ka_53, ka_54, ka_55, ka_56, ka_57, ka_58, ka_59, ka_60, ka_61, kc_2, kn_2, kc_4, kn_4, kc_5, kn_5, kc_6, kn_6, kc_21, kn_21, kc_40, kn_40, kc_74, kn_74, kc_105, kn_105, kc_160, kn_160, kc_222, kn_222, kc_1995, kn_1995, kis_51_49_1, kis_52_49_1, kis_53_49_1, kis_54_49_1, kis_55_49_1, kis_56_49_1, kis_57_49_1, kis_58_49_1, kis_59_49_1, kis_60_49_1, kis_61_49_1, kis_62_49_1, Nat.reduceAdd, Nat.reduceLT, Nat.reduceLeDiff, Nat.reduceEqDiff, not_false_eq_true, eq_self, true_and, and_true, or_true, true_or, false_and, or_false, false_or]
  refine hQ _ _ (fun q hq => ?_) ⟨?_, ?_, ?_, ?_, ?_⟩
  · repeat (first | rw [kRow_ne (by omega)] | rw [kup_ne (by omega)])
  · simp [kRow_ap, kup_ap, upd_ap, hz] <;> rfl
  · simp [kRow_ap, kup_ap, upd_ap, hz] <;> rfl
  · simp [kRow_ap, kup_ap, upd_ap, hz] <;> rfl
  · simp [kRow_ap, kup_ap, upd_ap, hz] <;> rfl
  · simp [kRow_ap, kup_ap, upd_ap, hz] <;> rfl
theorem kis_64_62_1 : (kIs 64 62 1 = true) = True := eq_true (by decide)
theorem kis_65_62_1 : (kIs 65 62 1 = true) = True := eq_true (by decide)
theorem kis_66_62_1 : (kIs 66 62 1 = true) = True := eq_true (by decide)
theorem kis_67_62_1 : (kIs 67 62 1 = true) = True := eq_true (by decide)
theorem kis_68_62_1 : (kIs 68 62 1 = true) = True := eq_true (by decide)
theorem kis_69_62_1 : (kIs 69 62 1 = true) = True := eq_true (by decide)
theorem kis_70_62_1 : (kIs 70 62 1 = true) = True := eq_true (by decide)
theorem kis_71_62_1 : (kIs 71 62 1 = true) = True := eq_true (by decide)
theorem kis_72_62_1 : (kIs 72 62 1 = true) = True := eq_true (by decide)
theorem kis_73_62_1 : (kIs 73 62 1 = true) = True := eq_true (by decide)
theorem kis_74_62_1 : (kIs 74 62 1 = true) = True := eq_true (by decide)
theorem kis_75_62_1 : (kIs 75 62 1 = true) = True := eq_true (by decide)
def mrP62 (mr : Nat → Nat → Option Nat) : Nat → Nat → Option Nat := (kupR (kRow (kupR (kRow (kupR (kRow (kupR (kRow (kupR (kRow (kupR (kRow (kupR (kRow (kupR (kRow (kupR (kRow (kupR (kRow (kupR (kRow (kupR (kRow mr 63 (fun _ => none)) 62 1 (some 63)) 64 (fun _ => none)) 62 2 (some 64)) 65 (fun _ => none)) 62 3 (some 65)) 66 (fun _ => none)) 62 5 (some 66)) 67 (fun _ => none)) 62 6 (some 67)) 68 (fun _ => none)) 62 7 (some 68)) 69 (fun _ => none)) 62 8 (some 69)) 70 (fun _ => none)) 62 9 (some 70)) 71 (fun _ => none)) 62 10 (some 71)) 72 (fun _ => none)) 62 14 (some 72)) 73 (fun _ => none)) 62 15 (some 73)) 74 (fun _ => none)) 62 16 (some 74))
theorem I_post_62 {mi : Nat → Nat → Int32} {ml : Nat → Nat → Int64} {mr : Nat → Nat → Option Nat} {Q : Option Value → kMem → Prop} (hz : mi 62 = fun _ => 0) (hQ : ∀ mi' ml', (∀ q, ¬ (62 ≤ q ∧ q ≤ 74) → mi' q = mi q) → (mi' 62 0 = nI 0 ∧ mi' 62 4 = nI 0 ∧ mi' 62 11 = nI 2 ∧ mi' 62 12 = nI 0 ∧ mi' 62 13 = nI 0) → Q none (mi', ml', mrP62 mr, 75)) : kJ 4 0 [some (.ref 62)] [] (mi, ml, mr, 63) Q := by
  simp only [↓s4_0, ↓s4_1, ↓s4_4, ↓s4_5, ↓s4_6, ↓s4_8, ↓s4_11, ↓s4_12, ↓s4_13, ↓s4_15, ↓s4_18, ↓s4_19, ↓s4_20, ↓s4_22, ↓s4_25, ↓s4_26, ↓s4_28, ↓s4_30, ↓s4_33, ↓s4_34, ↓s4_36, ↓s4_38, ↓s4_41, ↓s4_42, ↓s4_44, ↓s4_46, ↓s4_49, ↓s4_50, ↓s4_52, ↓s4_54, ↓s4_57, ↓s4_58, ↓s4_60, ↓s4_62, ↓s4_65, ↓s4_66, ↓s4_68, ↓s4_70, ↓s4_73, ↓s4_74, ↓s4_75, ↓s4_78, ↓s4_79, ↓s4_81, ↓s4_83, ↓s4_86, ↓s4_87, ↓s4_89, ↓s4_91, ↓s4_94, ↓s4_95, ↓s4_97, ↓s4_99, ↓s4_102, kNLn, kNLi, kNLr, va_rf_s, kOl_n, kOl_s, kap_n, kap_c, kb0, kb1, kbif, ka_63, ka_64, ka_65, ka_66, ka_67, ka_68, ka_69, ka_70, ka_71, ka_72, ka_73, ka_74, kc_2, kn_2, kc_4, kn_4, kc_5, kn_5, kc_6, kn_6, kc_21, kn_21, kc_40, kn_40, kc_74, kn_74, kc_105, kn_105, kc_160, kn_160, kc_222, kn_222, kc_1995, kn_1995, kis_64_62_1, kis_65_62_1, kis_66_62_1, kis_67_62_1, kis_68_62_1, kis_69_62_1, kis_70_62_1, kis_71_62_1, kis_72_62_1, kis_73_62_1, kis_74_62_1, kis_75_62_1, Nat.reduceAdd, Nat.reduceLT, Nat.reduceLeDiff, Nat.reduceEqDiff, not_false_eq_true, eq_self, true_and, and_true, or_true, true_or, false_and, or_false, false_or]
  refine hQ _ _ (fun q hq => ?_) ⟨?_, ?_, ?_, ?_, ?_⟩
  · repeat (first | rw [kRow_ne (by omega)] | rw [kup_ne (by omega)])
  · simp [kRow_ap, kup_ap, upd_ap, hz] <;> rfl
  · simp [kRow_ap, kup_ap, upd_ap, hz] <;> rfl
  · simp [kRow_ap, kup_ap, upd_ap, hz] <;> rfl
  · simp [kRow_ap, kup_ap, upd_ap, hz] <;> rfl
  · simp [kRow_ap, kup_ap, upd_ap, hz] <;> rfl
