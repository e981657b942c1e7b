/-! text(), the reference's side -/
section RTEXT
variable {mi : Nat → Nat → Int32} {ml : Nat → Nat → Int64} {m : kMem} {Q : Option Value → kMem → Prop} {B : Nat → Nat} {n lo hi q b e j i K ln hT : Nat} {T : tT} {hp : Bool} {vs : Nat → Nat} {S : gS}
theorem rFlt_mk {F p : Nat} (h1 : F ≠ 0) (h2 : F < 100) : rFlt (F, p) (kup (kup mi 83 12 (nI F)) 83 13 (nI p)) := rFlt_12 h1 h2 (by rw [kup_eq, pk_un (by decide), kup_eq, pk_us]) (by rw [kup_eq, pk_us])
/-- what is required of a line's name -/
theorem R_check (hK : K ≤ 6) (hpo : pOK T) (hTk : rTok B n q mi) (ht : rTold T hp hT mi)
    (hQ1 : chkF T hp K = 0 → kJ 123 130 [some (.ref 83), some (.int (nI K))] [] (kup mi 83 4 (nI (if (hp || decide (K = 5)) = true then 1 else 0)), ml, MR, 95) Q)
    (hQ2 : chkF T hp K ≠ 0 → ∀ mi' l1, fQ mi mi' → rFlt (chkF T hp K, tB B n q) mi' → kJ 123 130 [some (.ref 83), l1] [] (mi', ml, MR, 95) Q) :
    kJ 123 17 [some (.ref 83), none] [.int (lnI K)] (mi, ml, MR, 95) Q := by
  have o1 := hpo.1
  have o2 := hpo.2.1
  have c15 : (nI 15).toNatClampNeg = 15 := rfl
  have v15 : vp_in (nI 15) 74 := vp_in_nI (by decide) (by decide)
  have c52 : (nI 52).toNatClampNeg = 52 := rfl
  have v52 : vp_in (nI 52) 74 := vp_in_nI (by decide) (by decide)
  have t15 := ht.1.1.1
  have t52 := ht.1.1.2.1
  have t4 := ht.2.1
  obtain ⟨g12, -, -, g9, -⟩ := hTk
  have lp := nI_litle (by decide : 5 < 2 ^ 31) (by omega : T 0 0 < 2 ^ 31)
  have ll := nI_litle (by decide : 6 < 2 ^ 31) (by omega : T 0 4 < 2 ^ 31)
  by_cases c6 : K = 6
  · subst c6
    have e6 : lnI 6 = (-4) := rfl
    have ck : chkF T hp 6 = 2 := rfl
    rw [ck] at hQ2
    have n1 : ¬ nI 4 ≤ (-4) := by decide
    have n2 : ((-4) = nI 4) = False := by decide
    have n3 : ((-4) = nI 5) = False := by decide
    have hf : rFlt (2, tB B n q) (kup (kup mi 83 12 (nI 2)) 83 13 (nI (tB B n q))) := rFlt_mk (by decide) (by decide)
    have nf := p_fl hf.2.2
    have k4 : kup (kup mi 83 12 (nI 2)) 83 13 (nI (tB B n q)) 83 4 = mi 83 4 := by rw [kup_eq, pk_un (by decide), kup_eq, pk_un (by decide)]
    have k87 : kup (kup mi 83 12 (nI 2)) 83 13 (nI (tB B n q)) 87 15 = nI (T 0 0) := by rw [kup_ne (by decide), kup_ne (by decide)]; exact t15
    have f0 : fQ mi (kup (kup mi 83 12 (nI 2)) 83 13 (nI (tB B n q))) := fQ_83 (fQ_83 fQ_rf (by decide)) (by decide)
    have rq := fun (y x : Int32) (Q : Option Value → kMem → Prop) => R_reqf (ml := ml) (Q := Q) (x := x) (y := y) nf
    rw [e6]
    cases hp with
    | true =>
      have t4' : mi 83 4 = nI 1 := t4
      by_cases d : 5 ≤ T 0 0
      · simp only [↓s123_0, ↓s123_1, ↓s123_4, ↓s123_5, ↓s123_8, ↓s123_9, ↓s123_12, ↓s123_15, ↓s123_17, ↓s123_18, ↓s123_19, ↓s123_20, ↓s123_22, ↓s123_25, ↓s123_26, ↓s123_29, ↓s123_30, ↓s123_31, ↓s123_34, ↓s123_35, ↓s123_36, ↓s123_37, ↓s123_40, ↓s123_41, ↓s123_44, ↓s123_46, ↓s123_47, ↓s123_48, ↓s123_51, ↓s123_52, ↓s123_55, ↓s123_56, ↓s123_57, ↓s123_60, ↓s123_61, ↓s123_62, ↓s123_63, ↓s123_66, ↓s123_67, ↓s123_70, ↓s123_72, ↓s123_73, ↓s123_75, ↓s123_78, ↓s123_79, ↓s123_82, ↓s123_83, ↓s123_84, ↓s123_87, ↓s123_88, ↓s123_89, ↓s123_90, ↓s123_93, ↓s123_94, ↓s123_97, ↓s123_100, ↓s123_101, ↓s123_104, ↓s123_105, ↓s123_106, ↓s123_109, ↓s123_110, ↓s123_111, ↓s123_114, ↓s123_117, ↓s123_118, ↓s123_119, ↓s123_122, ↓s123_123, ↓s123_126, ↓s123_127, ↓s123_131, ↓s123_134, ↓s123_135, ↓s123_138, ↓s123_141, ↓s123_142, ↓s123_143, ↓s123_144, ↓s123_147, ↓s123_148, ↓s123_151, ↓s123_154, ↓s123_155, ↓s123_156, ↓s123_159, ↓s123_160, ↓s123_163, ↓s123_164, ↓s123_167, ↓s123_168, ↓s123_169, ↓s123_172, ↓s123_173, ↓s123_176, ↓kb0, ↓kb1, ↓R_req0 g12, ↓rq, kNLn, kNLi, kNLr, va_rf_s, kOl_n, kOl_s, kap_n, kap_c, kb0, kb1, kbif, zif, z0, z1, Bool.false_eq_true, eq_self, not_true_eq_false, not_false_eq_true, if_true, if_false, and_self, true_and, false_and, and_true, and_false, m4_r, n1, n2, n3, ki_83, ki_87, kl_87, mr_83_3, c15, v15, g9, k87, lp, d, k4, t4']
        exact hQ2 (by decide) _ _ (fQ_83 f0 (by decide)) (rFlt_up hf (by omega))
      · simp only [↓s123_0, ↓s123_1, ↓s123_4, ↓s123_5, ↓s123_8, ↓s123_9, ↓s123_12, ↓s123_15, ↓s123_17, ↓s123_18, ↓s123_19, ↓s123_20, ↓s123_22, ↓s123_25, ↓s123_26, ↓s123_29, ↓s123_30, ↓s123_31, ↓s123_34, ↓s123_35, ↓s123_36, ↓s123_37, ↓s123_40, ↓s123_41, ↓s123_44, ↓s123_46, ↓s123_47, ↓s123_48, ↓s123_51, ↓s123_52, ↓s123_55, ↓s123_56, ↓s123_57, ↓s123_60, ↓s123_61, ↓s123_62, ↓s123_63, ↓s123_66, ↓s123_67, ↓s123_70, ↓s123_72, ↓s123_73, ↓s123_75, ↓s123_78, ↓s123_79, ↓s123_82, ↓s123_83, ↓s123_84, ↓s123_87, ↓s123_88, ↓s123_89, ↓s123_90, ↓s123_93, ↓s123_94, ↓s123_97, ↓s123_100, ↓s123_101, ↓s123_104, ↓s123_105, ↓s123_106, ↓s123_109, ↓s123_110, ↓s123_111, ↓s123_114, ↓s123_117, ↓s123_118, ↓s123_119, ↓s123_122, ↓s123_123, ↓s123_126, ↓s123_127, ↓s123_131, ↓s123_134, ↓s123_135, ↓s123_138, ↓s123_141, ↓s123_142, ↓s123_143, ↓s123_144, ↓s123_147, ↓s123_148, ↓s123_151, ↓s123_154, ↓s123_155, ↓s123_156, ↓s123_159, ↓s123_160, ↓s123_163, ↓s123_164, ↓s123_167, ↓s123_168, ↓s123_169, ↓s123_172, ↓s123_173, ↓s123_176, ↓kb0, ↓kb1, ↓R_req0 g12, ↓rq, kNLn, kNLi, kNLr, va_rf_s, kOl_n, kOl_s, kap_n, kap_c, kb0, kb1, kbif, zif, z0, z1, Bool.false_eq_true, eq_self, not_true_eq_false, not_false_eq_true, if_true, if_false, and_self, true_and, false_and, and_true, and_false, m4_r, n1, n2, n3, ki_83, ki_87, kl_87, mr_83_3, c15, v15, g9, k87, lp, d, k4, t4']
        exact hQ2 (by decide) _ _ (fQ_83 f0 (by decide)) (rFlt_up hf (by omega))
    | false =>
      have t4' : mi 83 4 = nI 0 := t4
      by_cases d : 5 ≤ T 0 0
      · simp only [↓s123_0, ↓s123_1, ↓s123_4, ↓s123_5, ↓s123_8, ↓s123_9, ↓s123_12, ↓s123_15, ↓s123_17, ↓s123_18, ↓s123_19, ↓s123_20, ↓s123_22, ↓s123_25, ↓s123_26, ↓s123_29, ↓s123_30, ↓s123_31, ↓s123_34, ↓s123_35, ↓s123_36, ↓s123_37, ↓s123_40, ↓s123_41, ↓s123_44, ↓s123_46, ↓s123_47, ↓s123_48, ↓s123_51, ↓s123_52, ↓s123_55, ↓s123_56, ↓s123_57, ↓s123_60, ↓s123_61, ↓s123_62, ↓s123_63, ↓s123_66, ↓s123_67, ↓s123_70, ↓s123_72, ↓s123_73, ↓s123_75, ↓s123_78, ↓s123_79, ↓s123_82, ↓s123_83, ↓s123_84, ↓s123_87, ↓s123_88, ↓s123_89, ↓s123_90, ↓s123_93, ↓s123_94, ↓s123_97, ↓s123_100, ↓s123_101, ↓s123_104, ↓s123_105, ↓s123_106, ↓s123_109, ↓s123_110, ↓s123_111, ↓s123_114, ↓s123_117, ↓s123_118, ↓s123_119, ↓s123_122, ↓s123_123, ↓s123_126, ↓s123_127, ↓s123_131, ↓s123_134, ↓s123_135, ↓s123_138, ↓s123_141, ↓s123_142, ↓s123_143, ↓s123_144, ↓s123_147, ↓s123_148, ↓s123_151, ↓s123_154, ↓s123_155, ↓s123_156, ↓s123_159, ↓s123_160, ↓s123_163, ↓s123_164, ↓s123_167, ↓s123_168, ↓s123_169, ↓s123_172, ↓s123_173, ↓s123_176, ↓kb0, ↓kb1, ↓R_req0 g12, ↓rq, kNLn, kNLi, kNLr, va_rf_s, kOl_n, kOl_s, kap_n, kap_c, kb0, kb1, kbif, zif, z0, z1, Bool.false_eq_true, eq_self, not_true_eq_false, not_false_eq_true, if_true, if_false, and_self, true_and, false_and, and_true, and_false, m4_r, n1, n2, n3, ki_83, ki_87, kl_87, mr_83_3, c15, v15, g9, k87, lp, d, k4, t4']
        exact hQ2 (by decide) _ _ (fQ_83 f0 (by decide)) (rFlt_up hf (by omega))
      · simp only [↓s123_0, ↓s123_1, ↓s123_4, ↓s123_5, ↓s123_8, ↓s123_9, ↓s123_12, ↓s123_15, ↓s123_17, ↓s123_18, ↓s123_19, ↓s123_20, ↓s123_22, ↓s123_25, ↓s123_26, ↓s123_29, ↓s123_30, ↓s123_31, ↓s123_34, ↓s123_35, ↓s123_36, ↓s123_37, ↓s123_40, ↓s123_41, ↓s123_44, ↓s123_46, ↓s123_47, ↓s123_48, ↓s123_51, ↓s123_52, ↓s123_55, ↓s123_56, ↓s123_57, ↓s123_60, ↓s123_61, ↓s123_62, ↓s123_63, ↓s123_66, ↓s123_67, ↓s123_70, ↓s123_72, ↓s123_73, ↓s123_75, ↓s123_78, ↓s123_79, ↓s123_82, ↓s123_83, ↓s123_84, ↓s123_87, ↓s123_88, ↓s123_89, ↓s123_90, ↓s123_93, ↓s123_94, ↓s123_97, ↓s123_100, ↓s123_101, ↓s123_104, ↓s123_105, ↓s123_106, ↓s123_109, ↓s123_110, ↓s123_111, ↓s123_114, ↓s123_117, ↓s123_118, ↓s123_119, ↓s123_122, ↓s123_123, ↓s123_126, ↓s123_127, ↓s123_131, ↓s123_134, ↓s123_135, ↓s123_138, ↓s123_141, ↓s123_142, ↓s123_143, ↓s123_144, ↓s123_147, ↓s123_148, ↓s123_151, ↓s123_154, ↓s123_155, ↓s123_156, ↓s123_159, ↓s123_160, ↓s123_163, ↓s123_164, ↓s123_167, ↓s123_168, ↓s123_169, ↓s123_172, ↓s123_173, ↓s123_176, ↓kb0, ↓kb1, ↓R_req0 g12, ↓rq, kNLn, kNLi, kNLr, va_rf_s, kOl_n, kOl_s, kap_n, kap_c, kb0, kb1, kbif, zif, z0, z1, Bool.false_eq_true, eq_self, not_true_eq_false, not_false_eq_true, if_true, if_false, and_self, true_and, false_and, and_true, and_false, m4_r, n1, n2, n3, ki_83, ki_87, kl_87, mr_83_3, c15, v15, g9, k87, lp, d, k4, t4']
        exact hQ2 (by decide) _ _ (fQ_83 f0 (by decide)) (rFlt_up hf (by omega))
  · have eK : lnI K = nI K := if_neg c6
    rw [eK]
    have n4 := n_m4 (by omega : K < 2 ^ 31)
    have l5 := nI_lit (by omega : K < 2 ^ 31) (by decide : 5 < 2 ^ 31)
    have l4 := nI_lit (by omega : K < 2 ^ 31) (by decide : 4 < 2 ^ 31)
    have lle := nI_litle (by decide : 4 < 2 ^ 31) (by omega : K < 2 ^ 31)
    by_cases c5 : K = 5
    · subst c5
      have e1 : (nI 5 = nI 4) = False := by decide
      have e2 : (nI 5 = (-4)) = False := by decide
      have e3 : nI 4 ≤ nI 5 := by decide
      cases hp with
      | true =>
        have t4' : mi 83 4 = nI 1 := t4
        have ck : chkF T true 5 = 4 := rfl
        rw [ck] at hQ2
        have hf : rFlt (4, tB B n q) (kup (kup mi 83 12 (nI 4)) 83 13 (nI (tB B n q))) := rFlt_mk (by decide) (by decide)
        have k4 : kup (kup mi 83 12 (nI 4)) 83 13 (nI (tB B n q)) 83 4 = nI 1 := by rw [kup_eq, pk_un (by decide), kup_eq, pk_un (by decide)]; exact t4'
        simp only [↓s123_0, ↓s123_1, ↓s123_4, ↓s123_5, ↓s123_8, ↓s123_9, ↓s123_12, ↓s123_15, ↓s123_17, ↓s123_18, ↓s123_19, ↓s123_20, ↓s123_22, ↓s123_25, ↓s123_26, ↓s123_29, ↓s123_30, ↓s123_31, ↓s123_34, ↓s123_35, ↓s123_36, ↓s123_37, ↓s123_40, ↓s123_41, ↓s123_44, ↓s123_46, ↓s123_47, ↓s123_48, ↓s123_51, ↓s123_52, ↓s123_55, ↓s123_56, ↓s123_57, ↓s123_60, ↓s123_61, ↓s123_62, ↓s123_63, ↓s123_66, ↓s123_67, ↓s123_70, ↓s123_72, ↓s123_73, ↓s123_75, ↓s123_78, ↓s123_79, ↓s123_82, ↓s123_83, ↓s123_84, ↓s123_87, ↓s123_88, ↓s123_89, ↓s123_90, ↓s123_93, ↓s123_94, ↓s123_97, ↓s123_100, ↓s123_101, ↓s123_104, ↓s123_105, ↓s123_106, ↓s123_109, ↓s123_110, ↓s123_111, ↓s123_114, ↓s123_117, ↓s123_118, ↓s123_119, ↓s123_122, ↓s123_123, ↓s123_126, ↓s123_127, ↓s123_131, ↓s123_134, ↓s123_135, ↓s123_138, ↓s123_141, ↓s123_142, ↓s123_143, ↓s123_144, ↓s123_147, ↓s123_148, ↓s123_151, ↓s123_154, ↓s123_155, ↓s123_156, ↓s123_159, ↓s123_160, ↓s123_163, ↓s123_164, ↓s123_167, ↓s123_168, ↓s123_169, ↓s123_172, ↓s123_173, ↓s123_176, ↓kb0, ↓kb1, ↓R_req0 g12, ↓R_req1, kNLn, kNLi, kNLr, va_rf_s, kOl_n, kOl_s, kap_n, kap_c, kb0, kb1, kbif, zif, z0, z1, Bool.false_eq_true, eq_self, not_true_eq_false, not_false_eq_true, if_true, if_false, and_self, true_and, false_and, and_true, and_false, e1, e2, e3, ki_83, g9, t4', k4]
        exact hQ2 (by decide) _ _ (fQ_83 (fQ_83 (fQ_83 fQ_rf (by decide)) (by decide)) (by decide)) (rFlt_up hf (by omega))
      | false =>
        have t4' : mi 83 4 = nI 0 := t4
        have h9 := hQ1 rfl
        simp only [↓s123_0, ↓s123_1, ↓s123_4, ↓s123_5, ↓s123_8, ↓s123_9, ↓s123_12, ↓s123_15, ↓s123_17, ↓s123_18, ↓s123_19, ↓s123_20, ↓s123_22, ↓s123_25, ↓s123_26, ↓s123_29, ↓s123_30, ↓s123_31, ↓s123_34, ↓s123_35, ↓s123_36, ↓s123_37, ↓s123_40, ↓s123_41, ↓s123_44, ↓s123_46, ↓s123_47, ↓s123_48, ↓s123_51, ↓s123_52, ↓s123_55, ↓s123_56, ↓s123_57, ↓s123_60, ↓s123_61, ↓s123_62, ↓s123_63, ↓s123_66, ↓s123_67, ↓s123_70, ↓s123_72, ↓s123_73, ↓s123_75, ↓s123_78, ↓s123_79, ↓s123_82, ↓s123_83, ↓s123_84, ↓s123_87, ↓s123_88, ↓s123_89, ↓s123_90, ↓s123_93, ↓s123_94, ↓s123_97, ↓s123_100, ↓s123_101, ↓s123_104, ↓s123_105, ↓s123_106, ↓s123_109, ↓s123_110, ↓s123_111, ↓s123_114, ↓s123_117, ↓s123_118, ↓s123_119, ↓s123_122, ↓s123_123, ↓s123_126, ↓s123_127, ↓s123_131, ↓s123_134, ↓s123_135, ↓s123_138, ↓s123_141, ↓s123_142, ↓s123_143, ↓s123_144, ↓s123_147, ↓s123_148, ↓s123_151, ↓s123_154, ↓s123_155, ↓s123_156, ↓s123_159, ↓s123_160, ↓s123_163, ↓s123_164, ↓s123_167, ↓s123_168, ↓s123_169, ↓s123_172, ↓s123_173, ↓s123_176, ↓kb0, ↓kb1, ↓R_req1, kNLn, kNLi, kNLr, va_rf_s, kOl_n, kOl_s, kap_n, kap_c, kb0, kb1, kbif, zif, z0, z1, Bool.false_eq_true, eq_self, not_true_eq_false, not_false_eq_true, if_true, if_false, and_self, true_and, false_and, and_true, and_false, e1, e2, e3, ki_83, t4']
        exact h9
    · have dH : (hp || decide (K = 5)) = hp := by rw [decide_eq_false c5, Bool.or_false]
      by_cases c4 : K = 4
      · subst c4
        have e1 : (nI 4 = nI 5) = False := by decide
        have e2 : (nI 4 = (-4)) = False := by decide
        have e3 : nI 4 ≤ nI 4 := by decide
        have ck : chkF T hp 4 = if T 0 4 < 6 then 0 else 5 := rfl
        by_cases d : T 0 4 < 6
        · rw [if_pos d] at ck
          have d2 : ¬ 6 ≤ T 0 4 := by omega
          have h9 := hQ1 ck
          rw [dH] at h9
          cases hp with
          | true =>
            have t4' : mi 83 4 = nI 1 := t4
            simp only [↓s123_0, ↓s123_1, ↓s123_4, ↓s123_5, ↓s123_8, ↓s123_9, ↓s123_12, ↓s123_15, ↓s123_17, ↓s123_18, ↓s123_19, ↓s123_20, ↓s123_22, ↓s123_25, ↓s123_26, ↓s123_29, ↓s123_30, ↓s123_31, ↓s123_34, ↓s123_35, ↓s123_36, ↓s123_37, ↓s123_40, ↓s123_41, ↓s123_44, ↓s123_46, ↓s123_47, ↓s123_48, ↓s123_51, ↓s123_52, ↓s123_55, ↓s123_56, ↓s123_57, ↓s123_60, ↓s123_61, ↓s123_62, ↓s123_63, ↓s123_66, ↓s123_67, ↓s123_70, ↓s123_72, ↓s123_73, ↓s123_75, ↓s123_78, ↓s123_79, ↓s123_82, ↓s123_83, ↓s123_84, ↓s123_87, ↓s123_88, ↓s123_89, ↓s123_90, ↓s123_93, ↓s123_94, ↓s123_97, ↓s123_100, ↓s123_101, ↓s123_104, ↓s123_105, ↓s123_106, ↓s123_109, ↓s123_110, ↓s123_111, ↓s123_114, ↓s123_117, ↓s123_118, ↓s123_119, ↓s123_122, ↓s123_123, ↓s123_126, ↓s123_127, ↓s123_131, ↓s123_134, ↓s123_135, ↓s123_138, ↓s123_141, ↓s123_142, ↓s123_143, ↓s123_144, ↓s123_147, ↓s123_148, ↓s123_151, ↓s123_154, ↓s123_155, ↓s123_156, ↓s123_159, ↓s123_160, ↓s123_163, ↓s123_164, ↓s123_167, ↓s123_168, ↓s123_169, ↓s123_172, ↓s123_173, ↓s123_176, ↓kb0, ↓kb1, ↓R_req1, kNLn, kNLi, kNLr, va_rf_s, kOl_n, kOl_s, kap_n, kap_c, kb0, kb1, kbif, zif, z0, z1, Bool.false_eq_true, eq_self, not_true_eq_false, not_false_eq_true, if_true, if_false, and_self, true_and, false_and, and_true, and_false, e1, e2, e3, ki_83, ki_87, kl_87, mr_83_3, c52, v52, t52, ll, d2, t4']
            exact h9
          | false =>
            have t4' : mi 83 4 = nI 0 := t4
            simp only [↓s123_0, ↓s123_1, ↓s123_4, ↓s123_5, ↓s123_8, ↓s123_9, ↓s123_12, ↓s123_15, ↓s123_17, ↓s123_18, ↓s123_19, ↓s123_20, ↓s123_22, ↓s123_25, ↓s123_26, ↓s123_29, ↓s123_30, ↓s123_31, ↓s123_34, ↓s123_35, ↓s123_36, ↓s123_37, ↓s123_40, ↓s123_41, ↓s123_44, ↓s123_46, ↓s123_47, ↓s123_48, ↓s123_51, ↓s123_52, ↓s123_55, ↓s123_56, ↓s123_57, ↓s123_60, ↓s123_61, ↓s123_62, ↓s123_63, ↓s123_66, ↓s123_67, ↓s123_70, ↓s123_72, ↓s123_73, ↓s123_75, ↓s123_78, ↓s123_79, ↓s123_82, ↓s123_83, ↓s123_84, ↓s123_87, ↓s123_88, ↓s123_89, ↓s123_90, ↓s123_93, ↓s123_94, ↓s123_97, ↓s123_100, ↓s123_101, ↓s123_104, ↓s123_105, ↓s123_106, ↓s123_109, ↓s123_110, ↓s123_111, ↓s123_114, ↓s123_117, ↓s123_118, ↓s123_119, ↓s123_122, ↓s123_123, ↓s123_126, ↓s123_127, ↓s123_131, ↓s123_134, ↓s123_135, ↓s123_138, ↓s123_141, ↓s123_142, ↓s123_143, ↓s123_144, ↓s123_147, ↓s123_148, ↓s123_151, ↓s123_154, ↓s123_155, ↓s123_156, ↓s123_159, ↓s123_160, ↓s123_163, ↓s123_164, ↓s123_167, ↓s123_168, ↓s123_169, ↓s123_172, ↓s123_173, ↓s123_176, ↓kb0, ↓kb1, ↓R_req1, kNLn, kNLi, kNLr, va_rf_s, kOl_n, kOl_s, kap_n, kap_c, kb0, kb1, kbif, zif, z0, z1, Bool.false_eq_true, eq_self, not_true_eq_false, not_false_eq_true, if_true, if_false, and_self, true_and, false_and, and_true, and_false, e1, e2, e3, ki_83, ki_87, kl_87, mr_83_3, c52, v52, t52, ll, d2, t4']
            exact h9
        · rw [if_neg d] at ck
          have d2 : 6 ≤ T 0 4 := by omega
          rw [ck] at hQ2
          have hf : rFlt (5, tB B n q) (kup (kup mi 83 12 (nI 5)) 83 13 (nI (tB B n q))) := rFlt_mk (by decide) (by decide)
          have k4 : kup (kup mi 83 12 (nI 5)) 83 13 (nI (tB B n q)) 83 4 = mi 83 4 := by rw [kup_eq, pk_un (by decide), kup_eq, pk_un (by decide)]
          cases hp with
          | true =>
            have t4' : mi 83 4 = nI 1 := t4
            simp only [↓s123_0, ↓s123_1, ↓s123_4, ↓s123_5, ↓s123_8, ↓s123_9, ↓s123_12, ↓s123_15, ↓s123_17, ↓s123_18, ↓s123_19, ↓s123_20, ↓s123_22, ↓s123_25, ↓s123_26, ↓s123_29, ↓s123_30, ↓s123_31, ↓s123_34, ↓s123_35, ↓s123_36, ↓s123_37, ↓s123_40, ↓s123_41, ↓s123_44, ↓s123_46, ↓s123_47, ↓s123_48, ↓s123_51, ↓s123_52, ↓s123_55, ↓s123_56, ↓s123_57, ↓s123_60, ↓s123_61, ↓s123_62, ↓s123_63, ↓s123_66, ↓s123_67, ↓s123_70, ↓s123_72, ↓s123_73, ↓s123_75, ↓s123_78, ↓s123_79, ↓s123_82, ↓s123_83, ↓s123_84, ↓s123_87, ↓s123_88, ↓s123_89, ↓s123_90, ↓s123_93, ↓s123_94, ↓s123_97, ↓s123_100, ↓s123_101, ↓s123_104, ↓s123_105, ↓s123_106, ↓s123_109, ↓s123_110, ↓s123_111, ↓s123_114, ↓s123_117, ↓s123_118, ↓s123_119, ↓s123_122, ↓s123_123, ↓s123_126, ↓s123_127, ↓s123_131, ↓s123_134, ↓s123_135, ↓s123_138, ↓s123_141, ↓s123_142, ↓s123_143, ↓s123_144, ↓s123_147, ↓s123_148, ↓s123_151, ↓s123_154, ↓s123_155, ↓s123_156, ↓s123_159, ↓s123_160, ↓s123_163, ↓s123_164, ↓s123_167, ↓s123_168, ↓s123_169, ↓s123_172, ↓s123_173, ↓s123_176, ↓kb0, ↓kb1, ↓R_req0 g12, ↓R_req1, kNLn, kNLi, kNLr, va_rf_s, kOl_n, kOl_s, kap_n, kap_c, kb0, kb1, kbif, zif, z0, z1, Bool.false_eq_true, eq_self, not_true_eq_false, not_false_eq_true, if_true, if_false, and_self, true_and, false_and, and_true, and_false, e1, e2, e3, ki_83, ki_87, kl_87, mr_83_3, c52, v52, t52, ll, d2, g9, k4, t4']
            exact hQ2 (by decide) _ _ (fQ_83 (fQ_83 (fQ_83 fQ_rf (by decide)) (by decide)) (by decide)) (rFlt_up hf (by omega))
          | false =>
            have t4' : mi 83 4 = nI 0 := t4
            simp only [↓s123_0, ↓s123_1, ↓s123_4, ↓s123_5, ↓s123_8, ↓s123_9, ↓s123_12, ↓s123_15, ↓s123_17, ↓s123_18, ↓s123_19, ↓s123_20, ↓s123_22, ↓s123_25, ↓s123_26, ↓s123_29, ↓s123_30, ↓s123_31, ↓s123_34, ↓s123_35, ↓s123_36, ↓s123_37, ↓s123_40, ↓s123_41, ↓s123_44, ↓s123_46, ↓s123_47, ↓s123_48, ↓s123_51, ↓s123_52, ↓s123_55, ↓s123_56, ↓s123_57, ↓s123_60, ↓s123_61, ↓s123_62, ↓s123_63, ↓s123_66, ↓s123_67, ↓s123_70, ↓s123_72, ↓s123_73, ↓s123_75, ↓s123_78, ↓s123_79, ↓s123_82, ↓s123_83, ↓s123_84, ↓s123_87, ↓s123_88, ↓s123_89, ↓s123_90, ↓s123_93, ↓s123_94, ↓s123_97, ↓s123_100, ↓s123_101, ↓s123_104, ↓s123_105, ↓s123_106, ↓s123_109, ↓s123_110, ↓s123_111, ↓s123_114, ↓s123_117, ↓s123_118, ↓s123_119, ↓s123_122, ↓s123_123, ↓s123_126, ↓s123_127, ↓s123_131, ↓s123_134, ↓s123_135, ↓s123_138, ↓s123_141, ↓s123_142, ↓s123_143, ↓s123_144, ↓s123_147, ↓s123_148, ↓s123_151, ↓s123_154, ↓s123_155, ↓s123_156, ↓s123_159, ↓s123_160, ↓s123_163, ↓s123_164, ↓s123_167, ↓s123_168, ↓s123_169, ↓s123_172, ↓s123_173, ↓s123_176, ↓kb0, ↓kb1, ↓R_req0 g12, ↓R_req1, kNLn, kNLi, kNLr, va_rf_s, kOl_n, kOl_s, kap_n, kap_c, kb0, kb1, kbif, zif, z0, z1, Bool.false_eq_true, eq_self, not_true_eq_false, not_false_eq_true, if_true, if_false, and_self, true_and, false_and, and_true, and_false, e1, e2, e3, ki_83, ki_87, kl_87, mr_83_3, c52, v52, t52, ll, d2, g9, k4, t4']
            exact hQ2 (by decide) _ _ (fQ_83 (fQ_83 (fQ_83 fQ_rf (by decide)) (by decide)) (by decide)) (rFlt_up hf (by omega))
      · have nle : ¬ 4 ≤ K := by omega
        have ck : chkF T hp K = if T 0 0 < 5 then 0 else 5 := (if_neg c6).trans ((if_neg c5).trans (if_neg c4))
        by_cases d : T 0 0 < 5
        · rw [if_pos d] at ck
          have d2 : ¬ 5 ≤ T 0 0 := by omega
          have h9 := hQ1 ck
          rw [dH] at h9
          cases hp with
          | true =>
            have t4' : mi 83 4 = nI 1 := t4
            simp only [↓s123_0, ↓s123_1, ↓s123_4, ↓s123_5, ↓s123_8, ↓s123_9, ↓s123_12, ↓s123_15, ↓s123_17, ↓s123_18, ↓s123_19, ↓s123_20, ↓s123_22, ↓s123_25, ↓s123_26, ↓s123_29, ↓s123_30, ↓s123_31, ↓s123_34, ↓s123_35, ↓s123_36, ↓s123_37, ↓s123_40, ↓s123_41, ↓s123_44, ↓s123_46, ↓s123_47, ↓s123_48, ↓s123_51, ↓s123_52, ↓s123_55, ↓s123_56, ↓s123_57, ↓s123_60, ↓s123_61, ↓s123_62, ↓s123_63, ↓s123_66, ↓s123_67, ↓s123_70, ↓s123_72, ↓s123_73, ↓s123_75, ↓s123_78, ↓s123_79, ↓s123_82, ↓s123_83, ↓s123_84, ↓s123_87, ↓s123_88, ↓s123_89, ↓s123_90, ↓s123_93, ↓s123_94, ↓s123_97, ↓s123_100, ↓s123_101, ↓s123_104, ↓s123_105, ↓s123_106, ↓s123_109, ↓s123_110, ↓s123_111, ↓s123_114, ↓s123_117, ↓s123_118, ↓s123_119, ↓s123_122, ↓s123_123, ↓s123_126, ↓s123_127, ↓s123_131, ↓s123_134, ↓s123_135, ↓s123_138, ↓s123_141, ↓s123_142, ↓s123_143, ↓s123_144, ↓s123_147, ↓s123_148, ↓s123_151, ↓s123_154, ↓s123_155, ↓s123_156, ↓s123_159, ↓s123_160, ↓s123_163, ↓s123_164, ↓s123_167, ↓s123_168, ↓s123_169, ↓s123_172, ↓s123_173, ↓s123_176, ↓kb0, ↓kb1, ↓R_req1, kNLn, kNLi, kNLr, va_rf_s, kOl_n, kOl_s, kap_n, kap_c, kb0, kb1, kbif, zif, z0, z1, Bool.false_eq_true, eq_self, not_true_eq_false, not_false_eq_true, if_true, if_false, and_self, true_and, false_and, and_true, and_false, n4, l5, l4, lle, c5, c4, nle, ki_83, ki_87, kl_87, mr_83_3, c15, v15, t15, lp, d2, t4']
            exact h9
          | false =>
            have t4' : mi 83 4 = nI 0 := t4
            simp only [↓s123_0, ↓s123_1, ↓s123_4, ↓s123_5, ↓s123_8, ↓s123_9, ↓s123_12, ↓s123_15, ↓s123_17, ↓s123_18, ↓s123_19, ↓s123_20, ↓s123_22, ↓s123_25, ↓s123_26, ↓s123_29, ↓s123_30, ↓s123_31, ↓s123_34, ↓s123_35, ↓s123_36, ↓s123_37, ↓s123_40, ↓s123_41, ↓s123_44, ↓s123_46, ↓s123_47, ↓s123_48, ↓s123_51, ↓s123_52, ↓s123_55, ↓s123_56, ↓s123_57, ↓s123_60, ↓s123_61, ↓s123_62, ↓s123_63, ↓s123_66, ↓s123_67, ↓s123_70, ↓s123_72, ↓s123_73, ↓s123_75, ↓s123_78, ↓s123_79, ↓s123_82, ↓s123_83, ↓s123_84, ↓s123_87, ↓s123_88, ↓s123_89, ↓s123_90, ↓s123_93, ↓s123_94, ↓s123_97, ↓s123_100, ↓s123_101, ↓s123_104, ↓s123_105, ↓s123_106, ↓s123_109, ↓s123_110, ↓s123_111, ↓s123_114, ↓s123_117, ↓s123_118, ↓s123_119, ↓s123_122, ↓s123_123, ↓s123_126, ↓s123_127, ↓s123_131, ↓s123_134, ↓s123_135, ↓s123_138, ↓s123_141, ↓s123_142, ↓s123_143, ↓s123_144, ↓s123_147, ↓s123_148, ↓s123_151, ↓s123_154, ↓s123_155, ↓s123_156, ↓s123_159, ↓s123_160, ↓s123_163, ↓s123_164, ↓s123_167, ↓s123_168, ↓s123_169, ↓s123_172, ↓s123_173, ↓s123_176, ↓kb0, ↓kb1, ↓R_req1, kNLn, kNLi, kNLr, va_rf_s, kOl_n, kOl_s, kap_n, kap_c, kb0, kb1, kbif, zif, z0, z1, Bool.false_eq_true, eq_self, not_true_eq_false, not_false_eq_true, if_true, if_false, and_self, true_and, false_and, and_true, and_false, n4, l5, l4, lle, c5, c4, nle, ki_83, ki_87, kl_87, mr_83_3, c15, v15, t15, lp, d2, t4']
            exact h9
        · rw [if_neg d] at ck
          have d2 : 5 ≤ T 0 0 := by omega
          rw [ck] at hQ2
          have hf : rFlt (5, tB B n q) (kup (kup mi 83 12 (nI 5)) 83 13 (nI (tB B n q))) := rFlt_mk (by decide) (by decide)
          have k4 : kup (kup mi 83 12 (nI 5)) 83 13 (nI (tB B n q)) 83 4 = mi 83 4 := by rw [kup_eq, pk_un (by decide), kup_eq, pk_un (by decide)]
          cases hp with
          | true =>
            have t4' : mi 83 4 = nI 1 := t4
            simp only [↓s123_0, ↓s123_1, ↓s123_4, ↓s123_5, ↓s123_8, ↓s123_9, ↓s123_12, ↓s123_15, ↓s123_17, ↓s123_18, ↓s123_19, ↓s123_20, ↓s123_22, ↓s123_25, ↓s123_26, ↓s123_29, ↓s123_30, ↓s123_31, ↓s123_34, ↓s123_35, ↓s123_36, ↓s123_37, ↓s123_40, ↓s123_41, ↓s123_44, ↓s123_46, ↓s123_47, ↓s123_48, ↓s123_51, ↓s123_52, ↓s123_55, ↓s123_56, ↓s123_57, ↓s123_60, ↓s123_61, ↓s123_62, ↓s123_63, ↓s123_66, ↓s123_67, ↓s123_70, ↓s123_72, ↓s123_73, ↓s123_75, ↓s123_78, ↓s123_79, ↓s123_82, ↓s123_83, ↓s123_84, ↓s123_87, ↓s123_88, ↓s123_89, ↓s123_90, ↓s123_93, ↓s123_94, ↓s123_97, ↓s123_100, ↓s123_101, ↓s123_104, ↓s123_105, ↓s123_106, ↓s123_109, ↓s123_110, ↓s123_111, ↓s123_114, ↓s123_117, ↓s123_118, ↓s123_119, ↓s123_122, ↓s123_123, ↓s123_126, ↓s123_127, ↓s123_131, ↓s123_134, ↓s123_135, ↓s123_138, ↓s123_141, ↓s123_142, ↓s123_143, ↓s123_144, ↓s123_147, ↓s123_148, ↓s123_151, ↓s123_154, ↓s123_155, ↓s123_156, ↓s123_159, ↓s123_160, ↓s123_163, ↓s123_164, ↓s123_167, ↓s123_168, ↓s123_169, ↓s123_172, ↓s123_173, ↓s123_176, ↓kb0, ↓kb1, ↓R_req0 g12, ↓R_req1, kNLn, kNLi, kNLr, va_rf_s, kOl_n, kOl_s, kap_n, kap_c, kb0, kb1, kbif, zif, z0, z1, Bool.false_eq_true, eq_self, not_true_eq_false, not_false_eq_true, if_true, if_false, and_self, true_and, false_and, and_true, and_false, n4, l5, l4, lle, c5, c4, nle, ki_83, ki_87, kl_87, mr_83_3, c15, v15, t15, lp, d2, g9, k4, t4']
            exact hQ2 (by decide) _ _ (fQ_83 (fQ_83 (fQ_83 fQ_rf (by decide)) (by decide)) (by decide)) (rFlt_up hf (by omega))
          | false =>
            have t4' : mi 83 4 = nI 0 := t4
            simp only [↓s123_0, ↓s123_1, ↓s123_4, ↓s123_5, ↓s123_8, ↓s123_9, ↓s123_12, ↓s123_15, ↓s123_17, ↓s123_18, ↓s123_19, ↓s123_20, ↓s123_22, ↓s123_25, ↓s123_26, ↓s123_29, ↓s123_30, ↓s123_31, ↓s123_34, ↓s123_35, ↓s123_36, ↓s123_37, ↓s123_40, ↓s123_41, ↓s123_44, ↓s123_46, ↓s123_47, ↓s123_48, ↓s123_51, ↓s123_52, ↓s123_55, ↓s123_56, ↓s123_57, ↓s123_60, ↓s123_61, ↓s123_62, ↓s123_63, ↓s123_66, ↓s123_67, ↓s123_70, ↓s123_72, ↓s123_73, ↓s123_75, ↓s123_78, ↓s123_79, ↓s123_82, ↓s123_83, ↓s123_84, ↓s123_87, ↓s123_88, ↓s123_89, ↓s123_90, ↓s123_93, ↓s123_94, ↓s123_97, ↓s123_100, ↓s123_101, ↓s123_104, ↓s123_105, ↓s123_106, ↓s123_109, ↓s123_110, ↓s123_111, ↓s123_114, ↓s123_117, ↓s123_118, ↓s123_119, ↓s123_122, ↓s123_123, ↓s123_126, ↓s123_127, ↓s123_131, ↓s123_134, ↓s123_135, ↓s123_138, ↓s123_141, ↓s123_142, ↓s123_143, ↓s123_144, ↓s123_147, ↓s123_148, ↓s123_151, ↓s123_154, ↓s123_155, ↓s123_156, ↓s123_159, ↓s123_160, ↓s123_163, ↓s123_164, ↓s123_167, ↓s123_168, ↓s123_169, ↓s123_172, ↓s123_173, ↓s123_176, ↓kb0, ↓kb1, ↓R_req0 g12, ↓R_req1, kNLn, kNLi, kNLr, va_rf_s, kOl_n, kOl_s, kap_n, kap_c, kb0, kb1, kbif, zif, z0, z1, Bool.false_eq_true, eq_self, not_true_eq_false, not_false_eq_true, if_true, if_false, and_self, true_and, false_and, and_true, and_false, n4, l5, l4, lle, c5, c4, nle, ki_83, ki_87, kl_87, mr_83_3, c15, v15, t15, lp, d2, g9, k4, t4']
            exact hQ2 (by decide) _ _ (fQ_83 (fQ_83 (fQ_83 fQ_rf (by decide)) (by decide)) (by decide)) (rFlt_up hf (by omega))
theorem wt_pos (K : Nat) : ∃ w, wtF K = w + 1 := by
  unfold wtF
  split
  · exact ⟨3, rfl⟩
  · split
    · exact ⟨0, rfl⟩
    · exact ⟨1, rfl⟩
theorem R_line (h : rT n B mi) (hq : q ≤ n) (hpo : pOK T) (hTk : rTok B n q mi) (ht : rTold T hp hT mi)
    (hQ1 : ∀ F, lineS B n T hp q = .inl F → ∀ mi', fQ mi mi' → rFlt F mi' → Q none (mi', ml, MR, 95))
    (hQ2 : ∀ T' hp' q', lineS B n T hp q = .inr (T', hp', q') → tK B n q' ≠ 4 → ∀ mi' hT', fQ mi mi' → rTok B n q' mi' → rTold T' hp' hT' mi' → Q none (mi', ml, MR, 95))
    (hQ3 : ∀ T' hp' q', lineS B n T hp q = .inr (T', hp', q') → tK B n q' = 4 → ∀ mi', fQ mi mi' → rFlt (1, tB B n q') mi' → Q none (mi', ml, MR, 95)) :
    kJ 123 0 [some (.ref 83), none] [] (mi, ml, MR, 95) Q := by
  have hkle := tK_le (B := B) (n := n) (q := q)
  have hKle := lnK_le (B := B) (n := n) (q := q)
  have hL6 : ∀ j, j ∈ [8, 9, 10, 11, 12, 13] → j ∈ [4, 5, 8, 9, 10, 11, 12, 13] := by decide
  have hTk0 := hTk
  obtain ⟨g12, g8, g10, g9, -⟩ := hTk
  have fin : kJ 123 17 [some (.ref 83), none] [.int (lnI (lnK B n q))] (mi, ml, MR, 95) Q := by
    have eL : lineS B n T hp q = if chkF T hp (lnK B n q) = 0 then semF B n T hp (lnK B n q) (nmsF B n (lnK B n q) (wtF (lnK B n q)) 0 (fun _ => 0) (tE B n q)) else .inl (chkF T hp (lnK B n q), tB B n q) := rfl
    revert eL hKle
    generalize lnK B n q = K
    intro hK eL
    refine R_check hK hpo hTk0 ht (fun cc => ?_) (fun cc mi' l1 f' b => ?_)
    · rw [if_pos cc] at eL
      have f0 : fQ mi (kup mi 83 4 (nI (if (hp || decide (K = 5)) = true then 1 else 0))) := fQ_83 fQ_rf (by decide)
      have h0 := rT_fQ h f0
      have t0 : rTold T (hp || decide (K = 5)) hT (kup mi 83 4 (nI (if (hp || decide (K = 5)) = true then 1 else 0))) := ⟨by rw [kup_ne (by decide)]; exact ht.1, by rw [kup_eq, pk_us], by rw [kup_eq, pk_un (by decide)]; exact ht.2.2.1, ht.2.2.2⟩
      have a8 : kup mi 83 4 (nI (if (hp || decide (K = 5)) = true then 1 else 0)) 83 8 = nI (tE B n q) := by rw [kup_eq, pk_un (by decide)]; exact g8
      have a12 : kup mi 83 4 (nI (if (hp || decide (K = 5)) = true then 1 else 0)) 83 12 = nI 0 := by rw [kup_eq, pk_un (by decide)]; exact g12
      revert f0 h0 t0 a8 a12
      generalize (kup mi 83 4 (nI (if (hp || decide (K = 5)) = true then 1 else 0))) = mi0
      intro f0 h0 t0 a8 a12
      simp only [↓s123_0, ↓s123_1, ↓s123_4, ↓s123_5, ↓s123_8, ↓s123_9, ↓s123_12, ↓s123_15, ↓s123_17, ↓s123_18, ↓s123_19, ↓s123_20, ↓s123_22, ↓s123_25, ↓s123_26, ↓s123_29, ↓s123_30, ↓s123_31, ↓s123_34, ↓s123_35, ↓s123_36, ↓s123_37, ↓s123_40, ↓s123_41, ↓s123_44, ↓s123_46, ↓s123_47, ↓s123_48, ↓s123_51, ↓s123_52, ↓s123_55, ↓s123_56, ↓s123_57, ↓s123_60, ↓s123_61, ↓s123_62, ↓s123_63, ↓s123_66, ↓s123_67, ↓s123_70, ↓s123_72, ↓s123_73, ↓s123_75, ↓s123_78, ↓s123_79, ↓s123_82, ↓s123_83, ↓s123_84, ↓s123_87, ↓s123_88, ↓s123_89, ↓s123_90, ↓s123_93, ↓s123_94, ↓s123_97, ↓s123_100, ↓s123_101, ↓s123_104, ↓s123_105, ↓s123_106, ↓s123_109, ↓s123_110, ↓s123_111, ↓s123_114, ↓s123_117, ↓s123_118, ↓s123_119, ↓s123_122, ↓s123_123, ↓s123_126, ↓s123_127, ↓s123_130, ↓s123_131, ↓s123_134, ↓s123_135, ↓s123_138, ↓s123_141, ↓s123_142, ↓s123_143, ↓s123_144, ↓s123_147, ↓s123_148, ↓s123_151, ↓s123_154, ↓s123_155, ↓s123_156, ↓s123_159, ↓s123_160, ↓s123_163, ↓s123_164, ↓s123_167, ↓s123_168, ↓s123_169, ↓s123_172, ↓s123_173, ↓s123_176, kNLn, kNLi, kNLr, va_rf_s, kOl_n, kOl_s, kap_n, kap_c, kb0, kb1, kbif, ki_83]
      refine R_reads h0 (tE_le hq) a8 a12 (fun hk mi2 f2 b12 b8 b10 b9 b11 => ?_) (fun hk mi2 f2 b12 b13 => ?_)
      · have z1 : ¬ 0 < nI 0 := by decide
        have z2 : nI 0 ≤ 0 := by decide
        have f02 := fQ_tr f0 (fQ_fK f2 hL6)
        have h2 := rT_fQ h f02
        simp only [↓s123_0, ↓s123_1, ↓s123_4, ↓s123_5, ↓s123_8, ↓s123_9, ↓s123_12, ↓s123_15, ↓s123_17, ↓s123_18, ↓s123_19, ↓s123_20, ↓s123_22, ↓s123_25, ↓s123_26, ↓s123_29, ↓s123_30, ↓s123_31, ↓s123_34, ↓s123_35, ↓s123_36, ↓s123_37, ↓s123_40, ↓s123_41, ↓s123_44, ↓s123_46, ↓s123_47, ↓s123_48, ↓s123_51, ↓s123_52, ↓s123_55, ↓s123_56, ↓s123_57, ↓s123_60, ↓s123_61, ↓s123_62, ↓s123_63, ↓s123_66, ↓s123_67, ↓s123_70, ↓s123_72, ↓s123_73, ↓s123_75, ↓s123_78, ↓s123_79, ↓s123_82, ↓s123_83, ↓s123_84, ↓s123_87, ↓s123_88, ↓s123_89, ↓s123_90, ↓s123_93, ↓s123_94, ↓s123_97, ↓s123_100, ↓s123_101, ↓s123_104, ↓s123_105, ↓s123_106, ↓s123_109, ↓s123_110, ↓s123_111, ↓s123_114, ↓s123_117, ↓s123_118, ↓s123_119, ↓s123_122, ↓s123_123, ↓s123_126, ↓s123_127, ↓s123_130, ↓s123_131, ↓s123_134, ↓s123_135, ↓s123_138, ↓s123_141, ↓s123_142, ↓s123_143, ↓s123_144, ↓s123_147, ↓s123_148, ↓s123_151, ↓s123_154, ↓s123_155, ↓s123_156, ↓s123_159, ↓s123_160, ↓s123_163, ↓s123_164, ↓s123_167, ↓s123_168, ↓s123_169, ↓s123_172, ↓s123_173, ↓s123_176, kNLn, kNLi, kNLr, va_rf_s, kOl_n, kOl_s, kap_n, kap_c, kb0, kb1, kbif, zif, z0, z1, Bool.false_eq_true, eq_self, not_true_eq_false, not_false_eq_true, if_true, if_false, and_self, true_and, false_and, and_true, and_false, ki_83, b12, z1, z2]
        refine R_lineOf hK cc h2 (tE_le hq) hk hpo ⟨b12, b8, b10, b9, b11⟩ (rTold_fK t0 f2 (by decide) (by decide)) (fun F eF mi3 f3 b => ?_) (fun vs q' eF hk' mi3 hT3 f3 t3 r3 => ?_) (fun vs q' eF hk' mi3 f3 b => ?_)
        · rw [eF] at eL
          have nz := p_fl b.2.2
          simp only [↓s123_0, ↓s123_1, ↓s123_4, ↓s123_5, ↓s123_8, ↓s123_9, ↓s123_12, ↓s123_15, ↓s123_17, ↓s123_18, ↓s123_19, ↓s123_20, ↓s123_22, ↓s123_25, ↓s123_26, ↓s123_29, ↓s123_30, ↓s123_31, ↓s123_34, ↓s123_35, ↓s123_36, ↓s123_37, ↓s123_40, ↓s123_41, ↓s123_44, ↓s123_46, ↓s123_47, ↓s123_48, ↓s123_51, ↓s123_52, ↓s123_55, ↓s123_56, ↓s123_57, ↓s123_60, ↓s123_61, ↓s123_62, ↓s123_63, ↓s123_66, ↓s123_67, ↓s123_70, ↓s123_72, ↓s123_73, ↓s123_75, ↓s123_78, ↓s123_79, ↓s123_82, ↓s123_83, ↓s123_84, ↓s123_87, ↓s123_88, ↓s123_89, ↓s123_90, ↓s123_93, ↓s123_94, ↓s123_97, ↓s123_100, ↓s123_101, ↓s123_104, ↓s123_105, ↓s123_106, ↓s123_109, ↓s123_110, ↓s123_111, ↓s123_114, ↓s123_117, ↓s123_118, ↓s123_119, ↓s123_122, ↓s123_123, ↓s123_126, ↓s123_127, ↓s123_130, ↓s123_131, ↓s123_134, ↓s123_135, ↓s123_138, ↓s123_141, ↓s123_142, ↓s123_143, ↓s123_144, ↓s123_147, ↓s123_148, ↓s123_151, ↓s123_154, ↓s123_155, ↓s123_156, ↓s123_159, ↓s123_160, ↓s123_163, ↓s123_164, ↓s123_167, ↓s123_168, ↓s123_169, ↓s123_172, ↓s123_173, ↓s123_176, ↓R_reads0 b.2.2, kNLn, kNLi, kNLr, va_rf_s, kOl_n, kOl_s, kap_n, kap_c, kb0, kb1, kbif, zif, z0, z1, Bool.false_eq_true, eq_self, not_true_eq_false, not_false_eq_true, if_true, if_false, and_self, true_and, false_and, and_true, and_false, ki_83, nz]
          exact hQ1 F eL mi3 (fQ_tr f02 f3) b
        · rw [eF] at eL
          have hn := nms_ok _ 0 (fun _ => 0) _ (tE_le hq) (fun i hi => absurd hi (Nat.not_lt_zero i)) vs q' eF
          obtain ⟨e12, e8, e10, e9, -⟩ := t3
          have hle1 := tK_le (B := B) (n := n) (q := q')
          have l3 := nI_lit (by omega : tK B n q' < 2 ^ 31) (by decide : 3 < 2 ^ 31)
          have eL2 : lineS B n T hp q = if tK B n q' = 4 then .inl (1, tB B n q') else if tK B n q' = 3 then .inr (papF T K vs, hp || decide (K = 5), tE B n q') else .inl (2, tB B n q') := eL
          rw [if_neg hk'] at eL2
          have f03 := fQ_tr f02 f3
          by_cases c3 : tK B n q' = 3
          · rw [if_pos c3] at eL2
            simp only [↓s123_0, ↓s123_1, ↓s123_4, ↓s123_5, ↓s123_8, ↓s123_9, ↓s123_12, ↓s123_15, ↓s123_17, ↓s123_18, ↓s123_19, ↓s123_20, ↓s123_22, ↓s123_25, ↓s123_26, ↓s123_29, ↓s123_30, ↓s123_31, ↓s123_34, ↓s123_35, ↓s123_36, ↓s123_37, ↓s123_40, ↓s123_41, ↓s123_44, ↓s123_46, ↓s123_47, ↓s123_48, ↓s123_51, ↓s123_52, ↓s123_55, ↓s123_56, ↓s123_57, ↓s123_60, ↓s123_61, ↓s123_62, ↓s123_63, ↓s123_66, ↓s123_67, ↓s123_70, ↓s123_72, ↓s123_73, ↓s123_75, ↓s123_78, ↓s123_79, ↓s123_82, ↓s123_83, ↓s123_84, ↓s123_87, ↓s123_88, ↓s123_89, ↓s123_90, ↓s123_93, ↓s123_94, ↓s123_97, ↓s123_100, ↓s123_101, ↓s123_104, ↓s123_105, ↓s123_106, ↓s123_109, ↓s123_110, ↓s123_111, ↓s123_114, ↓s123_117, ↓s123_118, ↓s123_119, ↓s123_122, ↓s123_123, ↓s123_126, ↓s123_127, ↓s123_130, ↓s123_131, ↓s123_134, ↓s123_135, ↓s123_138, ↓s123_141, ↓s123_142, ↓s123_143, ↓s123_144, ↓s123_147, ↓s123_148, ↓s123_151, ↓s123_154, ↓s123_155, ↓s123_156, ↓s123_159, ↓s123_160, ↓s123_163, ↓s123_164, ↓s123_167, ↓s123_168, ↓s123_169, ↓s123_172, ↓s123_173, ↓s123_176, ↓R_req1, kNLn, kNLi, kNLr, va_rf_s, kOl_n, kOl_s, kap_n, kap_c, kb0, kb1, kbif, zif, z0, z1, Bool.false_eq_true, eq_self, not_true_eq_false, not_false_eq_true, if_true, if_false, and_self, true_and, false_and, and_true, and_false, ki_83, e12, e10, l3, eq_true c3]
            refine R_reads (rT_fQ h f03) (tE_le hn.2.2) e8 e12 (fun hk4 mi4 f4 d12 d8 d10 d9 d11 => ?_) (fun hk4 mi4 f4 d12 d13 => ?_)
            · simp only [↓s123_0, ↓s123_1, ↓s123_4, ↓s123_5, ↓s123_8, ↓s123_9, ↓s123_12, ↓s123_15, ↓s123_17, ↓s123_18, ↓s123_19, ↓s123_20, ↓s123_22, ↓s123_25, ↓s123_26, ↓s123_29, ↓s123_30, ↓s123_31, ↓s123_34, ↓s123_35, ↓s123_36, ↓s123_37, ↓s123_40, ↓s123_41, ↓s123_44, ↓s123_46, ↓s123_47, ↓s123_48, ↓s123_51, ↓s123_52, ↓s123_55, ↓s123_56, ↓s123_57, ↓s123_60, ↓s123_61, ↓s123_62, ↓s123_63, ↓s123_66, ↓s123_67, ↓s123_70, ↓s123_72, ↓s123_73, ↓s123_75, ↓s123_78, ↓s123_79, ↓s123_82, ↓s123_83, ↓s123_84, ↓s123_87, ↓s123_88, ↓s123_89, ↓s123_90, ↓s123_93, ↓s123_94, ↓s123_97, ↓s123_100, ↓s123_101, ↓s123_104, ↓s123_105, ↓s123_106, ↓s123_109, ↓s123_110, ↓s123_111, ↓s123_114, ↓s123_117, ↓s123_118, ↓s123_119, ↓s123_122, ↓s123_123, ↓s123_126, ↓s123_127, ↓s123_130, ↓s123_131, ↓s123_134, ↓s123_135, ↓s123_138, ↓s123_141, ↓s123_142, ↓s123_143, ↓s123_144, ↓s123_147, ↓s123_148, ↓s123_151, ↓s123_154, ↓s123_155, ↓s123_156, ↓s123_159, ↓s123_160, ↓s123_163, ↓s123_164, ↓s123_167, ↓s123_168, ↓s123_169, ↓s123_172, ↓s123_173, ↓s123_176, kNLn, kNLi, kNLr, va_rf_s, kOl_n, kOl_s, kap_n, kap_c, kb0, kb1, kbif]
              exact hQ2 _ _ _ eL2 hk4 mi4 hT3 (fQ_tr f03 (fQ_fK f4 hL6)) ⟨d12, d8, d10, d9, d11⟩ (rTold_fK r3 f4 (by decide) (by decide))
            · simp only [↓s123_0, ↓s123_1, ↓s123_4, ↓s123_5, ↓s123_8, ↓s123_9, ↓s123_12, ↓s123_15, ↓s123_17, ↓s123_18, ↓s123_19, ↓s123_20, ↓s123_22, ↓s123_25, ↓s123_26, ↓s123_29, ↓s123_30, ↓s123_31, ↓s123_34, ↓s123_35, ↓s123_36, ↓s123_37, ↓s123_40, ↓s123_41, ↓s123_44, ↓s123_46, ↓s123_47, ↓s123_48, ↓s123_51, ↓s123_52, ↓s123_55, ↓s123_56, ↓s123_57, ↓s123_60, ↓s123_61, ↓s123_62, ↓s123_63, ↓s123_66, ↓s123_67, ↓s123_70, ↓s123_72, ↓s123_73, ↓s123_75, ↓s123_78, ↓s123_79, ↓s123_82, ↓s123_83, ↓s123_84, ↓s123_87, ↓s123_88, ↓s123_89, ↓s123_90, ↓s123_93, ↓s123_94, ↓s123_97, ↓s123_100, ↓s123_101, ↓s123_104, ↓s123_105, ↓s123_106, ↓s123_109, ↓s123_110, ↓s123_111, ↓s123_114, ↓s123_117, ↓s123_118, ↓s123_119, ↓s123_122, ↓s123_123, ↓s123_126, ↓s123_127, ↓s123_130, ↓s123_131, ↓s123_134, ↓s123_135, ↓s123_138, ↓s123_141, ↓s123_142, ↓s123_143, ↓s123_144, ↓s123_147, ↓s123_148, ↓s123_151, ↓s123_154, ↓s123_155, ↓s123_156, ↓s123_159, ↓s123_160, ↓s123_163, ↓s123_164, ↓s123_167, ↓s123_168, ↓s123_169, ↓s123_172, ↓s123_173, ↓s123_176, kNLn, kNLi, kNLr, va_rf_s, kOl_n, kOl_s, kap_n, kap_c, kb0, kb1, kbif]
              exact hQ3 _ _ _ eL2 hk4 mi4 (fQ_tr f03 (fQ_fK f4 hL6)) (rFlt_12 (by decide) (by decide) d12 d13)
          · rw [if_neg c3] at eL2
            have hf : rFlt (2, tB B n q') (kup (kup mi3 83 12 (nI 2)) 83 13 (nI (tB B n q'))) := rFlt_mk (by decide) (by decide)
            simp only [↓s123_0, ↓s123_1, ↓s123_4, ↓s123_5, ↓s123_8, ↓s123_9, ↓s123_12, ↓s123_15, ↓s123_17, ↓s123_18, ↓s123_19, ↓s123_20, ↓s123_22, ↓s123_25, ↓s123_26, ↓s123_29, ↓s123_30, ↓s123_31, ↓s123_34, ↓s123_35, ↓s123_36, ↓s123_37, ↓s123_40, ↓s123_41, ↓s123_44, ↓s123_46, ↓s123_47, ↓s123_48, ↓s123_51, ↓s123_52, ↓s123_55, ↓s123_56, ↓s123_57, ↓s123_60, ↓s123_61, ↓s123_62, ↓s123_63, ↓s123_66, ↓s123_67, ↓s123_70, ↓s123_72, ↓s123_73, ↓s123_75, ↓s123_78, ↓s123_79, ↓s123_82, ↓s123_83, ↓s123_84, ↓s123_87, ↓s123_88, ↓s123_89, ↓s123_90, ↓s123_93, ↓s123_94, ↓s123_97, ↓s123_100, ↓s123_101, ↓s123_104, ↓s123_105, ↓s123_106, ↓s123_109, ↓s123_110, ↓s123_111, ↓s123_114, ↓s123_117, ↓s123_118, ↓s123_119, ↓s123_122, ↓s123_123, ↓s123_126, ↓s123_127, ↓s123_130, ↓s123_131, ↓s123_134, ↓s123_135, ↓s123_138, ↓s123_141, ↓s123_142, ↓s123_143, ↓s123_144, ↓s123_147, ↓s123_148, ↓s123_151, ↓s123_154, ↓s123_155, ↓s123_156, ↓s123_159, ↓s123_160, ↓s123_163, ↓s123_164, ↓s123_167, ↓s123_168, ↓s123_169, ↓s123_172, ↓s123_173, ↓s123_176, ↓R_req0 e12, ↓R_reads0 hf.2.2, kNLn, kNLi, kNLr, va_rf_s, kOl_n, kOl_s, kap_n, kap_c, kb0, kb1, kbif, zif, z0, z1, Bool.false_eq_true, eq_self, not_true_eq_false, not_false_eq_true, if_true, if_false, and_self, true_and, false_and, and_true, and_false, ki_83, e12, e10, e9, l3, c3]
            exact hQ1 _ eL2 _ (fQ_83 (fQ_83 f03 (by decide)) (by decide)) hf
        · rw [eF] at eL
          have eL2 : lineS B n T hp q = if tK B n q' = 4 then .inl (1, tB B n q') else if tK B n q' = 3 then .inr (papF T K vs, hp || decide (K = 5), tE B n q') else .inl (2, tB B n q') := eL
          rw [if_pos hk'] at eL2
          have nz := p_fl b.2.2
          simp only [↓s123_0, ↓s123_1, ↓s123_4, ↓s123_5, ↓s123_8, ↓s123_9, ↓s123_12, ↓s123_15, ↓s123_17, ↓s123_18, ↓s123_19, ↓s123_20, ↓s123_22, ↓s123_25, ↓s123_26, ↓s123_29, ↓s123_30, ↓s123_31, ↓s123_34, ↓s123_35, ↓s123_36, ↓s123_37, ↓s123_40, ↓s123_41, ↓s123_44, ↓s123_46, ↓s123_47, ↓s123_48, ↓s123_51, ↓s123_52, ↓s123_55, ↓s123_56, ↓s123_57, ↓s123_60, ↓s123_61, ↓s123_62, ↓s123_63, ↓s123_66, ↓s123_67, ↓s123_70, ↓s123_72, ↓s123_73, ↓s123_75, ↓s123_78, ↓s123_79, ↓s123_82, ↓s123_83, ↓s123_84, ↓s123_87, ↓s123_88, ↓s123_89, ↓s123_90, ↓s123_93, ↓s123_94, ↓s123_97, ↓s123_100, ↓s123_101, ↓s123_104, ↓s123_105, ↓s123_106, ↓s123_109, ↓s123_110, ↓s123_111, ↓s123_114, ↓s123_117, ↓s123_118, ↓s123_119, ↓s123_122, ↓s123_123, ↓s123_126, ↓s123_127, ↓s123_130, ↓s123_131, ↓s123_134, ↓s123_135, ↓s123_138, ↓s123_141, ↓s123_142, ↓s123_143, ↓s123_144, ↓s123_147, ↓s123_148, ↓s123_151, ↓s123_154, ↓s123_155, ↓s123_156, ↓s123_159, ↓s123_160, ↓s123_163, ↓s123_164, ↓s123_167, ↓s123_168, ↓s123_169, ↓s123_172, ↓s123_173, ↓s123_176, ↓R_reads0 b.2.2, kNLn, kNLi, kNLr, va_rf_s, kOl_n, kOl_s, kap_n, kap_c, kb0, kb1, kbif, zif, z0, z1, Bool.false_eq_true, eq_self, not_true_eq_false, not_false_eq_true, if_true, if_false, and_self, true_and, false_and, and_true, and_false, ki_83, nz]
          exact hQ1 _ eL2 mi3 (fQ_tr f02 f3) b
      · obtain ⟨w, ew⟩ := wt_pos K
        rw [ew, nms_4 hk] at eL
        have hf : rFlt (1, tB B n (tE B n q)) mi2 := rFlt_12 (by decide) (by decide) b12 b13
        have z1 := p_nle hf.2.2
        have z2 := hf.2.2
        simp only [↓s123_0, ↓s123_1, ↓s123_4, ↓s123_5, ↓s123_8, ↓s123_9, ↓s123_12, ↓s123_15, ↓s123_17, ↓s123_18, ↓s123_19, ↓s123_20, ↓s123_22, ↓s123_25, ↓s123_26, ↓s123_29, ↓s123_30, ↓s123_31, ↓s123_34, ↓s123_35, ↓s123_36, ↓s123_37, ↓s123_40, ↓s123_41, ↓s123_44, ↓s123_46, ↓s123_47, ↓s123_48, ↓s123_51, ↓s123_52, ↓s123_55, ↓s123_56, ↓s123_57, ↓s123_60, ↓s123_61, ↓s123_62, ↓s123_63, ↓s123_66, ↓s123_67, ↓s123_70, ↓s123_72, ↓s123_73, ↓s123_75, ↓s123_78, ↓s123_79, ↓s123_82, ↓s123_83, ↓s123_84, ↓s123_87, ↓s123_88, ↓s123_89, ↓s123_90, ↓s123_93, ↓s123_94, ↓s123_97, ↓s123_100, ↓s123_101, ↓s123_104, ↓s123_105, ↓s123_106, ↓s123_109, ↓s123_110, ↓s123_111, ↓s123_114, ↓s123_117, ↓s123_118, ↓s123_119, ↓s123_122, ↓s123_123, ↓s123_126, ↓s123_127, ↓s123_130, ↓s123_131, ↓s123_134, ↓s123_135, ↓s123_138, ↓s123_141, ↓s123_142, ↓s123_143, ↓s123_144, ↓s123_147, ↓s123_148, ↓s123_151, ↓s123_154, ↓s123_155, ↓s123_156, ↓s123_159, ↓s123_160, ↓s123_163, ↓s123_164, ↓s123_167, ↓s123_168, ↓s123_169, ↓s123_172, ↓s123_173, ↓s123_176, kNLn, kNLi, kNLr, va_rf_s, kOl_n, kOl_s, kap_n, kap_c, kb0, kb1, kbif, zif, z0, z1, Bool.false_eq_true, eq_self, not_true_eq_false, not_false_eq_true, if_true, if_false, and_self, true_and, false_and, and_true, and_false, ki_83, z1, z2]
        exact hQ1 _ eL mi2 (fQ_tr f0 (fQ_fK f2 hL6)) hf
    · rw [if_neg cc] at eL
      have z1 := p_nle b.2.2
      have z2 := b.2.2
      simp only [↓s123_0, ↓s123_1, ↓s123_4, ↓s123_5, ↓s123_8, ↓s123_9, ↓s123_12, ↓s123_15, ↓s123_17, ↓s123_18, ↓s123_19, ↓s123_20, ↓s123_22, ↓s123_25, ↓s123_26, ↓s123_29, ↓s123_30, ↓s123_31, ↓s123_34, ↓s123_35, ↓s123_36, ↓s123_37, ↓s123_40, ↓s123_41, ↓s123_44, ↓s123_46, ↓s123_47, ↓s123_48, ↓s123_51, ↓s123_52, ↓s123_55, ↓s123_56, ↓s123_57, ↓s123_60, ↓s123_61, ↓s123_62, ↓s123_63, ↓s123_66, ↓s123_67, ↓s123_70, ↓s123_72, ↓s123_73, ↓s123_75, ↓s123_78, ↓s123_79, ↓s123_82, ↓s123_83, ↓s123_84, ↓s123_87, ↓s123_88, ↓s123_89, ↓s123_90, ↓s123_93, ↓s123_94, ↓s123_97, ↓s123_100, ↓s123_101, ↓s123_104, ↓s123_105, ↓s123_106, ↓s123_109, ↓s123_110, ↓s123_111, ↓s123_114, ↓s123_117, ↓s123_118, ↓s123_119, ↓s123_122, ↓s123_123, ↓s123_126, ↓s123_127, ↓s123_130, ↓s123_131, ↓s123_134, ↓s123_135, ↓s123_138, ↓s123_141, ↓s123_142, ↓s123_143, ↓s123_144, ↓s123_147, ↓s123_148, ↓s123_151, ↓s123_154, ↓s123_155, ↓s123_156, ↓s123_159, ↓s123_160, ↓s123_163, ↓s123_164, ↓s123_167, ↓s123_168, ↓s123_169, ↓s123_172, ↓s123_173, ↓s123_176, ↓R_reads0 b.2.2, kNLn, kNLi, kNLr, va_rf_s, kOl_n, kOl_s, kap_n, kap_c, kb0, kb1, kbif, zif, z0, z1, Bool.false_eq_true, eq_self, not_true_eq_false, not_false_eq_true, if_true, if_false, and_self, true_and, false_and, and_true, and_false, ki_83, z1, z2]
      exact hQ1 _ eL mi' f' b
  have l1 := nI_lit (by omega : tK B n q < 2 ^ 31) (by decide : 1 < 2 ^ 31)
  by_cases c1 : tK B n q = 1
  · have eK : lnK B n q = lnS B (tB B n q) (tE B n q) 6 0 := if_pos c1
    rw [eK] at fin
    simp only [↓s123_0, ↓s123_1, ↓s123_4, ↓s123_5, ↓s123_8, ↓s123_9, ↓s123_12, ↓s123_15, ↓s123_18, ↓s123_19, ↓s123_20, ↓s123_22, ↓s123_25, ↓s123_26, ↓s123_29, ↓s123_30, ↓s123_31, ↓s123_34, ↓s123_35, ↓s123_36, ↓s123_37, ↓s123_40, ↓s123_41, ↓s123_44, ↓s123_46, ↓s123_47, ↓s123_48, ↓s123_51, ↓s123_52, ↓s123_55, ↓s123_56, ↓s123_57, ↓s123_60, ↓s123_61, ↓s123_62, ↓s123_63, ↓s123_66, ↓s123_67, ↓s123_70, ↓s123_72, ↓s123_73, ↓s123_75, ↓s123_78, ↓s123_79, ↓s123_82, ↓s123_83, ↓s123_84, ↓s123_87, ↓s123_88, ↓s123_89, ↓s123_90, ↓s123_93, ↓s123_94, ↓s123_97, ↓s123_100, ↓s123_101, ↓s123_104, ↓s123_105, ↓s123_106, ↓s123_109, ↓s123_110, ↓s123_111, ↓s123_114, ↓s123_117, ↓s123_118, ↓s123_119, ↓s123_122, ↓s123_123, ↓s123_126, ↓s123_127, ↓s123_130, ↓s123_131, ↓s123_134, ↓s123_135, ↓s123_138, ↓s123_141, ↓s123_142, ↓s123_143, ↓s123_144, ↓s123_147, ↓s123_148, ↓s123_151, ↓s123_154, ↓s123_155, ↓s123_156, ↓s123_159, ↓s123_160, ↓s123_163, ↓s123_164, ↓s123_167, ↓s123_168, ↓s123_169, ↓s123_172, ↓s123_173, ↓s123_176, ↓R_lineNow h g8 g9 tE_ge (tE_le hq), kNLn, kNLi, kNLr, va_rf_s, kOl_n, kOl_s, kap_n, kap_c, kb0, kb1, kbif, zif, z0, z1, Bool.false_eq_true, eq_self, not_true_eq_false, not_false_eq_true, if_true, if_false, and_self, true_and, false_and, and_true, and_false, ki_83, g10, l1, eq_true c1]
    exact fin
  · have eK : lnK B n q = 6 := if_neg c1
    rw [eK] at fin
    simp only [↓s123_0, ↓s123_1, ↓s123_4, ↓s123_5, ↓s123_8, ↓s123_9, ↓s123_12, ↓s123_15, ↓s123_18, ↓s123_19, ↓s123_20, ↓s123_22, ↓s123_25, ↓s123_26, ↓s123_29, ↓s123_30, ↓s123_31, ↓s123_34, ↓s123_35, ↓s123_36, ↓s123_37, ↓s123_40, ↓s123_41, ↓s123_44, ↓s123_46, ↓s123_47, ↓s123_48, ↓s123_51, ↓s123_52, ↓s123_55, ↓s123_56, ↓s123_57, ↓s123_60, ↓s123_61, ↓s123_62, ↓s123_63, ↓s123_66, ↓s123_67, ↓s123_70, ↓s123_72, ↓s123_73, ↓s123_75, ↓s123_78, ↓s123_79, ↓s123_82, ↓s123_83, ↓s123_84, ↓s123_87, ↓s123_88, ↓s123_89, ↓s123_90, ↓s123_93, ↓s123_94, ↓s123_97, ↓s123_100, ↓s123_101, ↓s123_104, ↓s123_105, ↓s123_106, ↓s123_109, ↓s123_110, ↓s123_111, ↓s123_114, ↓s123_117, ↓s123_118, ↓s123_119, ↓s123_122, ↓s123_123, ↓s123_126, ↓s123_127, ↓s123_130, ↓s123_131, ↓s123_134, ↓s123_135, ↓s123_138, ↓s123_141, ↓s123_142, ↓s123_143, ↓s123_144, ↓s123_147, ↓s123_148, ↓s123_151, ↓s123_154, ↓s123_155, ↓s123_156, ↓s123_159, ↓s123_160, ↓s123_163, ↓s123_164, ↓s123_167, ↓s123_168, ↓s123_169, ↓s123_172, ↓s123_173, ↓s123_176, kNLn, kNLi, kNLr, va_rf_s, kOl_n, kOl_s, kap_n, kap_c, kb0, kb1, kbif, zif, z0, z1, Bool.false_eq_true, eq_self, not_true_eq_false, not_false_eq_true, if_true, if_false, and_self, true_and, false_and, and_true, and_false, ki_83, g10, l1, c1]
    exact fin
end RTEXT
