/-! the text: a line's numbers, the reference's side -/
section RLINE2
variable {mi : Nat → Nat → Int32} {ml : Nat → Nat → Int64} {m : kMem} {Q : Option Value → kMem → Prop} {B : Nat → Nat} {n lo hi q b e j i K ln hT : Nat} {T : tT} {hp : Bool} {vs : Nat → Nat}
theorem R_let34F {F : Nat × Nat} {c k : Nat} {x : Int32} (hc : c ≤ 46) (hk : k < 3) (h : rFlt F mi) (hQ : ∀ mi', fQ mi mi' → rFlt F mi' → Q none (mi', ml, MR, 95)) : kJ 121 34 [some (.ref 83), some (.int (nI c)), some (.int (nI k))] [.int x, .int (nI (c + k)), .ref 87] (mi, ml, MR, 95) Q := by
  have hcc : (nI (c + k)).toNatClampNeg = c + k := nI_clamp (by omega)
  have hvv : vp_in (nI (c + k)) 74 := vp_in_nI (by omega) (by decide)
  have k5 : kup mi 87 (c + k) x 83 5 = mi 83 5 := by rw [kup_ne (by decide)]
  have k87 : kup mi 87 (c + k) x 87 (c + k) = x := by rw [kup_eq, pk_us]
  by_cases d : x ≤ mi 83 5
  · simp only [↓s121_0, ↓s121_2, ↓s121_4, ↓s121_5, ↓s121_8, ↓s121_10, ↓s121_11, ↓s121_12, ↓s121_13, ↓s121_14, ↓s121_15, ↓s121_17, ↓s121_18, ↓s121_21, ↓s121_22, ↓s121_25, ↓s121_26, ↓s121_27, ↓s121_28, ↓s121_29, ↓s121_30, ↓s121_31, ↓s121_34, ↓s121_35, ↓s121_36, ↓s121_37, ↓s121_40, ↓s121_41, ↓s121_42, ↓s121_43, ↓s121_44, ↓s121_45, ↓s121_48, ↓s121_51, ↓s121_52, ↓s121_55, ↓s121_56, ↓s121_57, ↓s121_58, ↓s121_59, ↓s121_62, ↓s121_63, ↓s121_66, ↓s121_69, ↓s121_72, ↓s121_75, ↓s121_76, ↓s121_79, ↓s121_80, ↓s121_81, ↓s121_82, ↓s121_83, ↓s121_84, ↓s121_86, ↓s121_89, ↓s121_90, ↓s121_91, ↓s121_94, ↓s121_96, ↓s121_97, ↓s121_98, ↓s121_99, ↓s121_100, ↓s121_101, kNLn, kNLi, kNLr, va_rf_s, kOl_n, kOl_s, kap_n, kap_c, kb0, kb1, kbif, zif, z0, z1, Bool.false_eq_true, eq_self, not_true_eq_false, not_false_eq_true, if_true, if_false, and_self, true_and, false_and, and_true, and_false, ki_83, ki_87, kl_87, mr_83_3, nI_add, hcc, hvv, k5, k87, d]
    exact R_letE hc h hQ (k + 1) (by omega) _ (fQ_83 (fQ_87 fQ_rf) (by decide)) (rFlt_up (rFlt_up h (by omega)) (by omega))
  · simp only [↓s121_0, ↓s121_2, ↓s121_4, ↓s121_5, ↓s121_8, ↓s121_10, ↓s121_11, ↓s121_12, ↓s121_13, ↓s121_14, ↓s121_15, ↓s121_17, ↓s121_18, ↓s121_21, ↓s121_22, ↓s121_25, ↓s121_26, ↓s121_27, ↓s121_28, ↓s121_29, ↓s121_30, ↓s121_31, ↓s121_34, ↓s121_35, ↓s121_36, ↓s121_37, ↓s121_40, ↓s121_41, ↓s121_42, ↓s121_43, ↓s121_44, ↓s121_45, ↓s121_48, ↓s121_51, ↓s121_52, ↓s121_55, ↓s121_56, ↓s121_57, ↓s121_58, ↓s121_59, ↓s121_62, ↓s121_63, ↓s121_66, ↓s121_69, ↓s121_72, ↓s121_75, ↓s121_76, ↓s121_79, ↓s121_80, ↓s121_81, ↓s121_82, ↓s121_83, ↓s121_84, ↓s121_86, ↓s121_89, ↓s121_90, ↓s121_91, ↓s121_94, ↓s121_96, ↓s121_97, ↓s121_98, ↓s121_99, ↓s121_100, ↓s121_101, kNLn, kNLi, kNLr, va_rf_s, kOl_n, kOl_s, kap_n, kap_c, kb0, kb1, kbif, zif, z0, z1, Bool.false_eq_true, eq_self, not_true_eq_false, not_false_eq_true, if_true, if_false, and_self, true_and, false_and, and_true, and_false, ki_83, ki_87, kl_87, mr_83_3, nI_add, hcc, hvv, k5, k87, d]
    exact R_letE hc h hQ (k + 1) (by omega) _ (fQ_83 (fQ_87 fQ_rf) (by decide)) (rFlt_up (rFlt_up h (by omega)) (by omega))
theorem R_let89F {F : Nat × Nat} {c : Nat} {x : Int32} (hc : c ≤ 46) (h : rFlt F mi) (hQ : ∀ mi', fQ mi mi' → rFlt F mi' → Q none (mi', ml, MR, 95)) : kJ 121 89 [some (.ref 83), some (.int (nI c)), some (.int (nI 3))] [.int x, .int (nI (c + 3)), .ref 87] (mi, ml, MR, 95) Q := by
  have hcc : (nI (c + 3)).toNatClampNeg = c + 3 := nI_clamp (by omega)
  have hvv : vp_in (nI (c + 3)) 74 := vp_in_nI (by omega) (by decide)
  simp only [↓s121_0, ↓s121_2, ↓s121_4, ↓s121_5, ↓s121_8, ↓s121_10, ↓s121_11, ↓s121_12, ↓s121_13, ↓s121_14, ↓s121_15, ↓s121_17, ↓s121_18, ↓s121_21, ↓s121_22, ↓s121_25, ↓s121_26, ↓s121_27, ↓s121_28, ↓s121_29, ↓s121_30, ↓s121_31, ↓s121_34, ↓s121_35, ↓s121_36, ↓s121_37, ↓s121_40, ↓s121_41, ↓s121_42, ↓s121_43, ↓s121_44, ↓s121_45, ↓s121_48, ↓s121_51, ↓s121_52, ↓s121_55, ↓s121_56, ↓s121_57, ↓s121_58, ↓s121_59, ↓s121_62, ↓s121_63, ↓s121_66, ↓s121_69, ↓s121_72, ↓s121_75, ↓s121_76, ↓s121_79, ↓s121_80, ↓s121_81, ↓s121_82, ↓s121_83, ↓s121_84, ↓s121_86, ↓s121_89, ↓s121_91, ↓s121_94, ↓s121_96, ↓s121_97, ↓s121_98, ↓s121_99, ↓s121_100, ↓s121_101, kNLn, kNLi, kNLr, va_rf_s, kOl_n, kOl_s, kap_n, kap_c, kb0, kb1, kbif, zif, z0, z1, Bool.false_eq_true, eq_self, not_true_eq_false, not_false_eq_true, if_true, if_false, and_self, true_and, false_and, and_true, and_false, ki_87, kl_87, hcc, hvv]
  exact R_letF hc (rFlt_up h (by omega)) (fun mi' a b => hQ mi' (fQ_tr (fQ_87 fQ_rf) a) b)
theorem R_letter (h : rT n B mi) (hq : q ≤ n) (hk4 : tK B n q ≠ 4) (hpo : pOK T) (hl6 : T 0 4 < 6) (hTk : rTok B n q mi) (ht : rTold T hp hT mi)
    (hQ1 : ∀ F, nmsF B n 4 4 0 (fun _ => 0) q = .inl F → ∀ mi', fQ mi mi' → rFlt F mi' → Q none (mi', ml, MR, 95))
    (hQ2 : ∀ vs q', nmsF B n 4 4 0 (fun _ => 0) q = .inr (vs, q') → tK B n q' ≠ 4 → ∀ mi' hT', fQ mi mi' → rTok B n q' mi' → rTold (paddL T vs) hp hT' mi' → Q none (mi', ml, MR, 95))
    (hQ3 : ∀ vs q', nmsF B n 4 4 0 (fun _ => 0) q = .inr (vs, q') → tK B n q' = 4 → ∀ mi', fQ mi mi' → rFlt (1, tB B n q') mi' → Q none (mi', ml, MR, 95)) :
    kJ 121 0 [some (.ref 83), none, none] [] (mi, ml, MR, 95) Q := by
  have o1 := hpo.1
  have c52 : (nI 52).toNatClampNeg = 52 := rfl
  have v52 : vp_in (nI 52) 74 := vp_in_nI (by decide) (by decide)
  have t52 := ht.1.1.2.1
  have hL6 : ∀ j, j ∈ [8, 9, 10, 11, 12, 13] → j ∈ [4, 5, 8, 9, 10, 11, 12, 13] := by decide
  simp only [↓s121_0, ↓s121_2, ↓s121_4, ↓s121_5, ↓s121_8, ↓s121_10, ↓s121_11, ↓s121_12, ↓s121_13, ↓s121_14, ↓s121_15, ↓s121_17, ↓s121_18, ↓s121_21, ↓s121_22, ↓s121_25, ↓s121_26, ↓s121_27, ↓s121_28, ↓s121_29, ↓s121_30, ↓s121_31, ↓s121_34, ↓s121_35, ↓s121_36, ↓s121_37, ↓s121_40, ↓s121_41, ↓s121_42, ↓s121_43, ↓s121_44, ↓s121_45, ↓s121_48, ↓s121_51, ↓s121_52, ↓s121_55, ↓s121_56, ↓s121_57, ↓s121_58, ↓s121_59, ↓s121_62, ↓s121_63, ↓s121_66, ↓s121_69, ↓s121_72, ↓s121_75, ↓s121_76, ↓s121_79, ↓s121_80, ↓s121_81, ↓s121_82, ↓s121_83, ↓s121_84, ↓s121_86, ↓s121_89, ↓s121_90, ↓s121_91, ↓s121_94, ↓s121_96, ↓s121_97, ↓s121_98, ↓s121_99, ↓s121_100, ↓s121_101, kNLn, kNLi, kNLr, va_rf_s, kOl_n, kOl_s, kap_n, kap_c, kb0, kb1, kbif, zif, z0, z1, Bool.false_eq_true, eq_self, not_true_eq_false, not_false_eq_true, if_true, if_false, and_self, true_and, false_and, and_true, and_false, ki_83, ki_87, kl_87, mr_83_3, c52, v52, t52, pk_mul, nI_add]
  have loop : ∀ (r k : Nat) (vs : Nat → Nat) (q1 hT1 : Nat) (mi1 : Nat → Nat → Int32), k + r = 3 → q1 ≤ n → tK B n q1 ≠ 4 → fQ mi mi1 → rTok B n q1 mi1 → dR T (mi1 87) → mi1 83 4 = nI (if hp = true then 1 else 0) → mi1 83 5 = nI hT1 - nI 1 → hP T hT1 vs k → (∀ w, w < k → mi1 87 (16 + 6 * T 0 4 + w) = nI (vs w)) → nmsF B n 4 (r + 1) k vs q1 = nmsF B n 4 4 0 (fun _ => 0) q → kJ 121 16 [some (.ref 83), some (.int (nI (16 + 6 * T 0 4))), some (.int (nI k))] [] (mi1, ml, MR, 95) Q := by
    intro r
    induction r with
    | zero =>
      intro k vs q1 hT1 mi1 hkr hq1 hk1 f1 t1 d1 r4 r5 hh hw eN
      have ek : k = 3 := by omega
      subst ek
      have hlt : nI 2 < nI 3 := by decide
      have hcc : (nI (16 + 6 * T 0 4 + 3)).toNatClampNeg = 16 + 6 * T 0 4 + 3 := nI_clamp (by omega)
      have hvv : vp_in (nI (16 + 6 * T 0 4 + 3)) 74 := vp_in_nI (by omega) (by decide)
      have bd : bdF 4 3 = (0, 18) := rfl
      rw [nms_s hk1, bd] at eN
      rw [s121_16]
      simp only [↓s121_0, ↓s121_2, ↓s121_4, ↓s121_5, ↓s121_8, ↓s121_10, ↓s121_11, ↓s121_12, ↓s121_13, ↓s121_14, ↓s121_15, ↓s121_17, ↓s121_18, ↓s121_21, ↓s121_22, ↓s121_25, ↓s121_26, ↓s121_27, ↓s121_28, ↓s121_29, ↓s121_30, ↓s121_31, ↓s121_34, ↓s121_35, ↓s121_36, ↓s121_37, ↓s121_40, ↓s121_41, ↓s121_42, ↓s121_43, ↓s121_44, ↓s121_45, ↓s121_48, ↓s121_51, ↓s121_52, ↓s121_55, ↓s121_56, ↓s121_57, ↓s121_58, ↓s121_59, ↓s121_62, ↓s121_63, ↓s121_66, ↓s121_69, ↓s121_72, ↓s121_75, ↓s121_76, ↓s121_79, ↓s121_80, ↓s121_81, ↓s121_82, ↓s121_83, ↓s121_84, ↓s121_86, ↓s121_90, ↓s121_91, ↓s121_94, ↓s121_96, ↓s121_97, ↓s121_98, ↓s121_99, ↓s121_100, ↓s121_101, kNLn, kNLi, kNLr, va_rf_s, kOl_n, kOl_s, kap_n, kap_c, kb0, kb1, kbif, zif, z0, z1, Bool.false_eq_true, eq_self, not_true_eq_false, not_false_eq_true, if_true, if_false, and_self, true_and, false_and, and_true, and_false, ki_83, mr_83_3, hlt, nI_add]
      refine R_num (rT_fQ h f1) hq1 t1 (by decide) (by decide) (fun c1 mi2 f2 b => ?_) (fun c1 c2 mi2 f2 b => ?_) (fun c1 c2 c3 mi2 f2 b => ?_) (fun c1 c2 c3 mi2 f2 b => ?_)
      · rw [if_neg c1] at eN
        simp only [↓s121_0, ↓s121_2, ↓s121_4, ↓s121_5, ↓s121_8, ↓s121_10, ↓s121_11, ↓s121_12, ↓s121_13, ↓s121_14, ↓s121_15, ↓s121_17, ↓s121_18, ↓s121_21, ↓s121_22, ↓s121_25, ↓s121_26, ↓s121_27, ↓s121_28, ↓s121_29, ↓s121_30, ↓s121_31, ↓s121_34, ↓s121_35, ↓s121_36, ↓s121_37, ↓s121_40, ↓s121_41, ↓s121_42, ↓s121_43, ↓s121_44, ↓s121_45, ↓s121_48, ↓s121_51, ↓s121_52, ↓s121_55, ↓s121_56, ↓s121_57, ↓s121_58, ↓s121_59, ↓s121_62, ↓s121_63, ↓s121_66, ↓s121_69, ↓s121_72, ↓s121_75, ↓s121_76, ↓s121_79, ↓s121_80, ↓s121_81, ↓s121_82, ↓s121_83, ↓s121_84, ↓s121_86, ↓s121_90, ↓s121_91, ↓s121_94, ↓s121_96, ↓s121_97, ↓s121_98, ↓s121_99, ↓s121_100, ↓s121_101, kNLn, kNLi, kNLr, va_rf_s, kOl_n, kOl_s, kap_n, kap_c, kb0, kb1, kbif]
        exact R_let89F (by omega) b (fun mi' a b' => hQ1 _ eN.symm mi' (fQ_tr (fQ_tr f1 (fQ_fK f2 hL6)) a) b')
      · rw [if_pos c1, if_neg c2] at eN
        simp only [↓s121_0, ↓s121_2, ↓s121_4, ↓s121_5, ↓s121_8, ↓s121_10, ↓s121_11, ↓s121_12, ↓s121_13, ↓s121_14, ↓s121_15, ↓s121_17, ↓s121_18, ↓s121_21, ↓s121_22, ↓s121_25, ↓s121_26, ↓s121_27, ↓s121_28, ↓s121_29, ↓s121_30, ↓s121_31, ↓s121_34, ↓s121_35, ↓s121_36, ↓s121_37, ↓s121_40, ↓s121_41, ↓s121_42, ↓s121_43, ↓s121_44, ↓s121_45, ↓s121_48, ↓s121_51, ↓s121_52, ↓s121_55, ↓s121_56, ↓s121_57, ↓s121_58, ↓s121_59, ↓s121_62, ↓s121_63, ↓s121_66, ↓s121_69, ↓s121_72, ↓s121_75, ↓s121_76, ↓s121_79, ↓s121_80, ↓s121_81, ↓s121_82, ↓s121_83, ↓s121_84, ↓s121_86, ↓s121_90, ↓s121_91, ↓s121_94, ↓s121_96, ↓s121_97, ↓s121_98, ↓s121_99, ↓s121_100, ↓s121_101, kNLn, kNLi, kNLr, va_rf_s, kOl_n, kOl_s, kap_n, kap_c, kb0, kb1, kbif]
        exact R_let89F (by omega) b (fun mi' a b' => hQ1 _ eN.symm mi' (fQ_tr (fQ_tr f1 (fQ_fK f2 hL6)) a) b')
      · rw [if_pos c1, if_pos c2] at eN
        have f12 := fQ_tr f1 (fQ_fK f2 hL6)
        have d2 : dR T (mi2 87) := by rw [f2.1 87 (by decide)]; exact d1
        have k52 : kup mi2 87 (16 + 6 * T 0 4 + 3) (nI (tV B n q1)) 87 52 = nI (T 0 4) := by rw [kup_eq, pk_un (by omega)]; exact d2.1.2.1
        simp only [↓s121_0, ↓s121_2, ↓s121_4, ↓s121_5, ↓s121_8, ↓s121_10, ↓s121_11, ↓s121_12, ↓s121_13, ↓s121_14, ↓s121_15, ↓s121_17, ↓s121_18, ↓s121_21, ↓s121_22, ↓s121_25, ↓s121_26, ↓s121_27, ↓s121_28, ↓s121_29, ↓s121_30, ↓s121_31, ↓s121_34, ↓s121_35, ↓s121_36, ↓s121_37, ↓s121_40, ↓s121_41, ↓s121_42, ↓s121_43, ↓s121_44, ↓s121_45, ↓s121_48, ↓s121_51, ↓s121_52, ↓s121_55, ↓s121_56, ↓s121_57, ↓s121_58, ↓s121_59, ↓s121_62, ↓s121_63, ↓s121_66, ↓s121_69, ↓s121_72, ↓s121_75, ↓s121_76, ↓s121_79, ↓s121_80, ↓s121_81, ↓s121_82, ↓s121_83, ↓s121_84, ↓s121_86, ↓s121_89, ↓s121_90, ↓s121_91, ↓s121_94, ↓s121_96, ↓s121_97, ↓s121_98, ↓s121_99, ↓s121_100, ↓s121_101, kNLn, kNLi, kNLr, va_rf_s, kOl_n, kOl_s, kap_n, kap_c, kb0, kb1, kbif, zif, z0, z1, Bool.false_eq_true, eq_self, not_true_eq_false, not_false_eq_true, if_true, if_false, and_self, true_and, false_and, and_true, and_false, ki_83, ki_87, kl_87, mr_83_3, hcc, hvv, c52, v52, k52, nI_add]
        obtain ⟨e12, e8, e10, e9, e11⟩ := b
        refine hQ2 _ _ eN.symm c3 _ hT1 (fQ_87 (fQ_87 f12)) ⟨?_, ?_, ?_, ?_, ?_⟩ ⟨?_, ?_, ?_, ?_⟩
        · rw [kup_ne (by decide), kup_ne (by decide)]; exact e12
        · rw [kup_ne (by decide), kup_ne (by decide)]; exact e8
        · rw [kup_ne (by decide), kup_ne (by decide)]; exact e10
        · rw [kup_ne (by decide), kup_ne (by decide)]; exact e9
        · intro z; rw [kup_ne (by decide), kup_ne (by decide)]; exact e11 z
        · rw [kup_eq, kup_eq]
          refine dR_addL (dR_put d2 o1 hl6 (by decide)) o1 hl6 (fun w hw4 => ?_)
          by_cases ew : w = 3
          · rw [ew, pk_us, nput_s]
          · rw [pk_un (by omega), nput_n ew, f2.1 87 (by decide)]; exact hw w (by omega)
        · rw [kup_ne (by decide), kup_ne (by decide), f2.2 4 (by decide)]; exact r4
        · rw [kup_ne (by decide), kup_ne (by decide), f2.2 5 (by decide)]; exact r5
        · refine hOK_addL ⟨hh.1, hh.2.1, fun w hw3 => ?_, ?_⟩
          · rw [nput_n (by omega)]; exact hh.2.2.1 w hw3
          · rcases hh.2.2.2 with z | z | ⟨w, z1, z2⟩
            · exact Or.inl z
            · exact Or.inr (Or.inl z)
            · exact Or.inr (Or.inr ⟨w, z1, by rw [nput_n (by omega)]; exact z2⟩)
      · rw [if_pos c1, if_pos c2] at eN
        simp only [↓s121_0, ↓s121_2, ↓s121_4, ↓s121_5, ↓s121_8, ↓s121_10, ↓s121_11, ↓s121_12, ↓s121_13, ↓s121_14, ↓s121_15, ↓s121_17, ↓s121_18, ↓s121_21, ↓s121_22, ↓s121_25, ↓s121_26, ↓s121_27, ↓s121_28, ↓s121_29, ↓s121_30, ↓s121_31, ↓s121_34, ↓s121_35, ↓s121_36, ↓s121_37, ↓s121_40, ↓s121_41, ↓s121_42, ↓s121_43, ↓s121_44, ↓s121_45, ↓s121_48, ↓s121_51, ↓s121_52, ↓s121_55, ↓s121_56, ↓s121_57, ↓s121_58, ↓s121_59, ↓s121_62, ↓s121_63, ↓s121_66, ↓s121_69, ↓s121_72, ↓s121_75, ↓s121_76, ↓s121_79, ↓s121_80, ↓s121_81, ↓s121_82, ↓s121_83, ↓s121_84, ↓s121_86, ↓s121_90, ↓s121_91, ↓s121_94, ↓s121_96, ↓s121_97, ↓s121_98, ↓s121_99, ↓s121_100, ↓s121_101, kNLn, kNLi, kNLr, va_rf_s, kOl_n, kOl_s, kap_n, kap_c, kb0, kb1, kbif]
        exact R_let89F (by omega) b (fun mi' a b' => hQ3 _ _ eN.symm c3 mi' (fQ_tr (fQ_tr f1 (fQ_fK f2 hL6)) a) b')
    | succ r ih =>
      intro k vs q1 hT1 mi1 hkr hq1 hk1 f1 t1 d1 r4 r5 hh hw eN
      have hlt : ¬ nI 2 < nI k := nI_nlt (by omega) (by omega)
      have hcc : (nI (16 + 6 * T 0 4 + k)).toNatClampNeg = 16 + 6 * T 0 4 + k := nI_clamp (by omega)
      have hvv : vp_in (nI (16 + 6 * T 0 4 + k)) 74 := vp_in_nI (by omega) (by decide)
      have bd : bdF 4 k = (0, 4) := by
        show (0, if k < 3 then 4 else 18) = (0, 4)
        rw [if_pos (by omega)]
      rw [nms_s hk1, bd] at eN
      rw [s121_16]
      simp only [↓s121_0, ↓s121_2, ↓s121_4, ↓s121_5, ↓s121_8, ↓s121_10, ↓s121_11, ↓s121_12, ↓s121_13, ↓s121_14, ↓s121_15, ↓s121_17, ↓s121_18, ↓s121_21, ↓s121_22, ↓s121_25, ↓s121_26, ↓s121_27, ↓s121_28, ↓s121_29, ↓s121_30, ↓s121_31, ↓s121_35, ↓s121_36, ↓s121_37, ↓s121_40, ↓s121_41, ↓s121_42, ↓s121_43, ↓s121_44, ↓s121_45, ↓s121_48, ↓s121_51, ↓s121_52, ↓s121_55, ↓s121_56, ↓s121_57, ↓s121_58, ↓s121_59, ↓s121_62, ↓s121_63, ↓s121_66, ↓s121_69, ↓s121_72, ↓s121_75, ↓s121_76, ↓s121_79, ↓s121_80, ↓s121_81, ↓s121_82, ↓s121_83, ↓s121_84, ↓s121_86, ↓s121_89, ↓s121_90, ↓s121_91, ↓s121_94, ↓s121_96, ↓s121_97, ↓s121_98, ↓s121_99, ↓s121_100, ↓s121_101, kNLn, kNLi, kNLr, va_rf_s, kOl_n, kOl_s, kap_n, kap_c, kb0, kb1, kbif, zif, z0, z1, Bool.false_eq_true, eq_self, not_true_eq_false, not_false_eq_true, if_true, if_false, and_self, true_and, false_and, and_true, and_false, ki_83, mr_83_3, hlt, nI_add]
      refine R_num (rT_fQ h f1) hq1 t1 (by decide) (by decide) (fun c1 mi2 f2 b => ?_) (fun c1 c2 mi2 f2 b => ?_) (fun c1 c2 c3 mi2 f2 b => ?_) (fun c1 c2 c3 mi2 f2 b => ?_)
      · rw [if_neg c1] at eN
        simp only [↓s121_0, ↓s121_2, ↓s121_4, ↓s121_5, ↓s121_8, ↓s121_10, ↓s121_11, ↓s121_12, ↓s121_13, ↓s121_14, ↓s121_15, ↓s121_17, ↓s121_18, ↓s121_21, ↓s121_22, ↓s121_25, ↓s121_26, ↓s121_27, ↓s121_28, ↓s121_29, ↓s121_30, ↓s121_31, ↓s121_35, ↓s121_36, ↓s121_37, ↓s121_40, ↓s121_41, ↓s121_42, ↓s121_43, ↓s121_44, ↓s121_45, ↓s121_48, ↓s121_51, ↓s121_52, ↓s121_55, ↓s121_56, ↓s121_57, ↓s121_58, ↓s121_59, ↓s121_62, ↓s121_63, ↓s121_66, ↓s121_69, ↓s121_72, ↓s121_75, ↓s121_76, ↓s121_79, ↓s121_80, ↓s121_81, ↓s121_82, ↓s121_83, ↓s121_84, ↓s121_86, ↓s121_89, ↓s121_90, ↓s121_91, ↓s121_94, ↓s121_96, ↓s121_97, ↓s121_98, ↓s121_99, ↓s121_100, ↓s121_101, kNLn, kNLi, kNLr, va_rf_s, kOl_n, kOl_s, kap_n, kap_c, kb0, kb1, kbif]
        exact R_let34F (by omega) (by omega) b (fun mi' a b' => hQ1 _ eN.symm mi' (fQ_tr (fQ_tr f1 (fQ_fK f2 hL6)) a) b')
      · rw [if_pos c1, if_neg c2] at eN
        simp only [↓s121_0, ↓s121_2, ↓s121_4, ↓s121_5, ↓s121_8, ↓s121_10, ↓s121_11, ↓s121_12, ↓s121_13, ↓s121_14, ↓s121_15, ↓s121_17, ↓s121_18, ↓s121_21, ↓s121_22, ↓s121_25, ↓s121_26, ↓s121_27, ↓s121_28, ↓s121_29, ↓s121_30, ↓s121_31, ↓s121_35, ↓s121_36, ↓s121_37, ↓s121_40, ↓s121_41, ↓s121_42, ↓s121_43, ↓s121_44, ↓s121_45, ↓s121_48, ↓s121_51, ↓s121_52, ↓s121_55, ↓s121_56, ↓s121_57, ↓s121_58, ↓s121_59, ↓s121_62, ↓s121_63, ↓s121_66, ↓s121_69, ↓s121_72, ↓s121_75, ↓s121_76, ↓s121_79, ↓s121_80, ↓s121_81, ↓s121_82, ↓s121_83, ↓s121_84, ↓s121_86, ↓s121_89, ↓s121_90, ↓s121_91, ↓s121_94, ↓s121_96, ↓s121_97, ↓s121_98, ↓s121_99, ↓s121_100, ↓s121_101, kNLn, kNLi, kNLr, va_rf_s, kOl_n, kOl_s, kap_n, kap_c, kb0, kb1, kbif]
        exact R_let34F (by omega) (by omega) b (fun mi' a b' => hQ1 _ eN.symm mi' (fQ_tr (fQ_tr f1 (fQ_fK f2 hL6)) a) b')
      · rw [if_pos c1, if_pos c2] at eN
        have f12 := fQ_tr f1 (fQ_fK f2 hL6)
        have d2 : dR T (mi2 87) := by rw [f2.1 87 (by decide)]; exact d1
        have k5 : kup mi2 87 (16 + 6 * T 0 4 + k) (nI (tV B n q1)) 83 5 = nI hT1 - nI 1 := by rw [kup_ne (by decide), f2.2 5 (by decide)]; exact r5
        have k87 : kup mi2 87 (16 + 6 * T 0 4 + k) (nI (tV B n q1)) 87 (16 + 6 * T 0 4 + k) = nI (tV B n q1) := by rw [kup_eq, pk_us]
        have hle := hi_le (v := tV B n q1) (hT := hT1) (by omega) (by have := hh.1; omega)
        have hs := hP_s (v := tV B n q1) hh (by have : tV B n q1 ≤ 4 := c2.2; omega)
        obtain ⟨e12, e8, e10, e9, e11⟩ := b
        have hw2 : ∀ (x : Int32) w, w < k + 1 → kup (kup mi2 87 (16 + 6 * T 0 4 + k) (nI (tV B n q1))) 83 5 x 87 (16 + 6 * T 0 4 + w) = nI (nput vs k (tV B n q1) w) := fun x w hwk => by
          rw [kup_ne (by decide), kup_eq]
          by_cases ew : w = k
          · rw [ew, pk_us, nput_s]
          · rw [pk_un (by omega), nput_n ew, f2.1 87 (by decide)]; exact hw w (by omega)
        have tk : ∀ (x : Int32), rTok B n (tE B n q1) (kup (kup mi2 87 (16 + 6 * T 0 4 + k) (nI (tV B n q1))) 83 5 x) := fun x => by
          refine ⟨?_, ?_, ?_, ?_, fun z => ?_⟩
          · rw [kup_eq, pk_un (by decide), kup_ne (by decide)]; exact e12
          · rw [kup_eq, pk_un (by decide), kup_ne (by decide)]; exact e8
          · rw [kup_eq, pk_un (by decide), kup_ne (by decide)]; exact e10
          · rw [kup_eq, pk_un (by decide), kup_ne (by decide)]; exact e9
          · rw [kup_eq, pk_un (by decide), kup_ne (by decide)]; exact e11 z
        have dd : ∀ (x : Int32), dR T (kup (kup mi2 87 (16 + 6 * T 0 4 + k) (nI (tV B n q1))) 83 5 x 87) := fun x => by
          rw [kup_ne (by decide), kup_eq]
          exact dR_put d2 o1 hl6 (by omega)
        have rr4 : ∀ (x : Int32), kup (kup mi2 87 (16 + 6 * T 0 4 + k) (nI (tV B n q1))) 83 5 x 83 4 = nI (if hp = true then 1 else 0) := fun x => by
          rw [kup_eq, pk_un (by decide), kup_ne (by decide), f2.2 4 (by decide)]; exact r4
        by_cases d : tV B n q1 + 1 ≤ hT1
        · rw [if_pos d] at hs
          simp only [↓s121_0, ↓s121_2, ↓s121_4, ↓s121_5, ↓s121_8, ↓s121_10, ↓s121_11, ↓s121_12, ↓s121_13, ↓s121_14, ↓s121_15, ↓s121_17, ↓s121_18, ↓s121_21, ↓s121_22, ↓s121_25, ↓s121_26, ↓s121_27, ↓s121_28, ↓s121_29, ↓s121_30, ↓s121_31, ↓s121_34, ↓s121_35, ↓s121_36, ↓s121_37, ↓s121_40, ↓s121_41, ↓s121_42, ↓s121_43, ↓s121_44, ↓s121_45, ↓s121_48, ↓s121_51, ↓s121_52, ↓s121_55, ↓s121_56, ↓s121_57, ↓s121_58, ↓s121_59, ↓s121_62, ↓s121_63, ↓s121_66, ↓s121_69, ↓s121_72, ↓s121_75, ↓s121_76, ↓s121_79, ↓s121_80, ↓s121_81, ↓s121_82, ↓s121_83, ↓s121_84, ↓s121_86, ↓s121_89, ↓s121_90, ↓s121_91, ↓s121_94, ↓s121_96, ↓s121_97, ↓s121_98, ↓s121_99, ↓s121_100, ↓s121_101, kNLn, kNLi, kNLr, va_rf_s, kOl_n, kOl_s, kap_n, kap_c, kb0, kb1, kbif, zif, z0, z1, Bool.false_eq_true, eq_self, not_true_eq_false, not_false_eq_true, if_true, if_false, and_self, true_and, false_and, and_true, and_false, ki_83, ki_87, kl_87, mr_83_3, nI_add, hcc, hvv, k5, k87, hle, d]
          exact ih (k + 1) _ (tE B n q1) hT1 _ (by omega) (tE_le hq1) c3 (fQ_83 (fQ_87 f12) (by decide)) (tk _) (dd _) (rr4 _) (by rw [kup_eq, pk_us]) hs (hw2 _) eN
        · rw [if_neg d] at hs
          simp only [↓s121_0, ↓s121_2, ↓s121_4, ↓s121_5, ↓s121_8, ↓s121_10, ↓s121_11, ↓s121_12, ↓s121_13, ↓s121_14, ↓s121_15, ↓s121_17, ↓s121_18, ↓s121_21, ↓s121_22, ↓s121_25, ↓s121_26, ↓s121_27, ↓s121_28, ↓s121_29, ↓s121_30, ↓s121_31, ↓s121_34, ↓s121_35, ↓s121_36, ↓s121_37, ↓s121_40, ↓s121_41, ↓s121_42, ↓s121_43, ↓s121_44, ↓s121_45, ↓s121_48, ↓s121_51, ↓s121_52, ↓s121_55, ↓s121_56, ↓s121_57, ↓s121_58, ↓s121_59, ↓s121_62, ↓s121_63, ↓s121_66, ↓s121_69, ↓s121_72, ↓s121_75, ↓s121_76, ↓s121_79, ↓s121_80, ↓s121_81, ↓s121_82, ↓s121_83, ↓s121_84, ↓s121_86, ↓s121_89, ↓s121_90, ↓s121_91, ↓s121_94, ↓s121_96, ↓s121_97, ↓s121_98, ↓s121_99, ↓s121_100, ↓s121_101, kNLn, kNLi, kNLr, va_rf_s, kOl_n, kOl_s, kap_n, kap_c, kb0, kb1, kbif, zif, z0, z1, Bool.false_eq_true, eq_self, not_true_eq_false, not_false_eq_true, if_true, if_false, and_self, true_and, false_and, and_true, and_false, ki_83, ki_87, kl_87, mr_83_3, nI_add, hcc, hvv, k5, k87, hle, d]
          exact ih (k + 1) _ (tE B n q1) (tV B n q1 + 1) _ (by omega) (tE_le hq1) c3 (fQ_83 (fQ_87 f12) (by decide)) (tk _) (dd _) (rr4 _) (by rw [kup_eq, pk_us, nI_sub1]) hs (hw2 _) eN
      · rw [if_pos c1, if_pos c2, nms_4 c3] at eN
        simp only [↓s121_0, ↓s121_2, ↓s121_4, ↓s121_5, ↓s121_8, ↓s121_10, ↓s121_11, ↓s121_12, ↓s121_13, ↓s121_14, ↓s121_15, ↓s121_17, ↓s121_18, ↓s121_21, ↓s121_22, ↓s121_25, ↓s121_26, ↓s121_27, ↓s121_28, ↓s121_29, ↓s121_30, ↓s121_31, ↓s121_35, ↓s121_36, ↓s121_37, ↓s121_40, ↓s121_41, ↓s121_42, ↓s121_43, ↓s121_44, ↓s121_45, ↓s121_48, ↓s121_51, ↓s121_52, ↓s121_55, ↓s121_56, ↓s121_57, ↓s121_58, ↓s121_59, ↓s121_62, ↓s121_63, ↓s121_66, ↓s121_69, ↓s121_72, ↓s121_75, ↓s121_76, ↓s121_79, ↓s121_80, ↓s121_81, ↓s121_82, ↓s121_83, ↓s121_84, ↓s121_86, ↓s121_89, ↓s121_90, ↓s121_91, ↓s121_94, ↓s121_96, ↓s121_97, ↓s121_98, ↓s121_99, ↓s121_100, ↓s121_101, kNLn, kNLi, kNLr, va_rf_s, kOl_n, kOl_s, kap_n, kap_c, kb0, kb1, kbif]
        exact R_let34F (by omega) (by omega) b (fun mi' a b' => hQ1 _ eN.symm mi' (fQ_tr (fQ_tr f1 (fQ_fK f2 hL6)) a) b')
  obtain ⟨d0, r4, r5, hk⟩ := ht
  refine loop 3 0 (fun _ => 0) q hT mi rfl hq hk4 fQ_rf hTk d0 r4 r5 ⟨hk.1, hk.2.1, fun w hw => absurd hw (Nat.not_lt_zero w), ?_⟩ (fun w hw => absurd hw (Nat.not_lt_zero w)) rfl
  rcases hk.2.2 with z | z
  · exact Or.inl z
  · exact Or.inr (Or.inl z)
theorem R_paceL (h : rT n B mi) (hq : q ≤ n) (hk4 : tK B n q ≠ 4) (hpo : pOK T) (hTk : rTok B n q mi) (ht : rTold T hp hT mi)
    (hQ1 : ∀ F, nmsF B n 5 1 0 (fun _ => 0) q = .inl F → ∀ mi', fQ mi mi' → rFlt F mi' → Q none (mi', ml, MR, 95))
    (hQ2 : ∀ vs q', nmsF B n 5 1 0 (fun _ => 0) q = .inr (vs, q') → tK B n q' ≠ 4 → ∀ mi' hT', fQ mi mi' → rTok B n q' mi' → rTold (tup T 0 11 (vs 0)) hp hT' mi' → Q none (mi', ml, MR, 95))
    (hQ3 : ∀ vs q', nmsF B n 5 1 0 (fun _ => 0) q = .inr (vs, q') → tK B n q' = 4 → ∀ mi', fQ mi mi' → rFlt (1, tB B n q') mi' → Q none (mi', ml, MR, 95)) :
    kJ 122 0 [some (.ref 83), some (.int (nI 5))] [] (mi, ml, MR, 95) Q := by
  have c53 : (nI 53).toNatClampNeg = 53 := rfl
  have v53 : vp_in (nI 53) 74 := vp_in_nI (by decide) (by decide)
  have o1 := hpo.1
  have o2 := hpo.2.1
  have hL6 : ∀ j, j ∈ [8, 9, 10, 11, 12, 13] → j ∈ [4, 5, 8, 9, 10, 11, 12, 13] := by decide
  have eN := nms_s (K := 5) (j := 0) (k := 0) (vs := fun _ => 0) hk4
  have bd : bdF 5 0 = (1, 4) := rfl
  rw [bd] at eN
  simp only [↓s122_0, ↓s122_1, ↓s122_28, ↓s122_29, ↓s122_32, ↓s122_35, ↓s122_36, ↓s122_39, ↓s122_41, ↓s122_42, ↓s122_43, ↓s122_44, ↓s122_47, ↓s122_48, ↓s122_51, ↓s122_52, ↓s122_55, ↓s122_56, ↓s122_57, ↓s122_60, ↓s122_62, ↓s122_63, ↓s122_64, ↓s122_65, ↓s122_66, ↓s122_67, ↓s122_68, ↓s122_69, ↓s122_72, ↓s122_73, ↓s122_74, ↓s122_77, ↓s122_79, ↓s122_80, ↓s122_81, ↓s122_82, ↓s122_83, ↓s122_84, ↓s122_85, ↓s122_87, ↓s122_90, ↓s122_91, ↓s122_92, ↓s122_95, ↓s122_96, ↓s122_97, ↓s122_100, ↓s122_102, ↓s122_103, ↓s122_104, ↓s122_105, ↓s122_106, ↓s122_107, ↓s122_108, ↓s122_110, ↓s122_113, ↓s122_114, ↓s122_115, ↓s122_118, ↓s122_120, ↓s122_121, ↓s122_122, ↓s122_123, ↓s122_124, ↓s122_125, kNLn, kNLi, kNLr, va_rf_s, kOl_n, kOl_s, kap_n, kap_c, kb0, kb1, kbif, zif, z0, z1, Bool.false_eq_true, eq_self, not_true_eq_false, not_false_eq_true, if_true, if_false, and_self, true_and, false_and, and_true, and_false, nl_0_1, nl_0_2, nl_0_3, nl_0_4, nl_0_5, nl_0_6, nl_1_0, nl_1_2, nl_1_3, nl_1_4, nl_1_5, nl_1_6, nl_2_0, nl_2_1, nl_2_3, nl_2_4, nl_2_5, nl_2_6, nl_3_0, nl_3_1, nl_3_2, nl_3_4, nl_3_5, nl_3_6, nl_4_0, nl_4_1, nl_4_2, nl_4_3, nl_4_5, nl_4_6, nl_5_0, nl_5_1, nl_5_2, nl_5_3, nl_5_4, nl_5_6, nl_6_0, nl_6_1, nl_6_2, nl_6_3, nl_6_4, nl_6_5, nz_1, nz_2, nz_3, nz_4, nz_5, nz_6, ki_83, mr_83_3]
  refine R_num h hq hTk (by decide) (by decide) (fun c1 mi2 f2 b => ?_) (fun c1 c2 mi2 f2 b => ?_) (fun c1 c2 c3 mi2 f2 b => ?_) (fun c1 c2 c3 mi2 f2 b => ?_)
  · rw [if_neg c1] at eN
    simp only [↓s122_0, ↓s122_1, ↓s122_28, ↓s122_29, ↓s122_32, ↓s122_35, ↓s122_36, ↓s122_39, ↓s122_41, ↓s122_42, ↓s122_43, ↓s122_44, ↓s122_47, ↓s122_48, ↓s122_51, ↓s122_52, ↓s122_55, ↓s122_56, ↓s122_57, ↓s122_60, ↓s122_62, ↓s122_63, ↓s122_64, ↓s122_65, ↓s122_66, ↓s122_67, ↓s122_68, ↓s122_69, ↓s122_72, ↓s122_73, ↓s122_74, ↓s122_77, ↓s122_79, ↓s122_80, ↓s122_81, ↓s122_82, ↓s122_83, ↓s122_84, ↓s122_85, ↓s122_87, ↓s122_90, ↓s122_91, ↓s122_92, ↓s122_95, ↓s122_96, ↓s122_97, ↓s122_100, ↓s122_102, ↓s122_103, ↓s122_104, ↓s122_105, ↓s122_106, ↓s122_107, ↓s122_108, ↓s122_110, ↓s122_113, ↓s122_114, ↓s122_115, ↓s122_118, ↓s122_120, ↓s122_121, ↓s122_122, ↓s122_123, ↓s122_124, ↓s122_125, kNLn, kNLi, kNLr, va_rf_s, kOl_n, kOl_s, kap_n, kap_c, kb0, kb1, kbif, zif, z0, z1, Bool.false_eq_true, eq_self, not_true_eq_false, not_false_eq_true, if_true, if_false, and_self, true_and, false_and, and_true, and_false, ki_87, kl_87, c53, v53]
    exact hQ1 _ eN _ (fQ_87 (fQ_fK f2 hL6)) (rFlt_up b (by omega))
  · rw [if_pos c1, if_neg c2] at eN
    simp only [↓s122_0, ↓s122_1, ↓s122_28, ↓s122_29, ↓s122_32, ↓s122_35, ↓s122_36, ↓s122_39, ↓s122_41, ↓s122_42, ↓s122_43, ↓s122_44, ↓s122_47, ↓s122_48, ↓s122_51, ↓s122_52, ↓s122_55, ↓s122_56, ↓s122_57, ↓s122_60, ↓s122_62, ↓s122_63, ↓s122_64, ↓s122_65, ↓s122_66, ↓s122_67, ↓s122_68, ↓s122_69, ↓s122_72, ↓s122_73, ↓s122_74, ↓s122_77, ↓s122_79, ↓s122_80, ↓s122_81, ↓s122_82, ↓s122_83, ↓s122_84, ↓s122_85, ↓s122_87, ↓s122_90, ↓s122_91, ↓s122_92, ↓s122_95, ↓s122_96, ↓s122_97, ↓s122_100, ↓s122_102, ↓s122_103, ↓s122_104, ↓s122_105, ↓s122_106, ↓s122_107, ↓s122_108, ↓s122_110, ↓s122_113, ↓s122_114, ↓s122_115, ↓s122_118, ↓s122_120, ↓s122_121, ↓s122_122, ↓s122_123, ↓s122_124, ↓s122_125, kNLn, kNLi, kNLr, va_rf_s, kOl_n, kOl_s, kap_n, kap_c, kb0, kb1, kbif, zif, z0, z1, Bool.false_eq_true, eq_self, not_true_eq_false, not_false_eq_true, if_true, if_false, and_self, true_and, false_and, and_true, and_false, ki_87, kl_87, c53, v53]
    exact hQ1 _ eN _ (fQ_87 (fQ_fK f2 hL6)) (rFlt_up b (by omega))
  · rw [if_pos c1, if_pos c2] at eN
    simp only [↓s122_0, ↓s122_1, ↓s122_28, ↓s122_29, ↓s122_32, ↓s122_35, ↓s122_36, ↓s122_39, ↓s122_41, ↓s122_42, ↓s122_43, ↓s122_44, ↓s122_47, ↓s122_48, ↓s122_51, ↓s122_52, ↓s122_55, ↓s122_56, ↓s122_57, ↓s122_60, ↓s122_62, ↓s122_63, ↓s122_64, ↓s122_65, ↓s122_66, ↓s122_67, ↓s122_68, ↓s122_69, ↓s122_72, ↓s122_73, ↓s122_74, ↓s122_77, ↓s122_79, ↓s122_80, ↓s122_81, ↓s122_82, ↓s122_83, ↓s122_84, ↓s122_85, ↓s122_87, ↓s122_90, ↓s122_91, ↓s122_92, ↓s122_95, ↓s122_96, ↓s122_97, ↓s122_100, ↓s122_102, ↓s122_103, ↓s122_104, ↓s122_105, ↓s122_106, ↓s122_107, ↓s122_108, ↓s122_110, ↓s122_113, ↓s122_114, ↓s122_115, ↓s122_118, ↓s122_120, ↓s122_121, ↓s122_122, ↓s122_123, ↓s122_124, ↓s122_125, kNLn, kNLi, kNLr, va_rf_s, kOl_n, kOl_s, kap_n, kap_c, kb0, kb1, kbif, zif, z0, z1, Bool.false_eq_true, eq_self, not_true_eq_false, not_false_eq_true, if_true, if_false, and_self, true_and, false_and, and_true, and_false, ki_87, kl_87, c53, v53]
    obtain ⟨e12, e8, e10, e9, e11⟩ := b
    refine hQ2 _ _ eN c3 _ hT (fQ_87 (fQ_fK f2 hL6)) ⟨?_, ?_, ?_, ?_, fun z => ?_⟩ ⟨?_, ?_, ?_, ?_⟩
    · rw [kup_ne (by decide)]; exact e12
    · rw [kup_ne (by decide)]; exact e8
    · rw [kup_ne (by decide)]; exact e10
    · rw [kup_ne (by decide)]; exact e9
    · rw [kup_ne (by decide)]; exact e11 z
    · rw [kup_eq, f2.1 87 (by decide), nput_s]
      obtain ⟨⟨h1, h2, h3, h4, h5⟩, hP, hL, hZ⟩ := ht.1
      refine ⟨⟨?_, ?_, ?_, ?_, ?_⟩, fun p u a b => ?_, fun i u a b => ?_, fun i a => ?_⟩
      · rw [pk_un (by decide)]; exact h1
      · rw [pk_un (by decide)]; exact h2
      · rw [pk_us]; rfl
      · rw [pk_un (by decide)]; exact h4
      · rw [pk_un (by decide)]; exact h5
      · have a' : p < T 0 0 := a
        rw [pk_un (by omega), tup_n (by omega)]; exact hP p u a' b
      · have a' : i < T 0 4 := a
        rw [pk_un (by omega), tup_n (by omega)]; exact hL i u a' b
      · rw [pk_un (by omega)]; exact hZ i a
    · rw [kup_ne (by decide), f2.2 4 (by decide)]; exact ht.2.1
    · rw [kup_ne (by decide), f2.2 5 (by decide)]; exact ht.2.2.1
    · exact ht.2.2.2
  · rw [if_pos c1, if_pos c2] at eN
    simp only [↓s122_0, ↓s122_1, ↓s122_28, ↓s122_29, ↓s122_32, ↓s122_35, ↓s122_36, ↓s122_39, ↓s122_41, ↓s122_42, ↓s122_43, ↓s122_44, ↓s122_47, ↓s122_48, ↓s122_51, ↓s122_52, ↓s122_55, ↓s122_56, ↓s122_57, ↓s122_60, ↓s122_62, ↓s122_63, ↓s122_64, ↓s122_65, ↓s122_66, ↓s122_67, ↓s122_68, ↓s122_69, ↓s122_72, ↓s122_73, ↓s122_74, ↓s122_77, ↓s122_79, ↓s122_80, ↓s122_81, ↓s122_82, ↓s122_83, ↓s122_84, ↓s122_85, ↓s122_87, ↓s122_90, ↓s122_91, ↓s122_92, ↓s122_95, ↓s122_96, ↓s122_97, ↓s122_100, ↓s122_102, ↓s122_103, ↓s122_104, ↓s122_105, ↓s122_106, ↓s122_107, ↓s122_108, ↓s122_110, ↓s122_113, ↓s122_114, ↓s122_115, ↓s122_118, ↓s122_120, ↓s122_121, ↓s122_122, ↓s122_123, ↓s122_124, ↓s122_125, kNLn, kNLi, kNLr, va_rf_s, kOl_n, kOl_s, kap_n, kap_c, kb0, kb1, kbif, zif, z0, z1, Bool.false_eq_true, eq_self, not_true_eq_false, not_false_eq_true, if_true, if_false, and_self, true_and, false_and, and_true, and_false, ki_87, kl_87, c53, v53]
    exact hQ3 _ _ eN c3 _ (fQ_87 (fQ_fK f2 hL6)) (rFlt_up b (by omega))
end RLINE2
