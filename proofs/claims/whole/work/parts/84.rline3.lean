/-! the text: one of a kind; a whole line; the reference's side -/
section RLINE3
variable {mi : Nat → Nat → Int32} {ml : Nat → Nat → Int64} {m : kMem} {Q : Option Value → kMem → Prop} {B : Nat → Nat} {n lo hi q b e j i K ln hT : Nat} {T : tT} {hp : Bool} {vs : Nat → Nat}
theorem dR_putP {d : Nat → Int32} {w : Nat} {x : Int32} (h : dR T d) (hp : T 0 0 < 5) (hw : w < 3) : dR T (upd d (3 * T 0 0 + w) x) := by
  obtain ⟨⟨h1, h2, h3, h4, h5⟩, hP, hL, hZ⟩ := h
  refine ⟨⟨?_, ?_, ?_, ?_, ?_⟩, fun p u a b => ?_, fun i u a b => ?_, fun i a => ?_⟩
  · rw [pk_un (by omega)]; exact h1
  · rw [pk_un (by omega)]; exact h2
  · rw [pk_un (by omega)]; exact h3
  · rw [pk_un (by omega)]; exact h4
  · rw [pk_un (by omega)]; exact h5
  · rw [pk_un (by omega)]; exact hP p u a b
  · rw [pk_un (by omega)]; exact hL i u a b
  · rw [pk_un (by omega)]; exact hZ i a
theorem dR_addO {d : Nat → Int32} (h : dR T d) (hp : T 0 0 < 5) (hl : T 0 4 ≤ 6) (v0 : d (3 * T 0 0 + 0) = nI K) (v1 : d (3 * T 0 0 + 1) = nI (vs 0)) (v2 : d (3 * T 0 0 + 2) = nI (vs 1)) : dR (paddO T K vs) (upd d 15 (nI (T 0 0 + 1))) := by
  obtain ⟨⟨h1, h2, h3, h4, h5⟩, hP, hL, hZ⟩ := h
  have e : ∀ r k, paddO T K vs r k = if r = 0 ∧ k = 0 then T 0 0 + 1 else if r = 3 ∧ k = T 0 0 then vs 1 else if r = 2 ∧ k = T 0 0 then vs 0 else if r = 1 ∧ k = T 0 0 then K else T r k := fun r k => rfl
  have e0 : paddO T K vs 0 0 = T 0 0 + 1 := rfl
  have e4 : paddO T K vs 0 4 = T 0 4 := rfl
  refine ⟨⟨?_, ?_, ?_, ?_, ?_⟩, fun p u a b => ?_, fun i u a b => ?_, fun i a => ?_⟩
  · rw [pk_us, e0]
  · rw [pk_un (by omega)]; exact h2
  · rw [pk_un (by omega)]; exact h3
  · rw [pk_un (by omega)]; exact h4
  · rw [pk_un (by omega)]; exact h5
  · rw [e0] at a
    rw [pk_un (by omega), e (1 + u) p, if_neg (by omega)]
    by_cases ep : p = T 0 0
    · subst ep
      rcases (by omega : u = 0 ∨ u = 1 ∨ u = 2) with rfl | rfl | rfl
      · rw [v0, if_neg (by omega), if_neg (by omega), if_pos ⟨rfl, rfl⟩]
      · rw [v1, if_neg (by omega), if_pos ⟨rfl, rfl⟩]
      · rw [v2, if_pos ⟨rfl, rfl⟩]
    · rw [if_neg (by omega), if_neg (by omega), if_neg (by omega)]; exact hP p u (by omega) b
  · rw [e4] at a
    rw [pk_un (by omega), e (4 + u) i, if_neg (by omega), if_neg (by omega), if_neg (by omega), if_neg (by omega)]; exact hL i u a b
  · rw [pk_un (by omega)]; exact hZ i a
theorem R_kind113F {F : Nat × Nat} {p : Nat} {x : Int32} (hp5 : p < 5) (h : rFlt F mi) (hQ : ∀ mi', fQ mi mi' → rFlt F mi' → Q none (mi', ml, MR, 95)) : kJ 122 113 [some (.ref 83), some (.int (nI K))] [.int x, .int (nI (3 * p + 2)), .ref 87] (mi, ml, MR, 95) Q := by
  have hcc : (nI (3 * p + 2)).toNatClampNeg = 3 * p + 2 := nI_clamp (by omega)
  have hvv : vp_in (nI (3 * p + 2)) 74 := vp_in_nI (by omega) (by decide)
  have c15 : (nI 15).toNatClampNeg = 15 := rfl
  have v15 : vp_in (nI 15) 74 := vp_in_nI (by decide) (by decide)
  simp only [↓s122_0, ↓s122_1, ↓s122_28, ↓s122_29, ↓s122_32, ↓s122_35, ↓s122_36, ↓s122_39, ↓s122_41, ↓s122_42, ↓s122_43, ↓s122_44, ↓s122_47, ↓s122_48, ↓s122_51, ↓s122_52, ↓s122_55, ↓s122_56, ↓s122_57, ↓s122_60, ↓s122_62, ↓s122_63, ↓s122_64, ↓s122_65, ↓s122_66, ↓s122_67, ↓s122_68, ↓s122_69, ↓s122_72, ↓s122_73, ↓s122_74, ↓s122_77, ↓s122_79, ↓s122_80, ↓s122_81, ↓s122_82, ↓s122_83, ↓s122_84, ↓s122_85, ↓s122_87, ↓s122_90, ↓s122_91, ↓s122_92, ↓s122_95, ↓s122_96, ↓s122_97, ↓s122_100, ↓s122_102, ↓s122_103, ↓s122_104, ↓s122_105, ↓s122_106, ↓s122_107, ↓s122_108, ↓s122_110, ↓s122_113, ↓s122_114, ↓s122_115, ↓s122_118, ↓s122_120, ↓s122_121, ↓s122_122, ↓s122_123, ↓s122_124, ↓s122_125, kNLn, kNLi, kNLr, va_rf_s, kOl_n, kOl_s, kap_n, kap_c, kb0, kb1, kbif, zif, z0, z1, Bool.false_eq_true, eq_self, not_true_eq_false, not_false_eq_true, if_true, if_false, and_self, true_and, false_and, and_true, and_false, ki_83, ki_87, kl_87, mr_83_3, hcc, hvv, c15, v15]
  exact hQ _ (fQ_87 (fQ_87 fQ_rf)) (rFlt_up (rFlt_up h (by omega)) (by omega))
theorem R_kind90F {F : Nat × Nat} {p : Nat} {x : Int32} (hp5 : p < 5) (h15 : mi 87 15 = nI p) (h : rFlt F mi) (hQ : ∀ mi', fQ mi mi' → rFlt F mi' → Q none (mi', ml, MR, 95)) : kJ 122 90 [some (.ref 83), some (.int (nI K))] [.int x, .int (nI (3 * p + 1)), .ref 87] (mi, ml, MR, 95) Q := by
  have hcc : (nI (3 * p + 1)).toNatClampNeg = 3 * p + 1 := nI_clamp (by omega)
  have hvv : vp_in (nI (3 * p + 1)) 74 := vp_in_nI (by omega) (by decide)
  have k15 : kup mi 87 (3 * p + 1) x 87 15 = nI p := by rw [kup_eq, pk_un (by omega)]; exact h15
  have h2 := rFlt_up (a := 87) (k := 3 * p + 1) (v := x) h (by omega)
  have c15 : (nI 15).toNatClampNeg = 15 := rfl
  have v15 : vp_in (nI 15) 74 := vp_in_nI (by decide) (by decide)
  simp only [↓s122_0, ↓s122_1, ↓s122_28, ↓s122_29, ↓s122_32, ↓s122_35, ↓s122_36, ↓s122_39, ↓s122_41, ↓s122_42, ↓s122_43, ↓s122_44, ↓s122_47, ↓s122_48, ↓s122_51, ↓s122_52, ↓s122_55, ↓s122_56, ↓s122_57, ↓s122_60, ↓s122_62, ↓s122_63, ↓s122_64, ↓s122_65, ↓s122_66, ↓s122_67, ↓s122_68, ↓s122_69, ↓s122_72, ↓s122_73, ↓s122_74, ↓s122_77, ↓s122_79, ↓s122_80, ↓s122_81, ↓s122_82, ↓s122_83, ↓s122_84, ↓s122_85, ↓s122_87, ↓s122_90, ↓s122_91, ↓s122_92, ↓s122_95, ↓s122_96, ↓s122_97, ↓s122_100, ↓s122_102, ↓s122_103, ↓s122_104, ↓s122_105, ↓s122_106, ↓s122_107, ↓s122_108, ↓s122_110, ↓s122_114, ↓s122_115, ↓s122_118, ↓s122_120, ↓s122_121, ↓s122_122, ↓s122_123, ↓s122_124, ↓s122_125, ↓R_numE h2.2.2, kNLn, kNLi, kNLr, va_rf_s, kOl_n, kOl_s, kap_n, kap_c, kb0, kb1, kbif, zif, z0, z1, Bool.false_eq_true, eq_self, not_true_eq_false, not_false_eq_true, if_true, if_false, and_self, true_and, false_and, and_true, and_false, ki_83, ki_87, kl_87, mr_83_3, hcc, hvv, c15, v15, k15, pk_mul, nI_add]
  exact R_kind113F hp5 h2 (fun mi' a b => hQ mi' (fQ_tr (fQ_87 fQ_rf) a) b)
theorem R_kindL (hK : K < 4) (h : rT n B mi) (hq : q ≤ n) (hk4 : tK B n q ≠ 4) (hpo : pOK T) (hp5 : T 0 0 < 5) (hTk : rTok B n q mi) (ht : rTold T hp hT mi)
    (hQ1 : ∀ F, nmsF B n K 2 0 (fun _ => 0) q = .inl F → ∀ mi', fQ mi mi' → rFlt F mi' → Q none (mi', ml, MR, 95))
    (hQ2 : ∀ vs q', nmsF B n K 2 0 (fun _ => 0) q = .inr (vs, q') → tK B n q' ≠ 4 → ∀ mi' hT', fQ mi mi' → rTok B n q' mi' → rTold (paddO T K vs) hp hT' mi' → Q none (mi', ml, MR, 95))
    (hQ3 : ∀ vs q', nmsF B n K 2 0 (fun _ => 0) q = .inr (vs, q') → tK B n q' = 4 → ∀ mi', fQ mi mi' → rFlt (1, tB B n q') mi' → Q none (mi', ml, MR, 95)) :
    kJ 122 0 [some (.ref 83), some (.int (nI K))] [] (mi, ml, MR, 95) Q := by
  have c15 : (nI 15).toNatClampNeg = 15 := rfl
  have v15 : vp_in (nI 15) 74 := vp_in_nI (by decide) (by decide)
  have o2 := hpo.2.1
  have hL6 : ∀ j, j ∈ [8, 9, 10, 11, 12, 13] → j ∈ [4, 5, 8, 9, 10, 11, 12, 13] := by decide
  have l4 : (nI K = nI 4) = False := eq_false (fun z => by have := (nI_eq (by omega) (by decide)).mp z; omega)
  have l5 : (nI K = nI 5) = False := eq_false (fun z => by have := (nI_eq (by omega) (by decide)).mp z; omega)
  have eN := nms_s (K := K) (j := 0) (k := 1) (vs := fun _ => 0) hk4
  have bd0 : bdF K 0 = (0, 9) := by
    unfold bdF
    rw [if_neg (by omega), if_neg (by omega), if_pos rfl]
  have bd1 : bdF K 1 = (0, 20) := by
    unfold bdF
    rw [if_neg (by omega), if_neg (by omega), if_neg (by decide)]
  rw [bd0] at eN
  have t15 := ht.1.1.1
  have hc0 : (nI (3 * T 0 0 + 0)).toNatClampNeg = 3 * T 0 0 + 0 := nI_clamp (by omega)
  have hv0 : vp_in (nI (3 * T 0 0 + 0)) 74 := vp_in_nI (by omega) (by decide)
  have hc1 : (nI (3 * T 0 0 + 1)).toNatClampNeg = 3 * T 0 0 + 1 := nI_clamp (by omega)
  have hv1 : vp_in (nI (3 * T 0 0 + 1)) 74 := vp_in_nI (by omega) (by decide)
  have hc2 : (nI (3 * T 0 0 + 2)).toNatClampNeg = 3 * T 0 0 + 2 := nI_clamp (by omega)
  have hv2 : vp_in (nI (3 * T 0 0 + 2)) 74 := vp_in_nI (by omega) (by decide)
  have k15 : kup mi 87 (3 * T 0 0 + 0) (nI K) 87 15 = nI (T 0 0) := by rw [kup_eq, pk_un (by omega)]; exact t15
  simp only [↓s122_0, ↓s122_1, ↓s122_28, ↓s122_29, ↓s122_32, ↓s122_35, ↓s122_36, ↓s122_39, ↓s122_41, ↓s122_42, ↓s122_43, ↓s122_44, ↓s122_47, ↓s122_48, ↓s122_51, ↓s122_52, ↓s122_55, ↓s122_56, ↓s122_57, ↓s122_60, ↓s122_62, ↓s122_63, ↓s122_64, ↓s122_65, ↓s122_66, ↓s122_67, ↓s122_68, ↓s122_69, ↓s122_72, ↓s122_73, ↓s122_74, ↓s122_77, ↓s122_79, ↓s122_80, ↓s122_81, ↓s122_82, ↓s122_83, ↓s122_84, ↓s122_85, ↓s122_87, ↓s122_91, ↓s122_92, ↓s122_95, ↓s122_96, ↓s122_97, ↓s122_100, ↓s122_102, ↓s122_103, ↓s122_104, ↓s122_105, ↓s122_106, ↓s122_107, ↓s122_108, ↓s122_110, ↓s122_113, ↓s122_114, ↓s122_115, ↓s122_118, ↓s122_120, ↓s122_121, ↓s122_122, ↓s122_123, ↓s122_124, ↓s122_125, kNLn, kNLi, kNLr, va_rf_s, kOl_n, kOl_s, kap_n, kap_c, kb0, kb1, kbif, zif, z0, z1, Bool.false_eq_true, eq_self, not_true_eq_false, not_false_eq_true, if_true, if_false, and_self, true_and, false_and, and_true, and_false, l4, l5, ki_83, ki_87, kl_87, mr_83_3, c15, v15, t15, pk_mul, nI_add, hc0, hv0, k15]
  have f0 : fQ mi (kup mi 87 (3 * T 0 0 + 0) (nI K)) := fQ_87 fQ_rf
  have tk0 : rTok B n q (kup mi 87 (3 * T 0 0 + 0) (nI K)) := by
    obtain ⟨e12, e8, e10, e9, e11⟩ := hTk
    refine ⟨?_, ?_, ?_, ?_, fun z => ?_⟩
    · rw [kup_ne (by decide)]; exact e12
    · rw [kup_ne (by decide)]; exact e8
    · rw [kup_ne (by decide)]; exact e10
    · rw [kup_ne (by decide)]; exact e9
    · rw [kup_ne (by decide)]; exact e11 z
  refine R_num (rT_fQ h f0) hq tk0 (by decide) (by decide) (fun c1 mi2 f2 b => ?_) (fun c1 c2 mi2 f2 b => ?_) (fun c1 c2 c3 mi2 f2 b => ?_) (fun c1 c2 c3 mi2 f2 b => ?_)
  · rw [if_neg c1] at eN
    simp only [↓s122_0, ↓s122_1, ↓s122_28, ↓s122_29, ↓s122_32, ↓s122_35, ↓s122_36, ↓s122_39, ↓s122_41, ↓s122_42, ↓s122_43, ↓s122_44, ↓s122_47, ↓s122_48, ↓s122_51, ↓s122_52, ↓s122_55, ↓s122_56, ↓s122_57, ↓s122_60, ↓s122_62, ↓s122_63, ↓s122_64, ↓s122_65, ↓s122_66, ↓s122_67, ↓s122_68, ↓s122_69, ↓s122_72, ↓s122_73, ↓s122_74, ↓s122_77, ↓s122_79, ↓s122_80, ↓s122_81, ↓s122_82, ↓s122_83, ↓s122_84, ↓s122_85, ↓s122_87, ↓s122_91, ↓s122_92, ↓s122_95, ↓s122_96, ↓s122_97, ↓s122_100, ↓s122_102, ↓s122_103, ↓s122_104, ↓s122_105, ↓s122_106, ↓s122_107, ↓s122_108, ↓s122_110, ↓s122_113, ↓s122_114, ↓s122_115, ↓s122_118, ↓s122_120, ↓s122_121, ↓s122_122, ↓s122_123, ↓s122_124, ↓s122_125, kNLn, kNLi, kNLr, va_rf_s, kOl_n, kOl_s, kap_n, kap_c, kb0, kb1, kbif]
    exact R_kind90F hp5 (by rw [f2.1 87 (by decide)]; exact k15) b (fun mi' a b' => hQ1 _ eN mi' (fQ_tr (fQ_tr f0 (fQ_fK f2 hL6)) a) b')
  · rw [if_pos c1, if_neg c2] at eN
    simp only [↓s122_0, ↓s122_1, ↓s122_28, ↓s122_29, ↓s122_32, ↓s122_35, ↓s122_36, ↓s122_39, ↓s122_41, ↓s122_42, ↓s122_43, ↓s122_44, ↓s122_47, ↓s122_48, ↓s122_51, ↓s122_52, ↓s122_55, ↓s122_56, ↓s122_57, ↓s122_60, ↓s122_62, ↓s122_63, ↓s122_64, ↓s122_65, ↓s122_66, ↓s122_67, ↓s122_68, ↓s122_69, ↓s122_72, ↓s122_73, ↓s122_74, ↓s122_77, ↓s122_79, ↓s122_80, ↓s122_81, ↓s122_82, ↓s122_83, ↓s122_84, ↓s122_85, ↓s122_87, ↓s122_91, ↓s122_92, ↓s122_95, ↓s122_96, ↓s122_97, ↓s122_100, ↓s122_102, ↓s122_103, ↓s122_104, ↓s122_105, ↓s122_106, ↓s122_107, ↓s122_108, ↓s122_110, ↓s122_113, ↓s122_114, ↓s122_115, ↓s122_118, ↓s122_120, ↓s122_121, ↓s122_122, ↓s122_123, ↓s122_124, ↓s122_125, kNLn, kNLi, kNLr, va_rf_s, kOl_n, kOl_s, kap_n, kap_c, kb0, kb1, kbif]
    exact R_kind90F hp5 (by rw [f2.1 87 (by decide)]; exact k15) b (fun mi' a b' => hQ1 _ eN mi' (fQ_tr (fQ_tr f0 (fQ_fK f2 hL6)) a) b')
  · rw [if_pos c1, if_pos c2, nms_s c3, bd1] at eN
    have f02 := fQ_tr f0 (fQ_fK f2 hL6)
    have k152 : kup mi2 87 (3 * T 0 0 + 1) (nI (tV B n q)) 87 15 = nI (T 0 0) := by rw [kup_eq, pk_un (by omega), f2.1 87 (by decide)]; exact k15
    simp only [↓s122_0, ↓s122_1, ↓s122_28, ↓s122_29, ↓s122_32, ↓s122_35, ↓s122_36, ↓s122_39, ↓s122_41, ↓s122_42, ↓s122_43, ↓s122_44, ↓s122_47, ↓s122_48, ↓s122_51, ↓s122_52, ↓s122_55, ↓s122_56, ↓s122_57, ↓s122_60, ↓s122_62, ↓s122_63, ↓s122_64, ↓s122_65, ↓s122_66, ↓s122_67, ↓s122_68, ↓s122_69, ↓s122_72, ↓s122_73, ↓s122_74, ↓s122_77, ↓s122_79, ↓s122_80, ↓s122_81, ↓s122_82, ↓s122_83, ↓s122_84, ↓s122_85, ↓s122_87, ↓s122_90, ↓s122_91, ↓s122_92, ↓s122_95, ↓s122_96, ↓s122_97, ↓s122_100, ↓s122_102, ↓s122_103, ↓s122_104, ↓s122_105, ↓s122_106, ↓s122_107, ↓s122_108, ↓s122_110, ↓s122_114, ↓s122_115, ↓s122_118, ↓s122_120, ↓s122_121, ↓s122_122, ↓s122_123, ↓s122_124, ↓s122_125, kNLn, kNLi, kNLr, va_rf_s, kOl_n, kOl_s, kap_n, kap_c, kb0, kb1, kbif, zif, z0, z1, Bool.false_eq_true, eq_self, not_true_eq_false, not_false_eq_true, if_true, if_false, and_self, true_and, false_and, and_true, and_false, ki_83, ki_87, kl_87, mr_83_3, c15, v15, hc1, hv1, k152, pk_mul, nI_add]
    have f3 : fQ mi (kup mi2 87 (3 * T 0 0 + 1) (nI (tV B n q))) := fQ_87 f02
    have tk3 : rTok B n (tE B n q) (kup mi2 87 (3 * T 0 0 + 1) (nI (tV B n q))) := by
      obtain ⟨e12, e8, e10, e9, e11⟩ := b
      refine ⟨?_, ?_, ?_, ?_, fun z => ?_⟩
      · rw [kup_ne (by decide)]; exact e12
      · rw [kup_ne (by decide)]; exact e8
      · rw [kup_ne (by decide)]; exact e10
      · rw [kup_ne (by decide)]; exact e9
      · rw [kup_ne (by decide)]; exact e11 z
    refine R_num (rT_fQ h f3) (tE_le hq) tk3 (by decide) (by decide) (fun d1 mi4 f4 b4 => ?_) (fun d1 d2 mi4 f4 b4 => ?_) (fun d1 d2 d3 mi4 f4 b4 => ?_) (fun d1 d2 d3 mi4 f4 b4 => ?_)
    · rw [if_neg d1] at eN
      simp only [↓s122_0, ↓s122_1, ↓s122_28, ↓s122_29, ↓s122_32, ↓s122_35, ↓s122_36, ↓s122_39, ↓s122_41, ↓s122_42, ↓s122_43, ↓s122_44, ↓s122_47, ↓s122_48, ↓s122_51, ↓s122_52, ↓s122_55, ↓s122_56, ↓s122_57, ↓s122_60, ↓s122_62, ↓s122_63, ↓s122_64, ↓s122_65, ↓s122_66, ↓s122_67, ↓s122_68, ↓s122_69, ↓s122_72, ↓s122_73, ↓s122_74, ↓s122_77, ↓s122_79, ↓s122_80, ↓s122_81, ↓s122_82, ↓s122_83, ↓s122_84, ↓s122_85, ↓s122_87, ↓s122_90, ↓s122_91, ↓s122_92, ↓s122_95, ↓s122_96, ↓s122_97, ↓s122_100, ↓s122_102, ↓s122_103, ↓s122_104, ↓s122_105, ↓s122_106, ↓s122_107, ↓s122_108, ↓s122_110, ↓s122_114, ↓s122_115, ↓s122_118, ↓s122_120, ↓s122_121, ↓s122_122, ↓s122_123, ↓s122_124, ↓s122_125, kNLn, kNLi, kNLr, va_rf_s, kOl_n, kOl_s, kap_n, kap_c, kb0, kb1, kbif]
      exact R_kind113F hp5 b4 (fun mi' a b' => hQ1 _ eN mi' (fQ_tr (fQ_tr f3 (fQ_fK f4 hL6)) a) b')
    · rw [if_pos d1, if_neg d2] at eN
      simp only [↓s122_0, ↓s122_1, ↓s122_28, ↓s122_29, ↓s122_32, ↓s122_35, ↓s122_36, ↓s122_39, ↓s122_41, ↓s122_42, ↓s122_43, ↓s122_44, ↓s122_47, ↓s122_48, ↓s122_51, ↓s122_52, ↓s122_55, ↓s122_56, ↓s122_57, ↓s122_60, ↓s122_62, ↓s122_63, ↓s122_64, ↓s122_65, ↓s122_66, ↓s122_67, ↓s122_68, ↓s122_69, ↓s122_72, ↓s122_73, ↓s122_74, ↓s122_77, ↓s122_79, ↓s122_80, ↓s122_81, ↓s122_82, ↓s122_83, ↓s122_84, ↓s122_85, ↓s122_87, ↓s122_90, ↓s122_91, ↓s122_92, ↓s122_95, ↓s122_96, ↓s122_97, ↓s122_100, ↓s122_102, ↓s122_103, ↓s122_104, ↓s122_105, ↓s122_106, ↓s122_107, ↓s122_108, ↓s122_110, ↓s122_114, ↓s122_115, ↓s122_118, ↓s122_120, ↓s122_121, ↓s122_122, ↓s122_123, ↓s122_124, ↓s122_125, kNLn, kNLi, kNLr, va_rf_s, kOl_n, kOl_s, kap_n, kap_c, kb0, kb1, kbif]
      exact R_kind113F hp5 b4 (fun mi' a b' => hQ1 _ eN mi' (fQ_tr (fQ_tr f3 (fQ_fK f4 hL6)) a) b')
    · rw [if_pos d1, if_pos d2] at eN
      have e87 : mi4 87 = upd (upd (mi 87) (3 * T 0 0 + 0) (nI K)) (3 * T 0 0 + 1) (nI (tV B n q)) := by
        rw [f4.1 87 (by decide), kup_eq, f2.1 87 (by decide), kup_eq]
      have k153 : kup mi4 87 (3 * T 0 0 + 2) (nI (tV B n (tE B n q))) 87 15 = nI (T 0 0) := by
        rw [kup_eq, pk_un (by omega), e87, pk_un (by omega), pk_un (by omega)]; exact t15
      simp only [↓s122_0, ↓s122_1, ↓s122_28, ↓s122_29, ↓s122_32, ↓s122_35, ↓s122_36, ↓s122_39, ↓s122_41, ↓s122_42, ↓s122_43, ↓s122_44, ↓s122_47, ↓s122_48, ↓s122_51, ↓s122_52, ↓s122_55, ↓s122_56, ↓s122_57, ↓s122_60, ↓s122_62, ↓s122_63, ↓s122_64, ↓s122_65, ↓s122_66, ↓s122_67, ↓s122_68, ↓s122_69, ↓s122_72, ↓s122_73, ↓s122_74, ↓s122_77, ↓s122_79, ↓s122_80, ↓s122_81, ↓s122_82, ↓s122_83, ↓s122_84, ↓s122_85, ↓s122_87, ↓s122_90, ↓s122_91, ↓s122_92, ↓s122_95, ↓s122_96, ↓s122_97, ↓s122_100, ↓s122_102, ↓s122_103, ↓s122_104, ↓s122_105, ↓s122_106, ↓s122_107, ↓s122_108, ↓s122_110, ↓s122_113, ↓s122_114, ↓s122_115, ↓s122_118, ↓s122_120, ↓s122_121, ↓s122_122, ↓s122_123, ↓s122_124, ↓s122_125, kNLn, kNLi, kNLr, va_rf_s, kOl_n, kOl_s, kap_n, kap_c, kb0, kb1, kbif, zif, z0, z1, Bool.false_eq_true, eq_self, not_true_eq_false, not_false_eq_true, if_true, if_false, and_self, true_and, false_and, and_true, and_false, ki_83, ki_87, kl_87, mr_83_3, c15, v15, hc2, hv2, k153, nI_add]
      obtain ⟨e12, e8, e10, e9, e11⟩ := b4
      refine hQ2 _ _ eN d3 _ hT (fQ_87 (fQ_87 (fQ_tr f3 (fQ_fK f4 hL6)))) ⟨?_, ?_, ?_, ?_, fun z => ?_⟩ ⟨?_, ?_, ?_, ?_⟩
      · rw [kup_ne (by decide), kup_ne (by decide)]; exact e12
      · rw [kup_ne (by decide), kup_ne (by decide)]; exact e8
      · rw [kup_ne (by decide), kup_ne (by decide)]; exact e10
      · rw [kup_ne (by decide), kup_ne (by decide)]; exact e9
      · rw [kup_ne (by decide), kup_ne (by decide)]; exact e11 z
      · rw [kup_eq, kup_eq, e87]
        refine dR_addO (dR_putP (dR_putP (dR_putP ht.1 hp5 (by decide)) hp5 (by decide)) hp5 (by decide)) hp5 o2 ?_ ?_ ?_
        · rw [pk_un (by omega), pk_un (by omega), pk_us]
        · rw [pk_un (by omega), pk_us, nput_n (by decide), nput_s]
        · rw [pk_us, nput_s]
      · rw [kup_ne (by decide), kup_ne (by decide), f4.2 4 (by decide), kup_ne (by decide), f2.2 4 (by decide), kup_ne (by decide)]; exact ht.2.1
      · rw [kup_ne (by decide), kup_ne (by decide), f4.2 5 (by decide), kup_ne (by decide), f2.2 5 (by decide), kup_ne (by decide)]; exact ht.2.2.1
      · exact ht.2.2.2
    · rw [if_pos d1, if_pos d2] at eN
      simp only [↓s122_0, ↓s122_1, ↓s122_28, ↓s122_29, ↓s122_32, ↓s122_35, ↓s122_36, ↓s122_39, ↓s122_41, ↓s122_42, ↓s122_43, ↓s122_44, ↓s122_47, ↓s122_48, ↓s122_51, ↓s122_52, ↓s122_55, ↓s122_56, ↓s122_57, ↓s122_60, ↓s122_62, ↓s122_63, ↓s122_64, ↓s122_65, ↓s122_66, ↓s122_67, ↓s122_68, ↓s122_69, ↓s122_72, ↓s122_73, ↓s122_74, ↓s122_77, ↓s122_79, ↓s122_80, ↓s122_81, ↓s122_82, ↓s122_83, ↓s122_84, ↓s122_85, ↓s122_87, ↓s122_90, ↓s122_91, ↓s122_92, ↓s122_95, ↓s122_96, ↓s122_97, ↓s122_100, ↓s122_102, ↓s122_103, ↓s122_104, ↓s122_105, ↓s122_106, ↓s122_107, ↓s122_108, ↓s122_110, ↓s122_114, ↓s122_115, ↓s122_118, ↓s122_120, ↓s122_121, ↓s122_122, ↓s122_123, ↓s122_124, ↓s122_125, kNLn, kNLi, kNLr, va_rf_s, kOl_n, kOl_s, kap_n, kap_c, kb0, kb1, kbif]
      exact R_kind113F hp5 b4 (fun mi' a b' => hQ3 _ _ eN d3 mi' (fQ_tr (fQ_tr f3 (fQ_fK f4 hL6)) a) b')
  · rw [if_pos c1, if_pos c2, nms_4 c3] at eN
    simp only [↓s122_0, ↓s122_1, ↓s122_28, ↓s122_29, ↓s122_32, ↓s122_35, ↓s122_36, ↓s122_39, ↓s122_41, ↓s122_42, ↓s122_43, ↓s122_44, ↓s122_47, ↓s122_48, ↓s122_51, ↓s122_52, ↓s122_55, ↓s122_56, ↓s122_57, ↓s122_60, ↓s122_62, ↓s122_63, ↓s122_64, ↓s122_65, ↓s122_66, ↓s122_67, ↓s122_68, ↓s122_69, ↓s122_72, ↓s122_73, ↓s122_74, ↓s122_77, ↓s122_79, ↓s122_80, ↓s122_81, ↓s122_82, ↓s122_83, ↓s122_84, ↓s122_85, ↓s122_87, ↓s122_91, ↓s122_92, ↓s122_95, ↓s122_96, ↓s122_97, ↓s122_100, ↓s122_102, ↓s122_103, ↓s122_104, ↓s122_105, ↓s122_106, ↓s122_107, ↓s122_108, ↓s122_110, ↓s122_113, ↓s122_114, ↓s122_115, ↓s122_118, ↓s122_120, ↓s122_121, ↓s122_122, ↓s122_123, ↓s122_124, ↓s122_125, kNLn, kNLi, kNLr, va_rf_s, kOl_n, kOl_s, kap_n, kap_c, kb0, kb1, kbif]
    exact R_kind90F hp5 (by rw [f2.1 87 (by decide)]; exact k15) b (fun mi' a b' => hQ1 _ eN mi' (fQ_tr (fQ_tr f0 (fQ_fK f2 hL6)) a) b')
theorem R_lineOf {hp0 : Bool} (hK : K ≤ 6) (hc : chkF T hp0 K = 0) (h : rT n B mi) (hq : q ≤ n) (hk4 : tK B n q ≠ 4) (hpo : pOK T) (hTk : rTok B n q mi) (ht : rTold T hp hT mi)
    (hQ1 : ∀ F, nmsF B n K (wtF K) 0 (fun _ => 0) q = .inl F → ∀ mi', fQ mi mi' → rFlt F mi' → Q none (mi', ml, MR, 95))
    (hQ2 : ∀ vs q', nmsF B n K (wtF K) 0 (fun _ => 0) q = .inr (vs, q') → tK B n q' ≠ 4 → ∀ mi' hT', fQ mi mi' → rTok B n q' mi' → rTold (papF T K vs) hp hT' mi' → Q none (mi', ml, MR, 95))
    (hQ3 : ∀ vs q', nmsF B n K (wtF K) 0 (fun _ => 0) q = .inr (vs, q') → tK B n q' = 4 → ∀ mi', fQ mi mi' → rFlt (1, tB B n q') mi' → Q none (mi', ml, MR, 95)) :
    kJ 122 0 [some (.ref 83), some (.int (nI K))] [] (mi, ml, MR, 95) Q := by
  obtain ⟨k1, k2, k3, k4⟩ := chk_0 hK hc
  by_cases c5 : K = 5
  · subst c5
    exact R_paceL h hq hk4 hpo hTk ht hQ1 hQ2 hQ3
  · by_cases c4 : K = 4
    · subst c4
      simp only [↓s122_0, ↓s122_1, ↓s122_28, ↓s122_29, ↓s122_32, ↓s122_35, ↓s122_36, ↓s122_39, ↓s122_41, ↓s122_42, ↓s122_43, ↓s122_44, ↓s122_47, ↓s122_48, ↓s122_51, ↓s122_52, ↓s122_55, ↓s122_56, ↓s122_57, ↓s122_60, ↓s122_62, ↓s122_63, ↓s122_64, ↓s122_65, ↓s122_66, ↓s122_67, ↓s122_68, ↓s122_69, ↓s122_72, ↓s122_73, ↓s122_74, ↓s122_77, ↓s122_79, ↓s122_80, ↓s122_81, ↓s122_82, ↓s122_83, ↓s122_84, ↓s122_85, ↓s122_87, ↓s122_90, ↓s122_91, ↓s122_92, ↓s122_95, ↓s122_96, ↓s122_97, ↓s122_100, ↓s122_102, ↓s122_103, ↓s122_104, ↓s122_105, ↓s122_106, ↓s122_107, ↓s122_108, ↓s122_110, ↓s122_113, ↓s122_114, ↓s122_115, ↓s122_118, ↓s122_120, ↓s122_121, ↓s122_122, ↓s122_123, ↓s122_124, ↓s122_125, kNLn, kNLi, kNLr, va_rf_s, kOl_n, kOl_s, kap_n, kap_c, kb0, kb1, kbif, zif, z0, z1, Bool.false_eq_true, eq_self, not_true_eq_false, not_false_eq_true, if_true, if_false, and_self, true_and, false_and, and_true, and_false, ki_83]
      refine R_letter h hq hk4 hpo (k3 rfl) hTk ht (fun F eF mi' a b => ?_) (fun vs q' eF hk mi' hT' a b c => ?_) (fun vs q' eF hk mi' a b => ?_)
      · simp only [↓s122_0, ↓s122_1, ↓s122_28, ↓s122_29, ↓s122_32, ↓s122_35, ↓s122_36, ↓s122_39, ↓s122_41, ↓s122_42, ↓s122_43, ↓s122_44, ↓s122_47, ↓s122_48, ↓s122_51, ↓s122_52, ↓s122_55, ↓s122_56, ↓s122_57, ↓s122_60, ↓s122_62, ↓s122_63, ↓s122_64, ↓s122_65, ↓s122_66, ↓s122_67, ↓s122_68, ↓s122_69, ↓s122_72, ↓s122_73, ↓s122_74, ↓s122_77, ↓s122_79, ↓s122_80, ↓s122_81, ↓s122_82, ↓s122_83, ↓s122_84, ↓s122_85, ↓s122_87, ↓s122_90, ↓s122_91, ↓s122_92, ↓s122_95, ↓s122_96, ↓s122_97, ↓s122_100, ↓s122_102, ↓s122_103, ↓s122_104, ↓s122_105, ↓s122_106, ↓s122_107, ↓s122_108, ↓s122_110, ↓s122_113, ↓s122_114, ↓s122_115, ↓s122_118, ↓s122_120, ↓s122_121, ↓s122_122, ↓s122_123, ↓s122_124, ↓s122_125, kNLn, kNLi, kNLr, va_rf_s, kOl_n, kOl_s, kap_n, kap_c, kb0, kb1, kbif]
        exact hQ1 F eF mi' a b
      · simp only [↓s122_0, ↓s122_1, ↓s122_28, ↓s122_29, ↓s122_32, ↓s122_35, ↓s122_36, ↓s122_39, ↓s122_41, ↓s122_42, ↓s122_43, ↓s122_44, ↓s122_47, ↓s122_48, ↓s122_51, ↓s122_52, ↓s122_55, ↓s122_56, ↓s122_57, ↓s122_60, ↓s122_62, ↓s122_63, ↓s122_64, ↓s122_65, ↓s122_66, ↓s122_67, ↓s122_68, ↓s122_69, ↓s122_72, ↓s122_73, ↓s122_74, ↓s122_77, ↓s122_79, ↓s122_80, ↓s122_81, ↓s122_82, ↓s122_83, ↓s122_84, ↓s122_85, ↓s122_87, ↓s122_90, ↓s122_91, ↓s122_92, ↓s122_95, ↓s122_96, ↓s122_97, ↓s122_100, ↓s122_102, ↓s122_103, ↓s122_104, ↓s122_105, ↓s122_106, ↓s122_107, ↓s122_108, ↓s122_110, ↓s122_113, ↓s122_114, ↓s122_115, ↓s122_118, ↓s122_120, ↓s122_121, ↓s122_122, ↓s122_123, ↓s122_124, ↓s122_125, kNLn, kNLi, kNLr, va_rf_s, kOl_n, kOl_s, kap_n, kap_c, kb0, kb1, kbif]
        exact hQ2 vs q' eF hk mi' hT' a b c
      · simp only [↓s122_0, ↓s122_1, ↓s122_28, ↓s122_29, ↓s122_32, ↓s122_35, ↓s122_36, ↓s122_39, ↓s122_41, ↓s122_42, ↓s122_43, ↓s122_44, ↓s122_47, ↓s122_48, ↓s122_51, ↓s122_52, ↓s122_55, ↓s122_56, ↓s122_57, ↓s122_60, ↓s122_62, ↓s122_63, ↓s122_64, ↓s122_65, ↓s122_66, ↓s122_67, ↓s122_68, ↓s122_69, ↓s122_72, ↓s122_73, ↓s122_74, ↓s122_77, ↓s122_79, ↓s122_80, ↓s122_81, ↓s122_82, ↓s122_83, ↓s122_84, ↓s122_85, ↓s122_87, ↓s122_90, ↓s122_91, ↓s122_92, ↓s122_95, ↓s122_96, ↓s122_97, ↓s122_100, ↓s122_102, ↓s122_103, ↓s122_104, ↓s122_105, ↓s122_106, ↓s122_107, ↓s122_108, ↓s122_110, ↓s122_113, ↓s122_114, ↓s122_115, ↓s122_118, ↓s122_120, ↓s122_121, ↓s122_122, ↓s122_123, ↓s122_124, ↓s122_125, kNLn, kNLi, kNLr, va_rf_s, kOl_n, kOl_s, kap_n, kap_c, kb0, kb1, kbif]
        exact hQ3 vs q' eF hk mi' a b
    · have wt : wtF K = 2 := (if_neg c4).trans (if_neg c5)
      have eP : ∀ vs, papF T K vs = paddO T K vs := fun vs => (if_neg c5).trans (if_neg c4)
      rw [wt] at hQ1 hQ2 hQ3
      exact R_kindL (by omega) h hq hk4 hpo (k4 (by omega)) hTk ht hQ1 (fun vs q' eF hk mi' hT' a b c => hQ2 vs q' eF hk mi' hT' a b (by rw [eP]; exact c)) hQ3
end RLINE3
