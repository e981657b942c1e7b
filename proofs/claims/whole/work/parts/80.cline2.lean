/-! the text: a whole line, the class's side -/
section CLINE2
variable {mi : Nat → Nat → Int32} {ml : Nat → Nat → Int64} {m : kMem} {Q : Option Value → kMem → Prop} {B : Nat → Nat} {n lo hi q b e j i K ln : Nat} {T : tT} {hp : Bool} {vs : Nat → Nat}
theorem kCT_addL (h : kCT T mi) (x : Int32) : kCT (paddL T vs) (kAL 30 (T 0 4) (vs 0) (nI (vs 1)) (nI (vs 2)) (nI (vs 3)) mi) := by
  obtain ⟨⟨h1, h2, h3, h4, h5⟩, hr, hl⟩ := h
  have e : ∀ r k, paddL T vs r k = if r = 0 ∧ k = 4 then T 0 4 + 1 else if r = 7 ∧ k = T 0 4 then vs 3 else if r = 6 ∧ k = T 0 4 then vs 2 else if r = 5 ∧ k = T 0 4 then vs 1 else if r = 4 ∧ k = T 0 4 then vs 0 else T r k := fun r k => rfl
  have e4 : paddL T vs 0 4 = T 0 4 + 1 := rfl
  have e0 : paddL T vs 0 0 = T 0 0 := rfl
  have r30 : ∀ k, k ≠ 4 → kAL 30 (T 0 4) (vs 0) (nI (vs 1)) (nI (vs 2)) (nI (vs 3)) mi 30 k = mi 30 k := fun k hk => by
    unfold kAL kWA
    rw [kup_ne (by omega), kup_ne (by omega), kup_ne (by omega), kup_eq, pk_un hk, kup_ne (by omega), kup_ne (by omega), kup_ne (by omega)]
  refine ⟨⟨?_, ?_, ?_, ?_, ?_⟩, fun r k a b c => ?_, fun r k a b c => ?_⟩
  · rw [r30 0 (by decide)]; exact h1
  · unfold kAL kWA
    rw [kup_ne (by omega), kup_ne (by omega), kup_ne (by omega), kup_eq, pk_us, e4]
  · rw [r30 11 (by decide)]; exact h3
  · rw [r30 12 (by decide)]; exact h4
  · rw [r30 13 (by decide)]; exact h5
  · rw [e r k, if_neg (by omega), if_neg (by omega), if_neg (by omega), if_neg (by omega), if_neg (by omega)]
    unfold kAL kWA
    rw [kup_ne (by omega), kup_ne (by omega), kup_ne (by omega), kup_ne (by omega), kup_ne (by omega), kup_ne (by omega), kup_ne (by omega)]
    exact hr r k a b c
  · rw [e4] at c
    rw [e r k, if_neg (by omega)]
    unfold kAL kWA
    rcases (by omega : r = 4 ∨ r = 5 ∨ r = 6 ∨ r = 7) with rfl | rfl | rfl | rfl
    · rw [kup_ne (by omega), kup_ne (by omega), kup_ne (by omega), kup_ne (by omega), kup_ne (by omega), kup_ne (by omega), kup_eq, if_neg (by omega), if_neg (by omega), if_neg (by omega)]
      by_cases ek : k = T 0 4
      · rw [ek, pk_us, if_pos ⟨rfl, rfl⟩]
      · rw [pk_un ek, if_neg (by omega)]; exact hl 4 k (by omega) (by omega) (by omega)
    · rw [kup_ne (by omega), kup_ne (by omega), kup_ne (by omega), kup_ne (by omega), kup_ne (by omega), kup_eq, if_neg (by omega), if_neg (by omega)]
      by_cases ek : k = T 0 4
      · rw [ek, pk_us, if_pos ⟨rfl, rfl⟩]
      · rw [pk_un ek, if_neg (by omega), if_neg (by omega), kup_ne (by omega)]; exact hl 5 k (by omega) (by omega) (by omega)
    · rw [kup_ne (by omega), kup_ne (by omega), kup_ne (by omega), kup_ne (by omega), kup_eq, if_neg (by omega)]
      by_cases ek : k = T 0 4
      · rw [ek, pk_us, if_pos ⟨rfl, rfl⟩]
      · rw [pk_un ek, if_neg (by omega), if_neg (by omega), if_neg (by omega), kup_ne (by omega), kup_ne (by omega)]; exact hl 6 k (by omega) (by omega) (by omega)
    · rw [kup_ne (by omega), kup_ne (by omega), kup_eq]
      by_cases ek : k = T 0 4
      · rw [ek, pk_us, if_pos ⟨rfl, rfl⟩]
      · rw [pk_un ek, if_neg (by omega), if_neg (by omega), if_neg (by omega), if_neg (by omega), kup_ne (by omega), kup_ne (by omega), kup_ne (by omega), kup_ne (by omega)]; exact hl 7 k (by omega) (by omega) (by omega)
theorem kCT_addO (h : kCT T mi) : kCT (paddO T K vs) (kup (kup (kup (kup mi 31 (T 0 0) (nI K)) 32 (T 0 0) (nI (vs 0))) 33 (T 0 0) (nI (vs 1))) 30 0 (nI (T 0 0 + 1))) := by
  obtain ⟨⟨h1, h2, h3, h4, h5⟩, hr, hl⟩ := h
  have e : ∀ r k, paddO T K vs r k = if r = 0 ∧ k = 0 then T 0 0 + 1 else if r = 3 ∧ k = T 0 0 then vs 1 else if r = 2 ∧ k = T 0 0 then vs 0 else if r = 1 ∧ k = T 0 0 then K else T r k := fun r k => rfl
  have e4 : paddO T K vs 0 4 = T 0 4 := rfl
  have e0 : paddO T K vs 0 0 = T 0 0 + 1 := rfl
  have r30 : ∀ k, k ≠ 0 → kup (kup (kup (kup mi 31 (T 0 0) (nI K)) 32 (T 0 0) (nI (vs 0))) 33 (T 0 0) (nI (vs 1))) 30 0 (nI (T 0 0 + 1)) 30 k = mi 30 k := fun k hk => by
    rw [kup_eq, pk_un hk, kup_ne (by omega), kup_ne (by omega), kup_ne (by omega)]
  refine ⟨⟨?_, ?_, ?_, ?_, ?_⟩, fun r k a b c => ?_, fun r k a b c => ?_⟩
  · rw [kup_eq, pk_us, e0]
  · rw [r30 4 (by decide)]; exact h2
  · rw [r30 11 (by decide)]; exact h3
  · rw [r30 12 (by decide)]; exact h4
  · rw [r30 13 (by decide)]; exact h5
  · rw [e0] at c
    rw [e r k, if_neg (by omega)]
    rcases (by omega : r = 1 ∨ r = 2 ∨ r = 3) with rfl | rfl | rfl
    · rw [kup_ne (by omega), kup_ne (by omega), kup_ne (by omega), kup_eq, if_neg (by omega), if_neg (by omega)]
      by_cases ek : k = T 0 0
      · rw [ek, pk_us, if_pos ⟨rfl, rfl⟩]
      · rw [pk_un ek, if_neg (by omega)]; exact hr 1 k (by omega) (by omega) (by omega)
    · rw [kup_ne (by omega), kup_ne (by omega), kup_eq, if_neg (by omega)]
      by_cases ek : k = T 0 0
      · rw [ek, pk_us, if_pos ⟨rfl, rfl⟩]
      · rw [pk_un ek, if_neg (by omega), if_neg (by omega), kup_ne (by omega)]; exact hr 2 k (by omega) (by omega) (by omega)
    · rw [kup_ne (by omega), kup_eq]
      by_cases ek : k = T 0 0
      · rw [ek, pk_us, if_pos ⟨rfl, rfl⟩]
      · rw [pk_un ek, if_neg (by omega), if_neg (by omega), if_neg (by omega), kup_ne (by omega), kup_ne (by omega)]; exact hr 3 k (by omega) (by omega) (by omega)
  · rw [e4] at c
    rw [e r k, if_neg (by omega), if_neg (by omega), if_neg (by omega), if_neg (by omega), kup_ne (by omega), kup_ne (by omega), kup_ne (by omega), kup_ne (by omega)]
    exact hl r k a b c
theorem kAL_ne {f g : Nat} {x y z : Int32} {a : Nat} (h : ¬ (30 ≤ a ∧ a ≤ 39)) : kAL 30 f g x y z mi a = mi a := by
  unfold kAL kWA
  rw [kup_ne (by omega), kup_ne (by omega), kup_ne (by omega), kup_ne (by omega), kup_ne (by omega), kup_ne (by omega), kup_ne (by omega)]
theorem J_tell (hK : K ≤ 6) (hc : chkF T hp K = 0) (hpo : pOK T) (ht : cTold T hp ln mi) (hv : ∀ i, i < wtF K → (bdF K i).1 ≤ vs i ∧ vs i ≤ (bdF K i).2) (h43 : ∀ i, i < wtF K → mi 43 i = nI (vs i))
    (hQ : ∀ mi', fP mi mi' → (∀ k, k ≠ 3 → k ≠ 10 → mi' 28 k = mi 28 k) → cTold (papF T K vs) (hp || decide (K = 5)) (ln + 1) mi' → Q none (mi', ml, MR, 95)) :
    kJ 42 0 [some (.ref 28), some (.int (nI K))] [] (mi, ml, MR, 95) Q := by
  obtain ⟨k1, k2, k3, k4⟩ := chk_0 hK hc
  have l5 := nI_lit (by omega : K < 2 ^ 31) (by decide : 5 < 2 ^ 31)
  have l4 := nI_lit (by omega : K < 2 ^ 31) (by decide : 4 < 2 ^ 31)
  have t3 := ht.2.2
  have t10 := ht.2.1
  have c0 : (nI 0).toNatClampNeg = 0 := rfl
  have v0 : vp_in (nI 0) 4 := vp_in_nI (by decide) (by decide)
  have c1 : (nI 1).toNatClampNeg = 1 := rfl
  have v1 : vp_in (nI 1) 4 := vp_in_nI (by decide) (by decide)
  have c2 : (nI 2).toNatClampNeg = 2 := rfl
  have v2 : vp_in (nI 2) 4 := vp_in_nI (by decide) (by decide)
  have c3 : (nI 3).toNatClampNeg = 3 := rfl
  have v3 : vp_in (nI 3) 4 := vp_in_nI (by decide) (by decide)
  have e43 : ∀ (x : Int32) j, kup mi 28 3 x 43 j = mi 43 j := fun x j => by rw [kup_ne (by decide)]
  have f1 : fP mi (kup mi 28 3 (nI (ln + 1))) := fP_up fP_rf (by omega)
  have ct1 : kCT T (kup mi 28 3 (nI (ln + 1))) := kCT_eq ht.1 (fun q a b => kup_ne (by omega))
  have p10 : kup mi 28 3 (nI (ln + 1)) 28 10 = nI (if hp = true then 1 else 0) := by rw [kup_eq, pk_un (by decide)]; exact t10
  have p3 : kup mi 28 3 (nI (ln + 1)) 28 3 = nI (ln + 1) := by rw [kup_eq, pk_us]
  have reg : ∀ k, k ≠ 3 → kup mi 28 3 (nI (ln + 1)) 28 k = mi 28 k := fun k hk => by rw [kup_eq, pk_un hk]
  by_cases c5 : K = 5
  · have w0 := h43 0 (by rw [c5]; decide)
    have eP : papF T K vs = tup T 0 11 (vs 0) := if_pos c5
    have eH : (hp || decide (K = 5)) = true := by rw [decide_eq_true c5, Bool.or_true]
    simp only [↓s42_0, ↓s42_1, ↓s42_2, ↓s42_5, ↓s42_6, ↓s42_7, ↓s42_10, ↓s42_11, ↓s42_12, ↓s42_15, ↓s42_16, ↓s42_19, ↓s42_20, ↓s42_23, ↓s42_24, ↓s42_25, ↓s42_28, ↓s42_29, ↓s42_30, ↓s42_33, ↓s42_36, ↓s42_37, ↓s42_38, ↓s42_41, ↓s42_42, ↓s42_45, ↓s42_46, ↓s42_49, ↓s42_50, ↓s42_51, ↓s42_52, ↓s42_55, ↓s42_56, ↓s42_57, ↓s42_58, ↓s42_61, ↓s42_62, ↓s42_63, ↓s42_64, ↓s42_67, ↓s42_68, ↓s42_69, ↓s42_72, ↓s42_75, ↓s42_76, ↓s42_79, ↓s42_80, ↓s42_81, ↓s42_84, ↓s42_85, ↓s42_86, ↓s42_87, ↓s42_90, ↓s42_91, ↓s42_92, ↓s42_95, ↓kb0, ↓kb1, kNLn, kNLi, kNLr, va_rf_s, kOl_n, kOl_s, kap_n, kap_c, kb0, kb1, kbif, zif, z0, z1, Bool.false_eq_true, eq_self, not_true_eq_false, not_false_eq_true, if_true, if_false, and_self, true_and, false_and, and_true, and_false, ki_28, ki_30, ki_43, kl_43, mr_28_2, mr_28_11, t3, nI_add, l5, eq_true c5, c0, v0, e43, w0]
    refine hQ _ (fP_up (fP_up f1 (by omega)) (by omega)) (fun k a b => ?_) ?_
    · rw [kup_eq, pk_un b, kup_ne (by decide)]; exact reg k a
    · rw [eP, eH]
      obtain ⟨⟨h1, h2, h3, h4, h5⟩, hr, hl⟩ := ct1
      refine ⟨⟨⟨?_, ?_, ?_, ?_, ?_⟩, fun r k a b c => ?_, fun r k a b c => ?_⟩, ?_, ?_⟩
      · rw [kup_ne (by decide), kup_eq, pk_un (by decide)]; exact h1
      · rw [kup_ne (by decide), kup_eq, pk_un (by decide)]; exact h2
      · rw [kup_ne (by decide), kup_eq, pk_us]; rfl
      · rw [kup_ne (by decide), kup_eq, pk_un (by decide)]; exact h4
      · rw [kup_ne (by decide), kup_eq, pk_un (by decide)]; exact h5
      · rw [kup_ne (by omega), kup_ne (by omega), tup_n (by omega)]; exact hr r k a b c
      · rw [kup_ne (by omega), kup_ne (by omega), tup_n (by omega)]; exact hl r k a b c
      · rw [kup_eq, pk_us]; rfl
      · rw [kup_eq, pk_un (by decide), kup_ne (by decide)]; exact p3
  · have eH : (hp || decide (K = 5)) = hp := by rw [decide_eq_false c5, Bool.or_false]
    by_cases c4 : K = 4
    · have eP : papF T K vs = paddL T vs := (if_neg c5).trans (if_pos c4)
      have wt : wtF K = 4 := if_pos c4
      have w0 := h43 0 (by rw [wt]; decide)
      have w1 := h43 1 (by rw [wt]; decide)
      have w2 := h43 2 (by rw [wt]; decide)
      have w3 := h43 3 (by rw [wt]; decide)
      have hf : vs 0 < 5 := by
        have h := (hv 0 (by rw [wt]; decide)).2
        have eb : (bdF K 0).2 = 4 := by rw [c4]; rfl
        omega
      have hl6 := k3 c4
      have t44 : kup mi 28 3 (nI (ln + 1)) 30 4 = nI (T 0 4) := ct1.1.2.1
      simp only [↓s42_0, ↓s42_1, ↓s42_2, ↓s42_5, ↓s42_6, ↓s42_7, ↓s42_10, ↓s42_11, ↓s42_12, ↓s42_15, ↓s42_16, ↓s42_19, ↓s42_20, ↓s42_23, ↓s42_24, ↓s42_25, ↓s42_28, ↓s42_29, ↓s42_30, ↓s42_33, ↓s42_36, ↓s42_37, ↓s42_38, ↓s42_41, ↓s42_42, ↓s42_45, ↓s42_46, ↓s42_49, ↓s42_50, ↓s42_51, ↓s42_52, ↓s42_55, ↓s42_56, ↓s42_57, ↓s42_58, ↓s42_61, ↓s42_62, ↓s42_63, ↓s42_64, ↓s42_67, ↓s42_68, ↓s42_69, ↓s42_72, ↓s42_75, ↓s42_76, ↓s42_79, ↓s42_80, ↓s42_81, ↓s42_84, ↓s42_85, ↓s42_86, ↓s42_87, ↓s42_90, ↓s42_91, ↓s42_92, ↓s42_95, ↓J_addL kPost_30 hl6 hf t44, kNLn, kNLi, kNLr, va_rf_s, kOl_n, kOl_s, kap_n, kap_c, kb0, kb1, kbif, zif, z0, z1, Bool.false_eq_true, eq_self, not_true_eq_false, not_false_eq_true, if_true, if_false, and_self, true_and, false_and, and_true, and_false, ki_28, ki_30, ki_43, kl_43, mr_28_2, mr_28_11, t3, nI_add, l5, l4, c5, eq_true c4, c0, v0, c1, v1, c2, v2, c3, v3, e43, w0, w1, w2, w3]
      refine hQ _ ⟨fun a ha => (kAL_ne (by omega)).trans (f1.1 a ha), by rw [kAL_ne (by decide)]; exact f1.2⟩ (fun k a b => by rw [kAL_ne (by decide)]; exact reg k a) ?_
      rw [eP, eH]
      exact ⟨kCT_addL ct1 0, by rw [kAL_ne (by decide)]; exact p10, by rw [kAL_ne (by decide)]; exact p3⟩
    · have eP : papF T K vs = paddO T K vs := (if_neg c5).trans (if_neg c4)
      have wt : wtF K = 2 := (if_neg c4).trans (if_neg c5)
      have w0 := h43 0 (by rw [wt]; decide)
      have w1 := h43 1 (by rw [wt]; decide)
      have hp5 := k4 (by omega)
      have t00 : kup mi 28 3 (nI (ln + 1)) 30 0 = nI (T 0 0) := ct1.1.1
      simp only [↓s42_0, ↓s42_1, ↓s42_2, ↓s42_5, ↓s42_6, ↓s42_7, ↓s42_10, ↓s42_11, ↓s42_12, ↓s42_15, ↓s42_16, ↓s42_19, ↓s42_20, ↓s42_23, ↓s42_24, ↓s42_25, ↓s42_28, ↓s42_29, ↓s42_30, ↓s42_33, ↓s42_36, ↓s42_37, ↓s42_38, ↓s42_41, ↓s42_42, ↓s42_45, ↓s42_46, ↓s42_49, ↓s42_50, ↓s42_51, ↓s42_52, ↓s42_55, ↓s42_56, ↓s42_57, ↓s42_58, ↓s42_61, ↓s42_62, ↓s42_63, ↓s42_64, ↓s42_67, ↓s42_68, ↓s42_69, ↓s42_72, ↓s42_75, ↓s42_76, ↓s42_79, ↓s42_80, ↓s42_81, ↓s42_84, ↓s42_85, ↓s42_86, ↓s42_87, ↓s42_90, ↓s42_91, ↓s42_92, ↓s42_95, ↓J_addO hp5 t00, kNLn, kNLi, kNLr, va_rf_s, kOl_n, kOl_s, kap_n, kap_c, kb0, kb1, kbif, zif, z0, z1, Bool.false_eq_true, eq_self, not_true_eq_false, not_false_eq_true, if_true, if_false, and_self, true_and, false_and, and_true, and_false, ki_28, ki_30, ki_43, kl_43, mr_28_2, mr_28_11, t3, nI_add, l5, l4, c5, c4, c0, v0, c1, v1, e43, w0, w1]
      refine hQ _ (fP_up (fP_up (fP_up (fP_up f1 (by omega)) (by omega)) (by omega)) (by omega)) (fun k a b => by rw [kup_ne (by decide), kup_ne (by decide), kup_ne (by decide), kup_ne (by decide)]; exact reg k a) ?_
      rw [eP, eH]
      refine ⟨kCT_addO ct1, ?_, ?_⟩
      · rw [kup_ne (by decide), kup_ne (by decide), kup_ne (by decide), kup_ne (by decide)]; exact p10
      · rw [kup_ne (by decide), kup_ne (by decide), kup_ne (by decide), kup_ne (by decide)]; exact p3
theorem J_lineE {x y : Int32} (h : ¬ mi 28 4 = 0) : kJ 38 45 [some (.ref 28), some (.int (nI K)), some (.int x), some (.int y)] [] (mi, ml, MR, 95) Q = Q none (mi, ml, MR, 95) := by
  rw [s38_45]
  by_cases c : x ≤ y
  · simp only [↓s38_0, ↓s38_1, ↓s38_4, ↓s38_5, ↓s38_8, ↓s38_9, ↓s38_12, ↓s38_15, ↓s38_17, ↓s38_18, ↓s38_19, ↓s38_20, ↓s38_23, ↓s38_24, ↓s38_25, ↓s38_28, ↓s38_29, ↓s38_32, ↓s38_33, ↓s38_34, ↓s38_37, ↓s38_38, ↓s38_41, ↓s38_42, ↓s38_43, ↓s38_44, ↓s38_46, ↓s38_47, ↓s38_50, ↓s38_51, ↓s38_54, ↓s38_57, ↓s38_58, ↓s38_59, ↓s38_60, ↓s38_63, ↓s38_66, ↓s38_69, ↓s38_70, ↓s38_73, ↓s38_76, ↓s38_77, ↓s38_80, ↓s38_81, ↓s38_84, ↓s38_87, ↓s38_88, ↓s38_91, ↓s38_92, ↓s38_95, ↓s38_96, ↓s38_97, ↓s38_98, ↓s38_101, ↓s38_104, ↓s38_105, ↓s38_108, ↓s38_111, ↓s38_112, ↓s38_113, ↓s38_116, ↓s38_117, ↓s38_120, kNLn, kNLi, kNLr, va_rf_s, kOl_n, kOl_s, kap_n, kap_c, kb0, kb1, kbif, zif, z0, z1, Bool.false_eq_true, eq_self, not_true_eq_false, not_false_eq_true, if_true, if_false, and_self, true_and, false_and, and_true, and_false, ki_28, h, c]
  · simp only [↓s38_0, ↓s38_1, ↓s38_4, ↓s38_5, ↓s38_8, ↓s38_9, ↓s38_12, ↓s38_15, ↓s38_17, ↓s38_18, ↓s38_19, ↓s38_20, ↓s38_23, ↓s38_24, ↓s38_25, ↓s38_28, ↓s38_29, ↓s38_32, ↓s38_33, ↓s38_34, ↓s38_37, ↓s38_38, ↓s38_41, ↓s38_42, ↓s38_43, ↓s38_44, ↓s38_46, ↓s38_47, ↓s38_50, ↓s38_51, ↓s38_54, ↓s38_57, ↓s38_58, ↓s38_59, ↓s38_60, ↓s38_63, ↓s38_66, ↓s38_69, ↓s38_70, ↓s38_73, ↓s38_76, ↓s38_77, ↓s38_80, ↓s38_81, ↓s38_84, ↓s38_87, ↓s38_88, ↓s38_91, ↓s38_92, ↓s38_95, ↓s38_96, ↓s38_97, ↓s38_98, ↓s38_101, ↓s38_104, ↓s38_105, ↓s38_108, ↓s38_111, ↓s38_112, ↓s38_113, ↓s38_116, ↓s38_117, ↓s38_120, kNLn, kNLi, kNLr, va_rf_s, kOl_n, kOl_s, kap_n, kap_c, kb0, kb1, kbif, zif, z0, z1, Bool.false_eq_true, eq_self, not_true_eq_false, not_false_eq_true, if_true, if_false, and_self, true_and, false_and, and_true, and_false, ki_28, h, c]
theorem cFlt_n {F p : Nat} (h : cFlt (F, p) mi) (h1 : F ≠ 0) (h2 : F < 100) : ¬ mi 28 4 = 0 := by
  have e : mi 28 4 = nI F := h.1
  rw [e]; exact nI_ne0 (by omega) (by omega)
theorem J_line (h : tR n B mi) (hq : q ≤ n) (hk0 : tK B n q ≠ 0) (hpo : pOK T) (hT : cTok B n q mi) (ht : cTold T hp ln mi)
    (hQ1 : ∀ F, lineS B n T hp q = .inl F → ∀ mi', fP mi mi' → cFlt F mi' → ¬ mi' 28 4 = 0 → Q none (mi', ml, MR, 95))
    (hQ2 : ∀ T' hp' q', lineS B n T hp q = .inr (T', hp', q') → tK B n q' ≠ 4 → ∀ mi', fP mi mi' → cTok B n q' mi' → cTold T' hp' (ln + 1) mi' → Q none (mi', ml, MR, 95))
    (hQ3 : ∀ T' hp' q', lineS B n T hp q = .inr (T', hp', q') → tK B n q' = 4 → ∀ mi', fP mi mi' → cFlt (1, tB B n q') mi' → Q none (mi', ml, MR, 95)) :
    kJ 38 0 [some (.ref 28), none, none, none] [] (mi, ml, MR, 95) Q := by
  have hkle := tK_le (B := B) (n := n) (q := q)
  have hKle := lnK_le (B := B) (n := n) (q := q)
  obtain ⟨g4, g6, g7, g8, -⟩ := hT
  have fin : kJ 38 17 [some (.ref 28), none, none, none] [.int (nI (lnK B n q))] (mi, ml, MR, 95) Q := by
    have eL : lineS B n T hp q = if chkF T hp (lnK B n q) = 0 then semF B n T hp (lnK B n q) (nmsF B n (lnK B n q) (wtF (lnK B n q)) 0 (fun _ => 0) (tE B n q)) else .inl (chkF T hp (lnK B n q), tB B n q) := rfl
    revert eL hKle
    generalize lnK B n q = K
    intro hK eL
    have l5 := nI_lit (by omega : K < 2 ^ 31) (by decide : 5 < 2 ^ 31)
    have l4 := nI_lit (by omega : K < 2 ^ 31) (by decide : 4 < 2 ^ 31)
    have hw : ∀ (mi1 : Nat → Nat → Int32), kJ 38 45 [some (.ref 28), some (.int (nI K)), some (.int (nI (wtF K))), some (.int (nI 0))] [] (mi1, ml, MR, 95) Q → kJ 38 23 [some (.ref 28), some (.int (nI K)), none, none] [] (mi1, ml, MR, 95) Q := by
      intro mi1 z
      by_cases c4 : K = 4
      · have e : wtF K = 4 := if_pos c4
        rw [e] at z
        simp only [↓s38_0, ↓s38_1, ↓s38_4, ↓s38_5, ↓s38_8, ↓s38_9, ↓s38_12, ↓s38_15, ↓s38_17, ↓s38_18, ↓s38_19, ↓s38_20, ↓s38_23, ↓s38_24, ↓s38_25, ↓s38_28, ↓s38_29, ↓s38_32, ↓s38_33, ↓s38_34, ↓s38_37, ↓s38_38, ↓s38_41, ↓s38_42, ↓s38_43, ↓s38_44, ↓s38_46, ↓s38_47, ↓s38_50, ↓s38_51, ↓s38_54, ↓s38_57, ↓s38_58, ↓s38_59, ↓s38_60, ↓s38_63, ↓s38_66, ↓s38_69, ↓s38_70, ↓s38_73, ↓s38_76, ↓s38_77, ↓s38_80, ↓s38_81, ↓s38_84, ↓s38_87, ↓s38_88, ↓s38_91, ↓s38_92, ↓s38_95, ↓s38_96, ↓s38_97, ↓s38_98, ↓s38_101, ↓s38_104, ↓s38_105, ↓s38_108, ↓s38_111, ↓s38_112, ↓s38_113, ↓s38_116, ↓s38_117, ↓s38_120, kNLn, kNLi, kNLr, va_rf_s, kOl_n, kOl_s, kap_n, kap_c, kb0, kb1, kbif, zif, z0, z1, Bool.false_eq_true, eq_self, not_true_eq_false, not_false_eq_true, if_true, if_false, and_self, true_and, false_and, and_true, and_false, l4, eq_true c4]
        exact z
      · by_cases c5 : K = 5
        · have e : wtF K = 1 := (if_neg c4).trans (if_pos c5)
          rw [e] at z
          simp only [↓s38_0, ↓s38_1, ↓s38_4, ↓s38_5, ↓s38_8, ↓s38_9, ↓s38_12, ↓s38_15, ↓s38_17, ↓s38_18, ↓s38_19, ↓s38_20, ↓s38_23, ↓s38_24, ↓s38_25, ↓s38_28, ↓s38_29, ↓s38_32, ↓s38_33, ↓s38_34, ↓s38_37, ↓s38_38, ↓s38_41, ↓s38_42, ↓s38_43, ↓s38_44, ↓s38_46, ↓s38_47, ↓s38_50, ↓s38_51, ↓s38_54, ↓s38_57, ↓s38_58, ↓s38_59, ↓s38_60, ↓s38_63, ↓s38_66, ↓s38_69, ↓s38_70, ↓s38_73, ↓s38_76, ↓s38_77, ↓s38_80, ↓s38_81, ↓s38_84, ↓s38_87, ↓s38_88, ↓s38_91, ↓s38_92, ↓s38_95, ↓s38_96, ↓s38_97, ↓s38_98, ↓s38_101, ↓s38_104, ↓s38_105, ↓s38_108, ↓s38_111, ↓s38_112, ↓s38_113, ↓s38_116, ↓s38_117, ↓s38_120, kNLn, kNLi, kNLr, va_rf_s, kOl_n, kOl_s, kap_n, kap_c, kb0, kb1, kbif, zif, z0, z1, Bool.false_eq_true, eq_self, not_true_eq_false, not_false_eq_true, if_true, if_false, and_self, true_and, false_and, and_true, and_false, l4, l5, c4, eq_true c5]
          exact z
        · have e : wtF K = 2 := (if_neg c4).trans (if_neg c5)
          rw [e] at z
          simp only [↓s38_0, ↓s38_1, ↓s38_4, ↓s38_5, ↓s38_8, ↓s38_9, ↓s38_12, ↓s38_15, ↓s38_17, ↓s38_18, ↓s38_19, ↓s38_20, ↓s38_23, ↓s38_24, ↓s38_25, ↓s38_28, ↓s38_29, ↓s38_32, ↓s38_33, ↓s38_34, ↓s38_37, ↓s38_38, ↓s38_41, ↓s38_42, ↓s38_43, ↓s38_44, ↓s38_46, ↓s38_47, ↓s38_50, ↓s38_51, ↓s38_54, ↓s38_57, ↓s38_58, ↓s38_59, ↓s38_60, ↓s38_63, ↓s38_66, ↓s38_69, ↓s38_70, ↓s38_73, ↓s38_76, ↓s38_77, ↓s38_80, ↓s38_81, ↓s38_84, ↓s38_87, ↓s38_88, ↓s38_91, ↓s38_92, ↓s38_95, ↓s38_96, ↓s38_97, ↓s38_98, ↓s38_101, ↓s38_104, ↓s38_105, ↓s38_108, ↓s38_111, ↓s38_112, ↓s38_113, ↓s38_116, ↓s38_117, ↓s38_120, kNLn, kNLi, kNLr, va_rf_s, kOl_n, kOl_s, kap_n, kap_c, kb0, kb1, kbif, zif, z0, z1, Bool.false_eq_true, eq_self, not_true_eq_false, not_false_eq_true, if_true, if_false, and_self, true_and, false_and, and_true, and_false, l4, l5, c4, c5]
          exact z
    by_cases cc : chkF T hp K = 0
    · rw [if_pos cc] at eL
      have k5 := (chk_0 hK cc).1
      have hck : ∀ Q', kJ 39 0 [some (.ref 28), some (.int (nI K))] [] (mi, ml, MR, 95) Q' = Q' none (mi, ml, MR, 95) := fun Q' => by rw [J_check hK hpo ht g8, if_pos cc]
      simp only [↓s38_0, ↓s38_1, ↓s38_4, ↓s38_5, ↓s38_8, ↓s38_9, ↓s38_12, ↓s38_15, ↓s38_17, ↓s38_18, ↓s38_19, ↓s38_20, ↓s38_24, ↓s38_25, ↓s38_28, ↓s38_29, ↓s38_32, ↓s38_33, ↓s38_34, ↓s38_37, ↓s38_38, ↓s38_41, ↓s38_42, ↓s38_43, ↓s38_44, ↓s38_46, ↓s38_47, ↓s38_50, ↓s38_51, ↓s38_54, ↓s38_57, ↓s38_58, ↓s38_59, ↓s38_60, ↓s38_63, ↓s38_66, ↓s38_69, ↓s38_70, ↓s38_73, ↓s38_76, ↓s38_77, ↓s38_80, ↓s38_81, ↓s38_84, ↓s38_87, ↓s38_88, ↓s38_91, ↓s38_92, ↓s38_95, ↓s38_96, ↓s38_97, ↓s38_98, ↓s38_101, ↓s38_104, ↓s38_105, ↓s38_108, ↓s38_111, ↓s38_112, ↓s38_113, ↓s38_116, ↓s38_117, ↓s38_120, ↓hck, kNLn, kNLi, kNLr, va_rf_s, kOl_n, kOl_s, kap_n, kap_c, kb0, kb1, kbif, ki_28]
      apply hw
      have w4 : wtF K ≤ 4 := by unfold wtF; split <;> (try split) <;> omega
      have loop : ∀ (k j : Nat) (vs : Nat → Nat) (q1 : Nat) (mi1 : Nat → Nat → Int32), j + k = wtF K → fP mi mi1 → cTold T hp ln mi1 → mi1 28 4 = nI 0 → mi1 28 6 = nI q1 → q1 ≤ n → (∀ i, i < j → mi1 43 i = nI (vs i)) → (∀ i, i < j → (bdF K i).1 ≤ vs i ∧ vs i ≤ (bdF K i).2) → lineS B n T hp q = semF B n T hp K (nmsF B n K k j vs q1) → kJ 38 45 [some (.ref 28), some (.int (nI K)), some (.int (nI (wtF K))), some (.int (nI j))] [] (mi1, ml, MR, 95) Q := by
        intro k
        induction k with
        | zero =>
          intro j vs q1 mi1 hjk f1 t1 a4 a6 hq1 h43 hv eS
          have ej : j = wtF K := by omega
          subst ej
          have h1 := tR_fP h f1
          have hle1 := tK_le (B := B) (n := n) (q := q1)
          rw [s38_45]
          simp only [↓s38_0, ↓s38_1, ↓s38_4, ↓s38_5, ↓s38_8, ↓s38_9, ↓s38_12, ↓s38_15, ↓s38_17, ↓s38_18, ↓s38_19, ↓s38_20, ↓s38_23, ↓s38_24, ↓s38_25, ↓s38_28, ↓s38_29, ↓s38_32, ↓s38_33, ↓s38_34, ↓s38_37, ↓s38_38, ↓s38_41, ↓s38_42, ↓s38_43, ↓s38_44, ↓s38_46, ↓s38_47, ↓s38_50, ↓s38_51, ↓s38_54, ↓s38_57, ↓s38_58, ↓s38_59, ↓s38_60, ↓s38_63, ↓s38_66, ↓s38_69, ↓s38_70, ↓s38_73, ↓s38_76, ↓s38_77, ↓s38_80, ↓s38_81, ↓s38_84, ↓s38_87, ↓s38_88, ↓s38_91, ↓s38_92, ↓s38_95, ↓s38_96, ↓s38_97, ↓s38_98, ↓s38_101, ↓s38_104, ↓s38_105, ↓s38_108, ↓s38_111, ↓s38_112, ↓s38_113, ↓s38_116, ↓s38_117, ↓s38_120, kNLn, kNLi, kNLr, va_rf_s, kOl_n, kOl_s, kap_n, kap_c, kb0, kb1, kbif, zif, z0, z1, Bool.false_eq_true, eq_self, not_true_eq_false, not_false_eq_true, if_true, if_false, and_self, true_and, false_and, and_true, and_false, ki_28, a4, Int32.le_refl]
          refine J_tok h1 hq1 a6 (fun hk mi2 f2 b4 b6 b7 b8 b9 => ?_) (fun hk mi2 f2 b4 b5 => ?_)
          · rw [a4] at b4
            have l3 := nI_lit (by omega : tK B n q1 < 2 ^ 31) (by decide : 3 < 2 ^ 31)
            have f12 := fP_tr f1 (fP_fK f2 (by decide))
            by_cases c3 : tK B n q1 = 3
            · have eS2 : lineS B n T hp q = .inr (papF T K vs, hp || decide (K = 5), tE B n q1) := by
                rw [eS]
                show (if tK B n q1 = 4 then _ else if tK B n q1 = 3 then _ else _) = _
                rw [if_neg hk, if_pos c3]
              simp only [↓s38_0, ↓s38_1, ↓s38_4, ↓s38_5, ↓s38_8, ↓s38_9, ↓s38_12, ↓s38_15, ↓s38_17, ↓s38_18, ↓s38_19, ↓s38_20, ↓s38_23, ↓s38_24, ↓s38_25, ↓s38_28, ↓s38_29, ↓s38_32, ↓s38_33, ↓s38_34, ↓s38_37, ↓s38_38, ↓s38_41, ↓s38_42, ↓s38_43, ↓s38_44, ↓s38_46, ↓s38_47, ↓s38_50, ↓s38_51, ↓s38_54, ↓s38_57, ↓s38_58, ↓s38_59, ↓s38_60, ↓s38_63, ↓s38_66, ↓s38_69, ↓s38_70, ↓s38_73, ↓s38_76, ↓s38_77, ↓s38_80, ↓s38_81, ↓s38_84, ↓s38_87, ↓s38_88, ↓s38_91, ↓s38_92, ↓s38_95, ↓s38_96, ↓s38_97, ↓s38_98, ↓s38_101, ↓s38_104, ↓s38_105, ↓s38_108, ↓s38_111, ↓s38_112, ↓s38_113, ↓s38_116, ↓s38_117, ↓s38_120, kNLn, kNLi, kNLr, va_rf_s, kOl_n, kOl_s, kap_n, kap_c, kb0, kb1, kbif, zif, z0, z1, Bool.false_eq_true, eq_self, not_true_eq_false, not_false_eq_true, if_true, if_false, and_self, true_and, false_and, and_true, and_false, ki_28, b4, b7, l3, eq_true c3]
              refine J_tell hK cc hpo (cTold_fK t1 f2 (by decide) (by decide)) hv (fun i hi => by rw [f2.1 43 (by decide)]; exact h43 i hi) (fun mi3 f3 r3 t3 => ?_)
              have f13 := fP_tr f12 f3
              have c6 : mi3 28 6 = nI (tE B n q1) := by rw [r3 6 (by decide) (by decide)]; exact b6
              have c44 : mi3 28 4 = nI 0 := by rw [r3 4 (by decide) (by decide)]; exact b4
              simp only [↓s38_0, ↓s38_1, ↓s38_4, ↓s38_5, ↓s38_8, ↓s38_9, ↓s38_12, ↓s38_15, ↓s38_17, ↓s38_18, ↓s38_19, ↓s38_20, ↓s38_23, ↓s38_24, ↓s38_25, ↓s38_28, ↓s38_29, ↓s38_32, ↓s38_33, ↓s38_34, ↓s38_37, ↓s38_38, ↓s38_41, ↓s38_42, ↓s38_43, ↓s38_44, ↓s38_46, ↓s38_47, ↓s38_50, ↓s38_51, ↓s38_54, ↓s38_57, ↓s38_58, ↓s38_59, ↓s38_60, ↓s38_63, ↓s38_66, ↓s38_69, ↓s38_70, ↓s38_73, ↓s38_76, ↓s38_77, ↓s38_80, ↓s38_81, ↓s38_84, ↓s38_87, ↓s38_88, ↓s38_91, ↓s38_92, ↓s38_95, ↓s38_96, ↓s38_97, ↓s38_98, ↓s38_101, ↓s38_104, ↓s38_105, ↓s38_108, ↓s38_111, ↓s38_112, ↓s38_113, ↓s38_116, ↓s38_117, ↓s38_120, kNLn, kNLi, kNLr, va_rf_s, kOl_n, kOl_s, kap_n, kap_c, kb0, kb1, kbif, ki_28]
              refine J_tok (tR_fP h f13) (tE_le hq1) c6 (fun hk4 mi4 f4 d4 d6 d7 d8 d9 => ?_) (fun hk4 mi4 f4 d4 d5 => ?_)
              · rw [c44] at d4
                simp only [↓s38_0, ↓s38_1, ↓s38_4, ↓s38_5, ↓s38_8, ↓s38_9, ↓s38_12, ↓s38_15, ↓s38_17, ↓s38_18, ↓s38_19, ↓s38_20, ↓s38_23, ↓s38_24, ↓s38_25, ↓s38_28, ↓s38_29, ↓s38_32, ↓s38_33, ↓s38_34, ↓s38_37, ↓s38_38, ↓s38_41, ↓s38_42, ↓s38_43, ↓s38_44, ↓s38_46, ↓s38_47, ↓s38_50, ↓s38_51, ↓s38_54, ↓s38_57, ↓s38_58, ↓s38_59, ↓s38_60, ↓s38_63, ↓s38_66, ↓s38_69, ↓s38_70, ↓s38_73, ↓s38_76, ↓s38_77, ↓s38_80, ↓s38_81, ↓s38_84, ↓s38_87, ↓s38_88, ↓s38_91, ↓s38_92, ↓s38_95, ↓s38_96, ↓s38_97, ↓s38_98, ↓s38_101, ↓s38_104, ↓s38_105, ↓s38_108, ↓s38_111, ↓s38_112, ↓s38_113, ↓s38_116, ↓s38_117, ↓s38_120, kNLn, kNLi, kNLr, va_rf_s, kOl_n, kOl_s, kap_n, kap_c, kb0, kb1, kbif]
                exact hQ2 _ _ _ eS2 hk4 mi4 (fP_tr f13 (fP_fK f4 (by decide))) ⟨d4, d6, d7, d8, d9⟩ (cTold_fK t3 f4 (by decide) (by decide))
              · simp only [↓s38_0, ↓s38_1, ↓s38_4, ↓s38_5, ↓s38_8, ↓s38_9, ↓s38_12, ↓s38_15, ↓s38_17, ↓s38_18, ↓s38_19, ↓s38_20, ↓s38_23, ↓s38_24, ↓s38_25, ↓s38_28, ↓s38_29, ↓s38_32, ↓s38_33, ↓s38_34, ↓s38_37, ↓s38_38, ↓s38_41, ↓s38_42, ↓s38_43, ↓s38_44, ↓s38_46, ↓s38_47, ↓s38_50, ↓s38_51, ↓s38_54, ↓s38_57, ↓s38_58, ↓s38_59, ↓s38_60, ↓s38_63, ↓s38_66, ↓s38_69, ↓s38_70, ↓s38_73, ↓s38_76, ↓s38_77, ↓s38_80, ↓s38_81, ↓s38_84, ↓s38_87, ↓s38_88, ↓s38_91, ↓s38_92, ↓s38_95, ↓s38_96, ↓s38_97, ↓s38_98, ↓s38_101, ↓s38_104, ↓s38_105, ↓s38_108, ↓s38_111, ↓s38_112, ↓s38_113, ↓s38_116, ↓s38_117, ↓s38_120, kNLn, kNLi, kNLr, va_rf_s, kOl_n, kOl_s, kap_n, kap_c, kb0, kb1, kbif]
                exact hQ3 _ _ _ eS2 hk4 mi4 (fP_tr f13 (fP_fK f4 (by decide))) ⟨d4, d5⟩
            · have eS2 : lineS B n T hp q = .inl (2, tB B n q1) := by
                rw [eS]
                show (if tK B n q1 = 4 then _ else if tK B n q1 = 3 then _ else _) = _
                rw [if_neg hk, if_neg c3]
              have k4 : kup (kup mi2 28 4 (nI 2)) 28 5 (nI (tB B n q1)) 28 4 = nI 2 := by rw [kup_eq, pk_un (by decide), kup_eq, pk_us]
              have n2 : ¬ nI 2 = 0 := by decide
              simp only [↓s38_0, ↓s38_1, ↓s38_4, ↓s38_5, ↓s38_8, ↓s38_9, ↓s38_12, ↓s38_15, ↓s38_17, ↓s38_18, ↓s38_19, ↓s38_20, ↓s38_23, ↓s38_24, ↓s38_25, ↓s38_28, ↓s38_29, ↓s38_32, ↓s38_33, ↓s38_34, ↓s38_37, ↓s38_38, ↓s38_41, ↓s38_42, ↓s38_43, ↓s38_44, ↓s38_46, ↓s38_47, ↓s38_50, ↓s38_51, ↓s38_54, ↓s38_57, ↓s38_58, ↓s38_59, ↓s38_60, ↓s38_63, ↓s38_66, ↓s38_69, ↓s38_70, ↓s38_73, ↓s38_76, ↓s38_77, ↓s38_80, ↓s38_81, ↓s38_84, ↓s38_87, ↓s38_88, ↓s38_91, ↓s38_92, ↓s38_95, ↓s38_96, ↓s38_97, ↓s38_98, ↓s38_101, ↓s38_104, ↓s38_105, ↓s38_108, ↓s38_111, ↓s38_112, ↓s38_113, ↓s38_116, ↓s38_117, ↓s38_120, ↓J_fail, kNLn, kNLi, kNLr, va_rf_s, kOl_n, kOl_s, kap_n, kap_c, kb0, kb1, kbif, zif, z0, z1, Bool.false_eq_true, eq_self, not_true_eq_false, not_false_eq_true, if_true, if_false, and_self, true_and, false_and, and_true, and_false, ki_28, b4, b7, b8, l3, c3, k4, n2]
              exact hQ1 _ eS2 _ (fP_up (fP_up f12 (by omega)) (by omega)) ⟨k4, by rw [kup_eq, pk_us]⟩ (by rw [k4]; exact n2)
          · have eS2 : lineS B n T hp q = .inl (1, tB B n q1) := by
              rw [eS]
              show (if tK B n q1 = 4 then _ else _) = _
              rw [if_pos hk]
            simp only [↓s38_0, ↓s38_1, ↓s38_4, ↓s38_5, ↓s38_8, ↓s38_9, ↓s38_12, ↓s38_15, ↓s38_17, ↓s38_18, ↓s38_19, ↓s38_20, ↓s38_23, ↓s38_24, ↓s38_25, ↓s38_28, ↓s38_29, ↓s38_32, ↓s38_33, ↓s38_34, ↓s38_37, ↓s38_38, ↓s38_41, ↓s38_42, ↓s38_43, ↓s38_44, ↓s38_46, ↓s38_47, ↓s38_50, ↓s38_51, ↓s38_54, ↓s38_57, ↓s38_58, ↓s38_59, ↓s38_60, ↓s38_63, ↓s38_66, ↓s38_69, ↓s38_70, ↓s38_73, ↓s38_76, ↓s38_77, ↓s38_80, ↓s38_81, ↓s38_84, ↓s38_87, ↓s38_88, ↓s38_91, ↓s38_92, ↓s38_95, ↓s38_96, ↓s38_97, ↓s38_98, ↓s38_101, ↓s38_104, ↓s38_105, ↓s38_108, ↓s38_111, ↓s38_112, ↓s38_113, ↓s38_116, ↓s38_117, ↓s38_120, kNLn, kNLi, kNLr, va_rf_s, kOl_n, kOl_s, kap_n, kap_c, kb0, kb1, kbif, zif, z0, z1, Bool.false_eq_true, eq_self, not_true_eq_false, not_false_eq_true, if_true, if_false, and_self, true_and, false_and, and_true, and_false, ki_28, b4]
            exact hQ1 _ eS2 mi2 (fP_tr f1 (fP_fK f2 (by decide))) ⟨b4, b5⟩ (by rw [b4]; decide)
        | succ k ih =>
          intro j vs q1 mi1 hjk f1 t1 a4 a6 hq1 h43 hv eS
          have h1 := tR_fP h f1
          have hlt : ¬ nI (wtF K) ≤ nI j := nI_ge (by omega) (by omega)
          have eN : nmsF B n K (k + 1) j vs q1 = if tK B n q1 = 4 then .inl (1, tB B n q1) else if tK B n q1 = 2 then (if (bdF K j).1 ≤ tV B n q1 ∧ tV B n q1 ≤ (bdF K j).2 then nmsF B n K k (j + 1) (nput vs j (tV B n q1)) (tE B n q1) else .inl (3, tB B n q1)) else .inl (2, tB B n q1) := rfl
          rw [eN] at eS
          rw [s38_45]
          simp only [↓s38_0, ↓s38_1, ↓s38_4, ↓s38_5, ↓s38_8, ↓s38_9, ↓s38_12, ↓s38_15, ↓s38_17, ↓s38_18, ↓s38_19, ↓s38_20, ↓s38_23, ↓s38_24, ↓s38_25, ↓s38_28, ↓s38_29, ↓s38_32, ↓s38_33, ↓s38_34, ↓s38_37, ↓s38_38, ↓s38_41, ↓s38_42, ↓s38_43, ↓s38_44, ↓s38_46, ↓s38_47, ↓s38_50, ↓s38_51, ↓s38_54, ↓s38_57, ↓s38_58, ↓s38_59, ↓s38_60, ↓s38_63, ↓s38_66, ↓s38_69, ↓s38_70, ↓s38_73, ↓s38_76, ↓s38_77, ↓s38_80, ↓s38_81, ↓s38_84, ↓s38_87, ↓s38_88, ↓s38_91, ↓s38_92, ↓s38_95, ↓s38_96, ↓s38_97, ↓s38_98, ↓s38_101, ↓s38_104, ↓s38_105, ↓s38_108, ↓s38_111, ↓s38_112, ↓s38_113, ↓s38_116, ↓s38_117, ↓s38_120, kNLn, kNLi, kNLr, va_rf_s, kOl_n, kOl_s, kap_n, kap_c, kb0, kb1, kbif, zif, z0, z1, Bool.false_eq_true, eq_self, not_true_eq_false, not_false_eq_true, if_true, if_false, and_self, true_and, false_and, and_true, and_false, ki_28, a4, hlt]
          refine J_num k5 (by omega) h1 hq1 a6 a4 (fun c1 mi2 f2 b => ?_) (fun c1 c2 mi2 f2 b => ?_) (fun c1 c2 mi2 f2 b => ?_) (fun c1 c2 mi2 f2 b4 b6 => ?_)
          · rw [if_pos c1] at eS
            have nf := cFlt_n b (by decide) (by decide)
            simp only [↓s38_0, ↓s38_1, ↓s38_4, ↓s38_5, ↓s38_8, ↓s38_9, ↓s38_12, ↓s38_15, ↓s38_17, ↓s38_18, ↓s38_19, ↓s38_20, ↓s38_23, ↓s38_24, ↓s38_25, ↓s38_28, ↓s38_29, ↓s38_32, ↓s38_33, ↓s38_34, ↓s38_37, ↓s38_38, ↓s38_41, ↓s38_42, ↓s38_43, ↓s38_44, ↓s38_46, ↓s38_47, ↓s38_50, ↓s38_51, ↓s38_54, ↓s38_57, ↓s38_58, ↓s38_59, ↓s38_60, ↓s38_63, ↓s38_66, ↓s38_69, ↓s38_70, ↓s38_73, ↓s38_76, ↓s38_77, ↓s38_80, ↓s38_81, ↓s38_84, ↓s38_87, ↓s38_88, ↓s38_91, ↓s38_92, ↓s38_95, ↓s38_96, ↓s38_97, ↓s38_98, ↓s38_101, ↓s38_104, ↓s38_105, ↓s38_108, ↓s38_111, ↓s38_112, ↓s38_113, ↓s38_116, ↓s38_117, ↓s38_120, ↓J_lineE nf, kNLn, kNLi, kNLr, va_rf_s, kOl_n, kOl_s, kap_n, kap_c, kb0, kb1, kbif, nI_add]
            exact hQ1 _ eS mi2 (fP_tr f1 (fP_fK f2 (by decide))) b nf
          · rw [if_neg c1, if_neg c2] at eS
            have nf := cFlt_n b (by decide) (by decide)
            simp only [↓s38_0, ↓s38_1, ↓s38_4, ↓s38_5, ↓s38_8, ↓s38_9, ↓s38_12, ↓s38_15, ↓s38_17, ↓s38_18, ↓s38_19, ↓s38_20, ↓s38_23, ↓s38_24, ↓s38_25, ↓s38_28, ↓s38_29, ↓s38_32, ↓s38_33, ↓s38_34, ↓s38_37, ↓s38_38, ↓s38_41, ↓s38_42, ↓s38_43, ↓s38_44, ↓s38_46, ↓s38_47, ↓s38_50, ↓s38_51, ↓s38_54, ↓s38_57, ↓s38_58, ↓s38_59, ↓s38_60, ↓s38_63, ↓s38_66, ↓s38_69, ↓s38_70, ↓s38_73, ↓s38_76, ↓s38_77, ↓s38_80, ↓s38_81, ↓s38_84, ↓s38_87, ↓s38_88, ↓s38_91, ↓s38_92, ↓s38_95, ↓s38_96, ↓s38_97, ↓s38_98, ↓s38_101, ↓s38_104, ↓s38_105, ↓s38_108, ↓s38_111, ↓s38_112, ↓s38_113, ↓s38_116, ↓s38_117, ↓s38_120, ↓J_lineE nf, kNLn, kNLi, kNLr, va_rf_s, kOl_n, kOl_s, kap_n, kap_c, kb0, kb1, kbif, nI_add]
            exact hQ1 _ eS mi2 (fP_tr f1 (fP_fK f2 (by decide))) b nf
          · rw [if_neg (by omega), if_pos c1, if_neg c2] at eS
            have nf := cFlt_n b (by decide) (by decide)
            simp only [↓s38_0, ↓s38_1, ↓s38_4, ↓s38_5, ↓s38_8, ↓s38_9, ↓s38_12, ↓s38_15, ↓s38_17, ↓s38_18, ↓s38_19, ↓s38_20, ↓s38_23, ↓s38_24, ↓s38_25, ↓s38_28, ↓s38_29, ↓s38_32, ↓s38_33, ↓s38_34, ↓s38_37, ↓s38_38, ↓s38_41, ↓s38_42, ↓s38_43, ↓s38_44, ↓s38_46, ↓s38_47, ↓s38_50, ↓s38_51, ↓s38_54, ↓s38_57, ↓s38_58, ↓s38_59, ↓s38_60, ↓s38_63, ↓s38_66, ↓s38_69, ↓s38_70, ↓s38_73, ↓s38_76, ↓s38_77, ↓s38_80, ↓s38_81, ↓s38_84, ↓s38_87, ↓s38_88, ↓s38_91, ↓s38_92, ↓s38_95, ↓s38_96, ↓s38_97, ↓s38_98, ↓s38_101, ↓s38_104, ↓s38_105, ↓s38_108, ↓s38_111, ↓s38_112, ↓s38_113, ↓s38_116, ↓s38_117, ↓s38_120, ↓J_lineE nf, kNLn, kNLi, kNLr, va_rf_s, kOl_n, kOl_s, kap_n, kap_c, kb0, kb1, kbif, nI_add]
            exact hQ1 _ eS mi2 (fP_tr f1 (fP_fK f2 (by decide))) b nf
          · rw [if_neg (by omega), if_pos c1, if_pos c2] at eS
            simp only [↓s38_0, ↓s38_1, ↓s38_4, ↓s38_5, ↓s38_8, ↓s38_9, ↓s38_12, ↓s38_15, ↓s38_17, ↓s38_18, ↓s38_19, ↓s38_20, ↓s38_23, ↓s38_24, ↓s38_25, ↓s38_28, ↓s38_29, ↓s38_32, ↓s38_33, ↓s38_34, ↓s38_37, ↓s38_38, ↓s38_41, ↓s38_42, ↓s38_43, ↓s38_44, ↓s38_46, ↓s38_47, ↓s38_50, ↓s38_51, ↓s38_54, ↓s38_57, ↓s38_58, ↓s38_59, ↓s38_60, ↓s38_63, ↓s38_66, ↓s38_69, ↓s38_70, ↓s38_73, ↓s38_76, ↓s38_77, ↓s38_80, ↓s38_81, ↓s38_84, ↓s38_87, ↓s38_88, ↓s38_91, ↓s38_92, ↓s38_95, ↓s38_96, ↓s38_97, ↓s38_98, ↓s38_101, ↓s38_104, ↓s38_105, ↓s38_108, ↓s38_111, ↓s38_112, ↓s38_113, ↓s38_116, ↓s38_117, ↓s38_120, kNLn, kNLi, kNLr, va_rf_s, kOl_n, kOl_s, kap_n, kap_c, kb0, kb1, kbif, nI_add]
            have t2 := cTold_fK t1 f2 (by decide) (by decide)
            refine ih (j + 1) (nput vs j (tV B n q1)) (tE B n q1) _ (by omega) (fP_up (fP_tr f1 (fP_fK f2 (by decide))) (by omega)) ⟨kCT_eq t2.1 (fun q a b => kup_ne (by omega)), by rw [kup_ne (by decide)]; exact t2.2.1, by rw [kup_ne (by decide)]; exact t2.2.2⟩ (by rw [kup_ne (by decide)]; exact b4) (by rw [kup_ne (by decide)]; exact b6) (tE_le hq1) (fun i hi => ?_) (fun i hi => ?_) eS
            · rw [kup_eq]
              by_cases ei : i = j
              · rw [ei, pk_us, nput_s]
              · rw [pk_un ei, nput_n ei, f2.1 43 (by decide)]; exact h43 i (by omega)
            · by_cases ei : i = j
              · rw [ei, nput_s]; exact c2
              · rw [nput_n ei]; exact hv i (by omega)
      exact loop (wtF K) 0 (fun _ => 0) (tE B n q) mi (by omega) fP_rf ht g4 g6 (tE_le hq) (fun i hi => absurd hi (Nat.not_lt_zero i)) (fun i hi => absurd hi (Nat.not_lt_zero i)) eL
    · rw [if_neg cc] at eL
      have cle := chk_le (T := T) (hp := hp) (K := K)
      have hck : ∀ Q', kJ 39 0 [some (.ref 28), some (.int (nI K))] [] (mi, ml, MR, 95) Q' = Q' none (kup (kup mi 28 4 (nI (chkF T hp K))) 28 5 (nI (tB B n q)), ml, MR, 95) := fun Q' => by rw [J_check hK hpo ht g8, if_neg cc]
      have nf : ¬ kup (kup mi 28 4 (nI (chkF T hp K))) 28 5 (nI (tB B n q)) 28 4 = 0 := by
        rw [kup_eq, pk_un (by decide), kup_eq, pk_us]
        exact nI_ne0 (by omega) (by omega)
      simp only [↓s38_0, ↓s38_1, ↓s38_4, ↓s38_5, ↓s38_8, ↓s38_9, ↓s38_12, ↓s38_15, ↓s38_17, ↓s38_18, ↓s38_19, ↓s38_20, ↓s38_24, ↓s38_25, ↓s38_28, ↓s38_29, ↓s38_32, ↓s38_33, ↓s38_34, ↓s38_37, ↓s38_38, ↓s38_41, ↓s38_42, ↓s38_43, ↓s38_44, ↓s38_46, ↓s38_47, ↓s38_50, ↓s38_51, ↓s38_54, ↓s38_57, ↓s38_58, ↓s38_59, ↓s38_60, ↓s38_63, ↓s38_66, ↓s38_69, ↓s38_70, ↓s38_73, ↓s38_76, ↓s38_77, ↓s38_80, ↓s38_81, ↓s38_84, ↓s38_87, ↓s38_88, ↓s38_91, ↓s38_92, ↓s38_95, ↓s38_96, ↓s38_97, ↓s38_98, ↓s38_101, ↓s38_104, ↓s38_105, ↓s38_108, ↓s38_111, ↓s38_112, ↓s38_113, ↓s38_116, ↓s38_117, ↓s38_120, ↓hck, kNLn, kNLi, kNLr, va_rf_s, kOl_n, kOl_s, kap_n, kap_c, kb0, kb1, kbif, ki_28]
      apply hw
      rw [J_lineE nf]
      exact hQ1 _ eL _ (fP_up (fP_up fP_rf (by omega)) (by omega)) ⟨by rw [kup_eq, pk_un (by decide), kup_eq, pk_us], by rw [kup_eq, pk_us]⟩ nf
  have l1 := nI_lit (by omega : tK B n q < 2 ^ 31) (by decide : 1 < 2 ^ 31)
  by_cases c1 : tK B n q = 1
  · have eK : lnK B n q = lnS B (tB B n q) (tE B n q) 6 0 := if_pos c1
    rw [eK] at fin
    simp only [↓s38_0, ↓s38_1, ↓s38_4, ↓s38_5, ↓s38_8, ↓s38_9, ↓s38_12, ↓s38_15, ↓s38_18, ↓s38_19, ↓s38_20, ↓s38_23, ↓s38_24, ↓s38_25, ↓s38_28, ↓s38_29, ↓s38_32, ↓s38_33, ↓s38_34, ↓s38_37, ↓s38_38, ↓s38_41, ↓s38_42, ↓s38_43, ↓s38_44, ↓s38_46, ↓s38_47, ↓s38_50, ↓s38_51, ↓s38_54, ↓s38_57, ↓s38_58, ↓s38_59, ↓s38_60, ↓s38_63, ↓s38_66, ↓s38_69, ↓s38_70, ↓s38_73, ↓s38_76, ↓s38_77, ↓s38_80, ↓s38_81, ↓s38_84, ↓s38_87, ↓s38_88, ↓s38_91, ↓s38_92, ↓s38_95, ↓s38_96, ↓s38_97, ↓s38_98, ↓s38_101, ↓s38_104, ↓s38_105, ↓s38_108, ↓s38_111, ↓s38_112, ↓s38_113, ↓s38_116, ↓s38_117, ↓s38_120, ↓J_lineOf h g6 g8 tE_ge (tE_le hq), kNLn, kNLi, kNLr, va_rf_s, kOl_n, kOl_s, kap_n, kap_c, kb0, kb1, kbif, zif, z0, z1, Bool.false_eq_true, eq_self, not_true_eq_false, not_false_eq_true, if_true, if_false, and_self, true_and, false_and, and_true, and_false, ki_28, g7, l1, eq_true c1]
    exact fin
  · have eK : lnK B n q = 6 := if_neg c1
    rw [eK] at fin
    simp only [↓s38_0, ↓s38_1, ↓s38_4, ↓s38_5, ↓s38_8, ↓s38_9, ↓s38_12, ↓s38_15, ↓s38_18, ↓s38_19, ↓s38_20, ↓s38_23, ↓s38_24, ↓s38_25, ↓s38_28, ↓s38_29, ↓s38_32, ↓s38_33, ↓s38_34, ↓s38_37, ↓s38_38, ↓s38_41, ↓s38_42, ↓s38_43, ↓s38_44, ↓s38_46, ↓s38_47, ↓s38_50, ↓s38_51, ↓s38_54, ↓s38_57, ↓s38_58, ↓s38_59, ↓s38_60, ↓s38_63, ↓s38_66, ↓s38_69, ↓s38_70, ↓s38_73, ↓s38_76, ↓s38_77, ↓s38_80, ↓s38_81, ↓s38_84, ↓s38_87, ↓s38_88, ↓s38_91, ↓s38_92, ↓s38_95, ↓s38_96, ↓s38_97, ↓s38_98, ↓s38_101, ↓s38_104, ↓s38_105, ↓s38_108, ↓s38_111, ↓s38_112, ↓s38_113, ↓s38_116, ↓s38_117, ↓s38_120, kNLn, kNLi, kNLr, va_rf_s, kOl_n, kOl_s, kap_n, kap_c, kb0, kb1, kbif, zif, z0, z1, Bool.false_eq_true, eq_self, not_true_eq_false, not_false_eq_true, if_true, if_false, and_self, true_and, false_and, and_true, and_false, ki_28, g7, l1, c1]
    exact fin
end CLINE2
