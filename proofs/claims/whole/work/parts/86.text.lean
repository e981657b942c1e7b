/-! text(): the drafts, the loop, both sides -/
section TEXT
variable {mi : Nat → Nat → Int32} {ml : Nat → Nat → Int64} {m : kMem} {Q : Option Value → kMem → Prop} {B : Nat → Nat} {n lo hi q b e j i K ln hT : Nat} {T : tT} {hp : Bool} {vs : Nat → Nat} {S : gS}
theorem dR_0 {d : Nat → Int32} (h : ∀ j, j < 74 → d j = nI 0) : dR tT0 (upd d 53 (nI 2)) := by
  refine ⟨⟨?_, ?_, ?_, ?_, ?_⟩, fun p u a b => absurd a (Nat.not_lt_zero p), fun i u a b => absurd a (Nat.not_lt_zero i), fun i a => ?_⟩
  · rw [pk_un (by decide)]; exact h 15 (by decide)
  · rw [pk_un (by decide)]; exact h 52 (by decide)
  · rw [pk_us]; rfl
  · rw [pk_un (by decide)]; exact h 54 (by decide)
  · rw [pk_un (by decide)]; exact h 55 (by decide)
  · rw [pk_un (by omega)]; exact h _ (by omega)
theorem R_first (hQ : ∀ mi', fQ mi mi' → (∀ k, k ≠ 4 → k ≠ 5 → mi' 83 k = mi 83 k) → rTold tT0 false 0 mi' → Q none (mi', ml, MR, 95)) : kJ 110 0 [some (.ref 83), none] [] (mi, ml, MR, 95) Q := by
  have c53 : (nI 53).toNatClampNeg = 53 := rfl
  have v53 : vp_in (nI 53) 74 := vp_in_nI (by decide) (by decide)
  simp only [↓s110_0, ↓s110_1, ↓s110_3, ↓s110_5, ↓s110_8, ↓s110_9, ↓s110_12, ↓s110_13, ↓s110_14, ↓s110_15, ↓s110_18, ↓s110_21, ↓s110_22, ↓s110_25, ↓s110_27, ↓s110_28, ↓s110_29, ↓s110_30, ↓s110_31, ↓s110_34, ↓s110_35, ↓s110_36, ↓s110_39, kNLn, kNLi, kNLr, va_rf_s, kOl_n, kOl_s, kap_n, kap_c, kb0, kb1, kbif]
  have loop : ∀ (k j : Nat) (mi1 : Nat → Nat → Int32), j + k = 74 → (∀ q, q ≠ 87 → mi1 q = mi q) → (∀ i, i < j → mi1 87 i = nI 0) → kJ 110 2 [some (.ref 83), some (.int (nI j))] [] (mi1, ml, MR, 95) Q := by
    intro k
    induction k with
    | zero =>
      intro j mi1 hk f1 z1
      have e : j = 74 := by omega
      subst e
      rw [s110_2]
      simp only [↓s110_0, ↓s110_1, ↓s110_3, ↓s110_5, ↓s110_8, ↓s110_9, ↓s110_12, ↓s110_13, ↓s110_14, ↓s110_15, ↓s110_18, ↓s110_21, ↓s110_22, ↓s110_25, ↓s110_27, ↓s110_28, ↓s110_29, ↓s110_30, ↓s110_31, ↓s110_34, ↓s110_35, ↓s110_36, ↓s110_39, ↓kb0, kNLn, kNLi, kNLr, va_rf_s, kOl_n, kOl_s, kap_n, kap_c, kb0, kb1, kbif, zif, z0, z1, Bool.false_eq_true, eq_self, not_true_eq_false, not_false_eq_true, if_true, if_false, and_self, true_and, false_and, and_true, and_false, Int32.le_refl, ki_83, ki_87, kl_87, mr_83_3, c53, v53]
      have e83 : mi1 83 = mi 83 := f1 83 (by decide)
      refine hQ _ ⟨fun q a b => ?_, fun k hk => ?_⟩ (fun k a b => ?_) ⟨?_, ?_, ?_, ⟨by decide, fun i hi => absurd hi (Nat.not_lt_zero i), Or.inl rfl⟩⟩
      · rw [kup_ne a, kup_ne a, kup_ne b]; exact f1 q b
      · rw [kup_eq, pk_un (fun z => hk (by rw [z]; decide)), kup_eq, pk_un (fun z => hk (by rw [z]; decide)), kup_ne (by decide), e83]
      · rw [kup_eq, pk_un b, kup_eq, pk_un a, kup_ne (by decide), e83]
      · rw [kup_ne (by decide), kup_ne (by decide), kup_eq]
        exact dR_0 z1
      · rw [kup_eq, pk_un (by decide), kup_eq, pk_us]; rfl
      · rw [kup_eq, pk_us]; decide
    | succ k ih =>
      intro j mi1 hk f1 z1
      have hlt : ¬ nI 74 ≤ nI j := nI_ge (by omega) (by omega)
      have hc : (nI j).toNatClampNeg = j := nI_clamp (by omega)
      have hv : vp_in (nI j) 74 := vp_in_nI (by omega) (by decide)
      rw [s110_2]
      simp only [↓s110_0, ↓s110_1, ↓s110_3, ↓s110_5, ↓s110_8, ↓s110_9, ↓s110_12, ↓s110_13, ↓s110_14, ↓s110_15, ↓s110_18, ↓s110_21, ↓s110_22, ↓s110_25, ↓s110_27, ↓s110_28, ↓s110_29, ↓s110_30, ↓s110_31, ↓s110_34, ↓s110_35, ↓s110_36, ↓s110_39, kNLn, kNLi, kNLr, va_rf_s, kOl_n, kOl_s, kap_n, kap_c, kb0, kb1, kbif, zif, z0, z1, Bool.false_eq_true, eq_self, not_true_eq_false, not_false_eq_true, if_true, if_false, and_self, true_and, false_and, and_true, and_false, hlt, ki_83, ki_87, kl_87, mr_83_3, hc, hv, nI_add]
      refine ih (j + 1) _ (by omega) (fun q a => by rw [kup_ne a]; exact f1 q a) (fun i hi => ?_)
      rw [kup_eq]
      by_cases ei : i = j
      · rw [ei, pk_us]
      · rw [pk_un ei]; exact z1 i (by omega)
  exact loop 74 0 mi rfl (fun _ _ => rfl) (fun i hi => absurd hi (Nat.not_lt_zero i))
theorem R_keepD (hpo : pOK T) (h6 : ok6 T) (hd : dR T (mi 87)) (hQ : ∀ mi', (∀ q, q ≠ 84 → q ≠ 86 → q ≠ 87 → mi' q = mi q) → kRR (mi' 84) (pfin T) → mi' 86 0 = nI 0 → mi' 86 1 = nI 0 → Q none (mi', ml, MR, 95)) : kJ 111 0 [some (.ref 83), none, none] [] (mi, ml, MR, 95) Q := by
  have o1 := hpo.1
  have o2 := hpo.2.1
  have c52 : (nI 52).toNatClampNeg = 52 := rfl
  have v52 : vp_in (nI 52) 74 := vp_in_nI (by decide) (by decide)
  have c0 : (nI 0).toNatClampNeg = 0 := rfl
  have c1 : (nI 1).toNatClampNeg = 1 := rfl
  have v02 : vp_in (nI 0) 2 := vp_in_nI (by decide) (by decide)
  have v12 : vp_in (nI 1) 2 := vp_in_nI (by decide) (by decide)
  have za : nI 0 &&& 1 = nI 0 := by decide
  simp only [↓s111_0, ↓s111_1, ↓s111_3, ↓s111_4, ↓s111_7, ↓s111_9, ↓s111_10, ↓s111_13, ↓s111_15, ↓s111_17, ↓s111_18, ↓s111_19, ↓s111_20, ↓s111_21, ↓s111_22, ↓s111_25, ↓s111_26, ↓s111_27, ↓s111_28, ↓s111_29, ↓s111_32, ↓s111_33, ↓s111_34, ↓s111_37, ↓s111_38, ↓s111_39, ↓s111_40, ↓s111_41, ↓s111_42, ↓s111_43, ↓s111_44, ↓s111_45, ↓s111_46, ↓s111_49, ↓s111_52, ↓s111_53, ↓s111_55, ↓s111_57, ↓s111_60, ↓s111_61, ↓s111_64, ↓s111_65, ↓s111_66, ↓s111_69, ↓s111_70, ↓s111_71, ↓s111_72, ↓s111_75, ↓s111_78, ↓s111_79, ↓s111_82, ↓s111_83, ↓s111_84, ↓s111_85, ↓s111_86, ↓s111_89, ↓s111_90, ↓s111_91, ↓s111_92, kNLn, kNLi, kNLr, va_rf_s, kOl_n, kOl_s, kap_n, kap_c, kb0, kb1, kbif]
  have second : ∀ (k j : Nat) (mi1 : Nat → Nat → Int32) (l2 : Option Value), j + k = 74 → dR T (mi1 87) → (∀ i, i < T 0 4 → mi1 87 (16 + 6 * i + 4) = nI (T 2 (T 4 i))) → (∀ q, q ≠ 84 → q ≠ 87 → mi1 q = mi q) → (∀ i, i < j → mi1 84 i = mi1 87 i) → kJ 111 54 [some (.ref 83), some (.int (nI j)), l2] [] (mi1, ml, MR, 95) Q := by
    intro k
    induction k with
    | zero =>
      intro j mi1 l2 hk d1 a1 f1 z1
      have e : j = 74 := by omega
      subst e
      rw [s111_54]
      simp only [↓s111_0, ↓s111_1, ↓s111_3, ↓s111_4, ↓s111_7, ↓s111_9, ↓s111_10, ↓s111_13, ↓s111_15, ↓s111_17, ↓s111_18, ↓s111_19, ↓s111_20, ↓s111_21, ↓s111_22, ↓s111_25, ↓s111_26, ↓s111_27, ↓s111_28, ↓s111_29, ↓s111_32, ↓s111_33, ↓s111_34, ↓s111_37, ↓s111_38, ↓s111_39, ↓s111_40, ↓s111_41, ↓s111_42, ↓s111_43, ↓s111_44, ↓s111_45, ↓s111_46, ↓s111_49, ↓s111_52, ↓s111_53, ↓s111_55, ↓s111_57, ↓s111_60, ↓s111_61, ↓s111_64, ↓s111_65, ↓s111_66, ↓s111_69, ↓s111_70, ↓s111_71, ↓s111_72, ↓s111_75, ↓s111_78, ↓s111_79, ↓s111_82, ↓s111_83, ↓s111_84, ↓s111_85, ↓s111_86, ↓s111_89, ↓s111_90, ↓s111_91, ↓s111_92, kNLn, kNLi, kNLr, va_rf_s, kOl_n, kOl_s, kap_n, kap_c, kb0, kb1, kbif, zif, z0, z1, Bool.false_eq_true, eq_self, not_true_eq_false, not_false_eq_true, if_true, if_false, and_self, true_and, false_and, and_true, and_false, Int32.le_refl, ki_83, ki_86, kl_86, mr_83_2, c0, c1, v02, v12, za]
      refine hQ _ (fun q a b c => by rw [kup_ne b, kup_ne b]; exact f1 q a c) ?_ ?_ ?_
      · rw [kup_ne (by decide), kup_ne (by decide)]
        obtain ⟨⟨h1, h2, h3, h4, h5⟩, hP, hL, hZ⟩ := d1
        refine ⟨⟨?_, ?_, ?_, ?_, ?_⟩, fun p w hp hw => ?_, fun i w hi hw => ?_, fun j w hj => absurd hj (Nat.not_lt_zero j)⟩
        · rw [z1 15 (by decide)]; exact h1
        · rw [z1 52 (by decide)]; exact h2
        · rw [z1 53 (by decide)]; exact h3
        · rw [z1 54 (by decide)]; exact h4
        · rw [z1 55 (by decide)]; exact h5
        · have hp' : p < T 0 0 := hp
          have e : pfin T (1 + w) p = T (1 + w) p := by
            unfold pfin
            rw [if_neg (by omega), if_neg (by omega), if_neg (by omega), if_neg (by omega)]
          rw [z1 _ (by omega), e]; exact hP p w hp' hw
        · have hi' : i < T 0 4 := hi
          rw [z1 _ (by omega)]
          by_cases w4 : w = 4
          · subst w4; exact a1 i hi'
          · by_cases w5 : w = 5
            · subst w5; exact hZ i (by omega)
            · have e : pfin T (4 + w) i = T (4 + w) i := by
                unfold pfin
                rw [if_neg (by omega), if_neg (by omega), if_neg (by omega), if_neg (by omega)]
              rw [e]; exact hL i w hi' (by omega)
      · rw [kup_eq, pk_un (by decide), kup_eq, pk_us]
      · rw [kup_eq, pk_us]
    | succ k ih =>
      intro j mi1 l2 hk d1 a1 f1 z1
      have hlt : ¬ nI 74 ≤ nI j := nI_ge (by omega) (by omega)
      have hc : (nI j).toNatClampNeg = j := nI_clamp (by omega)
      have hv : vp_in (nI j) 74 := vp_in_nI (by omega) (by decide)
      have hv2 : vp_in (nI j) 222 := vp_in_nI (by omega) (by decide)
      rw [s111_54]
      simp only [↓s111_0, ↓s111_1, ↓s111_3, ↓s111_4, ↓s111_7, ↓s111_9, ↓s111_10, ↓s111_13, ↓s111_15, ↓s111_17, ↓s111_18, ↓s111_19, ↓s111_20, ↓s111_21, ↓s111_22, ↓s111_25, ↓s111_26, ↓s111_27, ↓s111_28, ↓s111_29, ↓s111_32, ↓s111_33, ↓s111_34, ↓s111_37, ↓s111_38, ↓s111_39, ↓s111_40, ↓s111_41, ↓s111_42, ↓s111_43, ↓s111_44, ↓s111_45, ↓s111_46, ↓s111_49, ↓s111_52, ↓s111_53, ↓s111_55, ↓s111_57, ↓s111_60, ↓s111_61, ↓s111_64, ↓s111_65, ↓s111_66, ↓s111_69, ↓s111_70, ↓s111_71, ↓s111_72, ↓s111_75, ↓s111_78, ↓s111_79, ↓s111_82, ↓s111_83, ↓s111_84, ↓s111_85, ↓s111_86, ↓s111_89, ↓s111_90, ↓s111_91, ↓s111_92, kNLn, kNLi, kNLr, va_rf_s, kOl_n, kOl_s, kap_n, kap_c, kb0, kb1, kbif, zif, z0, z1, Bool.false_eq_true, eq_self, not_true_eq_false, not_false_eq_true, if_true, if_false, and_self, true_and, false_and, and_true, and_false, hlt, ki_83, ki_84, kl_84, ki_87, kl_87, mr_83_0, mr_83_3, hc, hv, hv2, nI_add]
      refine ih (j + 1) _ _ (by omega) (by rw [kup_ne (by decide)]; exact d1) (fun i hi => by rw [kup_ne (by decide)]; exact a1 i hi) (fun q a c => by rw [kup_ne a]; exact f1 q a c) (fun i hi => ?_)
      have e87 : ∀ x, kup mi1 84 j x 87 i = mi1 87 i := fun x => by rw [kup_ne (by decide)]
      rw [e87, kup_eq]
      by_cases ei : i = j
      · rw [ei, pk_us]
      · rw [pk_un ei]; exact z1 i (by omega)
  have first : ∀ (k i : Nat) (mi1 : Nat → Nat → Int32) (l2 : Option Value), i + k = T 0 4 → dR T (mi1 87) → (∀ i', i' < i → mi1 87 (16 + 6 * i' + 4) = nI (T 2 (T 4 i'))) → (∀ q, q ≠ 87 → mi1 q = mi q) → kJ 111 2 [some (.ref 83), some (.int (nI i)), l2] [] (mi1, ml, MR, 95) Q := by
    intro k
    induction k with
    | zero =>
      intro i mi1 l2 hk d1 a1 f1
      have e : i = T 0 4 := by omega
      subst e
      have t52 := d1.1.2.1
      rw [s111_2]
      simp only [↓s111_0, ↓s111_1, ↓s111_3, ↓s111_4, ↓s111_7, ↓s111_9, ↓s111_10, ↓s111_13, ↓s111_15, ↓s111_17, ↓s111_18, ↓s111_19, ↓s111_20, ↓s111_21, ↓s111_22, ↓s111_25, ↓s111_26, ↓s111_27, ↓s111_28, ↓s111_29, ↓s111_32, ↓s111_33, ↓s111_34, ↓s111_37, ↓s111_38, ↓s111_39, ↓s111_40, ↓s111_41, ↓s111_42, ↓s111_43, ↓s111_44, ↓s111_45, ↓s111_46, ↓s111_49, ↓s111_52, ↓s111_53, ↓s111_55, ↓s111_57, ↓s111_60, ↓s111_61, ↓s111_64, ↓s111_65, ↓s111_66, ↓s111_69, ↓s111_70, ↓s111_71, ↓s111_72, ↓s111_75, ↓s111_78, ↓s111_79, ↓s111_82, ↓s111_83, ↓s111_84, ↓s111_85, ↓s111_86, ↓s111_89, ↓s111_90, ↓s111_91, ↓s111_92, kNLn, kNLi, kNLr, va_rf_s, kOl_n, kOl_s, kap_n, kap_c, kb0, kb1, kbif, zif, z0, z1, Bool.false_eq_true, eq_self, not_true_eq_false, not_false_eq_true, if_true, if_false, and_self, true_and, false_and, and_true, and_false, ki_83, ki_87, kl_87, mr_83_3, c52, v52, t52, Int32.le_refl]
      exact second 74 0 mi1 l2 rfl d1 a1 (fun q _ c => f1 q c) (fun i hi => absurd hi (Nat.not_lt_zero i))
    | succ k ih =>
      intro i mi1 l2 hk d1 a1 f1
      have t52 := d1.1.2.1
      have hlt : ¬ nI (T 0 4) ≤ nI i := nI_ge (by omega) (by omega)
      have hf := h6 i (by omega)
      have r0 : mi1 87 (16 + 6 * i + 0) = nI (T 4 i) := d1.2.2.1 i 0 (by omega) (by decide)
      have r1 : mi1 87 (3 * T 4 i + 1) = nI (T 2 (T 4 i)) := d1.2.1 (T 4 i) 1 hf.1 (by decide)
      have hc0 : (nI (16 + 6 * i + 0)).toNatClampNeg = 16 + 6 * i + 0 := nI_clamp (by omega)
      have hv0 : vp_in (nI (16 + 6 * i + 0)) 74 := vp_in_nI (by omega) (by decide)
      have hc4 : (nI (16 + 6 * i + 4)).toNatClampNeg = 16 + 6 * i + 4 := nI_clamp (by omega)
      have hv4 : vp_in (nI (16 + 6 * i + 4)) 74 := vp_in_nI (by omega) (by decide)
      have hc1 : (nI (3 * T 4 i + 1)).toNatClampNeg = 3 * T 4 i + 1 := nI_clamp (by omega)
      have hv1 : vp_in (nI (3 * T 4 i + 1)) 74 := vp_in_nI (by omega) (by decide)
      rw [s111_2]
      simp only [↓s111_0, ↓s111_1, ↓s111_3, ↓s111_4, ↓s111_7, ↓s111_9, ↓s111_10, ↓s111_13, ↓s111_15, ↓s111_17, ↓s111_18, ↓s111_19, ↓s111_20, ↓s111_21, ↓s111_22, ↓s111_25, ↓s111_26, ↓s111_27, ↓s111_28, ↓s111_29, ↓s111_32, ↓s111_33, ↓s111_34, ↓s111_37, ↓s111_38, ↓s111_39, ↓s111_40, ↓s111_41, ↓s111_42, ↓s111_43, ↓s111_44, ↓s111_45, ↓s111_46, ↓s111_49, ↓s111_52, ↓s111_53, ↓s111_55, ↓s111_57, ↓s111_60, ↓s111_61, ↓s111_64, ↓s111_65, ↓s111_66, ↓s111_69, ↓s111_70, ↓s111_71, ↓s111_72, ↓s111_75, ↓s111_78, ↓s111_79, ↓s111_82, ↓s111_83, ↓s111_84, ↓s111_85, ↓s111_86, ↓s111_89, ↓s111_90, ↓s111_91, ↓s111_92, kNLn, kNLi, kNLr, va_rf_s, kOl_n, kOl_s, kap_n, kap_c, kb0, kb1, kbif, zif, z0, z1, Bool.false_eq_true, eq_self, not_true_eq_false, not_false_eq_true, if_true, if_false, and_self, true_and, false_and, and_true, and_false, hlt, ki_83, ki_87, kl_87, mr_83_3, c52, v52, t52, pk_mul, nI_add, hc0, hv0, r0, hc1, hv1, r1, hc4, hv4]
      refine ih (i + 1) _ _ (by omega) ?_ (fun i' hi' => ?_) (fun q a => by rw [kup_ne a]; exact f1 q a)
      · rw [kup_eq]
        obtain ⟨⟨h1, h2, h3, h4, h5⟩, hP, hL, hZ⟩ := d1
        refine ⟨⟨?_, ?_, ?_, ?_, ?_⟩, fun p u a b => ?_, fun i' u a b => ?_, fun i' a => ?_⟩
        · rw [pk_un (by omega)]; exact h1
        · rw [pk_un (by omega)]; exact h2
        · rw [pk_un (by omega)]; exact h3
        · rw [pk_un (by omega)]; exact h4
        · rw [pk_un (by omega)]; exact h5
        · rw [pk_un (by omega)]; exact hP p u a b
        · rw [pk_un (by omega)]; exact hL i' u a b
        · rw [pk_un (by omega)]; exact hZ i' a
      · rw [kup_eq]
        by_cases ei : i' = i
        · rw [ei, pk_us]
        · rw [pk_un (by omega)]; exact a1 i' (by omega)
  exact first (T 0 4) 0 mi none (by omega) hd (fun i' hi' => absurd hi' (Nat.not_lt_zero i')) (fun _ _ => rfl)
theorem ok6_h (h : hOK T hT) : ok6 T ↔ hT ≤ T 0 0 := by
  obtain ⟨h1, h2, h3⟩ := h
  constructor
  · intro z
    rcases h3 with h3 | ⟨i, hi, h3⟩
    · omega
    · have := z i hi
      omega
  · intro z i hi
    have := h2 i hi
    omega
theorem R_textL (h : rT n B mi)
    (fin1 : ∀ F, gtx B n = .inl F → ∀ mi' (x : Int32), fQ mi mi' → rFlt F mi' → kJ 124 69 [some (.ref 83), some (.int x)] [] (mi', ml, MR, 95) Q)
    (fin2 : ∀ T ln, gtx B n = .inr (pfin T, ln) → pOK T → ok6 T → ∀ mi', fQ mi mi' → mi' 83 12 = nI 0 → dR T (mi' 87) → kJ 124 69 [some (.ref 83), some (.int (nI ln))] [] (mi', ml, MR, 95) Q) :
    ∀ (k c : Nat) (T : tT) (hp : Bool) (hT ln q : Nat) (mi1 : Nat → Nat → Int32), c + k = 161 → c ≤ q → q ≤ n → pOK T → fQ mi mi1 → tK B n q ≠ 4 → rTok B n q mi1 → rTold T hp hT mi1 → textF B n k T hp ln q = textF B n 161 tT0 false 0 0 → kJ 124 20 [some (.ref 83), some (.int (nI ln))] [] (mi1, ml, MR, 95) Q := by
  have h160 := h.1.1
  have bad : ∀ F, gtx B n = .inl F → ∀ mi' (x : Int32), fQ mi mi' → rFlt F mi' → kJ 124 20 [some (.ref 83), some (.int x)] [] (mi', ml, MR, 95) Q := by
    intro F eF mi' x f b
    have nz := p_fl b.2.2
    have rq := fun (y x : Int32) (Q : Option Value → kMem → Prop) => R_reqf (ml := ml) (Q := Q) (x := x) (y := y) nz
    have c15 : (nI 15).toNatClampNeg = 15 := rfl
    have v15 : vp_in (nI 15) 74 := vp_in_nI (by decide) (by decide)
    rw [s124_20]
    by_cases d : mi' 87 15 ≤ mi' 83 5
    · simp only [↓s124_0, ↓s124_1, ↓s124_2, ↓s124_3, ↓s124_4, ↓s124_7, ↓s124_8, ↓s124_9, ↓s124_12, ↓s124_13, ↓s124_16, ↓s124_17, ↓s124_21, ↓s124_24, ↓s124_27, ↓s124_28, ↓s124_31, ↓s124_34, ↓s124_35, ↓s124_38, ↓s124_41, ↓s124_44, ↓s124_45, ↓s124_46, ↓s124_49, ↓s124_50, ↓s124_53, ↓s124_55, ↓s124_56, ↓s124_59, ↓s124_60, ↓s124_63, ↓s124_64, ↓s124_66, ↓s124_70, ↓s124_71, ↓s124_74, ↓s124_75, ↓s124_78, ↓s124_81, ↓s124_83, ↓s124_84, ↓s124_87, ↓s124_88, ↓s124_89, ↓s124_90, ↓s124_93, ↓s124_94, ↓rq, kNLn, kNLi, kNLr, va_rf_s, kOl_n, kOl_s, kap_n, kap_c, kb0, kb1, kbif, zif, z0, z1, Bool.false_eq_true, eq_self, not_true_eq_false, not_false_eq_true, if_true, if_false, and_self, true_and, false_and, and_true, and_false, ki_83, ki_87, kl_87, mr_83_3, c15, v15, nz, d]
      exact fin1 F eF mi' x f b
    · simp only [↓s124_0, ↓s124_1, ↓s124_2, ↓s124_3, ↓s124_4, ↓s124_7, ↓s124_8, ↓s124_9, ↓s124_12, ↓s124_13, ↓s124_16, ↓s124_17, ↓s124_21, ↓s124_24, ↓s124_27, ↓s124_28, ↓s124_31, ↓s124_34, ↓s124_35, ↓s124_38, ↓s124_41, ↓s124_44, ↓s124_45, ↓s124_46, ↓s124_49, ↓s124_50, ↓s124_53, ↓s124_55, ↓s124_56, ↓s124_59, ↓s124_60, ↓s124_63, ↓s124_64, ↓s124_66, ↓s124_70, ↓s124_71, ↓s124_74, ↓s124_75, ↓s124_78, ↓s124_81, ↓s124_83, ↓s124_84, ↓s124_87, ↓s124_88, ↓s124_89, ↓s124_90, ↓s124_93, ↓s124_94, ↓rq, kNLn, kNLi, kNLr, va_rf_s, kOl_n, kOl_s, kap_n, kap_c, kb0, kb1, kbif, zif, z0, z1, Bool.false_eq_true, eq_self, not_true_eq_false, not_false_eq_true, if_true, if_false, and_self, true_and, false_and, and_true, and_false, ki_83, ki_87, kl_87, mr_83_3, c15, v15, nz, d]
      exact fin1 F eF mi' x f b
  intro k
  induction k with
  | zero => intro c T hp hT ln q mi1 hc hcq hqn; omega
  | succ k ih =>
    intro c T hp hT ln q mi1 hc hcq hqn hpo f1 hk4 hTk ht eT
    have hle := tK_le (B := B) (n := n) (q := q)
    have eS : textF B n (k + 1) T hp ln q = if tK B n q = 4 then .inl (1, tB B n q) else if tK B n q = 0 then .inr (T, ln) else (match lineS B n T hp q with
      | .inl f => .inl f
      | .inr (T', hp', q') => textF B n k T' hp' (ln + 1) q') := rfl
    rw [if_neg hk4] at eS
    have l0 := nI_litz (by omega : tK B n q < 2 ^ 31)
    have hTk0 := hTk
    obtain ⟨a12, a8, a10, a9, -⟩ := hTk0
    by_cases c0 : tK B n q = 0
    · rw [if_pos c0] at eS
      have eG : textF B n 161 tT0 false 0 0 = .inr (T, ln) := eT.symm.trans eS
      have hbn : tB B n q = n := by
        have h1 := tB_le (B := B) hqn
        have h2 : n ≤ tB B n q := by
          unfold tK at c0
          split at c0
          · assumption
          · split at c0
            · cases c0
            · split at c0
              · split at c0 <;> cases c0
              · split at c0 <;> cases c0
        omega
      have c15 : (nI 15).toNatClampNeg = 15 := rfl
      have v15 : vp_in (nI 15) 74 := vp_in_nI (by decide) (by decide)
      have t15 := ht.1.1.1
      have t5 := ht.2.2.1
      have hh := ht.2.2.2
      have o1 := hpo.1
      have hle5 : (nI (T 0 0) ≤ nI hT - nI 1) = (T 0 0 + 1 ≤ hT) := hi_le (by omega) (by have := hh.1; omega)
      rw [s124_20]
      by_cases d : T 0 0 + 1 ≤ hT
      · have n6 : ¬ ok6 T := fun z => by have := (ok6_h hh).mp z; omega
        have eg : gtx B n = .inl (6, n) := by
          unfold gtx
          rw [eG]
          exact if_neg n6
        have hf : rFlt (6, n) (kup (kup mi1 83 12 (nI 6)) 83 13 (nI n)) := rFlt_mk (by decide) (by decide)
        rw [hbn] at a9
        simp only [↓s124_0, ↓s124_1, ↓s124_2, ↓s124_3, ↓s124_4, ↓s124_7, ↓s124_8, ↓s124_9, ↓s124_12, ↓s124_13, ↓s124_16, ↓s124_17, ↓s124_21, ↓s124_24, ↓s124_27, ↓s124_28, ↓s124_31, ↓s124_34, ↓s124_35, ↓s124_38, ↓s124_41, ↓s124_44, ↓s124_45, ↓s124_46, ↓s124_49, ↓s124_50, ↓s124_53, ↓s124_55, ↓s124_56, ↓s124_59, ↓s124_60, ↓s124_63, ↓s124_64, ↓s124_66, ↓s124_70, ↓s124_71, ↓s124_74, ↓s124_75, ↓s124_78, ↓s124_81, ↓s124_83, ↓s124_84, ↓s124_87, ↓s124_88, ↓s124_89, ↓s124_90, ↓s124_93, ↓s124_94, ↓R_req0 a12, kNLn, kNLi, kNLr, va_rf_s, kOl_n, kOl_s, kap_n, kap_c, kb0, kb1, kbif, zif, z0, z1, Bool.false_eq_true, eq_self, not_true_eq_false, not_false_eq_true, if_true, if_false, and_self, true_and, false_and, and_true, and_false, ki_83, ki_87, kl_87, mr_83_3, c15, v15, a12, a10, l0, eq_true c0, t15, t5, hle5, d, a9]
        exact fin1 _ eg _ _ (fQ_83 (fQ_83 f1 (by decide)) (by decide)) hf
      · have h6 : ok6 T := (ok6_h hh).mpr (by omega)
        have eg : gtx B n = .inr (pfin T, ln) := by
          unfold gtx
          rw [eG]
          exact if_pos h6
        simp only [↓s124_0, ↓s124_1, ↓s124_2, ↓s124_3, ↓s124_4, ↓s124_7, ↓s124_8, ↓s124_9, ↓s124_12, ↓s124_13, ↓s124_16, ↓s124_17, ↓s124_21, ↓s124_24, ↓s124_27, ↓s124_28, ↓s124_31, ↓s124_34, ↓s124_35, ↓s124_38, ↓s124_41, ↓s124_44, ↓s124_45, ↓s124_46, ↓s124_49, ↓s124_50, ↓s124_53, ↓s124_55, ↓s124_56, ↓s124_59, ↓s124_60, ↓s124_63, ↓s124_64, ↓s124_66, ↓s124_70, ↓s124_71, ↓s124_74, ↓s124_75, ↓s124_78, ↓s124_81, ↓s124_83, ↓s124_84, ↓s124_87, ↓s124_88, ↓s124_89, ↓s124_90, ↓s124_93, ↓s124_94, ↓R_req1, kNLn, kNLi, kNLr, va_rf_s, kOl_n, kOl_s, kap_n, kap_c, kb0, kb1, kbif, zif, z0, z1, Bool.false_eq_true, eq_self, not_true_eq_false, not_false_eq_true, if_true, if_false, and_self, true_and, false_and, and_true, and_false, ki_83, ki_87, kl_87, mr_83_3, c15, v15, a12, a10, l0, eq_true c0, t15, t5, hle5, d]
        exact fin2 T ln eg hpo h6 mi1 f1 a12 ht.1
    · rw [if_neg c0] at eS
      rw [s124_20]
      simp only [↓s124_0, ↓s124_1, ↓s124_2, ↓s124_3, ↓s124_4, ↓s124_7, ↓s124_8, ↓s124_9, ↓s124_12, ↓s124_13, ↓s124_16, ↓s124_17, ↓s124_21, ↓s124_24, ↓s124_27, ↓s124_28, ↓s124_31, ↓s124_34, ↓s124_35, ↓s124_38, ↓s124_41, ↓s124_44, ↓s124_45, ↓s124_46, ↓s124_49, ↓s124_50, ↓s124_53, ↓s124_55, ↓s124_56, ↓s124_59, ↓s124_60, ↓s124_63, ↓s124_64, ↓s124_66, ↓s124_70, ↓s124_71, ↓s124_74, ↓s124_75, ↓s124_78, ↓s124_81, ↓s124_83, ↓s124_84, ↓s124_87, ↓s124_88, ↓s124_89, ↓s124_90, ↓s124_93, ↓s124_94, kNLn, kNLi, kNLr, va_rf_s, kOl_n, kOl_s, kap_n, kap_c, kb0, kb1, kbif, zif, z0, z1, Bool.false_eq_true, eq_self, not_true_eq_false, not_false_eq_true, if_true, if_false, and_self, true_and, false_and, and_true, and_false, ki_83, a12, a10, l0, c0]
      refine R_line (rT_fQ h f1) hqn hpo hTk ht (fun F eF mi2 f2 b => ?_) (fun T' hp' q' eF hk mi2 hT2 f2 t2 d2 => ?_) (fun T' hp' q' eF hk mi2 f2 b => ?_)
      · rw [eF] at eS
        have eG : textF B n 161 tT0 false 0 0 = .inl F := eT.symm.trans eS
        have eg : gtx B n = .inl F := by
          unfold gtx
          rw [eG]
        simp only [↓s124_0, ↓s124_1, ↓s124_2, ↓s124_3, ↓s124_4, ↓s124_7, ↓s124_8, ↓s124_9, ↓s124_12, ↓s124_13, ↓s124_16, ↓s124_17, ↓s124_21, ↓s124_24, ↓s124_27, ↓s124_28, ↓s124_31, ↓s124_34, ↓s124_35, ↓s124_38, ↓s124_41, ↓s124_44, ↓s124_45, ↓s124_46, ↓s124_49, ↓s124_50, ↓s124_53, ↓s124_55, ↓s124_56, ↓s124_59, ↓s124_60, ↓s124_63, ↓s124_64, ↓s124_66, ↓s124_70, ↓s124_71, ↓s124_74, ↓s124_75, ↓s124_78, ↓s124_81, ↓s124_83, ↓s124_84, ↓s124_87, ↓s124_88, ↓s124_89, ↓s124_90, ↓s124_93, ↓s124_94, kNLn, kNLi, kNLr, va_rf_s, kOl_n, kOl_s, kap_n, kap_c, kb0, kb1, kbif]
        exact bad F eg mi2 _ (fQ_tr f1 f2) b
      · rw [eF] at eS
        have hok := line_ok hpo hqn c0 eF
        simp only [↓s124_0, ↓s124_1, ↓s124_2, ↓s124_3, ↓s124_4, ↓s124_7, ↓s124_8, ↓s124_9, ↓s124_12, ↓s124_13, ↓s124_16, ↓s124_17, ↓s124_21, ↓s124_24, ↓s124_27, ↓s124_28, ↓s124_31, ↓s124_34, ↓s124_35, ↓s124_38, ↓s124_41, ↓s124_44, ↓s124_45, ↓s124_46, ↓s124_49, ↓s124_50, ↓s124_53, ↓s124_55, ↓s124_56, ↓s124_59, ↓s124_60, ↓s124_63, ↓s124_64, ↓s124_66, ↓s124_70, ↓s124_71, ↓s124_74, ↓s124_75, ↓s124_78, ↓s124_81, ↓s124_83, ↓s124_84, ↓s124_87, ↓s124_88, ↓s124_89, ↓s124_90, ↓s124_93, ↓s124_94, kNLn, kNLi, kNLr, va_rf_s, kOl_n, kOl_s, kap_n, kap_c, kb0, kb1, kbif, nI_add]
        exact ih (c + 1) T' hp' hT2 (ln + 1) q' mi2 (by omega) (by omega) hok.2.2 hok.1 (fQ_tr f1 f2) hk t2 d2 (eS.symm.trans eT)
      · rw [eF] at eS
        have hok := line_ok hpo hqn c0 eF
        obtain ⟨k', rfl⟩ : ∃ k', k = k' + 1 := ⟨k - 1, by omega⟩
        have e2 : textF B n (k' + 1) T' hp' (ln + 1) q' = .inl (1, tB B n q') := if_pos hk
        have eG : textF B n 161 tT0 false 0 0 = .inl (1, tB B n q') := eT.symm.trans (eS.trans e2)
        have eg : gtx B n = .inl (1, tB B n q') := by
          unfold gtx
          rw [eG]
        simp only [↓s124_0, ↓s124_1, ↓s124_2, ↓s124_3, ↓s124_4, ↓s124_7, ↓s124_8, ↓s124_9, ↓s124_12, ↓s124_13, ↓s124_16, ↓s124_17, ↓s124_21, ↓s124_24, ↓s124_27, ↓s124_28, ↓s124_31, ↓s124_34, ↓s124_35, ↓s124_38, ↓s124_41, ↓s124_44, ↓s124_45, ↓s124_46, ↓s124_49, ↓s124_50, ↓s124_53, ↓s124_55, ↓s124_56, ↓s124_59, ↓s124_60, ↓s124_63, ↓s124_64, ↓s124_66, ↓s124_70, ↓s124_71, ↓s124_74, ↓s124_75, ↓s124_78, ↓s124_81, ↓s124_83, ↓s124_84, ↓s124_87, ↓s124_88, ↓s124_89, ↓s124_90, ↓s124_93, ↓s124_94, kNLn, kNLi, kNLr, va_rf_s, kOl_n, kOl_s, kap_n, kap_c, kb0, kb1, kbif]
        exact bad _ eg mi2 _ (fQ_tr f1 f2) b
theorem fQ_sub {f g : Nat → Nat → Int32} (h : fQ f g) : fR f g := fun q hq => h.1 q (by omega) (by omega)
theorem R_text (h : RI S mi) (hg : gOK S)
    (hQ1 : ∀ F, gtx S.2.2.1.2 S.2.2.1.1 = .inl F → ∀ mi', RI (S.1, S.2.1, (0, S.2.2.1.2), F.1, S.2.2.2.2) mi' → fR mi mi' → Q (some (.int ((-10) - nI F.2))) (mi', ml, MR, 95))
    (hQ2 : ∀ T ln, gtx S.2.2.1.2 S.2.2.1.1 = .inr (T, ln) → ∀ mi', RI (gtS S T) mi' → fR mi mi' → Q (some (.int (nI ln))) (mi', ml, MR, 95)) :
    kJ 124 0 [some (.ref 83), none] [] (mi, ml, MR, 95) Q := by
  have hR : rT S.2.2.1.1 S.2.2.1.2 mi := ⟨hg.2.2.1, h.2.2.1.1, h.2.2.1.2⟩
  have hL6 : ∀ j, j ∈ [8, 9, 10, 11, 12, 13] → j ∈ [4, 5, 8, 9, 10, 11, 12, 13] := by decide
  have fin1 : ∀ F, gtx S.2.2.1.2 S.2.2.1.1 = .inl F → ∀ mi' (x : Int32), fQ mi mi' → rFlt F mi' → kJ 124 69 [some (.ref 83), some (.int x)] [] (mi', ml, MR, 95) Q := by
    intro F eF mi' x f b
    have k12 : kup mi' 83 7 (nI 0) 83 12 = mi' 83 12 := by rw [kup_eq, pk_un (by decide)]
    have k13 : kup mi' 83 7 (nI 0) 83 13 = nI F.2 := by rw [kup_eq, pk_un (by decide)]; exact b.2.1
    have z1 := p_nle b.2.2
    have z2 := b.2.2
    simp only [↓s124_0, ↓s124_1, ↓s124_2, ↓s124_3, ↓s124_4, ↓s124_7, ↓s124_8, ↓s124_9, ↓s124_12, ↓s124_13, ↓s124_16, ↓s124_17, ↓s124_21, ↓s124_24, ↓s124_27, ↓s124_28, ↓s124_31, ↓s124_34, ↓s124_35, ↓s124_38, ↓s124_41, ↓s124_44, ↓s124_45, ↓s124_46, ↓s124_49, ↓s124_50, ↓s124_53, ↓s124_55, ↓s124_56, ↓s124_59, ↓s124_60, ↓s124_63, ↓s124_64, ↓s124_66, ↓s124_69, ↓s124_70, ↓s124_71, ↓s124_74, ↓s124_75, ↓s124_78, ↓s124_81, ↓s124_83, ↓s124_84, ↓s124_87, ↓s124_88, ↓s124_89, ↓s124_90, ↓s124_93, ↓s124_94, kNLn, kNLi, kNLr, va_rf_s, kOl_n, kOl_s, kap_n, kap_c, kb0, kb1, kbif, zif, z0, z1, Bool.false_eq_true, eq_self, not_true_eq_false, not_false_eq_true, if_true, if_false, and_self, true_and, false_and, and_true, and_false, ki_83, k12, z1, z2, k13]
    have e : ∀ q, q ≠ 83 → q ≠ 87 → kup mi' 83 7 (nI 0) q = mi q := fun q a c => by rw [kup_ne a]; exact f.1 q a c
    refine hQ1 F eF _ ⟨by rw [e 84 (by decide) (by decide)]; exact h.1, fun j hj => rImg_eq (e 86 (by decide) (by decide)) (fun i _ _ => by rw [e 84 (by decide) (by decide)]) (fun U hU => (hg.2.1 j hj U hU).1) (h.2.1 j hj), ⟨by rw [kup_eq, pk_us], fun j hj => absurd hj (Nat.not_lt_zero j)⟩, by rw [k12]; exact b.1, fun j hj => rSh_eq (by rw [e 91 (by decide) (by decide)]) (by rw [e 92 (by decide) (by decide)]) (fun i _ _ => by rw [e 93 (by decide) (by decide)]) (fun l n c ec => (hg.2.2.2.2.1 j hj l n c ec).2) (h.2.2.2.2.1 j hj), by rw [kup_eq, pk_un (by decide), f.2 26 (by decide)]; exact h.2.2.2.2.2⟩ (fun q hq => e q (by omega) (by omega))
  have fin2 : ∀ T ln, gtx S.2.2.1.2 S.2.2.1.1 = .inr (pfin T, ln) → pOK T → ok6 T → ∀ mi', fQ mi mi' → mi' 83 12 = nI 0 → dR T (mi' 87) → kJ 124 69 [some (.ref 83), some (.int (nI ln))] [] (mi', ml, MR, 95) Q := by
    intro T ln eF hpo h6 mi' f b12 d
    have k12 : kup mi' 83 7 (nI 0) 83 12 = nI 0 := by rw [kup_eq, pk_un (by decide)]; exact b12
    have z1 : ¬ 0 < nI 0 := by decide
    have z2 : nI 0 ≤ 0 := by decide
    simp only [↓s124_0, ↓s124_1, ↓s124_2, ↓s124_3, ↓s124_4, ↓s124_7, ↓s124_8, ↓s124_9, ↓s124_12, ↓s124_13, ↓s124_16, ↓s124_17, ↓s124_21, ↓s124_24, ↓s124_27, ↓s124_28, ↓s124_31, ↓s124_34, ↓s124_35, ↓s124_38, ↓s124_41, ↓s124_44, ↓s124_45, ↓s124_46, ↓s124_49, ↓s124_50, ↓s124_53, ↓s124_55, ↓s124_56, ↓s124_59, ↓s124_60, ↓s124_63, ↓s124_64, ↓s124_66, ↓s124_69, ↓s124_70, ↓s124_71, ↓s124_74, ↓s124_75, ↓s124_78, ↓s124_81, ↓s124_83, ↓s124_84, ↓s124_87, ↓s124_88, ↓s124_89, ↓s124_90, ↓s124_93, ↓s124_94, kNLn, kNLi, kNLr, va_rf_s, kOl_n, kOl_s, kap_n, kap_c, kb0, kb1, kbif, zif, z0, z1, Bool.false_eq_true, eq_self, not_true_eq_false, not_false_eq_true, if_true, if_false, and_self, true_and, false_and, and_true, and_false, ki_83, k12, z1, z2]
    refine R_keepD hpo h6 (by rw [kup_ne (by decide)]; exact d) (fun mi2 f2 r2 i0 i1 => ?_)
    simp only [↓s124_0, ↓s124_1, ↓s124_2, ↓s124_3, ↓s124_4, ↓s124_7, ↓s124_8, ↓s124_9, ↓s124_12, ↓s124_13, ↓s124_16, ↓s124_17, ↓s124_21, ↓s124_24, ↓s124_27, ↓s124_28, ↓s124_31, ↓s124_34, ↓s124_35, ↓s124_38, ↓s124_41, ↓s124_44, ↓s124_45, ↓s124_46, ↓s124_49, ↓s124_50, ↓s124_53, ↓s124_55, ↓s124_56, ↓s124_59, ↓s124_60, ↓s124_63, ↓s124_64, ↓s124_66, ↓s124_69, ↓s124_70, ↓s124_71, ↓s124_74, ↓s124_75, ↓s124_78, ↓s124_81, ↓s124_83, ↓s124_84, ↓s124_87, ↓s124_88, ↓s124_89, ↓s124_90, ↓s124_93, ↓s124_94, kNLn, kNLi, kNLr, va_rf_s, kOl_n, kOl_s, kap_n, kap_c, kb0, kb1, kbif]
    have e : ∀ q, q ≠ 83 → q ≠ 84 → q ≠ 86 → q ≠ 87 → mi2 q = mi q := fun q a b c d => by rw [f2 q b c d, kup_ne a]; exact f.1 q a d
    have e83 : mi2 83 = kup mi' 83 7 (nI 0) 83 := f2 83 (by decide) (by decide) (by decide)
    refine hQ2 _ ln eF _ ⟨r2, fun j hj => ?_, ⟨?_, fun j hj => absurd hj (Nat.not_lt_zero j)⟩, ?_, fun j hj => rSh_eq (by rw [e 91 (by decide) (by decide) (by decide) (by decide)]) (by rw [e 92 (by decide) (by decide) (by decide) (by decide)]) (fun i _ _ => by rw [e 93 (by decide) (by decide) (by decide) (by decide)]) (fun l n c ec => (hg.2.2.2.2.1 j hj l n c ec).2) (h.2.2.2.2.1 j hj), ?_⟩ (fun q hq => e q (by omega) (by omega) (by omega) (by omega))
    · show mi2 86 j = nI 0
      rcases (by omega : j = 0 ∨ j = 1) with rfl | rfl
      · exact i0
      · exact i1
    · rw [e83, kup_eq, pk_us]; rfl
    · rw [e83, k12]; rfl
    · rw [e83, kup_eq, pk_un (by decide), f.2 26 (by decide)]; exact h.2.2.2.2.2
  simp only [↓s124_0, ↓s124_1, ↓s124_2, ↓s124_3, ↓s124_4, ↓s124_7, ↓s124_8, ↓s124_9, ↓s124_12, ↓s124_13, ↓s124_16, ↓s124_17, ↓s124_21, ↓s124_24, ↓s124_27, ↓s124_28, ↓s124_31, ↓s124_34, ↓s124_35, ↓s124_38, ↓s124_41, ↓s124_44, ↓s124_45, ↓s124_46, ↓s124_49, ↓s124_50, ↓s124_53, ↓s124_55, ↓s124_56, ↓s124_59, ↓s124_60, ↓s124_63, ↓s124_64, ↓s124_66, ↓s124_69, ↓s124_70, ↓s124_71, ↓s124_74, ↓s124_75, ↓s124_78, ↓s124_81, ↓s124_83, ↓s124_84, ↓s124_87, ↓s124_88, ↓s124_89, ↓s124_90, ↓s124_93, ↓s124_94, kNLn, kNLi, kNLr, va_rf_s, kOl_n, kOl_s, kap_n, kap_c, kb0, kb1, kbif, ki_83]
  have f0 : fQ mi (kup (kup mi 83 12 (nI 0)) 83 8 (nI 0)) := fQ_83 (fQ_83 fQ_rf (by decide)) (by decide)
  refine R_first (fun mi1 f1 r1 t1 => ?_)
  have f01 := fQ_tr f0 f1
  have a8 : mi1 83 8 = nI 0 := by rw [r1 8 (by decide) (by decide), kup_eq, pk_us]
  have a12 : mi1 83 12 = nI 0 := by rw [r1 12 (by decide) (by decide), kup_eq, pk_un (by decide), kup_eq, pk_us]
  simp only [↓s124_0, ↓s124_1, ↓s124_2, ↓s124_3, ↓s124_4, ↓s124_7, ↓s124_8, ↓s124_9, ↓s124_12, ↓s124_13, ↓s124_16, ↓s124_17, ↓s124_21, ↓s124_24, ↓s124_27, ↓s124_28, ↓s124_31, ↓s124_34, ↓s124_35, ↓s124_38, ↓s124_41, ↓s124_44, ↓s124_45, ↓s124_46, ↓s124_49, ↓s124_50, ↓s124_53, ↓s124_55, ↓s124_56, ↓s124_59, ↓s124_60, ↓s124_63, ↓s124_64, ↓s124_66, ↓s124_69, ↓s124_70, ↓s124_71, ↓s124_74, ↓s124_75, ↓s124_78, ↓s124_81, ↓s124_83, ↓s124_84, ↓s124_87, ↓s124_88, ↓s124_89, ↓s124_90, ↓s124_93, ↓s124_94, kNLn, kNLi, kNLr, va_rf_s, kOl_n, kOl_s, kap_n, kap_c, kb0, kb1, kbif, ki_83]
  refine R_reads (rT_fQ hR f01) (Nat.zero_le _) a8 a12 (fun hk mi2 f2 b12 b8 b10 b9 b11 => ?_) (fun hk mi2 f2 b12 b13 => ?_)
  · simp only [↓s124_0, ↓s124_1, ↓s124_2, ↓s124_3, ↓s124_4, ↓s124_7, ↓s124_8, ↓s124_9, ↓s124_12, ↓s124_13, ↓s124_16, ↓s124_17, ↓s124_21, ↓s124_24, ↓s124_27, ↓s124_28, ↓s124_31, ↓s124_34, ↓s124_35, ↓s124_38, ↓s124_41, ↓s124_44, ↓s124_45, ↓s124_46, ↓s124_49, ↓s124_50, ↓s124_53, ↓s124_55, ↓s124_56, ↓s124_59, ↓s124_60, ↓s124_63, ↓s124_64, ↓s124_66, ↓s124_69, ↓s124_70, ↓s124_71, ↓s124_74, ↓s124_75, ↓s124_78, ↓s124_81, ↓s124_83, ↓s124_84, ↓s124_87, ↓s124_88, ↓s124_89, ↓s124_90, ↓s124_93, ↓s124_94, kNLn, kNLi, kNLr, va_rf_s, kOl_n, kOl_s, kap_n, kap_c, kb0, kb1, kbif]
    exact R_textL hR fin1 fin2 161 0 tT0 false 0 0 0 mi2 rfl (Nat.le_refl _) (Nat.zero_le _) tT0_ok (fQ_tr f01 (fQ_fK f2 hL6)) hk ⟨b12, b8, b10, b9, b11⟩ (rTold_fK t1 f2 (by decide) (by decide)) rfl
  · have eG : textF S.2.2.1.2 S.2.2.1.1 161 tT0 false 0 0 = .inl (1, tB S.2.2.1.2 S.2.2.1.1 0) := if_pos hk
    have eg : gtx S.2.2.1.2 S.2.2.1.1 = .inl (1, tB S.2.2.1.2 S.2.2.1.1 0) := by
      unfold gtx
      rw [eG]
    have hf : rFlt (1, tB S.2.2.1.2 S.2.2.1.1 0) mi2 := rFlt_12 (by decide) (by decide) b12 b13
    have nz := p_fl hf.2.2
    have rq := fun (y x : Int32) (Q : Option Value → kMem → Prop) => R_reqf (ml := ml) (Q := Q) (x := x) (y := y) nz
    have c15 : (nI 15).toNatClampNeg = 15 := rfl
    have v15 : vp_in (nI 15) 74 := vp_in_nI (by decide) (by decide)
    simp only [↓s124_0, ↓s124_1, ↓s124_2, ↓s124_3, ↓s124_4, ↓s124_7, ↓s124_8, ↓s124_9, ↓s124_12, ↓s124_13, ↓s124_16, ↓s124_17, ↓s124_21, ↓s124_24, ↓s124_27, ↓s124_28, ↓s124_31, ↓s124_34, ↓s124_35, ↓s124_38, ↓s124_41, ↓s124_44, ↓s124_45, ↓s124_46, ↓s124_49, ↓s124_50, ↓s124_53, ↓s124_55, ↓s124_56, ↓s124_59, ↓s124_60, ↓s124_63, ↓s124_64, ↓s124_66, ↓s124_69, ↓s124_70, ↓s124_71, ↓s124_74, ↓s124_75, ↓s124_78, ↓s124_81, ↓s124_83, ↓s124_84, ↓s124_87, ↓s124_88, ↓s124_89, ↓s124_90, ↓s124_93, ↓s124_94, kNLn, kNLi, kNLr, va_rf_s, kOl_n, kOl_s, kap_n, kap_c, kb0, kb1, kbif]
    rw [s124_20]
    by_cases d : mi2 87 15 ≤ mi2 83 5
    · simp only [↓s124_0, ↓s124_1, ↓s124_2, ↓s124_3, ↓s124_4, ↓s124_7, ↓s124_8, ↓s124_9, ↓s124_12, ↓s124_13, ↓s124_16, ↓s124_17, ↓s124_21, ↓s124_24, ↓s124_27, ↓s124_28, ↓s124_31, ↓s124_34, ↓s124_35, ↓s124_38, ↓s124_41, ↓s124_44, ↓s124_45, ↓s124_46, ↓s124_49, ↓s124_50, ↓s124_53, ↓s124_55, ↓s124_56, ↓s124_59, ↓s124_60, ↓s124_63, ↓s124_64, ↓s124_66, ↓s124_70, ↓s124_71, ↓s124_74, ↓s124_75, ↓s124_78, ↓s124_81, ↓s124_83, ↓s124_84, ↓s124_87, ↓s124_88, ↓s124_89, ↓s124_90, ↓s124_93, ↓s124_94, ↓rq, kNLn, kNLi, kNLr, va_rf_s, kOl_n, kOl_s, kap_n, kap_c, kb0, kb1, kbif, zif, z0, z1, Bool.false_eq_true, eq_self, not_true_eq_false, not_false_eq_true, if_true, if_false, and_self, true_and, false_and, and_true, and_false, ki_83, ki_87, kl_87, mr_83_3, c15, v15, nz, d]
      exact fin1 _ eg mi2 _ (fQ_tr f01 (fQ_fK f2 hL6)) hf
    · simp only [↓s124_0, ↓s124_1, ↓s124_2, ↓s124_3, ↓s124_4, ↓s124_7, ↓s124_8, ↓s124_9, ↓s124_12, ↓s124_13, ↓s124_16, ↓s124_17, ↓s124_21, ↓s124_24, ↓s124_27, ↓s124_28, ↓s124_31, ↓s124_34, ↓s124_35, ↓s124_38, ↓s124_41, ↓s124_44, ↓s124_45, ↓s124_46, ↓s124_49, ↓s124_50, ↓s124_53, ↓s124_55, ↓s124_56, ↓s124_59, ↓s124_60, ↓s124_63, ↓s124_64, ↓s124_66, ↓s124_70, ↓s124_71, ↓s124_74, ↓s124_75, ↓s124_78, ↓s124_81, ↓s124_83, ↓s124_84, ↓s124_87, ↓s124_88, ↓s124_89, ↓s124_90, ↓s124_93, ↓s124_94, ↓rq, kNLn, kNLi, kNLr, va_rf_s, kOl_n, kOl_s, kap_n, kap_c, kb0, kb1, kbif, zif, z0, z1, Bool.false_eq_true, eq_self, not_true_eq_false, not_false_eq_true, if_true, if_false, and_self, true_and, false_and, and_true, and_false, ki_83, ki_87, kl_87, mr_83_3, c15, v15, nz, d]
      exact fin1 _ eg mi2 _ (fQ_tr f01 (fQ_fK f2 hL6)) hf
theorem B_text (hg : gOK S) : bB 54 [some (.ref 0), none] 124 [some (.ref 83), none] S := by
  cases eG : gtx S.2.2.1.2 S.2.2.1.1 with
  | inl F =>
    have hF := gtx_f eG
    exact ⟨(S.1, S.2.1, (0, S.2.2.1.2), F.1, S.2.2.2.2), (-10) - nI F.2, ⟨hg.1, hg.2.1, ⟨Nat.zero_le _, fun j hj => absurd hj (Nat.not_lt_zero j)⟩, hF.2, hg.2.2.2.2⟩,
      fun mi ml Q h hQ => C_text h hg (fun F' e mi' a b => by rw [eG] at e; cases e; exact hQ mi' a b) (fun T ln e => by rw [eG] at e; cases e),
      fun mi ml Q h hQ => R_text h hg (fun F' e mi' a b => by rw [eG] at e; cases e; exact hQ mi' ml a b) (fun T ln e => by rw [eG] at e; cases e)⟩
  | inr v =>
    obtain ⟨T, ln⟩ := v
    have hT := gtx_good eG
    exact ⟨gtS S T, nI ln, ⟨hT, (fun k hk U hU => by cases hU), ⟨Nat.zero_le _, fun j hj => absurd hj (Nat.not_lt_zero j)⟩, Nat.zero_le _, hg.2.2.2.2⟩,
      fun mi ml Q h hQ => C_text h hg (fun F' e => by rw [eG] at e; cases e) (fun T' ln' e mi' a b => by rw [eG] at e; cases e; exact hQ mi' a b),
      fun mi ml Q h hQ => R_text h hg (fun F' e => by rw [eG] at e; cases e) (fun T' ln' e mi' a b => by rw [eG] at e; cases e; exact hQ mi' ml a b)⟩
end TEXT
