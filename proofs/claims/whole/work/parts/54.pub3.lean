/-! one, letter, feels, feed, end, alter -/
def ttoF (T : tT) (p : Nat) : Nat → Nat
  | 0 => 0
  | i + 1 => ttoF T p i + (if tway T i = true ∧ twhom T i = p then 2 ^ i else 0)
theorem tto_lt (T : tT) (p : Nat) : ∀ n, ttoF T p n < 2 ^ n := by
  intro n
  induction n with
  | zero => exact Nat.one_pos
  | succ n ih =>
    show ttoF T p n + _ < 2 ^ (n + 1)
    rw [Nat.pow_succ]
    split <;> omega
section PUB3
variable {mi : Nat → Nat → Int32} {ml : Nat → Nat → Int64} {m : kMem} {Q : Option Value → kMem → Prop} {S : gS} {T : tT} {b p : Nat}
theorem J_towards (hp : kPost b) (h : kCR b T mi) (ho : tOK T) (hq : p < T 0 0) : kJ 17 0 [some (.ref b), some (.int (nI p)), none, none] [] (mi, ml, MR, 95) Q = Q (some (.int (nI (ttoF T p (T 0 4))))) (mi, ml, MR, 95) := by
  have hp0 := hp
  have o1 := ho.1
  have o2 := ho.2.1
  obtain ⟨pis, ⟨r1, r2, r3, r4, r5, r6, r7, r8, r9, r10, r11, r12⟩, ⟨a1, a2, a3, a4, a5, a6, a7, a8, a9, a10, a11, a12⟩, e1, e2, e3, e4, e5, e6, e7, e8, e9, e10, e11, e12⟩ := hp
  simp only [↓s17_0, ↓s17_1, ↓s17_2, ↓s17_3, ↓s17_5, ↓s17_6, ↓s17_9, ↓s17_12, ↓s17_13, ↓s17_14, ↓s17_17, ↓s17_20, ↓s17_21, ↓s17_22, ↓s17_25, ↓s17_26, ↓s17_29, ↓s17_30, ↓s17_31, ↓s17_32, ↓s17_33, ↓s17_34, ↓s17_35, ↓s17_38, ↓s17_41, ↓s17_42, kNLn, kNLi, kNLr, va_rf_s, kOl_n, kOl_s, kap_n, kap_c, kb0, kb1, kbif]
  refine nUp (n := T 0 4) (P := fun i => kJ 17 4 [some (.ref b), some (.int (nI p)), some (.int (nI (ttoF T p i))), some (.int (nI i))] [] (mi, ml, MR, 95) Q = Q (some (.int (nI (ttoF T p (T 0 4))))) (mi, ml, MR, 95)) ?_ (fun i hi ih => ?_) 0 (Nat.zero_le _)
  · rw [s17_4]
    simp only [↓s17_0, ↓s17_1, ↓s17_2, ↓s17_3, ↓s17_5, ↓s17_6, ↓s17_9, ↓s17_12, ↓s17_13, ↓s17_14, ↓s17_17, ↓s17_20, ↓s17_21, ↓s17_22, ↓s17_25, ↓s17_26, ↓s17_29, ↓s17_30, ↓s17_31, ↓s17_32, ↓s17_33, ↓s17_34, ↓s17_35, ↓s17_38, ↓s17_41, ↓s17_42, kNLn, kNLi, kNLr, va_rf_s, kOl_n, kOl_s, kap_n, kap_c, kb0, kb1, kbif, pis, r1, r2, r3, r4, r5, r6, r7, r8, r9, r10, r11, r12, a1, a2, a3, a4, a5, a6, a7, a8, a9, a10, a11, a12, e1, e2, e3, e4, e5, e6, e7, e8, e9, e10, e11, e12, h.1.2.1]
    rw [if_pos (Int32.le_refl _)]
  · have hlt : ¬ nI (T 0 4) ≤ nI i := nI_ge (by omega) (by omega)
    have hw := twhom_lt ho hi
    rw [s17_4]
    simp only [↓s17_0, ↓s17_1, ↓s17_2, ↓s17_3, ↓s17_5, ↓s17_6, ↓s17_9, ↓s17_12, ↓s17_13, ↓s17_14, ↓s17_17, ↓s17_20, ↓s17_21, ↓s17_22, ↓s17_25, ↓s17_26, ↓s17_29, ↓s17_30, ↓s17_31, ↓s17_32, ↓s17_33, ↓s17_34, ↓s17_35, ↓s17_38, ↓s17_41, ↓s17_42, ↓J_wayT hp0 h ho hi, ↓J_headsT hp0 h ho hi, kNLn, kNLi, kNLr, va_rf_s, kOl_n, kOl_s, kap_n, kap_c, kb0, kb1, kbif, pis, r1, r2, r3, r4, r5, r6, r7, r8, r9, r10, r11, r12, a1, a2, a3, a4, a5, a6, a7, a8, a9, a10, a11, a12, e1, e2, e3, e4, e5, e6, e7, e8, e9, e10, e11, e12, zif, z0, z1, Bool.false_eq_true, eq_self, not_true_eq_false, not_false_eq_true, if_true, if_false, and_self, true_and, false_and, and_true, and_false, h.1.2.1, hlt, or_bit (tto_lt T p i) (by omega : i < 31), nI_add, nI_lit (by omega : twhom T i < 2 ^ 31) (by omega : p < 2 ^ 31)]
    have eT : ttoF T p (i + 1) = ttoF T p i + (if tway T i = true ∧ twhom T i = p then 2 ^ i else 0) := rfl
    by_cases c : tway T i = true
    · rw [if_neg (not_not_intro c)]
      by_cases c2 : twhom T i = p
      · rw [if_pos c2]
        rw [if_pos ⟨c, c2⟩] at eT
        rw [← eT]
        exact ih
      · rw [if_neg c2]
        rw [if_neg (fun z => c2 z.2)] at eT
        rw [eT] at ih
        exact ih
    · rw [if_pos c]
      rw [if_neg (fun z => c z.1)] at eT
      rw [eT] at ih
      exact ih
theorem B_one {x y : Int32} (hg : gOK S) : bB 57 [some (.ref 0), some (.int x), some (.int y)] 150 [some (.ref 83), some (.int x), some (.int y), none, none] S := by
  have ho := hg.1.1
  have o1 := ho.1
  have o2 := ho.2.1
  by_cases c : gin x (S.1 0 0) = true
  · obtain ⟨p, hp, rfl⟩ := gin_of c (by omega)
    by_cases d : gin y 4 = true
    · obtain ⟨w, hw, rfl⟩ := gin_of d (by decide)
      refine bB_w hg (if w < 3 then nI (S.1 (1 + w) p) else nI (ttoF S.1 p (S.1 0 4))) (fun mi ml Q h hQ => ?_) (fun mi ml Q h hQ => ?_)
      · have hc : (nI p).toNatClampNeg = p := nI_clamp (by omega)
        have hv : vp_in (nI p) 5 := vp_in_nI (by omega) (by decide)
        have r1 := kCR_row h.1 (r := 1) (j := p) (by omega) (by omega) (by rw [tcnt_p (by omega)]; exact hp)
        have r2 := kCR_row h.1 (r := 2) (j := p) (by omega) (by omega) (by rw [tcnt_p (by omega)]; exact hp)
        have r3 := kCR_row h.1 (r := 3) (j := p) (by omega) (by omega) (by rw [tcnt_p (by omega)]; exact hp)
        have h9 := hQ mi wC_rf
        rcases (by omega : w = 0 ∨ w = 1 ∨ w = 2 ∨ w = 3) with rfl | rfl | rfl | rfl
        all_goals simp only [↓s57_0, ↓s57_1, ↓s57_4, ↓s57_5, ↓s57_8, ↓s57_11, ↓s57_12, ↓s57_13, ↓s57_14, ↓s57_44, ↓s57_45, ↓s57_48, ↓s57_51, ↓s57_52, ↓s57_53, ↓s57_54, ↓s57_55, ↓s57_58, ↓s57_61, ↓s57_62, ↓s57_63, ↓s57_64, ↓s57_65, ↓s57_68, ↓s57_71, ↓s57_72, ↓s57_73, ↓s57_74, ↓s57_75, ↓s57_78, ↓s57_79, ↓s57_82, ↓s57_83, ↓s57_84, ↓J_hasOneG kPost_1 h.1 ho, ↓J_towards kPost_1 h.1 ho hp, kNLn, kNLi, kNLr, va_rf_s, kOl_n, kOl_s, kap_n, kap_c, kb0, kb1, kbif, zif, z0, z1, Bool.false_eq_true, eq_self, not_true_eq_false, not_false_eq_true, if_true, if_false, and_self, true_and, false_and, and_true, and_false, c, nI_lit, ki_0, ki_1, ki_2, ki_3, ki_4, kl_2, kl_3, kl_4, mr_0_0, mr_1_1, mr_1_2, mr_1_3, hc, hv, r1, r2, r3]
        all_goals exact h9
      · simp only [↓s150_0, ↓s150_1, ↓s150_2, ↓s150_5, ↓s150_8, ↓s150_9, ↓s150_10, ↓s150_11, ↓s150_14, ↓s150_17, ↓s150_20, ↓s150_21, ↓s150_22, ↓s150_23, ↓s150_26, ↓s150_27, ↓s150_28, ↓s150_29, ↓s150_33, ↓s150_34, ↓s150_37, ↓s150_39, ↓s150_40, ↓s150_43, ↓s150_44, ↓s150_45, ↓s150_47, ↓s150_50, ↓s150_53, ↓s150_54, ↓s150_56, ↓s150_59, ↓s150_60, ↓s150_63, ↓s150_64, ↓s150_67, ↓s150_68, ↓s150_71, ↓s150_73, ↓s150_74, ↓s150_75, ↓s150_76, ↓s150_79, ↓s150_82, ↓s150_83, ↓s150_84, ↓s150_87, ↓s150_88, ↓s150_89, ↓s150_90, ↓s150_93, ↓s150_96, ↓s150_97, ↓R_isOne h.1 ho, ↓R_i3, kNLn, kNLi, kNLr, va_rf_s, kOl_n, kOl_s, kap_n, kap_c, kb0, kb1, kbif, zif, z0, z1, Bool.false_eq_true, eq_self, not_true_eq_false, not_false_eq_true, if_true, if_false, and_self, true_and, false_and, and_true, and_false, c, d, ki_83]
        refine R_startsT h.1 ho (fun mi1 h1 f1 => ?_)
        have h84 : kRR (mi1 84) S.1 := by rw [f1.1 84 (by omega) (by omega)]; exact h.1
        have h9 := hQ mi1 (wR_q f1)
        have c52 : (nI 52).toNatClampNeg = 52 := rfl
        have v52 : vp_in (nI 52) 222 := vp_in_nI (by decide) (by decide)
        have h52 := h84.1.2.1
        simp only [↓s150_0, ↓s150_1, ↓s150_2, ↓s150_5, ↓s150_8, ↓s150_9, ↓s150_10, ↓s150_11, ↓s150_14, ↓s150_17, ↓s150_20, ↓s150_21, ↓s150_22, ↓s150_23, ↓s150_26, ↓s150_27, ↓s150_28, ↓s150_29, ↓s150_33, ↓s150_34, ↓s150_37, ↓s150_39, ↓s150_40, ↓s150_43, ↓s150_44, ↓s150_45, ↓s150_47, ↓s150_50, ↓s150_53, ↓s150_54, ↓s150_56, ↓s150_59, ↓s150_60, ↓s150_63, ↓s150_64, ↓s150_67, ↓s150_68, ↓s150_71, ↓s150_73, ↓s150_74, ↓s150_75, ↓s150_76, ↓s150_79, ↓s150_82, ↓s150_83, ↓s150_84, ↓s150_87, ↓s150_88, ↓s150_89, ↓s150_90, ↓s150_93, ↓s150_96, ↓s150_97, kNLn, kNLi, kNLr, va_rf_s, kOl_n, kOl_s, kap_n, kap_c, kb0, kb1, kbif]
        refine nUp (n := S.1 0 4) (P := fun i => kJ 150 31 [some (.ref 83), some (.int (nI p)), some (.int (nI w)), some (.int (nI (ttoF S.1 p i))), some (.int (nI i))] [] (mi1, ml, MR, 95) Q) ?_ (fun i hi ih => ?_) 0 (Nat.zero_le _)
        · rw [s150_31]
          by_cases w3 : w < 3
          · rw [if_pos w3] at h9
            simp only [↓s150_0, ↓s150_1, ↓s150_2, ↓s150_5, ↓s150_8, ↓s150_9, ↓s150_10, ↓s150_11, ↓s150_14, ↓s150_17, ↓s150_20, ↓s150_21, ↓s150_22, ↓s150_23, ↓s150_26, ↓s150_27, ↓s150_28, ↓s150_29, ↓s150_33, ↓s150_34, ↓s150_37, ↓s150_39, ↓s150_40, ↓s150_43, ↓s150_44, ↓s150_45, ↓s150_47, ↓s150_50, ↓s150_53, ↓s150_54, ↓s150_56, ↓s150_59, ↓s150_60, ↓s150_63, ↓s150_64, ↓s150_67, ↓s150_68, ↓s150_71, ↓s150_73, ↓s150_74, ↓s150_75, ↓s150_76, ↓s150_79, ↓s150_82, ↓s150_83, ↓s150_84, ↓s150_87, ↓s150_88, ↓s150_89, ↓s150_90, ↓s150_93, ↓s150_96, ↓s150_97, ↓R_of h1.1 ho hp w3, kNLn, kNLi, kNLr, va_rf_s, kOl_n, kOl_s, kap_n, kap_c, kb0, kb1, kbif, zif, z0, z1, Bool.false_eq_true, eq_self, not_true_eq_false, not_false_eq_true, if_true, if_false, and_self, true_and, false_and, and_true, and_false, ki_83, ki_84, kl_84, mr_83_0, c52, v52, h52, Int32.le_refl, nI_ge w3 (by decide)]
            exact h9
          · rw [if_neg w3] at h9
            have : nI 3 ≤ nI w := nI_le (by omega) (by omega)
            simp only [↓s150_0, ↓s150_1, ↓s150_2, ↓s150_5, ↓s150_8, ↓s150_9, ↓s150_10, ↓s150_11, ↓s150_14, ↓s150_17, ↓s150_20, ↓s150_21, ↓s150_22, ↓s150_23, ↓s150_26, ↓s150_27, ↓s150_28, ↓s150_29, ↓s150_33, ↓s150_34, ↓s150_37, ↓s150_39, ↓s150_40, ↓s150_43, ↓s150_44, ↓s150_45, ↓s150_47, ↓s150_50, ↓s150_53, ↓s150_54, ↓s150_56, ↓s150_59, ↓s150_60, ↓s150_63, ↓s150_64, ↓s150_67, ↓s150_68, ↓s150_71, ↓s150_73, ↓s150_74, ↓s150_75, ↓s150_76, ↓s150_79, ↓s150_82, ↓s150_83, ↓s150_84, ↓s150_87, ↓s150_88, ↓s150_89, ↓s150_90, ↓s150_93, ↓s150_96, ↓s150_97, kNLn, kNLi, kNLr, va_rf_s, kOl_n, kOl_s, kap_n, kap_c, kb0, kb1, kbif, zif, z0, z1, Bool.false_eq_true, eq_self, not_true_eq_false, not_false_eq_true, if_true, if_false, and_self, true_and, false_and, and_true, and_false, ki_83, ki_84, kl_84, mr_83_0, c52, v52, h52, Int32.le_refl, this]
            exact h9
        · have hlt : ¬ nI (S.1 0 4) ≤ nI i := nI_ge (by omega) (by omega)
          have hwl := twhom_lt ho hi
          rw [s150_31]
          simp only [↓s150_0, ↓s150_1, ↓s150_2, ↓s150_5, ↓s150_8, ↓s150_9, ↓s150_10, ↓s150_11, ↓s150_14, ↓s150_17, ↓s150_20, ↓s150_21, ↓s150_22, ↓s150_23, ↓s150_26, ↓s150_27, ↓s150_28, ↓s150_29, ↓s150_33, ↓s150_34, ↓s150_37, ↓s150_39, ↓s150_40, ↓s150_43, ↓s150_44, ↓s150_45, ↓s150_47, ↓s150_50, ↓s150_53, ↓s150_54, ↓s150_56, ↓s150_59, ↓s150_60, ↓s150_63, ↓s150_64, ↓s150_67, ↓s150_68, ↓s150_71, ↓s150_73, ↓s150_74, ↓s150_75, ↓s150_76, ↓s150_79, ↓s150_82, ↓s150_83, ↓s150_84, ↓s150_87, ↓s150_88, ↓s150_89, ↓s150_90, ↓s150_93, ↓s150_96, ↓s150_97, ↓R_way h1.1 ho hi, ↓R_whom h1.1 ho hi, ↓R_flag, kNLn, kNLi, kNLr, va_rf_s, kOl_n, kOl_s, kap_n, kap_c, kb0, kb1, kbif, zif, z0, z1, Bool.false_eq_true, eq_self, not_true_eq_false, not_false_eq_true, if_true, if_false, and_self, true_and, false_and, and_true, and_false, ki_83, ki_84, kl_84, mr_83_0, c52, v52, h52, hlt, or_bit (tto_lt S.1 p i) (by omega : i < 31), or_0 _ i (by omega), nI_add, nI_lit (by omega : twhom S.1 i < 2 ^ 31) (by omega : p < 2 ^ 31)]
          have eT : ttoF S.1 p (i + 1) = ttoF S.1 p i + (if tway S.1 i = true ∧ twhom S.1 i = p then 2 ^ i else 0) := rfl
          by_cases c : tway S.1 i = true
          · rw [if_neg (not_not_intro c)]
            by_cases c2 : twhom S.1 i = p
            · rw [if_pos c2]
              rw [if_pos ⟨c, c2⟩] at eT
              rw [← eT]
              exact ih
            · rw [if_neg c2]
              rw [if_neg (fun z => c2 z.2)] at eT
              rw [eT] at ih
              exact ih
          · rw [if_pos c]
            rw [if_neg (fun z => c z.1)] at eT
            rw [eT] at ih
            exact ih
    · have n0 := gin_ne d (k := 0) (by decide) (by decide)
      have n1 := gin_ne d (k := 1) (by decide) (by decide)
      have n2 := gin_ne d (k := 2) (by decide) (by decide)
      have n3 := gin_ne d (k := 3) (by decide) (by decide)
      refine bB_e hg (-1) (fun mi ml Q h => ?_) (fun mi ml Q h => ?_)
      · simp only [↓s57_0, ↓s57_1, ↓s57_4, ↓s57_5, ↓s57_8, ↓s57_11, ↓s57_12, ↓s57_13, ↓s57_14, ↓s57_44, ↓s57_45, ↓s57_48, ↓s57_51, ↓s57_52, ↓s57_53, ↓s57_54, ↓s57_55, ↓s57_58, ↓s57_61, ↓s57_62, ↓s57_63, ↓s57_64, ↓s57_65, ↓s57_68, ↓s57_71, ↓s57_72, ↓s57_73, ↓s57_74, ↓s57_75, ↓s57_78, ↓s57_79, ↓s57_82, ↓s57_83, ↓s57_84, ↓J_hasOneG kPost_1 h.1 ho, kNLn, kNLi, kNLr, va_rf_s, kOl_n, kOl_s, kap_n, kap_c, kb0, kb1, kbif, zif, z0, z1, Bool.false_eq_true, eq_self, not_true_eq_false, not_false_eq_true, if_true, if_false, and_self, true_and, false_and, and_true, and_false, c, n0, n1, n2, n3, ki_0, ki_1, mr_0_0]
      · simp only [↓s150_0, ↓s150_1, ↓s150_2, ↓s150_5, ↓s150_8, ↓s150_9, ↓s150_10, ↓s150_11, ↓s150_14, ↓s150_17, ↓s150_20, ↓s150_21, ↓s150_22, ↓s150_23, ↓s150_26, ↓s150_27, ↓s150_28, ↓s150_29, ↓s150_33, ↓s150_34, ↓s150_37, ↓s150_39, ↓s150_40, ↓s150_43, ↓s150_44, ↓s150_45, ↓s150_47, ↓s150_50, ↓s150_53, ↓s150_54, ↓s150_56, ↓s150_59, ↓s150_60, ↓s150_63, ↓s150_64, ↓s150_67, ↓s150_68, ↓s150_71, ↓s150_73, ↓s150_74, ↓s150_75, ↓s150_76, ↓s150_79, ↓s150_82, ↓s150_83, ↓s150_84, ↓s150_87, ↓s150_88, ↓s150_89, ↓s150_90, ↓s150_93, ↓s150_96, ↓s150_97, ↓R_isOne h.1 ho, ↓R_i3, kNLn, kNLi, kNLr, va_rf_s, kOl_n, kOl_s, kap_n, kap_c, kb0, kb1, kbif, zif, z0, z1, Bool.false_eq_true, eq_self, not_true_eq_false, not_false_eq_true, if_true, if_false, and_self, true_and, false_and, and_true, and_false, c, d, ki_83]
  · refine bB_e hg (-1) (fun mi ml Q h => ?_) (fun mi ml Q h => ?_)
    · simp only [↓s57_0, ↓s57_1, ↓s57_4, ↓s57_5, ↓s57_8, ↓s57_11, ↓s57_12, ↓s57_13, ↓s57_14, ↓s57_44, ↓s57_45, ↓s57_48, ↓s57_51, ↓s57_52, ↓s57_53, ↓s57_54, ↓s57_55, ↓s57_58, ↓s57_61, ↓s57_62, ↓s57_63, ↓s57_64, ↓s57_65, ↓s57_68, ↓s57_71, ↓s57_72, ↓s57_73, ↓s57_74, ↓s57_75, ↓s57_78, ↓s57_79, ↓s57_82, ↓s57_83, ↓s57_84, ↓J_hasOneG kPost_1 h.1 ho, kNLn, kNLi, kNLr, va_rf_s, kOl_n, kOl_s, kap_n, kap_c, kb0, kb1, kbif, zif, z0, z1, Bool.false_eq_true, eq_self, not_true_eq_false, not_false_eq_true, if_true, if_false, and_self, true_and, false_and, and_true, and_false, c, ki_0, ki_1, mr_0_0]
    · simp only [↓s150_0, ↓s150_1, ↓s150_2, ↓s150_5, ↓s150_8, ↓s150_9, ↓s150_10, ↓s150_11, ↓s150_14, ↓s150_17, ↓s150_20, ↓s150_21, ↓s150_22, ↓s150_23, ↓s150_26, ↓s150_27, ↓s150_28, ↓s150_29, ↓s150_33, ↓s150_34, ↓s150_37, ↓s150_39, ↓s150_40, ↓s150_43, ↓s150_44, ↓s150_45, ↓s150_47, ↓s150_50, ↓s150_53, ↓s150_54, ↓s150_56, ↓s150_59, ↓s150_60, ↓s150_63, ↓s150_64, ↓s150_67, ↓s150_68, ↓s150_71, ↓s150_73, ↓s150_74, ↓s150_75, ↓s150_76, ↓s150_79, ↓s150_82, ↓s150_83, ↓s150_84, ↓s150_87, ↓s150_88, ↓s150_89, ↓s150_90, ↓s150_93, ↓s150_96, ↓s150_97, ↓R_isOne h.1 ho, kNLn, kNLi, kNLr, va_rf_s, kOl_n, kOl_s, kap_n, kap_c, kb0, kb1, kbif, zif, z0, z1, Bool.false_eq_true, eq_self, not_true_eq_false, not_false_eq_true, if_true, if_false, and_self, true_and, false_and, and_true, and_false, c, ki_83]
theorem B_letter {x y : Int32} (hg : gOK S) : bB 58 [some (.ref 0), some (.int x), some (.int y)] 151 [some (.ref 83), some (.int x), some (.int y)] S := by
  have ho := hg.1.1
  have o2 := ho.2.1
  by_cases c : gin x (S.1 0 4) = true
  · obtain ⟨i, hi, rfl⟩ := gin_of c (by omega)
    by_cases d : gin y 6 = true
    · obtain ⟨w, hw, rfl⟩ := gin_of d (by decide)
      refine bB_w hg (nI (S.1 (4 + w) i)) (fun mi ml Q h hQ => ?_) (fun mi ml Q h hQ => ?_)
      · have hc : (nI i).toNatClampNeg = i := nI_clamp (by omega)
        have hv : vp_in (nI i) 6 := vp_in_nI (by omega) (by decide)
        have r1 := kCR_row h.1 (r := 4 + w) (j := i) (by omega) (by omega) (by rw [tcnt_l (by omega) (by omega)]; exact hi)
        have h9 := hQ mi wC_rf
        rcases (by omega : w = 0 ∨ w = 1 ∨ w = 2 ∨ w = 3 ∨ w = 4 ∨ w = 5) with rfl | rfl | rfl | rfl | rfl | rfl
        all_goals simp only [↓s58_0, ↓s58_1, ↓s58_4, ↓s58_5, ↓s58_8, ↓s58_11, ↓s58_12, ↓s58_13, ↓s58_14, ↓s58_52, ↓s58_53, ↓s58_56, ↓s58_59, ↓s58_60, ↓s58_61, ↓s58_62, ↓s58_63, ↓s58_66, ↓s58_69, ↓s58_70, ↓s58_71, ↓s58_72, ↓s58_73, ↓s58_76, ↓s58_79, ↓s58_80, ↓s58_81, ↓s58_82, ↓s58_83, ↓s58_86, ↓s58_89, ↓s58_90, ↓s58_91, ↓s58_92, ↓s58_93, ↓s58_96, ↓s58_99, ↓s58_100, ↓s58_101, ↓s58_102, ↓s58_103, ↓s58_106, ↓s58_109, ↓s58_110, ↓s58_111, ↓s58_112, ↓s58_113, ↓J_hasLetterG kPost_1 h.1 ho, kNLn, kNLi, kNLr, va_rf_s, kOl_n, kOl_s, kap_n, kap_c, kb0, kb1, kbif, zif, z0, z1, Bool.false_eq_true, eq_self, not_true_eq_false, not_false_eq_true, if_true, if_false, and_self, true_and, false_and, and_true, and_false, c, nI_lit, ki_0, ki_1, ki_5, ki_6, ki_7, ki_8, ki_9, ki_10, kl_5, kl_6, kl_7, kl_8, kl_9, kl_10, mr_0_0, mr_1_5, mr_1_6, mr_1_7, mr_1_8, mr_1_9, mr_1_10, hc, hv]
        all_goals (rw [← r1] at h9; exact h9)
      · simp only [↓s151_0, ↓s151_1, ↓s151_2, ↓s151_5, ↓s151_8, ↓s151_9, ↓s151_10, ↓s151_11, ↓s151_14, ↓s151_17, ↓s151_20, ↓s151_21, ↓s151_22, ↓s151_23, ↓s151_26, ↓s151_27, ↓s151_28, ↓s151_29, ↓s151_32, ↓R_isLetter h.1 ho, ↓R_i5, kNLn, kNLi, kNLr, va_rf_s, kOl_n, kOl_s, kap_n, kap_c, kb0, kb1, kbif, zif, z0, z1, Bool.false_eq_true, eq_self, not_true_eq_false, not_false_eq_true, if_true, if_false, and_self, true_and, false_and, and_true, and_false, c, d, ki_83]
        refine R_startsT h.1 ho (fun mi1 h1 f1 => ?_)
        simp only [↓s151_0, ↓s151_1, ↓s151_2, ↓s151_5, ↓s151_8, ↓s151_9, ↓s151_10, ↓s151_11, ↓s151_14, ↓s151_17, ↓s151_20, ↓s151_21, ↓s151_22, ↓s151_23, ↓s151_26, ↓s151_27, ↓s151_28, ↓s151_29, ↓s151_32, ↓R_ofL h1.1 ho hi hw, kNLn, kNLi, kNLr, va_rf_s, kOl_n, kOl_s, kap_n, kap_c, kb0, kb1, kbif, ki_83]
        exact hQ mi1 (wR_q f1)
    · have n0 := gin_ne d (k := 0) (by decide) (by decide)
      have n1 := gin_ne d (k := 1) (by decide) (by decide)
      have n2 := gin_ne d (k := 2) (by decide) (by decide)
      have n3 := gin_ne d (k := 3) (by decide) (by decide)
      have n4 := gin_ne d (k := 4) (by decide) (by decide)
      have n5 := gin_ne d (k := 5) (by decide) (by decide)
      refine bB_e hg (-1) (fun mi ml Q h => ?_) (fun mi ml Q h => ?_)
      · simp only [↓s58_0, ↓s58_1, ↓s58_4, ↓s58_5, ↓s58_8, ↓s58_11, ↓s58_12, ↓s58_13, ↓s58_14, ↓s58_52, ↓s58_53, ↓s58_56, ↓s58_59, ↓s58_60, ↓s58_61, ↓s58_62, ↓s58_63, ↓s58_66, ↓s58_69, ↓s58_70, ↓s58_71, ↓s58_72, ↓s58_73, ↓s58_76, ↓s58_79, ↓s58_80, ↓s58_81, ↓s58_82, ↓s58_83, ↓s58_86, ↓s58_89, ↓s58_90, ↓s58_91, ↓s58_92, ↓s58_93, ↓s58_96, ↓s58_99, ↓s58_100, ↓s58_101, ↓s58_102, ↓s58_103, ↓s58_106, ↓s58_109, ↓s58_110, ↓s58_111, ↓s58_112, ↓s58_113, ↓J_hasLetterG kPost_1 h.1 ho, kNLn, kNLi, kNLr, va_rf_s, kOl_n, kOl_s, kap_n, kap_c, kb0, kb1, kbif, zif, z0, z1, Bool.false_eq_true, eq_self, not_true_eq_false, not_false_eq_true, if_true, if_false, and_self, true_and, false_and, and_true, and_false, c, n0, n1, n2, n3, n4, n5, ki_0, ki_1, mr_0_0]
      · simp only [↓s151_0, ↓s151_1, ↓s151_2, ↓s151_5, ↓s151_8, ↓s151_9, ↓s151_10, ↓s151_11, ↓s151_14, ↓s151_17, ↓s151_20, ↓s151_21, ↓s151_22, ↓s151_23, ↓s151_26, ↓s151_27, ↓s151_28, ↓s151_29, ↓s151_32, ↓R_isLetter h.1 ho, ↓R_i5, kNLn, kNLi, kNLr, va_rf_s, kOl_n, kOl_s, kap_n, kap_c, kb0, kb1, kbif, zif, z0, z1, Bool.false_eq_true, eq_self, not_true_eq_false, not_false_eq_true, if_true, if_false, and_self, true_and, false_and, and_true, and_false, c, d, ki_83]
  · refine bB_e hg (-1) (fun mi ml Q h => ?_) (fun mi ml Q h => ?_)
    · simp only [↓s58_0, ↓s58_1, ↓s58_4, ↓s58_5, ↓s58_8, ↓s58_11, ↓s58_12, ↓s58_13, ↓s58_14, ↓s58_52, ↓s58_53, ↓s58_56, ↓s58_59, ↓s58_60, ↓s58_61, ↓s58_62, ↓s58_63, ↓s58_66, ↓s58_69, ↓s58_70, ↓s58_71, ↓s58_72, ↓s58_73, ↓s58_76, ↓s58_79, ↓s58_80, ↓s58_81, ↓s58_82, ↓s58_83, ↓s58_86, ↓s58_89, ↓s58_90, ↓s58_91, ↓s58_92, ↓s58_93, ↓s58_96, ↓s58_99, ↓s58_100, ↓s58_101, ↓s58_102, ↓s58_103, ↓s58_106, ↓s58_109, ↓s58_110, ↓s58_111, ↓s58_112, ↓s58_113, ↓J_hasLetterG kPost_1 h.1 ho, kNLn, kNLi, kNLr, va_rf_s, kOl_n, kOl_s, kap_n, kap_c, kb0, kb1, kbif, zif, z0, z1, Bool.false_eq_true, eq_self, not_true_eq_false, not_false_eq_true, if_true, if_false, and_self, true_and, false_and, and_true, and_false, c, ki_0, ki_1, mr_0_0]
    · simp only [↓s151_0, ↓s151_1, ↓s151_2, ↓s151_5, ↓s151_8, ↓s151_9, ↓s151_10, ↓s151_11, ↓s151_14, ↓s151_17, ↓s151_20, ↓s151_21, ↓s151_22, ↓s151_23, ↓s151_26, ↓s151_27, ↓s151_28, ↓s151_29, ↓s151_32, ↓R_isLetter h.1 ho, kNLn, kNLi, kNLr, va_rf_s, kOl_n, kOl_s, kap_n, kap_c, kb0, kb1, kbif, zif, z0, z1, Bool.false_eq_true, eq_self, not_true_eq_false, not_false_eq_true, if_true, if_false, and_self, true_and, false_and, and_true, and_false, c, ki_83]
theorem J_feltR {k t : Int32} : kJ 96 0 [some (.int k), some (.int t), none] [] m Q = Q (some (.int (rfeltI k t))) m := J_felt
theorem B_feels {x y : Int32} (hg : gOK S) : bB 59 [some (.ref 0), some (.int x), some (.int y)] 152 [some (.ref 83), some (.int x), some (.int y)] S := by
  have ho := hg.1.1
  have o1 := ho.1
  by_cases c : gin x (S.1 0 0) = true
  · obtain ⟨p, hp, rfl⟩ := gin_of c (by omega)
    by_cases d : gin y 19 = true
    · refine bB_w hg (nI 40 + rfeltI (nI (S.1 1 p)) y) (fun mi ml Q h hQ => ?_) (fun mi ml Q h hQ => ?_)
      · have hc : (nI p).toNatClampNeg = p := nI_clamp (by omega)
        have hv : vp_in (nI p) 5 := vp_in_nI (by omega) (by decide)
        have r1 := kCR_row h.1 (r := 1) (j := p) (by omega) (by omega) (by rw [tcnt_p (by omega)]; exact hp)
        simp only [↓s59_0, ↓s59_1, ↓s59_4, ↓s59_5, ↓s59_8, ↓s59_11, ↓s59_12, ↓s59_13, ↓s59_15, ↓s59_18, ↓s59_21, ↓s59_22, ↓s59_23, ↓s59_25, ↓s59_26, ↓s59_29, ↓s59_32, ↓s59_33, ↓s59_34, ↓s59_35, ↓s59_38, ↓s59_39, ↓J_hasOneG kPost_1 h.1 ho, ↓J_w18, ↓J_feltR, kNLn, kNLi, kNLr, va_rf_s, kOl_n, kOl_s, kap_n, kap_c, kb0, kb1, kbif, zif, z0, z1, Bool.false_eq_true, eq_self, not_true_eq_false, not_false_eq_true, if_true, if_false, and_self, true_and, false_and, and_true, and_false, c, d, ki_0, ki_1, ki_2, kl_2, mr_0_0, mr_1_1, hc, hv, r1]
        exact hQ mi wC_rf
      · simp only [↓s152_0, ↓s152_1, ↓s152_2, ↓s152_5, ↓s152_8, ↓s152_9, ↓s152_12, ↓s152_15, ↓s152_16, ↓s152_17, ↓s152_18, ↓s152_21, ↓s152_23, ↓s152_24, ↓s152_25, ↓s152_26, ↓s152_29, ↓s152_30, ↓s152_33, ↓s152_34, ↓R_isOne h.1 ho, ↓R_isTone, kNLn, kNLi, kNLr, va_rf_s, kOl_n, kOl_s, kap_n, kap_c, kb0, kb1, kbif, zif, z0, z1, Bool.false_eq_true, eq_self, not_true_eq_false, not_false_eq_true, if_true, if_false, and_self, true_and, false_and, and_true, and_false, c, d, ki_83]
        refine R_startsT h.1 ho (fun mi1 h1 f1 => ?_)
        have e2 : ∀ Q', kJ 132 0 [some (.ref 83), some (.int (nI p)), some (.int (nI 0))] [] (mi1, ml, MR, 95) Q' = Q' (some (.int (nI (S.1 1 p)))) (mi1, ml, MR, 95) := fun Q' => R_of h1.1 ho hp (w := 0) (by decide)
        simp only [↓s152_0, ↓s152_1, ↓s152_2, ↓s152_5, ↓s152_8, ↓s152_9, ↓s152_12, ↓s152_15, ↓s152_16, ↓s152_17, ↓s152_18, ↓s152_21, ↓s152_23, ↓s152_24, ↓s152_25, ↓s152_26, ↓s152_29, ↓s152_30, ↓s152_33, ↓s152_34, ↓e2, ↓R_felt, kNLn, kNLi, kNLr, va_rf_s, kOl_n, kOl_s, kap_n, kap_c, kb0, kb1, kbif, ki_83]
        exact hQ mi1 (wR_q f1)
    · refine bB_e hg (-1) (fun mi ml Q h => ?_) (fun mi ml Q h => ?_)
      · simp only [↓s59_0, ↓s59_1, ↓s59_4, ↓s59_5, ↓s59_8, ↓s59_11, ↓s59_12, ↓s59_13, ↓s59_15, ↓s59_18, ↓s59_21, ↓s59_22, ↓s59_23, ↓s59_25, ↓s59_26, ↓s59_29, ↓s59_32, ↓s59_33, ↓s59_34, ↓s59_35, ↓s59_38, ↓s59_39, ↓J_hasOneG kPost_1 h.1 ho, ↓J_w18, kNLn, kNLi, kNLr, va_rf_s, kOl_n, kOl_s, kap_n, kap_c, kb0, kb1, kbif, zif, z0, z1, Bool.false_eq_true, eq_self, not_true_eq_false, not_false_eq_true, if_true, if_false, and_self, true_and, false_and, and_true, and_false, c, d, ki_0, ki_1, mr_0_0]
      · simp only [↓s152_0, ↓s152_1, ↓s152_2, ↓s152_5, ↓s152_8, ↓s152_9, ↓s152_12, ↓s152_15, ↓s152_16, ↓s152_17, ↓s152_18, ↓s152_21, ↓s152_23, ↓s152_24, ↓s152_25, ↓s152_26, ↓s152_29, ↓s152_30, ↓s152_33, ↓s152_34, ↓R_isOne h.1 ho, ↓R_isTone, kNLn, kNLi, kNLr, va_rf_s, kOl_n, kOl_s, kap_n, kap_c, kb0, kb1, kbif, zif, z0, z1, Bool.false_eq_true, eq_self, not_true_eq_false, not_false_eq_true, if_true, if_false, and_self, true_and, false_and, and_true, and_false, c, d, ki_83]
  · refine bB_e hg (-1) (fun mi ml Q h => ?_) (fun mi ml Q h => ?_)
    · simp only [↓s59_0, ↓s59_1, ↓s59_4, ↓s59_5, ↓s59_8, ↓s59_11, ↓s59_12, ↓s59_13, ↓s59_15, ↓s59_18, ↓s59_21, ↓s59_22, ↓s59_23, ↓s59_25, ↓s59_26, ↓s59_29, ↓s59_32, ↓s59_33, ↓s59_34, ↓s59_35, ↓s59_38, ↓s59_39, ↓J_hasOneG kPost_1 h.1 ho, kNLn, kNLi, kNLr, va_rf_s, kOl_n, kOl_s, kap_n, kap_c, kb0, kb1, kbif, zif, z0, z1, Bool.false_eq_true, eq_self, not_true_eq_false, not_false_eq_true, if_true, if_false, and_self, true_and, false_and, and_true, and_false, c, ki_0, ki_1, mr_0_0]
    · simp only [↓s152_0, ↓s152_1, ↓s152_2, ↓s152_5, ↓s152_8, ↓s152_9, ↓s152_12, ↓s152_15, ↓s152_16, ↓s152_17, ↓s152_18, ↓s152_21, ↓s152_23, ↓s152_24, ↓s152_25, ↓s152_26, ↓s152_29, ↓s152_30, ↓s152_33, ↓s152_34, ↓R_isOne h.1 ho, kNLn, kNLi, kNLr, va_rf_s, kOl_n, kOl_s, kap_n, kap_c, kb0, kb1, kbif, zif, z0, z1, Bool.false_eq_true, eq_self, not_true_eq_false, not_false_eq_true, if_true, if_false, and_self, true_and, false_and, and_true, and_false, c, ki_83]
end PUB3
