/-! days, runs, ahead, comes -/
section DAYS
variable {mi : Nat → Nat → Int32} {ml : Nat → Nat → Int64} {m : kMem} {Q : Option Value → kMem → Prop} {S : gS} {T : tT} {b p n f t a v d i : Nat}
theorem R_settles : kJ 131 0 [some (.ref 83), none] [] (mi, ml, MR, 95) Q = Q none (kRow mi 84 (kcp 74 (mi 85) (mi 84)), ml, MR, 95) := by
  simp only [↓s131_0, ↓s131_1, ↓s131_3, ↓s131_5, ↓s131_8, ↓s131_9, ↓s131_12, ↓s131_13, ↓s131_14, ↓s131_17, ↓s131_18, ↓s131_19, ↓s131_20, ↓s131_23, ↓s131_26, kNLn, kNLi, kNLr, va_rf_s, kOl_n, kOl_s, kap_n, kap_c, kb0, kb1, kbif]
  have h9 := nUp (n := 74) (P := fun i => kJ 131 2 [some (.ref 83), some (.int (nI i))] [] (kRow mi 84 (kcp i (mi 85) (mi 84)), ml, MR, 95) Q = Q none (kRow mi 84 (kcp 74 (mi 85) (mi 84)), ml, MR, 95)) (by
    rw [s131_2]
    simp only [↓s131_0, ↓s131_1, ↓s131_3, ↓s131_5, ↓s131_8, ↓s131_9, ↓s131_12, ↓s131_13, ↓s131_14, ↓s131_17, ↓s131_18, ↓s131_19, ↓s131_20, ↓s131_23, ↓s131_26, kNLn, kNLi, kNLr, va_rf_s, kOl_n, kOl_s, kap_n, kap_c, kb0, kb1, kbif]
    rw [if_pos (Int32.le_refl _)]) (fun i hi ih => by
    have hlt : ¬ nI 74 ≤ nI i := nI_ge (by omega) (by omega)
    have hc : (nI i).toNatClampNeg = i := nI_clamp (by omega)
    have hv : vp_in (nI i) 74 := vp_in_nI (by omega) (by decide)
    have hv2 : vp_in (nI i) 222 := vp_in_nI (by omega) (by decide)
    have e85 : kRow mi 84 (kcp i (mi 85) (mi 84)) 85 = mi 85 := kRow_ne (by decide)
    rw [s131_2]
    simp only [↓s131_0, ↓s131_1, ↓s131_3, ↓s131_5, ↓s131_8, ↓s131_9, ↓s131_12, ↓s131_13, ↓s131_14, ↓s131_17, ↓s131_18, ↓s131_19, ↓s131_20, ↓s131_23, ↓s131_26, kNLn, kNLi, kNLr, va_rf_s, kOl_n, kOl_s, kap_n, kap_c, kb0, kb1, kbif, ki_83, ki_84, ki_85, kl_84, kl_85, mr_83_0, mr_83_1, hlt, if_false, hc, hv, hv2, true_and, e85, kRow_up, kcp_s, nI_add]
    exact ih) 0 (Nat.zero_le _)
  rw [kcp_0] at h9
  have e0 : kRow mi 84 (mi 84) = mi := by
    funext a
    unfold kRow
    split
    · next h => rw [h]
    · rfl
  rw [e0] at h9
  exact h9
theorem nI_sub {a b : Nat} : nI (a + b) - nI a = nI b := by
  rw [Nat.add_comm, ← nI_add b a, Int32.add_sub_cancel]
theorem tGood_pass {T : tT} (h : tGood T) (hd : T 0 12 + n < 1000) : tGood (tpass n T) := ⟨tpass_ok h.1 (by omega), by unfold tpass; rw [tup_s]; exact hd⟩
theorem B_days {x : Int32} (hg : gOK S) : bB 65 [some (.ref 0), some (.int x), none] 160 [some (.ref 83), some (.int x)] S := by
  have ho := hg.1.1
  have hd12 := hg.1.2
  by_cases c : gin x 31 = true
  · obtain ⟨n, hn, rfl⟩ := gin_of c (by decide)
    by_cases e : S.1 0 12 + n < 1000
    · refine ⟨(tpass n S.1, S.2), nI (tarr n S.1), gOK_T hg (tGood_pass hg.1 e), fun mi ml Q h hQ => ?_, fun mi ml Q h hQ => ?_⟩
      · have hlt : nI (S.1 0 12 + n) < nI 1000 := Int32.not_le.mp (nI_ge e (by decide))
        simp only [↓s65_0, ↓s65_1, ↓s65_2, ↓s65_4, ↓s65_7, ↓s65_10, ↓s65_11, ↓s65_12, ↓s65_13, ↓s65_16, ↓s65_19, ↓s65_20, ↓s65_21, ↓s65_24, ↓s65_27, ↓s65_29, ↓s65_30, ↓s65_31, ↓s65_34, ↓s65_37, ↓s65_38, ↓s65_39, ↓s65_42, ↓s65_43, ↓s65_46, ↓s65_47, ↓s65_50, ↓s65_53, ↓s65_54, ↓s65_55, ↓J_w30, ↓J_came kPost_1 h.1 ho, kNLn, kNLi, kNLr, va_rf_s, kOl_n, kOl_s, kap_n, kap_c, kb0, kb1, kbif, zif, z0, z1, Bool.false_eq_true, eq_self, not_true_eq_false, not_false_eq_true, if_true, if_false, and_self, true_and, false_and, and_true, and_false, c, ki_0, ki_1, mr_0_0, h.1.1.2.2.2.1, nI_add, hlt]
        refine J_pass kPost_1 h.1 ho (by omega) (fun mi1 h1 f1 => ?_)
        have o1 := tpass_ok ho (n := n) (by omega)
        simp only [↓s65_0, ↓s65_1, ↓s65_2, ↓s65_4, ↓s65_7, ↓s65_10, ↓s65_11, ↓s65_12, ↓s65_13, ↓s65_16, ↓s65_19, ↓s65_20, ↓s65_21, ↓s65_24, ↓s65_27, ↓s65_29, ↓s65_30, ↓s65_31, ↓s65_34, ↓s65_37, ↓s65_38, ↓s65_39, ↓s65_42, ↓s65_43, ↓s65_46, ↓s65_47, ↓s65_50, ↓s65_53, ↓s65_54, ↓s65_55, ↓J_came kPost_1 h1 o1, kNLn, kNLi, kNLr, va_rf_s, kOl_n, kOl_s, kap_n, kap_c, kb0, kb1, kbif, ki_0, ki_1, mr_0_0, tcam_pass ho, nI_sub]
        exact hQ mi1 (CI_T h h1 (sC_now f1)) (fC_now f1)
      · have hle : nI (S.1 0 12 + n) ≤ nI 999 := nI_le (by omega) (by decide)
        have c54 : (nI 54).toNatClampNeg = 54 := rfl
        have v54 : vp_in (nI 54) 222 := vp_in_nI (by decide) (by decide)
        simp only [↓s160_0, ↓s160_1, ↓s160_2, ↓s160_3, ↓s160_6, ↓s160_9, ↓s160_12, ↓s160_13, ↓s160_14, ↓s160_15, ↓s160_18, ↓s160_20, ↓s160_21, ↓s160_22, ↓s160_23, ↓s160_26, ↓s160_29, ↓s160_31, ↓s160_32, ↓s160_33, ↓s160_36, ↓s160_37, ↓s160_38, ↓s160_41, ↓s160_42, ↓s160_45, ↓s160_46, ↓s160_49, ↓R_i30, kNLn, kNLi, kNLr, va_rf_s, kOl_n, kOl_s, kap_n, kap_c, kb0, kb1, kbif, zif, z0, z1, Bool.false_eq_true, eq_self, not_true_eq_false, not_false_eq_true, if_true, if_false, and_self, true_and, false_and, and_true, and_false, c, ki_83, ki_84, kl_84, mr_83_0, c54, v54, h.1.1.2.2.2.1, nI_add, hle]
        refine R_startsT h.1 ho (fun mi1 h1 f1 => ?_)
        simp only [↓s160_0, ↓s160_1, ↓s160_2, ↓s160_3, ↓s160_6, ↓s160_9, ↓s160_12, ↓s160_13, ↓s160_14, ↓s160_15, ↓s160_18, ↓s160_20, ↓s160_21, ↓s160_22, ↓s160_23, ↓s160_26, ↓s160_29, ↓s160_31, ↓s160_32, ↓s160_33, ↓s160_36, ↓s160_37, ↓s160_38, ↓s160_41, ↓s160_42, ↓s160_45, ↓s160_46, ↓s160_49, kNLn, kNLi, kNLr, va_rf_s, kOl_n, kOl_s, kap_n, kap_c, kb0, kb1, kbif, ki_83]
        refine R_days h1 ho (by omega) (by omega) (fun mi2 h2 f2 => ?_)
        have e14 : kRow mi2 84 (kcp 74 (mi2 85) (mi2 84)) 83 14 = nI (tarr n S.1) := by
          rw [kRow_ne (by decide), h2.2.1, Nat.zero_add]
        simp only [↓s160_0, ↓s160_1, ↓s160_2, ↓s160_3, ↓s160_6, ↓s160_9, ↓s160_12, ↓s160_13, ↓s160_14, ↓s160_15, ↓s160_18, ↓s160_20, ↓s160_21, ↓s160_22, ↓s160_23, ↓s160_26, ↓s160_29, ↓s160_31, ↓s160_32, ↓s160_33, ↓s160_36, ↓s160_37, ↓s160_38, ↓s160_41, ↓s160_42, ↓s160_45, ↓s160_46, ↓s160_49, ↓R_settles, kNLn, kNLi, kNLr, va_rf_s, kOl_n, kOl_s, kap_n, kap_c, kb0, kb1, kbif, ki_83, e14]
        have f12 := kFq_tr f1 f2
        refine hQ _ ml (RI_T h ?_ ⟨fun q hq => ?_, fun k hk => ?_, fun j hj => ?_⟩) (fun q hq => ?_)
        · rw [kRow_eq]
          exact kRR_cong (tpass_ok ho (by omega)) (fun k hk => if_pos hk) h2.1
        · rw [kRow_ne (by omega)]; exact f12.1 q (by omega) (by omega)
        · rw [kRow_ne (by omega)]; exact f12.2 k (by omega) (by omega)
        · rw [kRow_eq]
          unfold kcp
          rw [if_neg (by omega), f12.1 84 (by omega) (by omega)]
        · rw [kRow_ne (by omega)]; exact f12.1 q (by omega) (by omega)
    · refine bB_e hg (-3) (fun mi ml Q h => ?_) (fun mi ml Q h => ?_)
      · have hlt : ¬ nI (S.1 0 12 + n) < nI 1000 := Int32.not_lt.mpr (nI_le (by omega) (by omega))
        simp only [↓s65_0, ↓s65_1, ↓s65_2, ↓s65_4, ↓s65_7, ↓s65_10, ↓s65_11, ↓s65_12, ↓s65_13, ↓s65_16, ↓s65_19, ↓s65_20, ↓s65_21, ↓s65_24, ↓s65_27, ↓s65_29, ↓s65_30, ↓s65_31, ↓s65_34, ↓s65_37, ↓s65_38, ↓s65_39, ↓s65_42, ↓s65_43, ↓s65_46, ↓s65_47, ↓s65_50, ↓s65_53, ↓s65_54, ↓s65_55, ↓J_w30, kNLn, kNLi, kNLr, va_rf_s, kOl_n, kOl_s, kap_n, kap_c, kb0, kb1, kbif, zif, z0, z1, Bool.false_eq_true, eq_self, not_true_eq_false, not_false_eq_true, if_true, if_false, and_self, true_and, false_and, and_true, and_false, c, ki_0, ki_1, mr_0_0, h.1.1.2.2.2.1, nI_add, hlt]
      · have hle : ¬ nI (S.1 0 12 + n) ≤ nI 999 := nI_ge (by omega) (by omega)
        have c54 : (nI 54).toNatClampNeg = 54 := rfl
        have v54 : vp_in (nI 54) 222 := vp_in_nI (by decide) (by decide)
        simp only [↓s160_0, ↓s160_1, ↓s160_2, ↓s160_3, ↓s160_6, ↓s160_9, ↓s160_12, ↓s160_13, ↓s160_14, ↓s160_15, ↓s160_18, ↓s160_20, ↓s160_21, ↓s160_22, ↓s160_23, ↓s160_26, ↓s160_29, ↓s160_31, ↓s160_32, ↓s160_33, ↓s160_36, ↓s160_37, ↓s160_38, ↓s160_41, ↓s160_42, ↓s160_45, ↓s160_46, ↓s160_49, ↓R_i30, kNLn, kNLi, kNLr, va_rf_s, kOl_n, kOl_s, kap_n, kap_c, kb0, kb1, kbif, zif, z0, z1, Bool.false_eq_true, eq_self, not_true_eq_false, not_false_eq_true, if_true, if_false, and_self, true_and, false_and, and_true, and_false, c, ki_83, ki_84, kl_84, mr_83_0, c54, v54, h.1.1.2.2.2.1, nI_add, hle]
  · refine bB_e hg (-1) (fun mi ml Q h => ?_) (fun mi ml Q h => ?_)
    · simp only [↓s65_0, ↓s65_1, ↓s65_2, ↓s65_4, ↓s65_7, ↓s65_10, ↓s65_11, ↓s65_12, ↓s65_13, ↓s65_16, ↓s65_19, ↓s65_20, ↓s65_21, ↓s65_24, ↓s65_27, ↓s65_29, ↓s65_30, ↓s65_31, ↓s65_34, ↓s65_37, ↓s65_38, ↓s65_39, ↓s65_42, ↓s65_43, ↓s65_46, ↓s65_47, ↓s65_50, ↓s65_53, ↓s65_54, ↓s65_55, ↓J_w30, kNLn, kNLi, kNLr, va_rf_s, kOl_n, kOl_s, kap_n, kap_c, kb0, kb1, kbif, zif, z0, z1, Bool.false_eq_true, eq_self, not_true_eq_false, not_false_eq_true, if_true, if_false, and_self, true_and, false_and, and_true, and_false, c]
    · simp only [↓s160_0, ↓s160_1, ↓s160_2, ↓s160_3, ↓s160_6, ↓s160_9, ↓s160_12, ↓s160_13, ↓s160_14, ↓s160_15, ↓s160_18, ↓s160_20, ↓s160_21, ↓s160_22, ↓s160_23, ↓s160_26, ↓s160_29, ↓s160_31, ↓s160_32, ↓s160_33, ↓s160_36, ↓s160_37, ↓s160_38, ↓s160_41, ↓s160_42, ↓s160_45, ↓s160_46, ↓s160_49, ↓R_i30, kNLn, kNLi, kNLr, va_rf_s, kOl_n, kOl_s, kap_n, kap_c, kb0, kb1, kbif, zif, z0, z1, Bool.false_eq_true, eq_self, not_true_eq_false, not_false_eq_true, if_true, if_false, and_self, true_and, false_and, and_true, and_false, c]
theorem B_ahead {x y : Int32} (hg : gOK S) : bB 67 [some (.ref 0), some (.int x), some (.int y)] 163 [some (.ref 83), some (.int x), some (.int y)] S := by
  have ho := hg.1.1
  have o1 := ho.1
  have hd12 := hg.1.2
  by_cases c : gin x (S.1 0 0) = true
  · obtain ⟨p, hp, rfl⟩ := gin_of c (by omega)
    by_cases d : gin y 61 = true
    · obtain ⟨n, hn, rfl⟩ := gin_of d (by decide)
      have okp := tpass_ok ho (n := n) (by omega)
      have e00 : tpass n S.1 0 0 = S.1 0 0 := by
        unfold tpass
        rw [tup_n (by omega)]
        exact (tdays_ok ho n).2 0 0 (by omega) (by omega) (by omega) (by omega)
      refine bB_w hg (nI (tpass n S.1 3 p)) (fun mi ml Q h hQ => ?_) (fun mi ml Q h hQ => ?_)
      · simp only [↓s67_0, ↓s67_1, ↓s67_4, ↓s67_5, ↓s67_8, ↓s67_11, ↓s67_12, ↓s67_13, ↓s67_15, ↓s67_18, ↓s67_21, ↓s67_22, ↓s67_23, ↓s67_24, ↓s67_27, ↓s67_28, ↓s67_31, ↓s67_34, ↓s67_35, ↓s67_38, ↓s67_39, ↓s67_42, ↓s67_43, ↓s67_46, ↓s67_49, ↓s67_50, ↓s67_51, ↓J_hasOneG kPost_1 h.1 ho, ↓J_w60, kNLn, kNLi, kNLr, va_rf_s, kOl_n, kOl_s, kap_n, kap_c, kb0, kb1, kbif, zif, z0, z1, Bool.false_eq_true, eq_self, not_true_eq_false, not_false_eq_true, if_true, if_false, and_self, true_and, false_and, and_true, and_false, c, d, ki_0, ki_1, ki_14, mr_0_0, mr_0_1]
        refine C_copy_14_1 h.1 ho (fun mi1 h1 f1 => ?_)
        simp only [↓s67_0, ↓s67_1, ↓s67_4, ↓s67_5, ↓s67_8, ↓s67_11, ↓s67_12, ↓s67_13, ↓s67_15, ↓s67_18, ↓s67_21, ↓s67_22, ↓s67_23, ↓s67_24, ↓s67_27, ↓s67_28, ↓s67_31, ↓s67_34, ↓s67_35, ↓s67_38, ↓s67_39, ↓s67_42, ↓s67_43, ↓s67_46, ↓s67_49, ↓s67_50, ↓s67_51, kNLn, kNLi, kNLr, va_rf_s, kOl_n, kOl_s, kap_n, kap_c, kb0, kb1, kbif, ki_0, ki_14, mr_0_1]
        refine J_pass kPost_14 h1 ho (by omega) (fun mi2 h2 f2 => ?_)
        have hc : (nI p).toNatClampNeg = p := nI_clamp (by omega)
        have hv : vp_in (nI p) 5 := vp_in_nI (by omega) (by decide)
        have r1 : mi2 17 p = _ := kCR_row h2 (r := 3) (j := p) (by omega) (by omega) (by rw [tcnt_p (by omega), e00]; exact hp)
        simp only [↓s67_0, ↓s67_1, ↓s67_4, ↓s67_5, ↓s67_8, ↓s67_11, ↓s67_12, ↓s67_13, ↓s67_15, ↓s67_18, ↓s67_21, ↓s67_22, ↓s67_23, ↓s67_24, ↓s67_27, ↓s67_28, ↓s67_31, ↓s67_34, ↓s67_35, ↓s67_38, ↓s67_39, ↓s67_42, ↓s67_43, ↓s67_46, ↓s67_49, ↓s67_50, ↓s67_51, kNLn, kNLi, kNLr, va_rf_s, kOl_n, kOl_s, kap_n, kap_c, kb0, kb1, kbif, ki_0, ki_14, ki_17, kl_17, mr_0_1, mr_14_3, hc, hv, true_and, r1]
        exact hQ mi2 (wC_tr (wC_14 f1) (wC_14 f2))
      · simp only [↓s163_0, ↓s163_1, ↓s163_2, ↓s163_5, ↓s163_8, ↓s163_9, ↓s163_12, ↓s163_15, ↓s163_16, ↓s163_17, ↓s163_18, ↓s163_21, ↓s163_22, ↓s163_23, ↓s163_26, ↓s163_27, ↓s163_28, ↓s163_29, ↓s163_32, ↓R_isOne h.1 ho, ↓R_isFar, kNLn, kNLi, kNLr, va_rf_s, kOl_n, kOl_s, kap_n, kap_c, kb0, kb1, kbif, zif, z0, z1, Bool.false_eq_true, eq_self, not_true_eq_false, not_false_eq_true, if_true, if_false, and_self, true_and, false_and, and_true, and_false, c, d, ki_83]
        refine R_startsT h.1 ho (fun mi1 h1 f1 => ?_)
        simp only [↓s163_0, ↓s163_1, ↓s163_2, ↓s163_5, ↓s163_8, ↓s163_9, ↓s163_12, ↓s163_15, ↓s163_16, ↓s163_17, ↓s163_18, ↓s163_21, ↓s163_22, ↓s163_23, ↓s163_26, ↓s163_27, ↓s163_28, ↓s163_29, ↓s163_32, kNLn, kNLi, kNLr, va_rf_s, kOl_n, kOl_s, kap_n, kap_c, kb0, kb1, kbif, ki_83]
        refine R_days h1 ho (by omega) (by omega) (fun mi2 h2 f2 => ?_)
        have e2 : ∀ Q', kJ 132 0 [some (.ref 83), some (.int (nI p)), some (.int (nI 2))] [] (mi2, ml, MR, 95) Q' = Q' (some (.int (nI (tpass n S.1 3 p)))) (mi2, ml, MR, 95) := fun Q' => R_of h2.1 okp (by rw [e00]; exact hp) (w := 2) (by decide)
        simp only [↓s163_0, ↓s163_1, ↓s163_2, ↓s163_5, ↓s163_8, ↓s163_9, ↓s163_12, ↓s163_15, ↓s163_16, ↓s163_17, ↓s163_18, ↓s163_21, ↓s163_22, ↓s163_23, ↓s163_26, ↓s163_27, ↓s163_28, ↓s163_29, ↓s163_32, ↓e2, kNLn, kNLi, kNLr, va_rf_s, kOl_n, kOl_s, kap_n, kap_c, kb0, kb1, kbif, ki_83]
        exact hQ mi2 (wR_q (kFq_tr f1 f2))
    · refine bB_e hg (-1) (fun mi ml Q h => ?_) (fun mi ml Q h => ?_)
      · simp only [↓s67_0, ↓s67_1, ↓s67_4, ↓s67_5, ↓s67_8, ↓s67_11, ↓s67_12, ↓s67_13, ↓s67_15, ↓s67_18, ↓s67_21, ↓s67_22, ↓s67_23, ↓s67_24, ↓s67_27, ↓s67_28, ↓s67_31, ↓s67_34, ↓s67_35, ↓s67_38, ↓s67_39, ↓s67_42, ↓s67_43, ↓s67_46, ↓s67_49, ↓s67_50, ↓s67_51, ↓J_hasOneG kPost_1 h.1 ho, ↓J_w60, kNLn, kNLi, kNLr, va_rf_s, kOl_n, kOl_s, kap_n, kap_c, kb0, kb1, kbif, zif, z0, z1, Bool.false_eq_true, eq_self, not_true_eq_false, not_false_eq_true, if_true, if_false, and_self, true_and, false_and, and_true, and_false, c, d, ki_0, ki_1, mr_0_0]
      · simp only [↓s163_0, ↓s163_1, ↓s163_2, ↓s163_5, ↓s163_8, ↓s163_9, ↓s163_12, ↓s163_15, ↓s163_16, ↓s163_17, ↓s163_18, ↓s163_21, ↓s163_22, ↓s163_23, ↓s163_26, ↓s163_27, ↓s163_28, ↓s163_29, ↓s163_32, ↓R_isOne h.1 ho, ↓R_isFar, kNLn, kNLi, kNLr, va_rf_s, kOl_n, kOl_s, kap_n, kap_c, kb0, kb1, kbif, zif, z0, z1, Bool.false_eq_true, eq_self, not_true_eq_false, not_false_eq_true, if_true, if_false, and_self, true_and, false_and, and_true, and_false, c, d, ki_83]
  · refine bB_e hg (-1) (fun mi ml Q h => ?_) (fun mi ml Q h => ?_)
    · simp only [↓s67_0, ↓s67_1, ↓s67_4, ↓s67_5, ↓s67_8, ↓s67_11, ↓s67_12, ↓s67_13, ↓s67_15, ↓s67_18, ↓s67_21, ↓s67_22, ↓s67_23, ↓s67_24, ↓s67_27, ↓s67_28, ↓s67_31, ↓s67_34, ↓s67_35, ↓s67_38, ↓s67_39, ↓s67_42, ↓s67_43, ↓s67_46, ↓s67_49, ↓s67_50, ↓s67_51, ↓J_hasOneG kPost_1 h.1 ho, kNLn, kNLi, kNLr, va_rf_s, kOl_n, kOl_s, kap_n, kap_c, kb0, kb1, kbif, zif, z0, z1, Bool.false_eq_true, eq_self, not_true_eq_false, not_false_eq_true, if_true, if_false, and_self, true_and, false_and, and_true, and_false, c, ki_0, ki_1, mr_0_0]
    · simp only [↓s163_0, ↓s163_1, ↓s163_2, ↓s163_5, ↓s163_8, ↓s163_9, ↓s163_12, ↓s163_15, ↓s163_16, ↓s163_17, ↓s163_18, ↓s163_21, ↓s163_22, ↓s163_23, ↓s163_26, ↓s163_27, ↓s163_28, ↓s163_29, ↓s163_32, ↓R_isOne h.1 ho, kNLn, kNLi, kNLr, va_rf_s, kOl_n, kOl_s, kap_n, kap_c, kb0, kb1, kbif, zif, z0, z1, Bool.false_eq_true, eq_self, not_true_eq_false, not_false_eq_true, if_true, if_false, and_self, true_and, false_and, and_true, and_false, c, ki_83]
theorem B_comes {x : Int32} (hg : gOK S) : bB 68 [some (.ref 0), some (.int x), none] 164 [some (.ref 83), some (.int x), none] S := by
  have ho := hg.1.1
  have o2 := ho.2.1
  have hd12 := hg.1.2
  by_cases c : gin x (S.1 0 4) = true
  · obtain ⟨i, hi, rfl⟩ := gin_of c (by omega)
    have hc : (nI i).toNatClampNeg = i := nI_clamp (by omega)
    have hv : vp_in (nI i) 6 := vp_in_nI (by omega) (by decide)
    refine bB_w hg (tcomeF i 61 0 S.1) (fun mi ml Q h hQ => ?_) (fun mi ml Q h hQ => ?_)
    · simp only [↓s68_0, ↓s68_1, ↓s68_4, ↓s68_5, ↓s68_8, ↓s68_11, ↓s68_12, ↓s68_13, ↓s68_14, ↓s68_17, ↓s68_18, ↓s68_21, ↓s68_24, ↓s68_25, ↓s68_27, ↓s68_29, ↓s68_32, ↓s68_33, ↓s68_36, ↓s68_39, ↓s68_40, ↓s68_41, ↓s68_42, ↓s68_45, ↓s68_46, ↓s68_47, ↓s68_48, ↓s68_51, ↓s68_52, ↓s68_55, ↓s68_58, ↓s68_61, ↓s68_63, ↓J_hasLetterG kPost_1 h.1 ho, kNLn, kNLi, kNLr, va_rf_s, kOl_n, kOl_s, kap_n, kap_c, kb0, kb1, kbif, zif, z0, z1, Bool.false_eq_true, eq_self, not_true_eq_false, not_false_eq_true, if_true, if_false, and_self, true_and, false_and, and_true, and_false, c, ki_0, ki_1, ki_14, mr_0_0, mr_0_1]
      refine C_copy_14_1 h.1 ho (fun mi1 h1 f1 => ?_)
      simp only [↓s68_0, ↓s68_1, ↓s68_4, ↓s68_5, ↓s68_8, ↓s68_11, ↓s68_12, ↓s68_13, ↓s68_14, ↓s68_17, ↓s68_18, ↓s68_21, ↓s68_24, ↓s68_25, ↓s68_27, ↓s68_29, ↓s68_32, ↓s68_33, ↓s68_36, ↓s68_39, ↓s68_40, ↓s68_41, ↓s68_42, ↓s68_45, ↓s68_46, ↓s68_47, ↓s68_48, ↓s68_51, ↓s68_52, ↓s68_55, ↓s68_58, ↓s68_61, ↓s68_63, kNLn, kNLi, kNLr, va_rf_s, kOl_n, kOl_s, kap_n, kap_c, kb0, kb1, kbif]
      have loop : ∀ (k d : Nat) (U : tT) (mi1 : Nat → Nat → Int32), d + k = 61 → tOK U → U 0 12 + k < 1999 → U 0 4 = S.1 0 4 → tcomeF i k d U = tcomeF i 61 0 S.1 → kCR 14 U mi1 → wC mi mi1 → kJ 68 26 [some (.ref 0), some (.int (nI i)), some (.int (nI d))] [] (mi1, ml, MR, 95) Q := by
        intro k
        induction k with
        | zero =>
          intro d U mi1 hk oU dU eU eF hU fU
          have hgt : nI 60 < nI d := Int32.not_le.mp (nI_ge (by omega) (by omega))
          have h9 := hQ mi1 fU
          rw [← eF] at h9
          rw [s68_26]
          simp only [↓s68_0, ↓s68_1, ↓s68_4, ↓s68_5, ↓s68_8, ↓s68_11, ↓s68_12, ↓s68_13, ↓s68_14, ↓s68_17, ↓s68_18, ↓s68_21, ↓s68_24, ↓s68_25, ↓s68_27, ↓s68_29, ↓s68_32, ↓s68_33, ↓s68_36, ↓s68_39, ↓s68_40, ↓s68_41, ↓s68_42, ↓s68_45, ↓s68_46, ↓s68_47, ↓s68_48, ↓s68_51, ↓s68_52, ↓s68_55, ↓s68_58, ↓s68_61, ↓s68_63, kNLn, kNLi, kNLr, va_rf_s, kOl_n, kOl_s, kap_n, kap_c, kb0, kb1, kbif, zif, z0, z1, Bool.false_eq_true, eq_self, not_true_eq_false, not_false_eq_true, if_true, if_false, and_self, true_and, false_and, and_true, and_false, hgt]
          exact h9
        | succ k ih =>
          intro d U mi1 hk oU dU eU eF hU fU
          have hgt : ¬ nI 60 < nI d := Int32.not_lt.mpr (nI_le (by omega) (by omega))
          have hl3 := (oU.2.2.2.2.2.2.1 i (by omega)).2.2.2.2.2
          have r9 : mi1 23 i = _ := kCR_row hU (r := 9) (j := i) (by omega) (by omega) (by rw [tcnt_l (by omega) (by omega), eU]; exact hi)
          have eF2 : tcomeF i (k + 1) d U = if U 9 i = 2 then nI d else tcomeF i k (d + 1) (tD U) := rfl
          rw [s68_26]
          simp only [↓s68_0, ↓s68_1, ↓s68_4, ↓s68_5, ↓s68_8, ↓s68_11, ↓s68_12, ↓s68_13, ↓s68_14, ↓s68_17, ↓s68_18, ↓s68_21, ↓s68_24, ↓s68_25, ↓s68_27, ↓s68_29, ↓s68_32, ↓s68_33, ↓s68_36, ↓s68_39, ↓s68_40, ↓s68_41, ↓s68_42, ↓s68_45, ↓s68_46, ↓s68_47, ↓s68_48, ↓s68_51, ↓s68_52, ↓s68_55, ↓s68_58, ↓s68_61, ↓s68_63, kNLn, kNLi, kNLr, va_rf_s, kOl_n, kOl_s, kap_n, kap_c, kb0, kb1, kbif, zif, z0, z1, Bool.false_eq_true, eq_self, not_true_eq_false, not_false_eq_true, if_true, if_false, and_self, true_and, false_and, and_true, and_false, hgt, ki_0, ki_14, ki_23, kl_23, mr_0_1, mr_14_10, hc, hv, r9, nI_lit (by omega : U 9 i < 2 ^ 31) (by decide : 2 < 2 ^ 31)]
          by_cases e : U 9 i = 2
          · rw [if_pos e]
            rw [if_pos e] at eF2
            have h9 := hQ mi1 fU
            rw [← eF, eF2] at h9
            exact h9
          · rw [if_neg e]
            rw [if_neg e] at eF2
            refine J_pass kPost_14 hU oU (by omega) (fun mi2 h2 f2 => ?_)
            simp only [↓s68_0, ↓s68_1, ↓s68_4, ↓s68_5, ↓s68_8, ↓s68_11, ↓s68_12, ↓s68_13, ↓s68_14, ↓s68_17, ↓s68_18, ↓s68_21, ↓s68_24, ↓s68_25, ↓s68_27, ↓s68_29, ↓s68_32, ↓s68_33, ↓s68_36, ↓s68_39, ↓s68_40, ↓s68_41, ↓s68_42, ↓s68_45, ↓s68_46, ↓s68_47, ↓s68_48, ↓s68_51, ↓s68_52, ↓s68_55, ↓s68_58, ↓s68_61, ↓s68_63, kNLn, kNLi, kNLr, va_rf_s, kOl_n, kOl_s, kap_n, kap_c, kb0, kb1, kbif, nI_add]
            exact ih (d + 1) (tD U) mi2 (by omega) (tD_ok oU (by omega)) (by rw [tD_12]; omega) ((tD_n oU (by omega) (by omega)).trans eU) (eF2.symm.trans eF) h2 (wC_tr fU (wC_14 f2))
      exact loop 61 0 S.1 mi1 rfl ho (by omega) rfl rfl h1 (wC_14 f1)
    · simp only [↓s164_0, ↓s164_1, ↓s164_2, ↓s164_5, ↓s164_8, ↓s164_9, ↓s164_10, ↓s164_11, ↓s164_14, ↓s164_15, ↓s164_17, ↓s164_19, ↓s164_22, ↓s164_23, ↓s164_24, ↓s164_25, ↓s164_28, ↓s164_29, ↓s164_32, ↓s164_33, ↓s164_34, ↓s164_35, ↓s164_36, ↓s164_39, ↓s164_42, ↓s164_45, ↓s164_47, ↓R_isLetter h.1 ho, kNLn, kNLi, kNLr, va_rf_s, kOl_n, kOl_s, kap_n, kap_c, kb0, kb1, kbif, zif, z0, z1, Bool.false_eq_true, eq_self, not_true_eq_false, not_false_eq_true, if_true, if_false, and_self, true_and, false_and, and_true, and_false, c, ki_83]
      refine R_startsT h.1 ho (fun mi1 h1 f1 => ?_)
      simp only [↓s164_0, ↓s164_1, ↓s164_2, ↓s164_5, ↓s164_8, ↓s164_9, ↓s164_10, ↓s164_11, ↓s164_14, ↓s164_15, ↓s164_17, ↓s164_19, ↓s164_22, ↓s164_23, ↓s164_24, ↓s164_25, ↓s164_28, ↓s164_29, ↓s164_32, ↓s164_33, ↓s164_34, ↓s164_35, ↓s164_36, ↓s164_39, ↓s164_42, ↓s164_45, ↓s164_47, kNLn, kNLi, kNLr, va_rf_s, kOl_n, kOl_s, kap_n, kap_c, kb0, kb1, kbif]
      have loop : ∀ (k d A B : Nat) (U : tT) (mi1 : Nat → Nat → Int32), d + k = 61 → tOK U → U 0 12 + k < 1999 → U 0 4 = S.1 0 4 → tcomeF i k d U = tcomeF i 61 0 S.1 → kRM mi1 U A B → kFq mi mi1 → kJ 164 16 [some (.ref 83), some (.int (nI i)), some (.int (nI d))] [] (mi1, ml, MR, 95) Q := by
        intro k
        induction k with
        | zero =>
          intro d A B U mi1 hk oU dU eU eF hU fU
          have hgt : nI 60 < nI d := Int32.not_le.mp (nI_ge (by omega) (by omega))
          have h9 := hQ mi1 (wR_q fU)
          rw [← eF] at h9
          rw [s164_16]
          simp only [↓s164_0, ↓s164_1, ↓s164_2, ↓s164_5, ↓s164_8, ↓s164_9, ↓s164_10, ↓s164_11, ↓s164_14, ↓s164_15, ↓s164_17, ↓s164_19, ↓s164_22, ↓s164_23, ↓s164_24, ↓s164_25, ↓s164_28, ↓s164_29, ↓s164_32, ↓s164_33, ↓s164_34, ↓s164_35, ↓s164_36, ↓s164_39, ↓s164_42, ↓s164_45, ↓s164_47, kNLn, kNLi, kNLr, va_rf_s, kOl_n, kOl_s, kap_n, kap_c, kb0, kb1, kbif, zif, z0, z1, Bool.false_eq_true, eq_self, not_true_eq_false, not_false_eq_true, if_true, if_false, and_self, true_and, false_and, and_true, and_false, hgt]
          exact h9
        | succ k ih =>
          intro d A B U mi1 hk oU dU eU eF hU fU
          have hgt : ¬ nI 60 < nI d := Int32.not_lt.mpr (nI_le (by omega) (by omega))
          have hl3 := (oU.2.2.2.2.2.2.1 i (by omega)).2.2.2.2.2
          have e5 : ∀ Q', kJ 134 0 [some (.ref 83), some (.int (nI i)), some (.int (nI 5))] [] (mi1, ml, MR, 95) Q' = Q' (some (.int (nI (U 9 i)))) (mi1, ml, MR, 95) := fun Q' => R_ofL hU.1 oU (by omega) (w := 5) (by decide)
          have eF2 : tcomeF i (k + 1) d U = if U 9 i = 2 then nI d else tcomeF i k (d + 1) (tD U) := rfl
          rw [s164_16]
          simp only [↓s164_0, ↓s164_1, ↓s164_2, ↓s164_5, ↓s164_8, ↓s164_9, ↓s164_10, ↓s164_11, ↓s164_14, ↓s164_15, ↓s164_17, ↓s164_19, ↓s164_22, ↓s164_23, ↓s164_24, ↓s164_25, ↓s164_28, ↓s164_29, ↓s164_32, ↓s164_33, ↓s164_34, ↓s164_35, ↓s164_36, ↓s164_39, ↓s164_42, ↓s164_45, ↓s164_47, ↓e5, kNLn, kNLi, kNLr, va_rf_s, kOl_n, kOl_s, kap_n, kap_c, kb0, kb1, kbif, zif, z0, z1, Bool.false_eq_true, eq_self, not_true_eq_false, not_false_eq_true, if_true, if_false, and_self, true_and, false_and, and_true, and_false, hgt, ki_83, nI_lit (by omega : U 9 i < 2 ^ 31) (by decide : 2 < 2 ^ 31)]
          by_cases e : U 9 i = 2
          · rw [if_pos e]
            rw [if_pos e] at eF2
            have h9 := hQ mi1 (wR_q fU)
            rw [← eF, eF2] at h9
            exact h9
          · rw [if_neg e]
            rw [if_neg e] at eF2
            refine R_day hU oU (by omega) (fun mi2 h2 f2 => ?_)
            simp only [↓s164_0, ↓s164_1, ↓s164_2, ↓s164_5, ↓s164_8, ↓s164_9, ↓s164_10, ↓s164_11, ↓s164_14, ↓s164_15, ↓s164_17, ↓s164_19, ↓s164_22, ↓s164_23, ↓s164_24, ↓s164_25, ↓s164_28, ↓s164_29, ↓s164_32, ↓s164_33, ↓s164_34, ↓s164_35, ↓s164_36, ↓s164_39, ↓s164_42, ↓s164_45, ↓s164_47, kNLn, kNLi, kNLr, va_rf_s, kOl_n, kOl_s, kap_n, kap_c, kb0, kb1, kbif, nI_add]
            exact ih (d + 1) _ _ (tD U) mi2 (by omega) (tD_ok oU (by omega)) (by rw [tD_12]; omega) ((tD_n oU (by omega) (by omega)).trans eU) (eF2.symm.trans eF) h2 (kFq_tr fU f2)
      exact loop 61 0 0 0 S.1 mi1 rfl ho (by omega) rfl rfl h1 f1
  · refine bB_e hg (-1) (fun mi ml Q h => ?_) (fun mi ml Q h => ?_)
    · simp only [↓s68_0, ↓s68_1, ↓s68_4, ↓s68_5, ↓s68_8, ↓s68_11, ↓s68_12, ↓s68_13, ↓s68_14, ↓s68_17, ↓s68_18, ↓s68_21, ↓s68_24, ↓s68_25, ↓s68_27, ↓s68_29, ↓s68_32, ↓s68_33, ↓s68_36, ↓s68_39, ↓s68_40, ↓s68_41, ↓s68_42, ↓s68_45, ↓s68_46, ↓s68_47, ↓s68_48, ↓s68_51, ↓s68_52, ↓s68_55, ↓s68_58, ↓s68_61, ↓s68_63, ↓J_hasLetterG kPost_1 h.1 ho, kNLn, kNLi, kNLr, va_rf_s, kOl_n, kOl_s, kap_n, kap_c, kb0, kb1, kbif, zif, z0, z1, Bool.false_eq_true, eq_self, not_true_eq_false, not_false_eq_true, if_true, if_false, and_self, true_and, false_and, and_true, and_false, c, ki_0, ki_1, mr_0_0]
    · simp only [↓s164_0, ↓s164_1, ↓s164_2, ↓s164_5, ↓s164_8, ↓s164_9, ↓s164_10, ↓s164_11, ↓s164_14, ↓s164_15, ↓s164_17, ↓s164_19, ↓s164_22, ↓s164_23, ↓s164_24, ↓s164_25, ↓s164_28, ↓s164_29, ↓s164_32, ↓s164_33, ↓s164_34, ↓s164_35, ↓s164_36, ↓s164_39, ↓s164_42, ↓s164_45, ↓s164_47, ↓R_isLetter h.1 ho, kNLn, kNLi, kNLr, va_rf_s, kOl_n, kOl_s, kap_n, kap_c, kb0, kb1, kbif, zif, z0, z1, Bool.false_eq_true, eq_self, not_true_eq_false, not_false_eq_true, if_true, if_false, and_self, true_and, false_and, and_true, and_false, c, ki_83]
/-! runs -/
theorem J_idle (hp : kPost b) (h : kCR b T mi) (ho : tOK T) (hn : n < 100) (hQ : ∀ mi', kFr b mi mi' → Q (some (.int (nI (tidle n T)))) (mi', ml, MR, 95)) : kJ 22 0 [some (.ref b), some (.int (nI n)), none, none] [] (mi, ml, MR, 95) Q := by
  have hp0 := hp
  obtain ⟨pis, ⟨r1, r2, r3, r4, r5, r6, r7, r8, r9, r10, r11, r12⟩, ⟨a1, a2, a3, a4, a5, a6, a7, a8, a9, a10, a11, a12⟩, e1, e2, e3, e4, e5, e6, e7, e8, e9, e10, e11, e12⟩ := hp
  simp only [↓s22_0, ↓s22_1, ↓s22_2, ↓s22_3, ↓s22_5, ↓s22_6, ↓s22_9, ↓s22_10, ↓s22_13, ↓s22_16, ↓s22_19, ↓s22_22, ↓s22_25, ↓s22_26, kNLn, kNLi, kNLr, va_rf_s, kOl_n, kOl_s, kap_n, kap_c, kb0, kb1, kbif]
  have loop : ∀ (k i a : Nat) (U : tT) (mi1 : Nat → Nat → Int32), i + k = n → tOK U → a + tidle k U = tidle n T → kCR b U mi1 → kFr b mi mi1 → kJ 22 4 [some (.ref b), some (.int (nI n)), some (.int (nI a)), some (.int (nI i))] [] (mi1, ml, MR, 95) Q := by
    intro k
    induction k with
    | zero =>
      intro i a U mi1 hk oU eU hU fU
      have e2 : a = tidle n T := eU
      rw [s22_4]
      simp only [↓s22_0, ↓s22_1, ↓s22_2, ↓s22_3, ↓s22_5, ↓s22_6, ↓s22_9, ↓s22_10, ↓s22_13, ↓s22_16, ↓s22_19, ↓s22_22, ↓s22_25, ↓s22_26, kNLn, kNLi, kNLr, va_rf_s, kOl_n, kOl_s, kap_n, kap_c, kb0, kb1, kbif]
      rw [if_pos (by rw [show i = n by omega]; exact Int32.le_refl _), e2]
      exact hQ mi1 fU
    | succ k ih =>
      intro i a U mi1 hk oU eU hU fU
      have hlt : ¬ nI n ≤ nI i := nI_ge (by omega) (by omega)
      have hr := trdF_le U (U 0 4)
      have o2 := oU.2.1
      have eI : tidle (k + 1) U = (if trdF U (U 0 4) = 0 then 1 else 0) + tidle k (tday U) := rfl
      rw [s22_4]
      simp only [↓s22_0, ↓s22_1, ↓s22_2, ↓s22_3, ↓s22_5, ↓s22_6, ↓s22_9, ↓s22_10, ↓s22_13, ↓s22_16, ↓s22_19, ↓s22_22, ↓s22_25, ↓s22_26, kNLn, kNLi, kNLr, va_rf_s, kOl_n, kOl_s, kap_n, kap_c, kb0, kb1, kbif, pis, r1, r2, r3, r4, r5, r6, r7, r8, r9, r10, r11, r12, a1, a2, a3, a4, a5, a6, a7, a8, a9, a10, a11, a12, e1, e2, e3, e4, e5, e6, e7, e8, e9, e10, e11, e12, hlt, if_false]
      refine J_passOne hp0 hU oU (fun mi2 h2 f2 => ?_)
      simp only [↓s22_0, ↓s22_1, ↓s22_2, ↓s22_3, ↓s22_5, ↓s22_6, ↓s22_9, ↓s22_10, ↓s22_13, ↓s22_16, ↓s22_19, ↓s22_22, ↓s22_25, ↓s22_26, kNLn, kNLi, kNLr, va_rf_s, kOl_n, kOl_s, kap_n, kap_c, kb0, kb1, kbif, kz (by omega : trdF U (U 0 4) < 2 ^ 31), nI_add]
      by_cases e : trdF U (U 0 4) = 0
      · rw [if_pos e]
        rw [if_pos e] at eI
        exact ih (i + 1) (a + 1) (tday U) mi2 (by omega) (tday_ok oU).1 (by omega) h2 (kFr_tr fU f2)
      · rw [if_neg e]
        rw [if_neg e] at eI
        exact ih (i + 1) a (tday U) mi2 (by omega) (tday_ok oU).1 (by omega) h2 (kFr_tr fU f2)
  exact loop n 0 0 T mi (by omega) ho (by omega) h kFr_rf
def grun (T : tT) (n w : Nat) : Nat := if w = 0 then tmoods (tpass n T) else if w = 1 then tlegF (tpass n T) 2 (tpass n T 0 4) else if w = 2 then tlegF (tpass n T) 3 (tpass n T 0 4) else tidle n T
theorem B_runs {x y : Int32} (hg : gOK S) : bB 66 [some (.ref 0), some (.int x), some (.int y)] 162 [some (.ref 83), some (.int x), some (.int y), none, none, none] S := by
  have ho := hg.1.1
  have o2 := ho.2.1
  have hd12 := hg.1.2
  by_cases c : gin x 61 = true
  · obtain ⟨n, hn, rfl⟩ := gin_of c (by decide)
    by_cases d : gin y 4 = true
    · obtain ⟨w, hw, rfl⟩ := gin_of d (by decide)
      have okp := tpass_ok ho (n := n) (by omega)
      refine bB_w hg (nI (grun S.1 n w)) (fun mi ml Q h hQ => ?_) (fun mi ml Q h hQ => ?_)
      · simp only [↓s66_0, ↓s66_1, ↓s66_2, ↓s66_4, ↓s66_7, ↓s66_10, ↓s66_11, ↓s66_12, ↓s66_13, ↓s66_16, ↓s66_19, ↓s66_20, ↓s66_21, ↓s66_22, ↓s66_25, ↓s66_26, ↓s66_29, ↓s66_32, ↓s66_33, ↓s66_34, ↓s66_37, ↓s66_38, ↓s66_41, ↓s66_42, ↓s66_45, ↓s66_46, ↓s66_47, ↓s66_50, ↓s66_51, ↓s66_54, ↓s66_55, ↓s66_58, ↓s66_59, ↓s66_62, ↓s66_65, ↓s66_66, ↓s66_67, ↓s66_70, ↓s66_71, ↓s66_72, ↓s66_75, ↓s66_76, ↓s66_79, ↓s66_80, ↓s66_83, ↓J_w60, ↓J_w3, kNLn, kNLi, kNLr, va_rf_s, kOl_n, kOl_s, kap_n, kap_c, kb0, kb1, kbif, zif, z0, z1, Bool.false_eq_true, eq_self, not_true_eq_false, not_false_eq_true, if_true, if_false, and_self, true_and, false_and, and_true, and_false, c, d, ki_0, ki_1, ki_14, mr_0_0, mr_0_1]
        refine C_copy_14_1 h.1 ho (fun mi1 h1 f1 => ?_)
        by_cases w3 : w = 3
        · subst w3
          simp only [↓s66_0, ↓s66_1, ↓s66_2, ↓s66_4, ↓s66_7, ↓s66_10, ↓s66_11, ↓s66_12, ↓s66_13, ↓s66_16, ↓s66_19, ↓s66_20, ↓s66_21, ↓s66_22, ↓s66_25, ↓s66_26, ↓s66_29, ↓s66_32, ↓s66_33, ↓s66_34, ↓s66_37, ↓s66_38, ↓s66_41, ↓s66_42, ↓s66_45, ↓s66_46, ↓s66_47, ↓s66_50, ↓s66_51, ↓s66_54, ↓s66_55, ↓s66_58, ↓s66_59, ↓s66_62, ↓s66_65, ↓s66_66, ↓s66_67, ↓s66_70, ↓s66_71, ↓s66_72, ↓s66_75, ↓s66_76, ↓s66_79, ↓s66_80, ↓s66_83, kNLn, kNLi, kNLr, va_rf_s, kOl_n, kOl_s, kap_n, kap_c, kb0, kb1, kbif, zif, z0, z1, Bool.false_eq_true, eq_self, not_true_eq_false, not_false_eq_true, if_true, if_false, and_self, true_and, false_and, and_true, and_false, ki_0, ki_14, mr_0_1]
          exact J_idle kPost_14 h1 ho (by omega) (fun mi2 f2 => by
            simp only [↓s66_0, ↓s66_1, ↓s66_2, ↓s66_4, ↓s66_7, ↓s66_10, ↓s66_11, ↓s66_12, ↓s66_13, ↓s66_16, ↓s66_19, ↓s66_20, ↓s66_21, ↓s66_22, ↓s66_25, ↓s66_26, ↓s66_29, ↓s66_32, ↓s66_33, ↓s66_34, ↓s66_37, ↓s66_38, ↓s66_41, ↓s66_42, ↓s66_45, ↓s66_46, ↓s66_47, ↓s66_50, ↓s66_51, ↓s66_54, ↓s66_55, ↓s66_58, ↓s66_59, ↓s66_62, ↓s66_65, ↓s66_66, ↓s66_67, ↓s66_70, ↓s66_71, ↓s66_72, ↓s66_75, ↓s66_76, ↓s66_79, ↓s66_80, ↓s66_83, kNLn, kNLi, kNLr, va_rf_s, kOl_n, kOl_s, kap_n, kap_c, kb0, kb1, kbif]
            exact hQ mi2 (wC_tr (wC_14 f1) (wC_14 f2)))
        · have n3 : (nI w = nI 3) = False := by rw [nI_lit (by omega) (by decide)]; exact eq_false w3
          simp only [↓s66_0, ↓s66_1, ↓s66_2, ↓s66_4, ↓s66_7, ↓s66_10, ↓s66_11, ↓s66_12, ↓s66_13, ↓s66_16, ↓s66_19, ↓s66_20, ↓s66_21, ↓s66_22, ↓s66_25, ↓s66_26, ↓s66_29, ↓s66_32, ↓s66_33, ↓s66_34, ↓s66_37, ↓s66_38, ↓s66_41, ↓s66_42, ↓s66_45, ↓s66_46, ↓s66_47, ↓s66_50, ↓s66_51, ↓s66_54, ↓s66_55, ↓s66_58, ↓s66_59, ↓s66_62, ↓s66_65, ↓s66_66, ↓s66_67, ↓s66_70, ↓s66_71, ↓s66_72, ↓s66_75, ↓s66_76, ↓s66_79, ↓s66_80, ↓s66_83, kNLn, kNLi, kNLr, va_rf_s, kOl_n, kOl_s, kap_n, kap_c, kb0, kb1, kbif, zif, z0, z1, Bool.false_eq_true, eq_self, not_true_eq_false, not_false_eq_true, if_true, if_false, and_self, true_and, false_and, and_true, and_false, n3, ki_0, ki_14, mr_0_1]
          refine J_pass kPost_14 h1 ho (by omega) (fun mi2 h2 f2 => ?_)
          have h9 := hQ mi2 (wC_tr (wC_14 f1) (wC_14 f2))
          rcases (by omega : w = 0 ∨ w = 1 ∨ w = 2) with rfl | rfl | rfl
          all_goals simp only [↓s66_0, ↓s66_1, ↓s66_2, ↓s66_4, ↓s66_7, ↓s66_10, ↓s66_11, ↓s66_12, ↓s66_13, ↓s66_16, ↓s66_19, ↓s66_20, ↓s66_21, ↓s66_22, ↓s66_25, ↓s66_26, ↓s66_29, ↓s66_32, ↓s66_33, ↓s66_34, ↓s66_37, ↓s66_38, ↓s66_41, ↓s66_42, ↓s66_45, ↓s66_46, ↓s66_47, ↓s66_50, ↓s66_51, ↓s66_54, ↓s66_55, ↓s66_58, ↓s66_59, ↓s66_62, ↓s66_65, ↓s66_66, ↓s66_67, ↓s66_70, ↓s66_71, ↓s66_72, ↓s66_75, ↓s66_76, ↓s66_79, ↓s66_80, ↓s66_83, ↓J_moods kPost_14 h2 okp, ↓J_legs kPost_14 h2 okp (by decide : 2 < 4), ↓J_legs kPost_14 h2 okp (by decide : 3 < 4), kNLn, kNLi, kNLr, va_rf_s, kOl_n, kOl_s, kap_n, kap_c, kb0, kb1, kbif, zif, z0, z1, Bool.false_eq_true, eq_self, not_true_eq_false, not_false_eq_true, if_true, if_false, and_self, true_and, false_and, and_true, and_false, nl_0_1, nl_0_2, nl_0_3, nl_0_4, nl_0_5, nl_0_6, nl_1_0, nl_1_2, nl_1_3, nl_1_4, nl_1_5, nl_1_6, nl_2_0, nl_2_1, nl_2_3, nl_2_4, nl_2_5, nl_2_6, nl_3_0, nl_3_1, nl_3_2, nl_3_4, nl_3_5, nl_3_6, nl_4_0, nl_4_1, nl_4_2, nl_4_3, nl_4_5, nl_4_6, nl_5_0, nl_5_1, nl_5_2, nl_5_3, nl_5_4, nl_5_6, nl_6_0, nl_6_1, nl_6_2, nl_6_3, nl_6_4, nl_6_5, nz_1, nz_2, nz_3, nz_4, nz_5, nz_6, ki_0, ki_14, mr_0_1]
          all_goals exact h9
      · simp only [↓s162_0, ↓s162_1, ↓s162_4, ↓s162_7, ↓s162_8, ↓s162_9, ↓s162_10, ↓s162_13, ↓s162_16, ↓s162_19, ↓s162_20, ↓s162_21, ↓s162_22, ↓s162_23, ↓s162_24, ↓s162_27, ↓s162_28, ↓s162_32, ↓s162_33, ↓s162_36, ↓s162_37, ↓s162_40, ↓s162_42, ↓s162_43, ↓s162_44, ↓s162_47, ↓s162_48, ↓s162_49, ↓s162_52, ↓s162_54, ↓s162_57, ↓s162_58, ↓s162_61, ↓s162_62, ↓s162_65, ↓s162_66, ↓s162_67, ↓s162_70, ↓s162_73, ↓s162_74, ↓s162_100, ↓s162_101, ↓s162_104, ↓s162_105, ↓s162_106, ↓s162_107, ↓s162_110, ↓s162_111, ↓s162_112, ↓s162_113, ↓s162_116, ↓s162_117, ↓s162_118, ↓R_isFar, ↓R_i3, kNLn, kNLi, kNLr, va_rf_s, kOl_n, kOl_s, kap_n, kap_c, kb0, kb1, kbif, zif, z0, z1, Bool.false_eq_true, eq_self, not_true_eq_false, not_false_eq_true, if_true, if_false, and_self, true_and, false_and, and_true, and_false, c, d, ki_83]
        refine R_startsT h.1 ho (fun mi1 h1 f1 => ?_)
        simp only [↓s162_0, ↓s162_1, ↓s162_4, ↓s162_7, ↓s162_8, ↓s162_9, ↓s162_10, ↓s162_13, ↓s162_16, ↓s162_19, ↓s162_20, ↓s162_21, ↓s162_22, ↓s162_23, ↓s162_24, ↓s162_27, ↓s162_28, ↓s162_32, ↓s162_33, ↓s162_36, ↓s162_37, ↓s162_40, ↓s162_42, ↓s162_43, ↓s162_44, ↓s162_47, ↓s162_48, ↓s162_49, ↓s162_52, ↓s162_54, ↓s162_57, ↓s162_58, ↓s162_61, ↓s162_62, ↓s162_65, ↓s162_66, ↓s162_67, ↓s162_70, ↓s162_73, ↓s162_74, ↓s162_100, ↓s162_101, ↓s162_104, ↓s162_105, ↓s162_106, ↓s162_107, ↓s162_110, ↓s162_111, ↓s162_112, ↓s162_113, ↓s162_116, ↓s162_117, ↓s162_118, kNLn, kNLi, kNLr, va_rf_s, kOl_n, kOl_s, kap_n, kap_c, kb0, kb1, kbif]
        have loop : ∀ (k i a A B : Nat) (U : tT) (mi1 : Nat → Nat → Int32) (l5 : Option Value), i + k = n → kNL l5 = true → tOK U → U 0 12 + k < 1999 → B ≤ 6 * i → U 0 4 ≤ 6 → a + tidle k U = tidle n S.1 → tpass k U = tpass n S.1 → kRM mi1 U A B → kFq mi mi1 → kJ 162 30 [some (.ref 83), some (.int (nI n)), some (.int (nI w)), some (.int (nI a)), some (.int (nI i)), l5] [] (mi1, ml, MR, 95) Q := by
          intro k
          induction k with
          | zero =>
            intro i a A B U mi1 l5 hk h5 oU dU hB hL eI eP hU fU
            have e2 : a = tidle n S.1 := eI
            rw [tpass_0] at eP
            subst eP
            have hge : nI n ≤ nI i := by rw [show i = n by omega]; exact Int32.le_refl _
            have h9 := hQ mi1 (wR_q fU)
            rw [s162_30]
            rcases (by omega : w = 0 ∨ w = 1 ∨ w = 2 ∨ w = 3) with rfl | rfl | rfl | rfl
            all_goals simp only [↓s162_0, ↓s162_1, ↓s162_4, ↓s162_7, ↓s162_8, ↓s162_9, ↓s162_10, ↓s162_13, ↓s162_16, ↓s162_19, ↓s162_20, ↓s162_21, ↓s162_22, ↓s162_23, ↓s162_24, ↓s162_27, ↓s162_28, ↓s162_32, ↓s162_33, ↓s162_36, ↓s162_37, ↓s162_40, ↓s162_42, ↓s162_43, ↓s162_44, ↓s162_47, ↓s162_48, ↓s162_49, ↓s162_52, ↓s162_54, ↓s162_57, ↓s162_58, ↓s162_61, ↓s162_62, ↓s162_65, ↓s162_66, ↓s162_67, ↓s162_70, ↓s162_73, ↓s162_74, ↓s162_100, ↓s162_101, ↓s162_104, ↓s162_105, ↓s162_106, ↓s162_107, ↓s162_110, ↓s162_111, ↓s162_112, ↓s162_113, ↓s162_116, ↓s162_117, ↓s162_118, ↓R_moods hU.1 oU, ↓R_those hU.1 oU (by decide : 2 < 4), ↓R_those hU.1 oU (by decide : 3 < 4), kNLn, kNLi, kNLr, va_rf_s, kOl_n, kOl_s, kap_n, kap_c, kb0, kb1, kbif, zif, z0, z1, Bool.false_eq_true, eq_self, not_true_eq_false, not_false_eq_true, if_true, if_false, and_self, true_and, false_and, and_true, and_false, nl_0_1, nl_0_2, nl_0_3, nl_0_4, nl_0_5, nl_0_6, nl_1_0, nl_1_2, nl_1_3, nl_1_4, nl_1_5, nl_1_6, nl_2_0, nl_2_1, nl_2_3, nl_2_4, nl_2_5, nl_2_6, nl_3_0, nl_3_1, nl_3_2, nl_3_4, nl_3_5, nl_3_6, nl_4_0, nl_4_1, nl_4_2, nl_4_3, nl_4_5, nl_4_6, nl_5_0, nl_5_1, nl_5_2, nl_5_3, nl_5_4, nl_5_6, nl_6_0, nl_6_1, nl_6_2, nl_6_3, nl_6_4, nl_6_5, nz_1, nz_2, nz_3, nz_4, nz_5, nz_6, ki_83, hge, e2, h5]
            all_goals exact h9
          | succ k ih =>
            intro i a A B U mi1 l5 hk h5 oU dU hB hL eI eP hU fU
            have hlt : ¬ nI n ≤ nI i := nI_ge (by omega) (by omega)
            have hr := trdF_le U (U 0 4)
            have eI2 : tidle (k + 1) U = (if trdF U (U 0 4) = 0 then 1 else 0) + tidle k (tday U) := rfl
            rw [s162_30]
            simp only [↓s162_0, ↓s162_1, ↓s162_4, ↓s162_7, ↓s162_8, ↓s162_9, ↓s162_10, ↓s162_13, ↓s162_16, ↓s162_19, ↓s162_20, ↓s162_21, ↓s162_22, ↓s162_23, ↓s162_24, ↓s162_27, ↓s162_28, ↓s162_32, ↓s162_33, ↓s162_36, ↓s162_37, ↓s162_40, ↓s162_42, ↓s162_43, ↓s162_44, ↓s162_47, ↓s162_48, ↓s162_49, ↓s162_52, ↓s162_54, ↓s162_57, ↓s162_58, ↓s162_61, ↓s162_62, ↓s162_65, ↓s162_66, ↓s162_67, ↓s162_70, ↓s162_73, ↓s162_74, ↓s162_100, ↓s162_101, ↓s162_104, ↓s162_105, ↓s162_106, ↓s162_107, ↓s162_110, ↓s162_111, ↓s162_112, ↓s162_113, ↓s162_116, ↓s162_117, ↓s162_118, kNLn, kNLi, kNLr, va_rf_s, kOl_n, kOl_s, kap_n, kap_c, kb0, kb1, kbif, zif, z0, z1, Bool.false_eq_true, eq_self, not_true_eq_false, not_false_eq_true, if_true, if_false, and_self, true_and, false_and, and_true, and_false, ki_83, hlt, h5, hU.2.2]
            refine R_day hU oU (by omega) (fun mi2 h2 f2 => ?_)
            have eR : (nI (B + trdF U (U 0 4)) = nI B) = (trdF U (U 0 4) = 0) := by
              rw [nI_lit (by omega) (by omega)]
              apply propext
              omega
            simp only [↓s162_0, ↓s162_1, ↓s162_4, ↓s162_7, ↓s162_8, ↓s162_9, ↓s162_10, ↓s162_13, ↓s162_16, ↓s162_19, ↓s162_20, ↓s162_21, ↓s162_22, ↓s162_23, ↓s162_24, ↓s162_27, ↓s162_28, ↓s162_32, ↓s162_33, ↓s162_36, ↓s162_37, ↓s162_40, ↓s162_42, ↓s162_43, ↓s162_44, ↓s162_47, ↓s162_48, ↓s162_49, ↓s162_52, ↓s162_54, ↓s162_57, ↓s162_58, ↓s162_61, ↓s162_62, ↓s162_65, ↓s162_66, ↓s162_67, ↓s162_70, ↓s162_73, ↓s162_74, ↓s162_100, ↓s162_101, ↓s162_104, ↓s162_105, ↓s162_106, ↓s162_107, ↓s162_110, ↓s162_111, ↓s162_112, ↓s162_113, ↓s162_116, ↓s162_117, ↓s162_118, ↓R_flag, kNLn, kNLi, kNLr, va_rf_s, kOl_n, kOl_s, kap_n, kap_c, kb0, kb1, kbif, zif, z0, z1, Bool.false_eq_true, eq_self, not_true_eq_false, not_false_eq_true, if_true, if_false, and_self, true_and, false_and, and_true, and_false, ki_83, h2.2.2, eR, nI_add]
            have ep2 : tpass k (tD U) = tpass n S.1 := (tpass_succ oU).trans eP
            have ei2 : tidle k (tD U) = tidle k (tday U) := tidle_date k (tday U)
            have b2 : B + trdF U (U 0 4) ≤ 6 * (i + 1) := by omega
            have l2 : tD U 0 4 ≤ 6 := by rw [tD_n oU (by omega) (by omega)]; exact hL
            by_cases e : trdF U (U 0 4) = 0
            · rw [if_pos e]
              rw [if_pos e] at eI2
              exact ih (i + 1) (a + 1) _ _ (tD U) mi2 _ (by omega) rfl (tD_ok oU (by omega)) (by rw [tD_12]; omega) b2 l2 (by omega) ep2 h2 (kFq_tr fU f2)
            · rw [if_neg e]
              rw [if_neg e] at eI2
              exact ih (i + 1) (a + 0) _ _ (tD U) mi2 _ (by omega) rfl (tD_ok oU (by omega)) (by rw [tD_12]; omega) b2 l2 (by omega) ep2 h2 (kFq_tr fU f2)
        exact loop n 0 0 0 0 S.1 mi1 none (by omega) rfl ho (by omega) (by omega) o2 (by omega) rfl h1 f1
    · refine bB_e hg (-1) (fun mi ml Q h => ?_) (fun mi ml Q h => ?_)
      · simp only [↓s66_0, ↓s66_1, ↓s66_2, ↓s66_4, ↓s66_7, ↓s66_10, ↓s66_11, ↓s66_12, ↓s66_13, ↓s66_16, ↓s66_19, ↓s66_20, ↓s66_21, ↓s66_22, ↓s66_25, ↓s66_26, ↓s66_29, ↓s66_32, ↓s66_33, ↓s66_34, ↓s66_37, ↓s66_38, ↓s66_41, ↓s66_42, ↓s66_45, ↓s66_46, ↓s66_47, ↓s66_50, ↓s66_51, ↓s66_54, ↓s66_55, ↓s66_58, ↓s66_59, ↓s66_62, ↓s66_65, ↓s66_66, ↓s66_67, ↓s66_70, ↓s66_71, ↓s66_72, ↓s66_75, ↓s66_76, ↓s66_79, ↓s66_80, ↓s66_83, ↓J_w60, ↓J_w3, kNLn, kNLi, kNLr, va_rf_s, kOl_n, kOl_s, kap_n, kap_c, kb0, kb1, kbif, zif, z0, z1, Bool.false_eq_true, eq_self, not_true_eq_false, not_false_eq_true, if_true, if_false, and_self, true_and, false_and, and_true, and_false, c, d]
      · simp only [↓s162_0, ↓s162_1, ↓s162_4, ↓s162_7, ↓s162_8, ↓s162_9, ↓s162_10, ↓s162_13, ↓s162_16, ↓s162_19, ↓s162_20, ↓s162_21, ↓s162_22, ↓s162_23, ↓s162_24, ↓s162_27, ↓s162_28, ↓s162_32, ↓s162_33, ↓s162_36, ↓s162_37, ↓s162_40, ↓s162_42, ↓s162_43, ↓s162_44, ↓s162_47, ↓s162_48, ↓s162_49, ↓s162_52, ↓s162_54, ↓s162_57, ↓s162_58, ↓s162_61, ↓s162_62, ↓s162_65, ↓s162_66, ↓s162_67, ↓s162_70, ↓s162_73, ↓s162_74, ↓s162_100, ↓s162_101, ↓s162_104, ↓s162_105, ↓s162_106, ↓s162_107, ↓s162_110, ↓s162_111, ↓s162_112, ↓s162_113, ↓s162_116, ↓s162_117, ↓s162_118, ↓R_isFar, ↓R_i3, kNLn, kNLi, kNLr, va_rf_s, kOl_n, kOl_s, kap_n, kap_c, kb0, kb1, kbif, zif, z0, z1, Bool.false_eq_true, eq_self, not_true_eq_false, not_false_eq_true, if_true, if_false, and_self, true_and, false_and, and_true, and_false, c, d]
  · refine bB_e hg (-1) (fun mi ml Q h => ?_) (fun mi ml Q h => ?_)
    · simp only [↓s66_0, ↓s66_1, ↓s66_2, ↓s66_4, ↓s66_7, ↓s66_10, ↓s66_11, ↓s66_12, ↓s66_13, ↓s66_16, ↓s66_19, ↓s66_20, ↓s66_21, ↓s66_22, ↓s66_25, ↓s66_26, ↓s66_29, ↓s66_32, ↓s66_33, ↓s66_34, ↓s66_37, ↓s66_38, ↓s66_41, ↓s66_42, ↓s66_45, ↓s66_46, ↓s66_47, ↓s66_50, ↓s66_51, ↓s66_54, ↓s66_55, ↓s66_58, ↓s66_59, ↓s66_62, ↓s66_65, ↓s66_66, ↓s66_67, ↓s66_70, ↓s66_71, ↓s66_72, ↓s66_75, ↓s66_76, ↓s66_79, ↓s66_80, ↓s66_83, ↓J_w60, kNLn, kNLi, kNLr, va_rf_s, kOl_n, kOl_s, kap_n, kap_c, kb0, kb1, kbif, zif, z0, z1, Bool.false_eq_true, eq_self, not_true_eq_false, not_false_eq_true, if_true, if_false, and_self, true_and, false_and, and_true, and_false, c]
    · simp only [↓s162_0, ↓s162_1, ↓s162_4, ↓s162_7, ↓s162_8, ↓s162_9, ↓s162_10, ↓s162_13, ↓s162_16, ↓s162_19, ↓s162_20, ↓s162_21, ↓s162_22, ↓s162_23, ↓s162_24, ↓s162_27, ↓s162_28, ↓s162_32, ↓s162_33, ↓s162_36, ↓s162_37, ↓s162_40, ↓s162_42, ↓s162_43, ↓s162_44, ↓s162_47, ↓s162_48, ↓s162_49, ↓s162_52, ↓s162_54, ↓s162_57, ↓s162_58, ↓s162_61, ↓s162_62, ↓s162_65, ↓s162_66, ↓s162_67, ↓s162_70, ↓s162_73, ↓s162_74, ↓s162_100, ↓s162_101, ↓s162_104, ↓s162_105, ↓s162_106, ↓s162_107, ↓s162_110, ↓s162_111, ↓s162_112, ↓s162_113, ↓s162_116, ↓s162_117, ↓s162_118, ↓R_isFar, kNLn, kNLi, kNLr, va_rf_s, kOl_n, kOl_s, kap_n, kap_c, kb0, kb1, kbif, zif, z0, z1, Bool.false_eq_true, eq_self, not_true_eq_false, not_false_eq_true, if_true, if_false, and_self, true_and, false_and, and_true, and_false, c]
end DAYS
