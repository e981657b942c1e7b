theorem sums_le {f : Nat → Nat} {c : Nat} : ∀ n, (∀ j, j < n → f j ≤ c) → sums f n ≤ n * c := by
  intro n
  induction n with
  | zero => intro _; exact Nat.zero_le _
  | succ n ih =>
    intro h
    show sums f n + f n ≤ (n + 1) * c
    have h1 := ih (fun j hj => h j (by omega))
    have h2 := h n (by omega)
    rw [Nat.add_mul]
    omega
theorem wgt_lt : ∀ v, v < 11 → ∀ n, n < 9 → ∀ p, p < 9 → wgt v n p ≤ 10 ^ 10 := by decide +kernel
section LUCK
variable {mi : Nat → Nat → Int32} {ml : Nat → Nat → Int64} {m : kMem} {Q : Option Value → kMem → Prop} {S : gS} {T U : tT} {a b p n k v i A B : Nat}
theorem odd_lt {G : Nat → Nat} (hv : v < 11) (hn : n < 9) (hG : ∀ p, G p ≤ 100) : sums (fun p => wgt v n p * G p) (n + 1) < 2 ^ 60 := by
  have h := sums_le (f := fun p => wgt v n p * G p) (c := 10 ^ 10 * 100) (n + 1) (fun j hj => Nat.mul_le_mul (wgt_lt v hv n hn j (by omega)) (hG j))
  have h2 : (n + 1) * (10 ^ 10 * 100) ≤ 9 * (10 ^ 10 * 100) := Nat.mul_le_mul_right _ (by omega)
  omega
theorem gC_le (x : Int32) (p : Nat) : gC T x p ≤ 100 := by
  unfold gC
  split
  · omega
  · split <;> omega
theorem gM_le (ho : tOK T) (p : Nat) : gM T p ≤ 100 := tmoods_le (tdays_ok ho p).1
theorem p10_lt (hn : n < 9) : 10 ^ n < 2 ^ 60 ∧ 0 < 10 ^ n := by
  have h : ∀ n, n < 9 → 10 ^ n < 2 ^ 60 ∧ 0 < 10 ^ n := by decide +kernel
  exact h n hn
theorem C_luck_y {z : Int32} (h : CI S mi) (hg : gOK S) (hv : v < 11) (hi : i < S.1 0 4) (hn : n < 9) (hz : gin z 2 = true) (hQ : ∀ mi', wC mi mi' → Q (some (.long (glow (sums (fun p => wgt v n p * gC S.1 (nI i) p) (n + 1)) (10 ^ n) z))) (mi', ml, MR, 95)) : kJ 75 0 [some (.ref 0), some (.int (nI v)), some (.int (nI i)), some (.int (nI n)), some (.int z), none, none, none] [] (mi, ml, MR, 95) Q := by
  have ho := hg.1.1
  have hd := hg.1.2
  have o2 := ho.2.1
  have c1 : gin (nI i) (S.1 0 4) = true := gin_nI hi (by omega)
  have c2 : gin (nI v) 11 = true := gin_nI hv (by decide)
  have c3 : gin (nI n) 9 = true := gin_nI hn (by decide)
  have hp10 := p10_lt hn
  have hpw : ∀ (m : kMem) Q', kJ 99 0 [some (.long 10), none, some (.int (nI n)), none, none, none] [] m Q' = Q' (some (.long (lI (10 ^ n)))) m := fun m Q' => J_power (b := 10) (by omega)
  have n4 := n_m4 (by omega : i < 2 ^ 31)
  have hcl : (nI i).toNatClampNeg = i := nI_clamp (by omega)
  have hvi : vp_in (nI i) 6 := vp_in_nI (by omega) (by decide)
  simp only [↓s75_0, ↓s75_1, ↓s75_4, ↓s75_5, ↓s75_8, ↓s75_11, ↓s75_12, ↓s75_13, ↓s75_15, ↓s75_18, ↓s75_21, ↓s75_24, ↓s75_25, ↓s75_26, ↓s75_29, ↓s75_30, ↓s75_33, ↓s75_36, ↓s75_37, ↓s75_39, ↓s75_40, ↓s75_44, ↓s75_45, ↓s75_48, ↓s75_49, ↓s75_52, ↓s75_55, ↓s75_56, ↓s75_57, ↓s75_58, ↓s75_61, ↓s75_63, ↓s75_64, ↓s75_65, ↓s75_67, ↓s75_70, ↓s75_71, ↓s75_73, ↓s75_74, ↓s75_77, ↓s75_78, ↓s75_81, ↓s75_84, ↓s75_87, ↓s75_89, ↓s75_92, ↓s75_93, ↓s75_96, ↓s75_98, ↓s75_101, ↓J_hasLetterG kPost_1 h.1 ho, ↓J_isOdds, kNLn, kNLi, kNLr, va_rf_s, kOl_n, kOl_s, kap_n, kap_c, kb0, kb1, kbif, zif, z0, z1, Bool.false_eq_true, eq_self, not_true_eq_false, not_false_eq_true, if_true, if_false, and_self, true_and, false_and, and_true, and_false, c1, c2, c3, hz, ki_0, ki_1, ki_14, mr_0_0, mr_0_1]
  refine C_copy_14_1 h.1 ho (fun mi0 h0 f0 => ?_)
  simp only [↓s75_0, ↓s75_1, ↓s75_4, ↓s75_5, ↓s75_8, ↓s75_11, ↓s75_12, ↓s75_13, ↓s75_15, ↓s75_18, ↓s75_21, ↓s75_24, ↓s75_25, ↓s75_26, ↓s75_29, ↓s75_30, ↓s75_33, ↓s75_36, ↓s75_37, ↓s75_39, ↓s75_40, ↓s75_44, ↓s75_45, ↓s75_48, ↓s75_49, ↓s75_52, ↓s75_55, ↓s75_56, ↓s75_57, ↓s75_58, ↓s75_61, ↓s75_63, ↓s75_64, ↓s75_65, ↓s75_67, ↓s75_70, ↓s75_71, ↓s75_73, ↓s75_74, ↓s75_77, ↓s75_78, ↓s75_81, ↓s75_84, ↓s75_87, ↓s75_89, ↓s75_92, ↓s75_93, ↓s75_96, ↓s75_98, ↓s75_101, kNLn, kNLi, kNLr, va_rf_s, kOl_n, kOl_s, kap_n, kap_c, kb0, kb1, kbif]
  have loop : ∀ (kk p : Nat) (mi1 : Nat → Nat → Int32), p + kk = n + 1 → kCR 14 (tpass p S.1) mi1 → wC mi mi1 → kJ 75 42 [some (.ref 0), some (.int (nI v)), some (.int (nI i)), some (.int (nI n)), some (.int z), some (.long (lI (sums (fun p => wgt v n p * gC S.1 (nI i) p) p))), none, some (.int (nI p))] [] (mi1, ml, MR, 95) Q := by
    intro kk
    induction kk with
    | zero =>
      intro p mi1 hk h1 f1
      have e : p = n + 1 := by omega
      subst e
      have hlt : nI n < nI (n + 1) := nI_lt (by omega) (by omega)
      rw [s75_42]
      simp only [↓s75_0, ↓s75_1, ↓s75_4, ↓s75_5, ↓s75_8, ↓s75_11, ↓s75_12, ↓s75_13, ↓s75_15, ↓s75_18, ↓s75_21, ↓s75_24, ↓s75_25, ↓s75_26, ↓s75_29, ↓s75_30, ↓s75_33, ↓s75_36, ↓s75_37, ↓s75_39, ↓s75_40, ↓s75_44, ↓s75_45, ↓s75_48, ↓s75_49, ↓s75_52, ↓s75_55, ↓s75_56, ↓s75_57, ↓s75_58, ↓s75_61, ↓s75_63, ↓s75_64, ↓s75_65, ↓s75_67, ↓s75_70, ↓s75_71, ↓s75_73, ↓s75_74, ↓s75_77, ↓s75_78, ↓s75_81, ↓s75_84, ↓s75_87, ↓s75_89, ↓s75_92, ↓s75_93, ↓s75_96, ↓s75_98, ↓s75_101, ↓hpw, ↓J_lowest (odd_lt hv hn (gC_le (T := S.1) (nI i))) hp10.1 hp10.2, kNLn, kNLi, kNLr, va_rf_s, kOl_n, kOl_s, kap_n, kap_c, kb0, kb1, kbif, zif, z0, z1, Bool.false_eq_true, eq_self, not_true_eq_false, not_false_eq_true, if_true, if_false, and_self, true_and, false_and, and_true, and_false, hlt]
      exact hQ mi1 f1
    | succ kk ih =>
      intro p mi1 hk h1 f1
      have hlt : ¬ nI n < nI p := nI_nlt (by omega) (by omega)
      have oU : tOK (tpass p S.1) := tpass_ok ho (by omega)
      have hil : i < tpass p S.1 0 4 := by rw [tpass_n ho (by omega) (by omega)]; exact hi
      have e9 : tpass p S.1 9 i = tdays p S.1 9 i := tpass_3 (by omega)
      have hl3 := (oU.2.2.2.2.2.2.1 i hil).2.2.2.2.2
      rw [e9] at hl3
      have hr : mi1 23 i = nI (tdays p S.1 9 i) := by
        rw [← e9]
        exact kCR_row h1 (r := 9) (by omega) (by omega) (by rw [tcnt_l (by omega) (by omega)]; exact hil)
      have el := nI_lit (by omega : tdays p S.1 9 i < 2 ^ 31) (by decide : 2 < 2 ^ 31)
      have eS : sums (fun p => wgt v n p * gC S.1 (nI i) p) (p + 1) = sums (fun p => wgt v n p * gC S.1 (nI i) p) p + wgt v n p * gC S.1 (nI i) p := rfl
      rw [s75_42]
      by_cases c9 : tdays p S.1 9 i = 2
      · have g1 : gC S.1 (nI i) p = 1 := by
          unfold gC
          rw [if_neg (fun z => by rw [n4] at z; exact z), hcl, if_pos c9]
        rw [g1, Nat.mul_one] at eS
        simp only [↓s75_0, ↓s75_1, ↓s75_4, ↓s75_5, ↓s75_8, ↓s75_11, ↓s75_12, ↓s75_13, ↓s75_15, ↓s75_18, ↓s75_21, ↓s75_24, ↓s75_25, ↓s75_26, ↓s75_29, ↓s75_30, ↓s75_33, ↓s75_36, ↓s75_37, ↓s75_39, ↓s75_40, ↓s75_44, ↓s75_45, ↓s75_48, ↓s75_49, ↓s75_52, ↓s75_55, ↓s75_56, ↓s75_57, ↓s75_58, ↓s75_61, ↓s75_63, ↓s75_64, ↓s75_65, ↓s75_67, ↓s75_70, ↓s75_71, ↓s75_73, ↓s75_74, ↓s75_77, ↓s75_78, ↓s75_81, ↓s75_84, ↓s75_87, ↓s75_89, ↓s75_92, ↓s75_93, ↓s75_96, ↓s75_98, ↓s75_101, ↓J_weight hv hn (by omega : p ≤ n), kNLn, kNLi, kNLr, va_rf_s, kOl_n, kOl_s, kap_n, kap_c, kb0, kb1, kbif, zif, z0, z1, Bool.false_eq_true, eq_self, not_true_eq_false, not_false_eq_true, if_true, if_false, and_self, true_and, false_and, and_true, and_false, hlt, ki_0, ki_14, ki_23, kl_23, mr_0_1, mr_14_10, hcl, hvi, hr, el, c9, lI_add, ← eS]
        refine J_pass kPost_14 h1 oU (by decide) (fun mi2 h2 f2 => ?_)
        simp only [↓s75_0, ↓s75_1, ↓s75_4, ↓s75_5, ↓s75_8, ↓s75_11, ↓s75_12, ↓s75_13, ↓s75_15, ↓s75_18, ↓s75_21, ↓s75_24, ↓s75_25, ↓s75_26, ↓s75_29, ↓s75_30, ↓s75_33, ↓s75_36, ↓s75_37, ↓s75_39, ↓s75_40, ↓s75_44, ↓s75_45, ↓s75_48, ↓s75_49, ↓s75_52, ↓s75_55, ↓s75_56, ↓s75_57, ↓s75_58, ↓s75_61, ↓s75_63, ↓s75_64, ↓s75_65, ↓s75_67, ↓s75_70, ↓s75_71, ↓s75_73, ↓s75_74, ↓s75_77, ↓s75_78, ↓s75_81, ↓s75_84, ↓s75_87, ↓s75_89, ↓s75_92, ↓s75_93, ↓s75_96, ↓s75_98, ↓s75_101, kNLn, kNLi, kNLr, va_rf_s, kOl_n, kOl_s, kap_n, kap_c, kb0, kb1, kbif, nI_add]
        rw [tpass_1, tD_pass] at h2
        exact ih (p + 1) mi2 (by omega) h2 (wC_tr f1 (wC_14 f2))
      · have g1 : gC S.1 (nI i) p = 0 := by
          unfold gC
          rw [if_neg (fun z => by rw [n4] at z; exact z), hcl, if_neg c9]
        rw [g1, Nat.mul_zero, Nat.add_zero] at eS
        simp only [↓s75_0, ↓s75_1, ↓s75_4, ↓s75_5, ↓s75_8, ↓s75_11, ↓s75_12, ↓s75_13, ↓s75_15, ↓s75_18, ↓s75_21, ↓s75_24, ↓s75_25, ↓s75_26, ↓s75_29, ↓s75_30, ↓s75_33, ↓s75_36, ↓s75_37, ↓s75_39, ↓s75_40, ↓s75_44, ↓s75_45, ↓s75_48, ↓s75_49, ↓s75_52, ↓s75_55, ↓s75_56, ↓s75_57, ↓s75_58, ↓s75_61, ↓s75_63, ↓s75_64, ↓s75_65, ↓s75_67, ↓s75_70, ↓s75_71, ↓s75_73, ↓s75_74, ↓s75_77, ↓s75_78, ↓s75_81, ↓s75_84, ↓s75_87, ↓s75_89, ↓s75_92, ↓s75_93, ↓s75_96, ↓s75_98, ↓s75_101, kNLn, kNLi, kNLr, va_rf_s, kOl_n, kOl_s, kap_n, kap_c, kb0, kb1, kbif, zif, z0, z1, Bool.false_eq_true, eq_self, not_true_eq_false, not_false_eq_true, if_true, if_false, and_self, true_and, false_and, and_true, and_false, hlt, ki_0, ki_14, ki_23, kl_23, mr_0_1, mr_14_10, hcl, hvi, hr, el, c9]
        refine J_pass kPost_14 h1 oU (by decide) (fun mi2 h2 f2 => ?_)
        simp only [↓s75_0, ↓s75_1, ↓s75_4, ↓s75_5, ↓s75_8, ↓s75_11, ↓s75_12, ↓s75_13, ↓s75_15, ↓s75_18, ↓s75_21, ↓s75_24, ↓s75_25, ↓s75_26, ↓s75_29, ↓s75_30, ↓s75_33, ↓s75_36, ↓s75_37, ↓s75_39, ↓s75_40, ↓s75_44, ↓s75_45, ↓s75_48, ↓s75_49, ↓s75_52, ↓s75_55, ↓s75_56, ↓s75_57, ↓s75_58, ↓s75_61, ↓s75_63, ↓s75_64, ↓s75_65, ↓s75_67, ↓s75_70, ↓s75_71, ↓s75_73, ↓s75_74, ↓s75_77, ↓s75_78, ↓s75_81, ↓s75_84, ↓s75_87, ↓s75_89, ↓s75_92, ↓s75_93, ↓s75_96, ↓s75_98, ↓s75_101, kNLn, kNLi, kNLr, va_rf_s, kOl_n, kOl_s, kap_n, kap_c, kb0, kb1, kbif, nI_add]
        rw [tpass_1, tD_pass] at h2
        have := ih (p + 1) mi2 (by omega) h2 (wC_tr f1 (wC_14 f2))
        rw [eS] at this
        exact this
  exact loop (n + 1) 0 mi0 (by omega) (by rw [tpass_0]; exact h0) (wC_14 f0)
theorem C_mean_y {z : Int32} (h : CI S mi) (hg : gOK S) (hv : v < 11) (hn : n < 9) (hz : gin z 2 = true) (hQ : ∀ mi', wC mi mi' → Q (some (.long (glow (sums (fun p => wgt v n p * gM S.1 p) (n + 1)) (10 ^ n) z))) (mi', ml, MR, 95)) : kJ 76 0 [some (.ref 0), some (.int (nI v)), some (.int (nI n)), some (.int z), none, none, none] [] (mi, ml, MR, 95) Q := by
  have ho := hg.1.1
  have hd := hg.1.2
  have c2 : gin (nI v) 11 = true := gin_nI hv (by decide)
  have c3 : gin (nI n) 9 = true := gin_nI hn (by decide)
  have hp10 := p10_lt hn
  have hpw : ∀ (m : kMem) Q', kJ 99 0 [some (.long 10), none, some (.int (nI n)), none, none, none] [] m Q' = Q' (some (.long (lI (10 ^ n)))) m := fun m Q' => J_power (b := 10) (by omega)
  simp only [↓s76_0, ↓s76_1, ↓s76_2, ↓s76_3, ↓s76_6, ↓s76_9, ↓s76_12, ↓s76_13, ↓s76_14, ↓s76_17, ↓s76_18, ↓s76_21, ↓s76_24, ↓s76_25, ↓s76_27, ↓s76_28, ↓s76_32, ↓s76_33, ↓s76_36, ↓s76_38, ↓s76_39, ↓s76_40, ↓s76_42, ↓s76_45, ↓s76_46, ↓s76_49, ↓s76_52, ↓s76_53, ↓s76_54, ↓s76_55, ↓s76_57, ↓s76_58, ↓s76_61, ↓s76_62, ↓s76_65, ↓s76_68, ↓s76_71, ↓s76_73, ↓s76_76, ↓s76_77, ↓s76_80, ↓s76_81, ↓s76_84, ↓J_isOdds, kNLn, kNLi, kNLr, va_rf_s, kOl_n, kOl_s, kap_n, kap_c, kb0, kb1, kbif, zif, z0, z1, Bool.false_eq_true, eq_self, not_true_eq_false, not_false_eq_true, if_true, if_false, and_self, true_and, false_and, and_true, and_false, c2, c3, hz, ki_0, ki_1, ki_14, mr_0_0, mr_0_1]
  refine C_copy_14_1 h.1 ho (fun mi0 h0 f0 => ?_)
  simp only [↓s76_0, ↓s76_1, ↓s76_2, ↓s76_3, ↓s76_6, ↓s76_9, ↓s76_12, ↓s76_13, ↓s76_14, ↓s76_17, ↓s76_18, ↓s76_21, ↓s76_24, ↓s76_25, ↓s76_27, ↓s76_28, ↓s76_32, ↓s76_33, ↓s76_36, ↓s76_38, ↓s76_39, ↓s76_40, ↓s76_42, ↓s76_45, ↓s76_46, ↓s76_49, ↓s76_52, ↓s76_53, ↓s76_54, ↓s76_55, ↓s76_57, ↓s76_58, ↓s76_61, ↓s76_62, ↓s76_65, ↓s76_68, ↓s76_71, ↓s76_73, ↓s76_76, ↓s76_77, ↓s76_80, ↓s76_81, ↓s76_84, kNLn, kNLi, kNLr, va_rf_s, kOl_n, kOl_s, kap_n, kap_c, kb0, kb1, kbif]
  have loop : ∀ (kk p : Nat) (mi1 : Nat → Nat → Int32), p + kk = n + 1 → kCR 14 (tpass p S.1) mi1 → wC mi mi1 → kJ 76 30 [some (.ref 0), some (.int (nI v)), some (.int (nI n)), some (.int z), some (.long (lI (sums (fun p => wgt v n p * gM S.1 p) p))), none, some (.int (nI p))] [] (mi1, ml, MR, 95) Q := by
    intro kk
    induction kk with
    | zero =>
      intro p mi1 hk h1 f1
      have e : p = n + 1 := by omega
      subst e
      have hlt : nI n < nI (n + 1) := nI_lt (by omega) (by omega)
      rw [s76_30]
      simp only [↓s76_0, ↓s76_1, ↓s76_2, ↓s76_3, ↓s76_6, ↓s76_9, ↓s76_12, ↓s76_13, ↓s76_14, ↓s76_17, ↓s76_18, ↓s76_21, ↓s76_24, ↓s76_25, ↓s76_27, ↓s76_28, ↓s76_32, ↓s76_33, ↓s76_36, ↓s76_38, ↓s76_39, ↓s76_40, ↓s76_42, ↓s76_45, ↓s76_46, ↓s76_49, ↓s76_52, ↓s76_53, ↓s76_54, ↓s76_55, ↓s76_57, ↓s76_58, ↓s76_61, ↓s76_62, ↓s76_65, ↓s76_68, ↓s76_71, ↓s76_73, ↓s76_76, ↓s76_77, ↓s76_80, ↓s76_81, ↓s76_84, ↓hpw, ↓J_lowest (odd_lt hv hn (gM_le ho)) hp10.1 hp10.2, kNLn, kNLi, kNLr, va_rf_s, kOl_n, kOl_s, kap_n, kap_c, kb0, kb1, kbif, zif, z0, z1, Bool.false_eq_true, eq_self, not_true_eq_false, not_false_eq_true, if_true, if_false, and_self, true_and, false_and, and_true, and_false, hlt]
      exact hQ mi1 f1
    | succ kk ih =>
      intro p mi1 hk h1 f1
      have hlt : ¬ nI n < nI p := nI_nlt (by omega) (by omega)
      have oU : tOK (tpass p S.1) := tpass_ok ho (by omega)
      have eM : tmoods (tpass p S.1) = gM S.1 p := tmoods_day
      have hm : ∀ Q', kJ 15 0 [some (.ref 14)] [] (mi1, ml, MR, 95) Q' = Q' (some (.int (nI (gM S.1 p)))) (mi1, ml, MR, 95) := fun Q' => by rw [J_moods kPost_14 h1 oU, eM]
      have l1 : (nI (gM S.1 p)).toInt64 = lI (gM S.1 p) := lI_of (by have := gM_le ho p; omega)
      have eS : sums (fun p => wgt v n p * gM S.1 p) (p + 1) = sums (fun p => wgt v n p * gM S.1 p) p + wgt v n p * gM S.1 p := rfl
      rw [s76_30]
      simp only [↓s76_0, ↓s76_1, ↓s76_2, ↓s76_3, ↓s76_6, ↓s76_9, ↓s76_12, ↓s76_13, ↓s76_14, ↓s76_17, ↓s76_18, ↓s76_21, ↓s76_24, ↓s76_25, ↓s76_27, ↓s76_28, ↓s76_32, ↓s76_33, ↓s76_36, ↓s76_38, ↓s76_39, ↓s76_40, ↓s76_42, ↓s76_45, ↓s76_46, ↓s76_49, ↓s76_52, ↓s76_53, ↓s76_54, ↓s76_55, ↓s76_57, ↓s76_58, ↓s76_61, ↓s76_62, ↓s76_65, ↓s76_68, ↓s76_71, ↓s76_73, ↓s76_76, ↓s76_77, ↓s76_80, ↓s76_81, ↓s76_84, ↓J_weight hv hn (by omega : p ≤ n), ↓hm, kNLn, kNLi, kNLr, va_rf_s, kOl_n, kOl_s, kap_n, kap_c, kb0, kb1, kbif, zif, z0, z1, Bool.false_eq_true, eq_self, not_true_eq_false, not_false_eq_true, if_true, if_false, and_self, true_and, false_and, and_true, and_false, hlt, ki_0, ki_14, mr_0_1, l1, lI_mul, lI_add, ← eS]
      refine J_pass kPost_14 h1 oU (by decide) (fun mi2 h2 f2 => ?_)
      simp only [↓s76_0, ↓s76_1, ↓s76_2, ↓s76_3, ↓s76_6, ↓s76_9, ↓s76_12, ↓s76_13, ↓s76_14, ↓s76_17, ↓s76_18, ↓s76_21, ↓s76_24, ↓s76_25, ↓s76_27, ↓s76_28, ↓s76_32, ↓s76_33, ↓s76_36, ↓s76_38, ↓s76_39, ↓s76_40, ↓s76_42, ↓s76_45, ↓s76_46, ↓s76_49, ↓s76_52, ↓s76_53, ↓s76_54, ↓s76_55, ↓s76_57, ↓s76_58, ↓s76_61, ↓s76_62, ↓s76_65, ↓s76_68, ↓s76_71, ↓s76_73, ↓s76_76, ↓s76_77, ↓s76_80, ↓s76_81, ↓s76_84, kNLn, kNLi, kNLr, va_rf_s, kOl_n, kOl_s, kap_n, kap_c, kb0, kb1, kbif, nI_add]
      rw [tpass_1, tD_pass] at h2
      exact ih (p + 1) mi2 (by omega) h2 (wC_tr f1 (wC_14 f2))
  exact loop (n + 1) 0 mi0 (by omega) (by rw [tpass_0]; exact h0) (wC_14 f0)
theorem bL_e {yC yR : Nat} {lC lR : kLcs} {S : gS} (hg : gOK S) (r : Int64) (h1 : ∀ mi ml Q, CI S mi → kJ yC 0 lC [] (mi, ml, MR, 95) Q = Q (some (.long r)) (mi, ml, MR, 95)) (h2 : ∀ mi ml Q, RI S mi → kJ yR 0 lR [] (mi, ml, MR, 95) Q = Q (some (.long r)) (mi, ml, MR, 95)) : bL yC lC yR lR S := ⟨S, r, hg, bC_e h1, bR_e h2⟩
theorem B_luck {x y z w : Int32} (hg : gOK S) : bL 75 [some (.ref 0), some (.int x), some (.int y), some (.int z), some (.int w), none, none, none] 178 [some (.ref 83), some (.int x), some (.int y), some (.int z), some (.int w)] S := by
  have ho := hg.1.1
  have o2 := ho.2.1
  by_cases c1 : gin x 11 = true
  · by_cases c2 : gin y (S.1 0 4) = true
    · by_cases c3 : gin z 9 = true
      · by_cases c4 : gin w 2 = true
        · obtain ⟨v, hv, rfl⟩ := gin_of c1 (by decide)
          obtain ⟨i, hi, rfl⟩ := gin_of c2 (by omega)
          obtain ⟨n, hn, rfl⟩ := gin_of c3 (by decide)
          refine ⟨S, _, hg, fun mi ml Q h hQ => C_luck_y h hg hv hi hn c4 (fun mi' e => hQ mi' (CI_w h e) (fC_w e)), fun mi ml Q h hQ => ?_⟩
          simp only [↓s178_0, ↓s178_1, ↓s178_2, ↓s178_3, ↓s178_6, ↓s178_9, ↓s178_12, ↓s178_13, ↓s178_14, ↓s178_17, ↓s178_20, ↓s178_21, ↓s178_22, ↓s178_23, ↓s178_26, ↓s178_29, ↓s178_32, ↓s178_34, ↓s178_37, ↓s178_40, ↓s178_43, ↓s178_44, ↓s178_45, ↓s178_46, ↓s178_47, ↓s178_48, ↓s178_51, ↓s178_52, ↓s178_55, ↓s178_56, ↓s178_59, ↓s178_61, ↓s178_64, ↓R_i10, ↓R_i8, ↓R_isLetter h.1 ho, ↓R_isPart, kNLn, kNLi, kNLr, va_rf_s, kOl_n, kOl_s, kap_n, kap_c, kb0, kb1, kbif, zif, z0, z1, Bool.false_eq_true, eq_self, not_true_eq_false, not_false_eq_true, if_true, if_false, and_self, true_and, false_and, and_true, and_false, c1, c2, c3, c4, ki_83]
          refine R_odds h.1 hg.1 hv hn (Or.inr ⟨i, hi, rfl⟩) (fun mi2 ml2 f2 m1 m2 m3 => ?_)
          have hp10 := p10_lt hn
          have eo : sumC S.1 (nI i) v n (2 ^ n) = sums (fun p => wgt v n p * gC S.1 (nI i) p) (n + 1) := odds_eq (G := gC S.1 (nI i)) hv hn
          rw [eo] at m1
          simp only [↓s178_0, ↓s178_1, ↓s178_2, ↓s178_3, ↓s178_6, ↓s178_9, ↓s178_12, ↓s178_13, ↓s178_14, ↓s178_17, ↓s178_20, ↓s178_21, ↓s178_22, ↓s178_23, ↓s178_26, ↓s178_29, ↓s178_32, ↓s178_34, ↓s178_37, ↓s178_40, ↓s178_43, ↓s178_44, ↓s178_45, ↓s178_46, ↓s178_47, ↓s178_48, ↓s178_51, ↓s178_52, ↓s178_55, ↓s178_56, ↓s178_59, ↓s178_61, ↓s178_64, ↓R_lowest (odd_lt hv hn (gC_le (T := S.1) (nI i))) hp10.1 hp10.2, kNLn, kNLi, kNLr, va_rf_s, kOl_n, kOl_s, kap_n, kap_c, kb0, kb1, kbif, ki_83, m1, m3]
          exact hQ mi2 ml2 (RI_w h f2) (fR_w f2)
        · refine bL_e hg (-1) (fun mi ml Q h => ?_) (fun mi ml Q h => ?_)
          · simp only [↓s75_0, ↓s75_1, ↓s75_4, ↓s75_5, ↓s75_8, ↓s75_11, ↓s75_12, ↓s75_13, ↓s75_15, ↓s75_18, ↓s75_21, ↓s75_24, ↓s75_25, ↓s75_26, ↓s75_29, ↓s75_30, ↓s75_33, ↓s75_36, ↓s75_37, ↓s75_39, ↓s75_40, ↓s75_44, ↓s75_45, ↓s75_48, ↓s75_49, ↓s75_52, ↓s75_55, ↓s75_56, ↓s75_57, ↓s75_58, ↓s75_61, ↓s75_63, ↓s75_64, ↓s75_65, ↓s75_67, ↓s75_70, ↓s75_71, ↓s75_73, ↓s75_74, ↓s75_77, ↓s75_78, ↓s75_81, ↓s75_84, ↓s75_87, ↓s75_89, ↓s75_92, ↓s75_93, ↓s75_96, ↓s75_98, ↓s75_101, ↓J_hasLetterG kPost_1 h.1 ho, ↓J_isOdds, kNLn, kNLi, kNLr, va_rf_s, kOl_n, kOl_s, kap_n, kap_c, kb0, kb1, kbif, zif, z0, z1, Bool.false_eq_true, eq_self, not_true_eq_false, not_false_eq_true, if_true, if_false, and_self, true_and, false_and, and_true, and_false, c1, c2, c3, c4, ki_0, ki_1, mr_0_0]
          · simp only [↓s178_0, ↓s178_1, ↓s178_2, ↓s178_3, ↓s178_6, ↓s178_9, ↓s178_12, ↓s178_13, ↓s178_14, ↓s178_17, ↓s178_20, ↓s178_21, ↓s178_22, ↓s178_23, ↓s178_26, ↓s178_29, ↓s178_32, ↓s178_34, ↓s178_37, ↓s178_40, ↓s178_43, ↓s178_44, ↓s178_45, ↓s178_46, ↓s178_47, ↓s178_48, ↓s178_51, ↓s178_52, ↓s178_55, ↓s178_56, ↓s178_59, ↓s178_61, ↓s178_64, ↓R_i10, ↓R_i8, ↓R_isLetter h.1 ho, ↓R_isPart, kNLn, kNLi, kNLr, va_rf_s, kOl_n, kOl_s, kap_n, kap_c, kb0, kb1, kbif, zif, z0, z1, Bool.false_eq_true, eq_self, not_true_eq_false, not_false_eq_true, if_true, if_false, and_self, true_and, false_and, and_true, and_false, c1, c2, c3, c4, ki_83]
      · refine bL_e hg (-1) (fun mi ml Q h => ?_) (fun mi ml Q h => ?_)
        · simp only [↓s75_0, ↓s75_1, ↓s75_4, ↓s75_5, ↓s75_8, ↓s75_11, ↓s75_12, ↓s75_13, ↓s75_15, ↓s75_18, ↓s75_21, ↓s75_24, ↓s75_25, ↓s75_26, ↓s75_29, ↓s75_30, ↓s75_33, ↓s75_36, ↓s75_37, ↓s75_39, ↓s75_40, ↓s75_44, ↓s75_45, ↓s75_48, ↓s75_49, ↓s75_52, ↓s75_55, ↓s75_56, ↓s75_57, ↓s75_58, ↓s75_61, ↓s75_63, ↓s75_64, ↓s75_65, ↓s75_67, ↓s75_70, ↓s75_71, ↓s75_73, ↓s75_74, ↓s75_77, ↓s75_78, ↓s75_81, ↓s75_84, ↓s75_87, ↓s75_89, ↓s75_92, ↓s75_93, ↓s75_96, ↓s75_98, ↓s75_101, ↓J_hasLetterG kPost_1 h.1 ho, ↓J_isOdds, kNLn, kNLi, kNLr, va_rf_s, kOl_n, kOl_s, kap_n, kap_c, kb0, kb1, kbif, zif, z0, z1, Bool.false_eq_true, eq_self, not_true_eq_false, not_false_eq_true, if_true, if_false, and_self, true_and, false_and, and_true, and_false, c1, c2, c3, ki_0, ki_1, mr_0_0]
        · simp only [↓s178_0, ↓s178_1, ↓s178_2, ↓s178_3, ↓s178_6, ↓s178_9, ↓s178_12, ↓s178_13, ↓s178_14, ↓s178_17, ↓s178_20, ↓s178_21, ↓s178_22, ↓s178_23, ↓s178_26, ↓s178_29, ↓s178_32, ↓s178_34, ↓s178_37, ↓s178_40, ↓s178_43, ↓s178_44, ↓s178_45, ↓s178_46, ↓s178_47, ↓s178_48, ↓s178_51, ↓s178_52, ↓s178_55, ↓s178_56, ↓s178_59, ↓s178_61, ↓s178_64, ↓R_i10, ↓R_i8, ↓R_isLetter h.1 ho, ↓R_isPart, kNLn, kNLi, kNLr, va_rf_s, kOl_n, kOl_s, kap_n, kap_c, kb0, kb1, kbif, zif, z0, z1, Bool.false_eq_true, eq_self, not_true_eq_false, not_false_eq_true, if_true, if_false, and_self, true_and, false_and, and_true, and_false, c1, c2, c3, ki_83]
    · refine bL_e hg (-1) (fun mi ml Q h => ?_) (fun mi ml Q h => ?_)
      · simp only [↓s75_0, ↓s75_1, ↓s75_4, ↓s75_5, ↓s75_8, ↓s75_11, ↓s75_12, ↓s75_13, ↓s75_15, ↓s75_18, ↓s75_21, ↓s75_24, ↓s75_25, ↓s75_26, ↓s75_29, ↓s75_30, ↓s75_33, ↓s75_36, ↓s75_37, ↓s75_39, ↓s75_40, ↓s75_44, ↓s75_45, ↓s75_48, ↓s75_49, ↓s75_52, ↓s75_55, ↓s75_56, ↓s75_57, ↓s75_58, ↓s75_61, ↓s75_63, ↓s75_64, ↓s75_65, ↓s75_67, ↓s75_70, ↓s75_71, ↓s75_73, ↓s75_74, ↓s75_77, ↓s75_78, ↓s75_81, ↓s75_84, ↓s75_87, ↓s75_89, ↓s75_92, ↓s75_93, ↓s75_96, ↓s75_98, ↓s75_101, ↓J_hasLetterG kPost_1 h.1 ho, ↓J_isOdds, kNLn, kNLi, kNLr, va_rf_s, kOl_n, kOl_s, kap_n, kap_c, kb0, kb1, kbif, zif, z0, z1, Bool.false_eq_true, eq_self, not_true_eq_false, not_false_eq_true, if_true, if_false, and_self, true_and, false_and, and_true, and_false, c1, c2, ki_0, ki_1, mr_0_0]
      · simp only [↓s178_0, ↓s178_1, ↓s178_2, ↓s178_3, ↓s178_6, ↓s178_9, ↓s178_12, ↓s178_13, ↓s178_14, ↓s178_17, ↓s178_20, ↓s178_21, ↓s178_22, ↓s178_23, ↓s178_26, ↓s178_29, ↓s178_32, ↓s178_34, ↓s178_37, ↓s178_40, ↓s178_43, ↓s178_44, ↓s178_45, ↓s178_46, ↓s178_47, ↓s178_48, ↓s178_51, ↓s178_52, ↓s178_55, ↓s178_56, ↓s178_59, ↓s178_61, ↓s178_64, ↓R_i10, ↓R_i8, ↓R_isLetter h.1 ho, ↓R_isPart, kNLn, kNLi, kNLr, va_rf_s, kOl_n, kOl_s, kap_n, kap_c, kb0, kb1, kbif, zif, z0, z1, Bool.false_eq_true, eq_self, not_true_eq_false, not_false_eq_true, if_true, if_false, and_self, true_and, false_and, and_true, and_false, c1, c2, ki_83]
  · refine bL_e hg (-1) (fun mi ml Q h => ?_) (fun mi ml Q h => ?_)
    · by_cases c2 : gin y (S.1 0 4) = true
      · simp only [↓s75_0, ↓s75_1, ↓s75_4, ↓s75_5, ↓s75_8, ↓s75_11, ↓s75_12, ↓s75_13, ↓s75_15, ↓s75_18, ↓s75_21, ↓s75_24, ↓s75_25, ↓s75_26, ↓s75_29, ↓s75_30, ↓s75_33, ↓s75_36, ↓s75_37, ↓s75_39, ↓s75_40, ↓s75_44, ↓s75_45, ↓s75_48, ↓s75_49, ↓s75_52, ↓s75_55, ↓s75_56, ↓s75_57, ↓s75_58, ↓s75_61, ↓s75_63, ↓s75_64, ↓s75_65, ↓s75_67, ↓s75_70, ↓s75_71, ↓s75_73, ↓s75_74, ↓s75_77, ↓s75_78, ↓s75_81, ↓s75_84, ↓s75_87, ↓s75_89, ↓s75_92, ↓s75_93, ↓s75_96, ↓s75_98, ↓s75_101, ↓J_hasLetterG kPost_1 h.1 ho, ↓J_isOdds, kNLn, kNLi, kNLr, va_rf_s, kOl_n, kOl_s, kap_n, kap_c, kb0, kb1, kbif, zif, z0, z1, Bool.false_eq_true, eq_self, not_true_eq_false, not_false_eq_true, if_true, if_false, and_self, true_and, false_and, and_true, and_false, c1, c2, ki_0, ki_1, mr_0_0]
      · simp only [↓s75_0, ↓s75_1, ↓s75_4, ↓s75_5, ↓s75_8, ↓s75_11, ↓s75_12, ↓s75_13, ↓s75_15, ↓s75_18, ↓s75_21, ↓s75_24, ↓s75_25, ↓s75_26, ↓s75_29, ↓s75_30, ↓s75_33, ↓s75_36, ↓s75_37, ↓s75_39, ↓s75_40, ↓s75_44, ↓s75_45, ↓s75_48, ↓s75_49, ↓s75_52, ↓s75_55, ↓s75_56, ↓s75_57, ↓s75_58, ↓s75_61, ↓s75_63, ↓s75_64, ↓s75_65, ↓s75_67, ↓s75_70, ↓s75_71, ↓s75_73, ↓s75_74, ↓s75_77, ↓s75_78, ↓s75_81, ↓s75_84, ↓s75_87, ↓s75_89, ↓s75_92, ↓s75_93, ↓s75_96, ↓s75_98, ↓s75_101, ↓J_hasLetterG kPost_1 h.1 ho, ↓J_isOdds, kNLn, kNLi, kNLr, va_rf_s, kOl_n, kOl_s, kap_n, kap_c, kb0, kb1, kbif, zif, z0, z1, Bool.false_eq_true, eq_self, not_true_eq_false, not_false_eq_true, if_true, if_false, and_self, true_and, false_and, and_true, and_false, c1, c2, ki_0, ki_1, mr_0_0]
    · simp only [↓s178_0, ↓s178_1, ↓s178_2, ↓s178_3, ↓s178_6, ↓s178_9, ↓s178_12, ↓s178_13, ↓s178_14, ↓s178_17, ↓s178_20, ↓s178_21, ↓s178_22, ↓s178_23, ↓s178_26, ↓s178_29, ↓s178_32, ↓s178_34, ↓s178_37, ↓s178_40, ↓s178_43, ↓s178_44, ↓s178_45, ↓s178_46, ↓s178_47, ↓s178_48, ↓s178_51, ↓s178_52, ↓s178_55, ↓s178_56, ↓s178_59, ↓s178_61, ↓s178_64, ↓R_i10, kNLn, kNLi, kNLr, va_rf_s, kOl_n, kOl_s, kap_n, kap_c, kb0, kb1, kbif, zif, z0, z1, Bool.false_eq_true, eq_self, not_true_eq_false, not_false_eq_true, if_true, if_false, and_self, true_and, false_and, and_true, and_false, c1, ki_83]
theorem B_mean {x z w : Int32} (hg : gOK S) : bL 76 [some (.ref 0), some (.int x), some (.int z), some (.int w), none, none, none] 179 [some (.ref 83), some (.int x), some (.int z), some (.int w)] S := by
  have ho := hg.1.1
  by_cases c1 : gin x 11 = true
  · by_cases c3 : gin z 9 = true
    · by_cases c4 : gin w 2 = true
      · obtain ⟨v, hv, rfl⟩ := gin_of c1 (by decide)
        obtain ⟨n, hn, rfl⟩ := gin_of c3 (by decide)
        refine ⟨S, _, hg, fun mi ml Q h hQ => C_mean_y h hg hv hn c4 (fun mi' e => hQ mi' (CI_w h e) (fC_w e)), fun mi ml Q h hQ => ?_⟩
        simp only [↓s179_0, ↓s179_1, ↓s179_2, ↓s179_3, ↓s179_6, ↓s179_9, ↓s179_12, ↓s179_13, ↓s179_14, ↓s179_15, ↓s179_18, ↓s179_21, ↓s179_24, ↓s179_25, ↓s179_28, ↓s179_31, ↓s179_34, ↓s179_35, ↓s179_36, ↓s179_37, ↓s179_39, ↓s179_40, ↓s179_43, ↓s179_44, ↓s179_47, ↓s179_48, ↓s179_51, ↓s179_52, ↓s179_55, ↓R_i10, ↓R_i8, ↓R_isPart, kNLn, kNLi, kNLr, va_rf_s, kOl_n, kOl_s, kap_n, kap_c, kb0, kb1, kbif, zif, z0, z1, Bool.false_eq_true, eq_self, not_true_eq_false, not_false_eq_true, if_true, if_false, and_self, true_and, false_and, and_true, and_false, c1, c3, c4, ki_83]
        refine R_odds h.1 hg.1 hv hn (Or.inl rfl) (fun mi2 ml2 f2 m1 m2 m3 => ?_)
        have hp10 := p10_lt hn
        have eo : sumM S.1 v n (2 ^ n) = sums (fun p => wgt v n p * gM S.1 p) (n + 1) := odds_eq (G := gM S.1) hv hn
        rw [eo] at m2
        simp only [↓s179_0, ↓s179_1, ↓s179_2, ↓s179_3, ↓s179_6, ↓s179_9, ↓s179_12, ↓s179_13, ↓s179_14, ↓s179_15, ↓s179_18, ↓s179_21, ↓s179_24, ↓s179_25, ↓s179_28, ↓s179_31, ↓s179_34, ↓s179_35, ↓s179_36, ↓s179_37, ↓s179_39, ↓s179_40, ↓s179_43, ↓s179_44, ↓s179_47, ↓s179_48, ↓s179_51, ↓s179_52, ↓s179_55, ↓R_lowest (odd_lt hv hn (gM_le ho)) hp10.1 hp10.2, kNLn, kNLi, kNLr, va_rf_s, kOl_n, kOl_s, kap_n, kap_c, kb0, kb1, kbif, ki_83, m2, m3]
        exact hQ mi2 ml2 (RI_w h f2) (fR_w f2)
      · refine bL_e hg (-1) (fun mi ml Q h => ?_) (fun mi ml Q h => ?_)
        · simp only [↓s76_0, ↓s76_1, ↓s76_2, ↓s76_3, ↓s76_6, ↓s76_9, ↓s76_12, ↓s76_13, ↓s76_14, ↓s76_17, ↓s76_18, ↓s76_21, ↓s76_24, ↓s76_25, ↓s76_27, ↓s76_28, ↓s76_32, ↓s76_33, ↓s76_36, ↓s76_38, ↓s76_39, ↓s76_40, ↓s76_42, ↓s76_45, ↓s76_46, ↓s76_49, ↓s76_52, ↓s76_53, ↓s76_54, ↓s76_55, ↓s76_57, ↓s76_58, ↓s76_61, ↓s76_62, ↓s76_65, ↓s76_68, ↓s76_71, ↓s76_73, ↓s76_76, ↓s76_77, ↓s76_80, ↓s76_81, ↓s76_84, ↓J_isOdds, kNLn, kNLi, kNLr, va_rf_s, kOl_n, kOl_s, kap_n, kap_c, kb0, kb1, kbif, zif, z0, z1, Bool.false_eq_true, eq_self, not_true_eq_false, not_false_eq_true, if_true, if_false, and_self, true_and, false_and, and_true, and_false, c1, c3, c4]
        · simp only [↓s179_0, ↓s179_1, ↓s179_2, ↓s179_3, ↓s179_6, ↓s179_9, ↓s179_12, ↓s179_13, ↓s179_14, ↓s179_15, ↓s179_18, ↓s179_21, ↓s179_24, ↓s179_25, ↓s179_28, ↓s179_31, ↓s179_34, ↓s179_35, ↓s179_36, ↓s179_37, ↓s179_39, ↓s179_40, ↓s179_43, ↓s179_44, ↓s179_47, ↓s179_48, ↓s179_51, ↓s179_52, ↓s179_55, ↓R_i10, ↓R_i8, ↓R_isPart, kNLn, kNLi, kNLr, va_rf_s, kOl_n, kOl_s, kap_n, kap_c, kb0, kb1, kbif, zif, z0, z1, Bool.false_eq_true, eq_self, not_true_eq_false, not_false_eq_true, if_true, if_false, and_self, true_and, false_and, and_true, and_false, c1, c3, c4]
    · refine bL_e hg (-1) (fun mi ml Q h => ?_) (fun mi ml Q h => ?_)
      · simp only [↓s76_0, ↓s76_1, ↓s76_2, ↓s76_3, ↓s76_6, ↓s76_9, ↓s76_12, ↓s76_13, ↓s76_14, ↓s76_17, ↓s76_18, ↓s76_21, ↓s76_24, ↓s76_25, ↓s76_27, ↓s76_28, ↓s76_32, ↓s76_33, ↓s76_36, ↓s76_38, ↓s76_39, ↓s76_40, ↓s76_42, ↓s76_45, ↓s76_46, ↓s76_49, ↓s76_52, ↓s76_53, ↓s76_54, ↓s76_55, ↓s76_57, ↓s76_58, ↓s76_61, ↓s76_62, ↓s76_65, ↓s76_68, ↓s76_71, ↓s76_73, ↓s76_76, ↓s76_77, ↓s76_80, ↓s76_81, ↓s76_84, ↓J_isOdds, kNLn, kNLi, kNLr, va_rf_s, kOl_n, kOl_s, kap_n, kap_c, kb0, kb1, kbif, zif, z0, z1, Bool.false_eq_true, eq_self, not_true_eq_false, not_false_eq_true, if_true, if_false, and_self, true_and, false_and, and_true, and_false, c1, c3]
      · simp only [↓s179_0, ↓s179_1, ↓s179_2, ↓s179_3, ↓s179_6, ↓s179_9, ↓s179_12, ↓s179_13, ↓s179_14, ↓s179_15, ↓s179_18, ↓s179_21, ↓s179_24, ↓s179_25, ↓s179_28, ↓s179_31, ↓s179_34, ↓s179_35, ↓s179_36, ↓s179_37, ↓s179_39, ↓s179_40, ↓s179_43, ↓s179_44, ↓s179_47, ↓s179_48, ↓s179_51, ↓s179_52, ↓s179_55, ↓R_i10, ↓R_i8, ↓R_isPart, kNLn, kNLi, kNLr, va_rf_s, kOl_n, kOl_s, kap_n, kap_c, kb0, kb1, kbif, zif, z0, z1, Bool.false_eq_true, eq_self, not_true_eq_false, not_false_eq_true, if_true, if_false, and_self, true_and, false_and, and_true, and_false, c1, c3]
  · refine bL_e hg (-1) (fun mi ml Q h => ?_) (fun mi ml Q h => ?_)
    · simp only [↓s76_0, ↓s76_1, ↓s76_2, ↓s76_3, ↓s76_6, ↓s76_9, ↓s76_12, ↓s76_13, ↓s76_14, ↓s76_17, ↓s76_18, ↓s76_21, ↓s76_24, ↓s76_25, ↓s76_27, ↓s76_28, ↓s76_32, ↓s76_33, ↓s76_36, ↓s76_38, ↓s76_39, ↓s76_40, ↓s76_42, ↓s76_45, ↓s76_46, ↓s76_49, ↓s76_52, ↓s76_53, ↓s76_54, ↓s76_55, ↓s76_57, ↓s76_58, ↓s76_61, ↓s76_62, ↓s76_65, ↓s76_68, ↓s76_71, ↓s76_73, ↓s76_76, ↓s76_77, ↓s76_80, ↓s76_81, ↓s76_84, ↓J_isOdds, kNLn, kNLi, kNLr, va_rf_s, kOl_n, kOl_s, kap_n, kap_c, kb0, kb1, kbif, zif, z0, z1, Bool.false_eq_true, eq_self, not_true_eq_false, not_false_eq_true, if_true, if_false, and_self, true_and, false_and, and_true, and_false, c1]
    · simp only [↓s179_0, ↓s179_1, ↓s179_2, ↓s179_3, ↓s179_6, ↓s179_9, ↓s179_12, ↓s179_13, ↓s179_14, ↓s179_15, ↓s179_18, ↓s179_21, ↓s179_24, ↓s179_25, ↓s179_28, ↓s179_31, ↓s179_34, ↓s179_35, ↓s179_36, ↓s179_37, ↓s179_39, ↓s179_40, ↓s179_43, ↓s179_44, ↓s179_47, ↓s179_48, ↓s179_51, ↓s179_52, ↓s179_55, ↓R_i10, kNLn, kNLi, kNLr, va_rf_s, kOl_n, kOl_s, kap_n, kap_c, kb0, kb1, kbif, zif, z0, z1, Bool.false_eq_true, eq_self, not_true_eq_false, not_false_eq_true, if_true, if_false, and_self, true_and, false_and, and_true, and_false, c1]
end LUCK
