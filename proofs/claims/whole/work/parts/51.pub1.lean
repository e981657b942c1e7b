/-! public methods: fault, torn, rule, pace, burn, feed, end -/
theorem qif {Q : Option Value → kMem → Prop} {m : kMem} {c : Prop} [Decidable c] {a b : Int32} : Q (some (.int (if c then a else b))) m = if c then Q (some (.int a)) m else Q (some (.int b)) m := by
  split <;> rfl
section PUB1
variable {mi : Nat → Nat → Int32} {ml : Nat → Nat → Int64} {m : kMem} {Q : Option Value → kMem → Prop} {S : gS}
theorem C_fault (h : CI S mi) : kJ 55 0 [some (.ref 0)] [] (mi, ml, MR, 95) Q = Q (some (.int (nI S.2.2.2.1))) (mi, ml, MR, 95) := by
  simp only [↓s55_0, ↓s55_1, ↓s55_4, kNLn, kNLi, kNLr, va_rf_s, kOl_n, kOl_s, kap_n, kap_c, kb0, kb1, kbif, ki_0, h.2.2.2.1]
theorem R_fault (h : RI S mi) : kJ 125 0 [some (.ref 83)] [] (mi, ml, MR, 95) Q = Q (some (.int (nI S.2.2.2.1))) (mi, ml, MR, 95) := by
  simp only [↓s125_0, ↓s125_1, ↓s125_4, kNLn, kNLi, kNLr, va_rf_s, kOl_n, kOl_s, kap_n, kap_c, kb0, kb1, kbif, ki_83, h.2.2.2.1]
theorem C_torn (h : CI S mi) : kJ 88 0 [some (.ref 0)] [] (mi, ml, MR, 95) Q = Q (some (.int (nI S.2.2.2.2.2))) (mi, ml, MR, 95) := by
  simp only [↓s88_0, ↓s88_1, ↓s88_4, kNLn, kNLi, kNLr, va_rf_s, kOl_n, kOl_s, kap_n, kap_c, kb0, kb1, kbif, ki_0, h.2.2.2.2.2]
theorem R_torn (h : RI S mi) : kJ 196 0 [some (.ref 83)] [] (mi, ml, MR, 95) Q = Q (some (.int (nI S.2.2.2.2.2))) (mi, ml, MR, 95) := by
  simp only [↓s196_0, ↓s196_1, ↓s196_4, kNLn, kNLi, kNLr, va_rf_s, kOl_n, kOl_s, kap_n, kap_c, kb0, kb1, kbif, ki_83, h.2.2.2.2.2]
def grule (T : tT) (x : Int32) : Int32 := if x = nI 0 then nI (T 0 0) else if x = nI 1 then nI (T 0 4) else if x = nI 2 then nI (T 0 12) else if x = nI 3 then nI (T 0 11) else if x = nI 4 then nI (tmoods T) else if x = nI 5 then nI (tlegF T 2 (T 0 4)) else if x = nI 6 then nI (tlegF T 3 (T 0 4)) else (-1)
theorem C_rule {x : Int32} (h : CI S mi) (hg : gOK S) : kJ 56 0 [some (.ref 0), some (.int x)] [] (mi, ml, MR, 95) Q = Q (some (.int (grule S.1 x))) (mi, ml, MR, 95) := by
  have ho := hg.1.1
  obtain ⟨h0, h4, h11, h12, h13⟩ := h.1.1
  simp only [↓s56_0, ↓s56_1, ↓s56_44, ↓s56_45, ↓s56_48, ↓s56_51, ↓s56_52, ↓s56_53, ↓s56_56, ↓s56_59, ↓s56_60, ↓s56_61, ↓s56_64, ↓s56_67, ↓s56_68, ↓s56_69, ↓s56_72, ↓s56_75, ↓s56_76, ↓s56_77, ↓s56_80, ↓s56_83, ↓s56_84, ↓s56_85, ↓s56_88, ↓s56_89, ↓s56_92, ↓s56_93, ↓s56_94, ↓s56_97, ↓s56_98, ↓s56_101, ↓s56_102, ↓s56_103, ↓J_moods kPost_1 h.1 ho, ↓J_legs kPost_1 h.1 ho (by decide : 2 < 4), ↓J_legs kPost_1 h.1 ho (by decide : 3 < 4), kNLn, kNLi, kNLr, va_rf_s, kOl_n, kOl_s, kap_n, kap_c, kb0, kb1, kbif, ki_0, ki_1, mr_0_0, h0, h4, h11, h12, grule, qif]
theorem R_rule {x : Int32} (h : RI S mi) (hg : gOK S) (hQ : ∀ mi', RI S mi' → fR mi mi' → Q (some (.int (grule S.1 x))) (mi', ml, MR, 95)) : kJ 149 0 [some (.ref 83), some (.int x)] [] (mi, ml, MR, 95) Q := by
  have ho := hg.1.1
  simp only [↓s149_0, ↓s149_1, ↓s149_4, ↓s149_5, ↓s149_48, ↓s149_49, ↓s149_52, ↓s149_54, ↓s149_55, ↓s149_56, ↓s149_57, ↓s149_60, ↓s149_62, ↓s149_63, ↓s149_64, ↓s149_65, ↓s149_68, ↓s149_70, ↓s149_71, ↓s149_72, ↓s149_73, ↓s149_76, ↓s149_78, ↓s149_79, ↓s149_80, ↓s149_81, ↓s149_84, ↓s149_85, ↓s149_86, ↓s149_87, ↓s149_90, ↓s149_91, ↓s149_92, ↓s149_93, ↓s149_96, ↓s149_97, ↓s149_98, kNLn, kNLi, kNLr, va_rf_s, kOl_n, kOl_s, kap_n, kap_c, kb0, kb1, kbif, ki_83]
  refine R_startsT h.1 ho (fun mi1 h1 f1 => ?_)
  have e84 : mi1 84 = mi 84 := f1.1 84 (by omega) (by omega)
  have hR : RI S mi1 := RI_T (T := S.1) h (by rw [e84]; exact h.1) (sR_q f1)
  have h9 := hQ mi1 hR (fR_q f1)
  obtain ⟨⟨q1, q2, q3, q4, q5⟩, -⟩ := hR.1
  have c15 : (nI 15).toNatClampNeg = 15 := rfl
  have v15 : vp_in (nI 15) 222 := vp_in_nI (by decide) (by decide)
  have c52 : (nI 52).toNatClampNeg = 52 := rfl
  have v52 : vp_in (nI 52) 222 := vp_in_nI (by decide) (by decide)
  have c53 : (nI 53).toNatClampNeg = 53 := rfl
  have v53 : vp_in (nI 53) 222 := vp_in_nI (by decide) (by decide)
  have c54 : (nI 54).toNatClampNeg = 54 := rfl
  have v54 : vp_in (nI 54) 222 := vp_in_nI (by decide) (by decide)
  simp only [↓s149_0, ↓s149_1, ↓s149_4, ↓s149_5, ↓s149_48, ↓s149_49, ↓s149_52, ↓s149_54, ↓s149_55, ↓s149_56, ↓s149_57, ↓s149_60, ↓s149_62, ↓s149_63, ↓s149_64, ↓s149_65, ↓s149_68, ↓s149_70, ↓s149_71, ↓s149_72, ↓s149_73, ↓s149_76, ↓s149_78, ↓s149_79, ↓s149_80, ↓s149_81, ↓s149_84, ↓s149_85, ↓s149_86, ↓s149_87, ↓s149_90, ↓s149_91, ↓s149_92, ↓s149_93, ↓s149_96, ↓s149_97, ↓s149_98, ↓R_moods h1.1 ho, ↓R_those h1.1 ho (by decide : 2 < 4), ↓R_those h1.1 ho (by decide : 3 < 4), kNLn, kNLi, kNLr, va_rf_s, kOl_n, kOl_s, kap_n, kap_c, kb0, kb1, kbif, ki_83, ki_84, kl_84, mr_83_0, c15, v15, c52, v52, c53, v53, c54, v54, true_and, q1, q2, q3, q4]
  simp only [grule, qif] at h9
  exact h9
/-! pace -/
theorem kCR_pace {b v : Nat} {T : tT} (h : kCR b T mi) : kCR b (tup T 0 11 v) (kup mi b 11 (nI v)) := by
  obtain ⟨⟨h0, h4, h11, h12, h13⟩, hrow⟩ := h
  refine ⟨?_, fun a j h1 h2 h3 => ?_⟩
  · rw [kup_eq, pk_un (by omega), pk_un (by omega), pk_us, pk_un (by omega), pk_un (by omega), tup_n (by omega), tup_n (by omega), tup_s, tup_n (by omega), tup_n (by omega)]
    exact ⟨h0, h4, rfl, h12, h13⟩
  · have e : tcnt (tup T 0 11 v) a = tcnt T a := by
      unfold tcnt
      rw [tup_n (by omega), tup_n (by omega), tup_n (by omega)]
    rw [e] at h3
    rw [kup_ne (by omega), tup_n (by omega)]
    exact hrow a j h1 h2 h3
theorem kRR_pace {a : Nat → Int32} {T : tT} {v : Nat} (ho : tOK T) (h : kRR a T) : kRR (upd a 53 (nI v)) (tup T 0 11 v) := by
  obtain ⟨⟨h1, h2, h3, h4, h5⟩, hP, hL, hS⟩ := h
  have o1 := ho.1
  have o2 := ho.2.1
  have o3 := ho.2.2.1
  refine ⟨?_, fun q u hq hu => ?_, fun k u hk hu => ?_, fun j u hj hu => ?_⟩
  · rw [pk_un (by omega), pk_un (by omega), pk_us, pk_un (by omega), pk_un (by omega), tup_n (by omega), tup_n (by omega), tup_s, tup_n (by omega), tup_n (by omega)]
    exact ⟨h1, h2, rfl, h4, h5⟩
  · rw [tup_n (by omega)] at hq
    rw [pk_un (by omega), tup_n (by omega)]
    exact hP q u hq hu
  · rw [tup_n (by omega)] at hk
    rw [pk_un (by omega), tup_n (by omega)]
    exact hL k u hk hu
  · rw [tup_n (by omega)] at hj
    rw [pk_un (by omega), tup_n (by omega)]
    exact hS j u hj hu
theorem tGood_pace {T : tT} {v : Nat} (h : tGood T) (hv : 1 ≤ v ∧ v ≤ 4) : tGood (tup T 0 11 v) := by
  obtain ⟨⟨h1, h2, h3, h4, h5, h6, h7, h8⟩, hd⟩ := h
  have e : ∀ r j, ¬ (r = 0 ∧ j = 11) → tup T 0 11 v r j = T r j := fun r j hr => tup_n hr
  refine ⟨⟨by rw [e 0 0 (by omega)]; exact h1, by rw [e 0 4 (by omega)]; exact h2, by rw [e 0 13 (by omega)]; exact h3, by rw [tup_s]; exact hv, by rw [e 0 12 (by omega)]; exact h5, fun p hp => ?_, fun i hi => ?_, fun j hj => ?_⟩, by rw [e 0 12 (by omega)]; exact hd⟩
  · rw [e 0 0 (by omega)] at hp
    rw [e 1 p (by omega), e 2 p (by omega), e 3 p (by omega)]
    exact h6 p hp
  · rw [e 0 4 (by omega)] at hi
    rw [e 0 0 (by omega), e 4 i (by omega), e 5 i (by omega), e 6 i (by omega), e 7 i (by omega), e 8 i (by omega), e 9 i (by omega)]
    exact h7 i hi
  · rw [e 0 13 (by omega)] at hj
    rw [e 0 0 (by omega), e 10 j (by omega), e 11 j (by omega), e 12 j (by omega)]
    exact h8 j hj
/-- pace: 1 to 4 -/
def gpaceOK (x : Int32) : Prop := gin x 5 = true ∧ x ≠ nI 0
theorem C_pace_y {v : Nat} (h : CI S mi) (hv : 1 ≤ v ∧ v ≤ 4) (hQ : ∀ mi', CI (tup S.1 0 11 v, S.2) mi' → fC mi mi' → Q (some (.int (nI (S.1 0 11)))) (mi', ml, MR, 95)) : kJ 62 0 [some (.ref 0), some (.int (nI v)), none] [] (mi, ml, MR, 95) Q := by
  have hb : nI 1 ≤ nI v ∧ nI v ≤ nI 4 := ⟨nI_le hv.1 (by omega), nI_le hv.2 (by omega)⟩
  have hw : ∀ Q', kJ 90 0 [some (.int (nI v)), some (.int (nI 1)), some (.int (nI 4))] [] (mi, ml, MR, 95) Q' = Q' (some (.int (nI 1))) (mi, ml, MR, 95) := fun Q' => by rw [J_within, if_pos hb]
  simp only [↓s62_0, ↓s62_1, ↓s62_2, ↓s62_3, ↓s62_6, ↓s62_9, ↓s62_10, ↓s62_11, ↓s62_12, ↓s62_15, ↓s62_18, ↓s62_19, ↓s62_20, ↓s62_23, ↓s62_24, ↓s62_27, ↓s62_28, ↓hw, kNLn, kNLi, kNLr, va_rf_s, kOl_n, kOl_s, kap_n, kap_c, kb0, kb1, kbif, ki_0, ki_1, mr_0_0, z1, if_false, h.1.1.2.2.1]
  have f1 : kFr 1 mi (kup mi 1 11 (nI v)) := kFr_up0 kFr_rf
  exact hQ _ (CI_T h (kCR_pace h.1) (sC_now f1)) (fC_now f1)
theorem C_pace_n {x : Int32} (hx : ¬ gpaceOK x) : kJ 62 0 [some (.ref 0), some (.int x), none] [] (mi, ml, MR, 95) Q = Q (some (.int (-1))) (mi, ml, MR, 95) := by
  have hb : ¬ (nI 1 ≤ x ∧ x ≤ nI 4) := by rw [gin_w1 (by decide)]; exact hx
  have hw : ∀ Q', kJ 90 0 [some (.int x), some (.int (nI 1)), some (.int (nI 4))] [] (mi, ml, MR, 95) Q' = Q' (some (.int (nI 0))) (mi, ml, MR, 95) := fun Q' => by rw [J_within, if_neg hb]
  simp only [↓s62_0, ↓s62_1, ↓s62_2, ↓s62_3, ↓s62_6, ↓s62_9, ↓s62_10, ↓s62_11, ↓s62_12, ↓s62_15, ↓s62_18, ↓s62_19, ↓s62_20, ↓s62_23, ↓s62_24, ↓s62_27, ↓s62_28, ↓hw, kNLn, kNLi, kNLr, va_rf_s, kOl_n, kOl_s, kap_n, kap_c, kb0, kb1, kbif, z0, if_true]
theorem gin_r1 {x : Int32} {n : Nat} {hi : Int64} (hh : hi.toInt = (n : Int) - 1) : ((1 : Int64) ≤ x.toInt64 ∧ x.toInt64 ≤ hi) = (gin x n = true ∧ x ≠ nI 0) := by
  unfold gin
  rw [decide_eq_true_iff, Int64.le_iff_toInt_le, Int64.le_iff_toInt_le, hh, toI64, ne_eq, ← Int32.toInt_inj]
  have e1 : ((1 : Int64)).toInt = 1 := by decide
  have e2 : (nI 0).toInt = 0 := by decide
  rw [e1, e2]
  apply propext
  omega
theorem sR_84 {f : Nat → Nat → Int32} {k : Nat} {v : Int32} (hk : k < 74) : sR f (kup f 84 k v) := ⟨fun q hq => kup_ne (by omega), fun k hk => by rw [kup_ne (by omega)], fun j hj => by rw [kup_eq, pk_un (by omega)]⟩
theorem fR_84 {f : Nat → Nat → Int32} {k : Nat} {v : Int32} : fR f (kup f 84 k v) := fun q hq => kup_ne (by omega)
theorem R_pace_y {v : Nat} (h : RI S mi) (hg : gOK S) (hv : 1 ≤ v ∧ v ≤ 4) (hQ : ∀ mi', RI (tup S.1 0 11 v, S.2) mi' → fR mi mi' → Q (some (.int (nI (S.1 0 11)))) (mi', ml, MR, 95)) : kJ 157 0 [some (.ref 83), some (.int (nI v))] [] (mi, ml, MR, 95) Q := by
  have e : ((4 : Int64)).toInt = ((5 : Nat) : Int) - 1 := by decide
  have hok : gin (nI v) 5 = true ∧ nI v ≠ nI 0 := ⟨gin_nI (by omega) (by decide), fun z => by have := (nI_eq (by omega) (by decide)).mp z; omega⟩
  have hbk : ∀ Q', kJ 153 0 [some (.ref 83), some (.int (nI 53)), some (.int (nI v)), none] [] (mi, ml, MR, 95) Q' = Q' (some (.int (mi 84 53))) (kup mi 84 53 (nI v), ml, MR, 95) := fun Q' => R_becomes (by decide)
  simp only [↓s157_0, ↓s157_1, ↓s157_2, ↓s157_3, ↓s157_6, ↓s157_9, ↓s157_12, ↓s157_13, ↓s157_15, ↓s157_16, ↓s157_19, ↓s157_22, ↓s157_23, ↓R_in, ↓hbk, kNLn, kNLi, kNLr, va_rf_s, kOl_n, kOl_s, kap_n, kap_c, kb0, kb1, kbif, ki_83, gin_r1 e, if_pos hok, z1, if_false, h.1.1.2.2.1]
  refine hQ _ (RI_T h ?_ (sR_84 (by decide))) fR_84
  rw [kup_eq]
  exact kRR_pace hg.1.1 h.1
theorem R_pace_n {x : Int32} (hx : ¬ gpaceOK x) : kJ 157 0 [some (.ref 83), some (.int x)] [] (mi, ml, MR, 95) Q = Q (some (.int (-1))) (mi, ml, MR, 95) := by
  have e : ((4 : Int64)).toInt = ((5 : Nat) : Int) - 1 := by decide
  simp only [↓s157_0, ↓s157_1, ↓s157_2, ↓s157_3, ↓s157_6, ↓s157_9, ↓s157_12, ↓s157_13, ↓s157_15, ↓s157_16, ↓s157_19, ↓s157_22, ↓s157_23, ↓R_in, kNLn, kNLi, kNLr, va_rf_s, kOl_n, kOl_s, kap_n, kap_c, kb0, kb1, kbif, ki_83, gin_r1 e, if_neg (show ¬ (gin x 5 = true ∧ x ≠ nI 0) from hx), z0, if_true]
end PUB1
