/-! the reference's day -/
theorem tread_date {T : tT} {v i : Nat} : ∀ r k, tread (tup T 0 12 v) i r k = tup (tread T i) 0 12 v r k := by
  intro r k
  have eh : twhom (tup T 0 12 v) i = twhom T i := by unfold twhom; rw [tup_n (by omega), tup_n (by omega), tup_n (by omega)]
  unfold tread
  simp only
  rw [eh, tup_n (a := 9) (by omega), tup_n (a := 1) (by omega), tup_n (a := 7) (by omega), tup_n (a := 3) (by omega)]
  have sw : ∀ (U : tT) (r1 k1 v1 : Nat), 1 ≤ r1 → tup (tup U 0 12 v) r1 k1 v1 = tup (tup U r1 k1 v1) 0 12 v := fun U r1 k1 v1 h1 => funext (fun a => funext (fun b => tup_swap (by omega) a b))
  split
  · rw [sw _ _ _ _ (by omega), sw _ _ _ _ (by omega)]
  · split
    · rw [sw _ _ _ _ (by omega), sw _ _ _ _ (by omega), sw _ _ _ _ (by omega)]
    · rw [sw _ _ _ _ (by omega), sw _ _ _ _ (by omega)]
theorem tgo_date {T : tT} {v i : Nat} : ∀ r k, tgo (tup T 0 12 v) i r k = tup (tgo T i) 0 12 v r k := by
  intro r k
  have eh : twhom (tup T 0 12 v) i = twhom T i := by unfold twhom; rw [tup_n (by omega), tup_n (by omega), tup_n (by omega)]
  have sw : ∀ (U : tT) (r1 k1 v1 : Nat), 1 ≤ r1 → tup (tup U 0 12 v) r1 k1 v1 = tup (tup U r1 k1 v1) 0 12 v := fun U r1 k1 v1 h1 => funext (fun a => funext (fun b => tup_swap (by omega) a b))
  unfold tgo
  simp only
  rw [eh, tup_n (a := 2) (by omega), tup_n (a := 8) (by omega), tup_n (a := 0) (by omega), sw _ _ _ _ (by omega)]
  split
  · exact tread_date r k
  · rfl
section RDAY
variable {mi : Nat → Nat → Int32} {ml : Nat → Nat → Int64} {m : kMem} {Q : Option Value → kMem → Prop} {i k t p n w A B : Nat} {T : tT}
def treach (T : tT) (i : Nat) : Prop := tnear (T 8 i) (T 2 (twhom T i)) (T 0 11) = T 2 (twhom T i)
theorem R_goes (h : kRM mi T A B) (ho : tOK T) (hi : i < T 0 4) (hw : T 9 i < 2) (hQ : ∀ mi' A' B', (A' = A + (if tnear (T 8 i) (T 2 (twhom T i)) (T 0 11) = T 2 (twhom T i) ∧ T 9 i = 1 then 1 else 0)) → (B' = B + (if tnear (T 8 i) (T 2 (twhom T i)) (T 0 11) = T 2 (twhom T i) then 1 else 0)) → kRM mi' (tgo T i) A' B' → kFq mi mi' → Q none (mi', ml, MR, 95)) : kJ 143 0 [some (.ref 83), some (.int (nI i)), none, none, none, none, none] [] (mi, ml, MR, 95) Q := by
  obtain ⟨hR, hA, hB⟩ := id h
  have hi6 : i < 6 := Nat.lt_of_lt_of_le hi ho.2.1
  have hwl := twhom_lt ho hi
  have hg10 := (ho.2.2.2.2.2.1 _ hwl).2.1
  have ha10 := (ho.2.2.2.2.2.2.1 i hi).2.2.2.2.1
  have hv5 : T 0 11 < 5 := by have := ho.2.2.2.1; omega
  have hb := lgb_at ha10 hg10 hv5 ho.2.2.2.1.1
  have hnl := near_lt _ ha10 _ hg10 (T 0 11) hv5
  have e4 : ∀ Q', kJ 134 0 [some (.ref 83), some (.int (nI i)), some (.int (nI 4))] [] (mi, ml, MR, 95) Q' = Q' (some (.int (nI (T 8 i)))) (mi, ml, MR, 95) := fun Q' => R_ofL hR ho hi (w := 4) (by decide)
  have e1 : ∀ Q', kJ 132 0 [some (.ref 83), some (.int (nI (twhom T i))), some (.int (nI 1))] [] (mi, ml, MR, 95) Q' = Q' (some (.int (nI (T 2 (twhom T i))))) (mi, ml, MR, 95) := fun Q' => R_of hR ho hwl (w := 1) (by decide)
  have s4 : ∀ (mi1 : Nat → Nat → Int32) (v : Int32) Q', kJ 135 0 [some (.ref 83), some (.int (nI i)), some (.int (nI 4)), some (.int v)] [] (mi1, ml, MR, 95) Q' = Q' none (kup mi1 85 (16 + 6 * i + 4) v, ml, MR, 95) := fun mi1 v Q' => R_setL hi6 (by decide)
  have hc : (nI 53).toNatClampNeg = 53 := rfl
  have hv : vp_in (nI 53) 74 := vp_in_nI (by decide) (by decide)
  have hpc : mi 85 53 = nI (T 0 11) := hR.1.2.2.1
  have o1 : tOK (tup T 8 i (tnear (T 8 i) (T 2 (twhom T i)) (T 0 11))) := tOK_upL ho (Or.inr (Or.inl ⟨rfl, hnl⟩))
  have h1 : kRM (kup mi 85 (16 + 6 * i + 4) (nI (tnear (T 8 i) (T 2 (twhom T i)) (T 0 11)))) (tup T 8 i (tnear (T 8 i) (T 2 (twhom T i)) (T 0 11))) A B := by
    refine ⟨?_, ?_, ?_⟩
    · rw [kup_eq]
      exact kRR_upL ho hR hi (by decide)
    · rw [kup_ne (by decide)]; exact hA
    · rw [kup_ne (by decide)]; exact hB
  have yes : tnear (T 8 i) (T 2 (twhom T i)) (T 0 11) = T 2 (twhom T i) → ∀ Q' : Option Value → kMem → Prop, (∀ mi', Q none (mi', ml, MR, 95) → Q' none (mi', ml, MR, 95)) → kJ 142 0 [some (.ref 83), some (.int (nI i)), none, none, none, none] [] (kup mi 85 (16 + 6 * i + 4) (nI (tnear (T 8 i) (T 2 (twhom T i)) (T 0 11))), ml, MR, 95) Q' := by
    intro hg Q' hq
    refine R_isRead h1 o1 (by rw [tup_n (by omega)]; exact hi) (by rw [tup_n (by omega)]; exact hw) (fun mi2 h2 f2 => hq mi2 ?_)
    rw [tup_n (a := 9) (by omega)] at h2
    have eT : tgo T i = tread (tup T 8 i (tnear (T 8 i) (T 2 (twhom T i)) (T 0 11))) i := by
      unfold tgo
      simp only
      rw [if_pos hg]
    rw [← eT] at h2
    refine hQ mi2 _ _ ?_ ?_ h2 (kFq_tr (kFq_up kFq_rf) f2)
    · by_cases c : T 9 i = 1
      · rw [if_pos c, if_pos ⟨hg, c⟩]
      · rw [if_neg c, if_neg (fun z => c z.2)]
    · rw [if_pos hg]
  have no : ¬ tnear (T 8 i) (T 2 (twhom T i)) (T 0 11) = T 2 (twhom T i) → Q none (kup mi 85 (16 + 6 * i + 4) (nI (tnear (T 8 i) (T 2 (twhom T i)) (T 0 11))), ml, MR, 95) := by
    intro hg
    have eT : tgo T i = tup T 8 i (tnear (T 8 i) (T 2 (twhom T i)) (T 0 11)) := by
      unfold tgo
      simp only
      rw [if_neg hg]
    rw [← eT] at h1
    exact hQ _ A B (by rw [if_neg (fun z => hg z.1)]; rfl) (by rw [if_neg hg]; rfl) h1 (kFq_up kFq_rf)
  simp only [↓s143_0, ↓s143_1, ↓s143_2, ↓s143_3, ↓s143_6, ↓s143_7, ↓s143_10, ↓s143_11, ↓s143_12, ↓s143_13, ↓s143_14, ↓s143_17, ↓s143_18, ↓s143_19, ↓s143_20, ↓s143_21, ↓s143_23, ↓s143_25, ↓s143_28, ↓s143_30, ↓s143_31, ↓s143_34, ↓s143_36, ↓s143_38, ↓s143_40, ↓s143_41, ↓s143_44, ↓s143_46, ↓s143_47, ↓s143_50, ↓s143_52, ↓s143_55, ↓s143_56, ↓s143_59, ↓s143_61, ↓s143_62, ↓s143_64, ↓s143_65, ↓s143_66, ↓s143_67, ↓s143_69, ↓s143_72, ↓s143_73, ↓s143_75, ↓s143_76, ↓s143_79, ↓s143_80, ↓s143_82, ↓s143_83, ↓s143_86, ↓s143_88, ↓s143_90, ↓s143_93, ↓s143_94, ↓s143_95, ↓s143_98, ↓R_whom hR ho hi, ↓e4, ↓e1, ↓s4, kNLn, kNLi, kNLr, va_rf_s, kOl_n, kOl_s, kap_n, kap_c, kb0, kb1, kbif, ki_83, ki_85, kl_85, mr_83_1, hc, hv, true_and, hpc]
  unfold lgb at hb
  by_cases c0 : 0 ≤ nI (T 2 (twhom T i)) - nI (T 8 i)
  · rw [if_pos c0] at hb
    simp only [if_pos c0]
    by_cases c1 : nI (T 0 11) ≤ nI (T 2 (twhom T i)) - nI (T 8 i)
    · rw [if_pos c1, Bool.and_eq_true, decide_eq_true_iff] at hb
      simp only [if_pos c1]
      rw [hb.1]
      have hb2 : (nI (T 0 11) = nI (T 2 (twhom T i)) - nI (T 8 i)) ↔ tnear (T 8 i) (T 2 (twhom T i)) (T 0 11) = T 2 (twhom T i) := by
        have := hb.2
        rw [beq_iff_eq, decide_eq_decide] at this
        exact this
      by_cases hg : tnear (T 8 i) (T 2 (twhom T i)) (T 0 11) = T 2 (twhom T i)
      · rw [if_pos (hb2.mpr hg)]
        exact yes hg _ (fun mi' q => by simp only [↓s143_0, ↓s143_1, ↓s143_2, ↓s143_3, ↓s143_6, ↓s143_7, ↓s143_10, ↓s143_11, ↓s143_12, ↓s143_13, ↓s143_14, ↓s143_17, ↓s143_18, ↓s143_19, ↓s143_20, ↓s143_21, ↓s143_23, ↓s143_25, ↓s143_28, ↓s143_30, ↓s143_31, ↓s143_34, ↓s143_36, ↓s143_38, ↓s143_40, ↓s143_41, ↓s143_44, ↓s143_46, ↓s143_47, ↓s143_50, ↓s143_52, ↓s143_55, ↓s143_56, ↓s143_59, ↓s143_61, ↓s143_62, ↓s143_64, ↓s143_65, ↓s143_66, ↓s143_67, ↓s143_69, ↓s143_72, ↓s143_73, ↓s143_75, ↓s143_76, ↓s143_79, ↓s143_80, ↓s143_82, ↓s143_83, ↓s143_86, ↓s143_88, ↓s143_90, ↓s143_93, ↓s143_94, ↓s143_95, ↓s143_98, kNLn, kNLi, kNLr, va_rf_s, kOl_n, kOl_s, kap_n, kap_c, kb0, kb1, kbif]; exact q)
      · rw [if_neg (fun z => hg (hb2.mp z))]
        exact no hg
    · rw [if_neg c1, Bool.and_eq_true, decide_eq_true_iff, decide_eq_true_iff] at hb
      simp only [if_neg c1, if_true]
      rw [hb.1]
      exact yes hb.2 _ (fun mi' q => by simp only [↓s143_0, ↓s143_1, ↓s143_2, ↓s143_3, ↓s143_6, ↓s143_7, ↓s143_10, ↓s143_11, ↓s143_12, ↓s143_13, ↓s143_14, ↓s143_17, ↓s143_18, ↓s143_19, ↓s143_20, ↓s143_21, ↓s143_23, ↓s143_25, ↓s143_28, ↓s143_30, ↓s143_31, ↓s143_34, ↓s143_36, ↓s143_38, ↓s143_40, ↓s143_41, ↓s143_44, ↓s143_46, ↓s143_47, ↓s143_50, ↓s143_52, ↓s143_55, ↓s143_56, ↓s143_59, ↓s143_61, ↓s143_62, ↓s143_64, ↓s143_65, ↓s143_66, ↓s143_67, ↓s143_69, ↓s143_72, ↓s143_73, ↓s143_75, ↓s143_76, ↓s143_79, ↓s143_80, ↓s143_82, ↓s143_83, ↓s143_86, ↓s143_88, ↓s143_90, ↓s143_93, ↓s143_94, ↓s143_95, ↓s143_98, kNLn, kNLi, kNLr, va_rf_s, kOl_n, kOl_s, kap_n, kap_c, kb0, kb1, kbif]; exact q)
  · rw [if_neg c0] at hb
    simp only [if_neg c0]
    by_cases c1 : nI (T 0 11) ≤ -(nI (T 2 (twhom T i)) - nI (T 8 i))
    · rw [if_pos c1, Bool.and_eq_true, decide_eq_true_iff] at hb
      simp only [if_pos c1]
      rw [hb.1]
      have hb2 : (nI (T 0 11) = -(nI (T 2 (twhom T i)) - nI (T 8 i))) ↔ tnear (T 8 i) (T 2 (twhom T i)) (T 0 11) = T 2 (twhom T i) := by
        have := hb.2
        rw [beq_iff_eq, decide_eq_decide] at this
        exact this
      by_cases hg : tnear (T 8 i) (T 2 (twhom T i)) (T 0 11) = T 2 (twhom T i)
      · rw [if_pos (hb2.mpr hg)]
        exact yes hg _ (fun mi' q => by simp only [↓s143_0, ↓s143_1, ↓s143_2, ↓s143_3, ↓s143_6, ↓s143_7, ↓s143_10, ↓s143_11, ↓s143_12, ↓s143_13, ↓s143_14, ↓s143_17, ↓s143_18, ↓s143_19, ↓s143_20, ↓s143_21, ↓s143_23, ↓s143_25, ↓s143_28, ↓s143_30, ↓s143_31, ↓s143_34, ↓s143_36, ↓s143_38, ↓s143_40, ↓s143_41, ↓s143_44, ↓s143_46, ↓s143_47, ↓s143_50, ↓s143_52, ↓s143_55, ↓s143_56, ↓s143_59, ↓s143_61, ↓s143_62, ↓s143_64, ↓s143_65, ↓s143_66, ↓s143_67, ↓s143_69, ↓s143_72, ↓s143_73, ↓s143_75, ↓s143_76, ↓s143_79, ↓s143_80, ↓s143_82, ↓s143_83, ↓s143_86, ↓s143_88, ↓s143_90, ↓s143_93, ↓s143_94, ↓s143_95, ↓s143_98, kNLn, kNLi, kNLr, va_rf_s, kOl_n, kOl_s, kap_n, kap_c, kb0, kb1, kbif]; exact q)
      · rw [if_neg (fun z => hg (hb2.mp z))]
        exact no hg
    · rw [if_neg c1, Bool.and_eq_true, decide_eq_true_iff, decide_eq_true_iff] at hb
      simp only [if_neg c1, if_true]
      rw [hb.1]
      exact yes hb.2 _ (fun mi' q => by simp only [↓s143_0, ↓s143_1, ↓s143_2, ↓s143_3, ↓s143_6, ↓s143_7, ↓s143_10, ↓s143_11, ↓s143_12, ↓s143_13, ↓s143_14, ↓s143_17, ↓s143_18, ↓s143_19, ↓s143_20, ↓s143_21, ↓s143_23, ↓s143_25, ↓s143_28, ↓s143_30, ↓s143_31, ↓s143_34, ↓s143_36, ↓s143_38, ↓s143_40, ↓s143_41, ↓s143_44, ↓s143_46, ↓s143_47, ↓s143_50, ↓s143_52, ↓s143_55, ↓s143_56, ↓s143_59, ↓s143_61, ↓s143_62, ↓s143_64, ↓s143_65, ↓s143_66, ↓s143_67, ↓s143_69, ↓s143_72, ↓s143_73, ↓s143_75, ↓s143_76, ↓s143_79, ↓s143_80, ↓s143_82, ↓s143_83, ↓s143_86, ↓s143_88, ↓s143_90, ↓s143_93, ↓s143_94, ↓s143_95, ↓s143_98, kNLn, kNLi, kNLr, va_rf_s, kOl_n, kOl_s, kap_n, kap_c, kb0, kb1, kbif]; exact q)
/-- arrivals among the first letters of a day -/
def tarrF (T : tT) : Nat → Nat
  | 0 => 0
  | i + 1 => tarrF T i + (if tway (tdayF T i) i = true ∧ tnear (tdayF T i 8 i) (tdayF T i 2 (twhom (tdayF T i) i)) (T 0 11) = tdayF T i 2 (twhom (tdayF T i) i) ∧ tdayF T i 9 i = 1 then 1 else 0)
theorem R_day (h : kRM mi T A B) (ho : tOK T) (hd : T 0 12 < 1999) (hQ : ∀ mi', kRM mi' (tup (tday T) 0 12 (T 0 12 + 1)) (A + tarrF T (T 0 4)) (B + trdF T (T 0 4)) → kFq mi mi' → Q none (mi', ml, MR, 95)) : kJ 144 0 [some (.ref 83), some (.int (nI 1)), none] [] (mi, ml, MR, 95) Q := by
  simp only [↓s144_0, ↓s144_1, ↓s144_3, ↓s144_4, ↓s144_7, ↓s144_9, ↓s144_10, ↓s144_13, ↓s144_14, ↓s144_17, ↓s144_18, ↓s144_19, ↓s144_22, ↓s144_25, ↓s144_26, ↓s144_27, ↓s144_30, ↓s144_33, ↓s144_36, ↓s144_37, ↓s144_40, ↓s144_42, ↓s144_43, ↓s144_44, ↓s144_45, ↓s144_46, ↓s144_47, kNLn, kNLi, kNLr, va_rf_s, kOl_n, kOl_s, kap_n, kap_c, kb0, kb1, kbif]
  have c52 : (nI 52).toNatClampNeg = 52 := rfl
  have v52 : vp_in (nI 52) 74 := vp_in_nI (by decide) (by decide)
  have c54 : (nI 54).toNatClampNeg = 54 := rfl
  have v54 : vp_in (nI 54) 74 := vp_in_nI (by decide) (by decide)
  have loop : ∀ (n i : Nat) (mi1 : Nat → Nat → Int32), i + n = T 0 4 → kRM mi1 (tdayF T i) (A + tarrF T i) (B + trdF T i) → kFq mi mi1 → kJ 144 2 [some (.ref 83), some (.int (nI 1)), some (.int (nI i))] [] (mi1, ml, MR, 95) Q := by
    intro n
    induction n with
    | zero =>
      intro i mi1 hn h1 f1
      have e : i = T 0 4 := by omega
      have ok := tdayF_ok ho i (by omega)
      have hlet : mi1 85 52 = nI (T 0 4) := by
        rw [h1.1.1.2.1, ok.2 0 4 (by omega) (by omega) (by omega) (by omega)]
      have hday : mi1 85 54 = nI (T 0 12) := by
        rw [h1.1.1.2.2.2.1, ok.2 0 12 (by omega) (by omega) (by omega) (by omega)]
      rw [s144_2]
      simp only [↓s144_0, ↓s144_1, ↓s144_3, ↓s144_4, ↓s144_7, ↓s144_9, ↓s144_10, ↓s144_13, ↓s144_14, ↓s144_17, ↓s144_18, ↓s144_19, ↓s144_22, ↓s144_25, ↓s144_26, ↓s144_27, ↓s144_30, ↓s144_33, ↓s144_36, ↓s144_37, ↓s144_40, ↓s144_42, ↓s144_43, ↓s144_44, ↓s144_45, ↓s144_46, ↓s144_47, kNLn, kNLi, kNLr, va_rf_s, kOl_n, kOl_s, kap_n, kap_c, kb0, kb1, kbif, ki_83, ki_85, kl_85, mr_83_1, c52, v52, c54, v54, true_and, hlet, hday, nI_add]
      rw [if_pos (by rw [e]; exact Int32.le_refl _)]
      subst e
      refine hQ _ ⟨?_, ?_, ?_⟩ (kFq_up f1)
      · rw [kup_eq]
        exact kRR_day ok.1 h1.1
      · rw [kup_ne (by decide)]; exact h1.2.1
      · rw [kup_ne (by decide)]; exact h1.2.2
    | succ n ih =>
      intro i mi1 hn h1 f1
      have ok := tdayF_ok ho i (by omega)
      have ek : ∀ r k, r ≠ 3 → r ≠ 7 → r ≠ 8 → r ≠ 9 → tdayF T i r k = T r k := ok.2
      have hlet : mi1 85 52 = nI (T 0 4) := by
        rw [h1.1.1.2.1, ek 0 4 (by omega) (by omega) (by omega) (by omega)]
      have hi : i < tdayF T i 0 4 := by rw [ek 0 4 (by omega) (by omega) (by omega) (by omega)]; omega
      have hlt : ¬ nI (T 0 4) ≤ nI i := nI_ge (by omega) (by have := ho.2.1; omega)
      have ep : tdayF T i 0 11 = T 0 11 := ek 0 11 (by omega) (by omega) (by omega) (by omega)
      have e1 : nI i + nI 1 = nI (i + 1) := nI_add i 1
      rw [s144_2]
      simp only [↓s144_0, ↓s144_1, ↓s144_3, ↓s144_4, ↓s144_7, ↓s144_9, ↓s144_10, ↓s144_13, ↓s144_14, ↓s144_17, ↓s144_18, ↓s144_19, ↓s144_22, ↓s144_25, ↓s144_26, ↓s144_27, ↓s144_30, ↓s144_33, ↓s144_36, ↓s144_37, ↓s144_40, ↓s144_42, ↓s144_43, ↓s144_44, ↓s144_45, ↓s144_46, ↓s144_47, ↓R_way h1.1 ok.1 hi, kNLn, kNLi, kNLr, va_rf_s, kOl_n, kOl_s, kap_n, kap_c, kb0, kb1, kbif, ki_83, ki_85, kl_85, mr_83_1, c52, v52, true_and, hlet, hlt, if_false, z1, zif, e1]
      have eT : tdayF T (i + 1) = if tway (tdayF T i) i then tgo (tdayF T i) i else tdayF T i := rfl
      have eR : trdF T (i + 1) = trdF T i + (if tway (tdayF T i) i ∧ tnear (tdayF T i 8 i) (tdayF T i 2 (twhom (tdayF T i) i)) (T 0 11) = tdayF T i 2 (twhom (tdayF T i) i) then 1 else 0) := rfl
      have eA : tarrF T (i + 1) = tarrF T i + (if tway (tdayF T i) i = true ∧ tnear (tdayF T i 8 i) (tdayF T i 2 (twhom (tdayF T i) i)) (T 0 11) = tdayF T i 2 (twhom (tdayF T i) i) ∧ tdayF T i 9 i = 1 then 1 else 0) := rfl
      by_cases hw : tway (tdayF T i) i = true
      · rw [if_neg (by simpa using hw)]
        rw [if_pos hw] at eT
        refine R_goes h1 ok.1 hi (of_decide_eq_true hw) (fun mi2 A' B' eA' eB' h2 f2 => ?_)
        rw [ep] at eA' eB'
        rw [← eT] at h2
        have hA2 : A' = A + tarrF T (i + 1) := by
          rw [eA', eA]
          by_cases c : tnear (tdayF T i 8 i) (tdayF T i 2 (twhom (tdayF T i) i)) (T 0 11) = tdayF T i 2 (twhom (tdayF T i) i) ∧ tdayF T i 9 i = 1
          · rw [if_pos c, if_pos ⟨hw, c⟩]; omega
          · rw [if_neg c, if_neg (fun z => c z.2)]; omega
        have hB2 : B' = B + trdF T (i + 1) := by
          rw [eB', eR]
          by_cases c : tnear (tdayF T i 8 i) (tdayF T i 2 (twhom (tdayF T i) i)) (T 0 11) = tdayF T i 2 (twhom (tdayF T i) i)
          · rw [if_pos c, if_pos ⟨hw, c⟩]; omega
          · rw [if_neg c, if_neg (fun z => c z.2)]; omega
        rw [hA2, hB2] at h2
        exact ih (i + 1) mi2 (by omega) h2 (kFq_tr f1 f2)
      · rw [if_pos hw]
        rw [if_neg hw] at eT
        rw [if_neg (fun z => hw z.1)] at eR eA
        have h1' : kRM mi1 (tdayF T (i + 1)) (A + tarrF T (i + 1)) (B + trdF T (i + 1)) := by
          rw [eT, eR, eA]
          exact h1
        exact ih (i + 1) mi1 (by omega) h1' f1
  exact loop (T 0 4) 0 mi (by omega) h kFq_rf
/-- n days of the reference: what they leave, arrivals, readings -/
def tarr : Nat → tT → Nat
  | 0, _ => 0
  | n + 1, T => tarrF T (T 0 4) + tarr n (tday T)
def trd : Nat → tT → Nat
  | 0, _ => 0
  | n + 1, T => trdF T (T 0 4) + trd n (tday T)
theorem tdayF_date {T : tT} {v : Nat} : ∀ i r k, tdayF (tup T 0 12 v) i r k = tup (tdayF T i) 0 12 v r k := by
  intro i
  induction i with
  | zero => intro r k; rfl
  | succ i ih =>
    have e : tdayF (tup T 0 12 v) i = tup (tdayF T i) 0 12 v := funext (fun r => funext (fun k => ih r k))
    intro r k
    show (if tway (tdayF (tup T 0 12 v) i) i then tgo (tdayF (tup T 0 12 v) i) i else tdayF (tup T 0 12 v) i) r k = tup (if tway (tdayF T i) i then tgo (tdayF T i) i else tdayF T i) 0 12 v r k
    rw [e]
    have ew : tway (tup (tdayF T i) 0 12 v) i = tway (tdayF T i) i := by unfold tway; rw [tup_n (by omega)]
    rw [ew]
    split
    · exact tgo_date r k
    · rfl
theorem tday_date {T : tT} {v : Nat} : tday (tup T 0 12 v) = tup (tday T) 0 12 v := by
  unfold tday
  rw [tup_n (by omega)]
  exact funext (fun r => funext (fun k => tdayF_date _ r k))
theorem tdays_date {v : Nat} : ∀ (n : Nat) (T : tT), tdays n (tup T 0 12 v) = tup (tdays n T) 0 12 v := by
  intro n
  induction n with
  | zero => intro T; rfl
  | succ n ih => intro T; show tdays n (tday (tup T 0 12 v)) = _; rw [tday_date, ih]; rfl
theorem trdF_date {T : tT} {v : Nat} : ∀ i, trdF (tup T 0 12 v) i = trdF T i := by
  intro i
  induction i with
  | zero => rfl
  | succ i ih =>
    have e : tdayF (tup T 0 12 v) i = tup (tdayF T i) 0 12 v := funext (fun r => funext (fun k => tdayF_date i r k))
    unfold trdF
    rw [ih, e]
    have ew : tway (tup (tdayF T i) 0 12 v) i = tway (tdayF T i) i := by unfold tway; rw [tup_n (by omega)]
    have eh : twhom (tup (tdayF T i) 0 12 v) i = twhom (tdayF T i) i := by unfold twhom; rw [tup_n (by omega), tup_n (by omega), tup_n (by omega)]
    rw [ew, eh, tup_n (by omega), tup_n (by omega), tup_n (by omega)]
theorem tarrF_date {T : tT} {v : Nat} : ∀ i, tarrF (tup T 0 12 v) i = tarrF T i := by
  intro i
  induction i with
  | zero => rfl
  | succ i ih =>
    have e : tdayF (tup T 0 12 v) i = tup (tdayF T i) 0 12 v := funext (fun r => funext (fun k => tdayF_date i r k))
    unfold tarrF
    rw [ih, e]
    have ew : tway (tup (tdayF T i) 0 12 v) i = tway (tdayF T i) i := by unfold tway; rw [tup_n (by omega)]
    have eh : twhom (tup (tdayF T i) 0 12 v) i = twhom (tdayF T i) i := by unfold twhom; rw [tup_n (by omega), tup_n (by omega), tup_n (by omega)]
    rw [ew, eh, tup_n (by omega), tup_n (by omega), tup_n (by omega), tup_n (by omega)]
theorem trd_date {v : Nat} : ∀ (n : Nat) (T : tT), trd n (tup T 0 12 v) = trd n T := by
  intro n
  induction n with
  | zero => intro T; rfl
  | succ n ih => intro T; unfold trd; rw [tday_date, ih, trdF_date, tup_n (by omega)]
theorem tarr_date {v : Nat} : ∀ (n : Nat) (T : tT), tarr n (tup T 0 12 v) = tarr n T := by
  intro n
  induction n with
  | zero => intro T; rfl
  | succ n ih => intro T; unfold tarr; rw [tday_date, ih, tarrF_date, tup_n (by omega)]
theorem tup_tup {T : tT} {r k v u : Nat} : tup (tup T r k v) r k u = tup T r k u := by
  funext a b
  unfold tup
  split <;> rfl
theorem tpass_succ {T : tT} (ho : tOK T) : tpass n (tup (tday T) 0 12 (T 0 12 + 1)) = tpass (n + 1) T := by
  unfold tpass
  rw [tdays_date, tup_tup, tup_s]
  show _ = tup (tdays n (tday T)) 0 12 (T 0 12 + (n + 1))
  rw [show T 0 12 + 1 + n = T 0 12 + (n + 1) by omega]
theorem tpass_0 {T : tT} : tpass 0 T = T := by
  funext a b
  unfold tpass tup tdays
  split
  · next h => rw [h.1, h.2]; rfl
  · rfl
theorem R_days (h : kRM mi T A B) (ho : tOK T) (hn : n < 100) (hd : T 0 12 + n < 2000) (hQ : ∀ mi', kRM mi' (tpass n T) (A + tarr n T) (B + trd n T) → kFq mi mi' → Q none (mi', ml, MR, 95)) : kJ 145 0 [some (.ref 83), some (.int (nI n)), none] [] (mi, ml, MR, 95) Q := by
  simp only [↓s145_0, ↓s145_1, ↓s145_3, ↓s145_4, ↓s145_7, ↓s145_8, ↓s145_9, ↓s145_12, ↓s145_15, ↓s145_18, kNLn, kNLi, kNLr, va_rf_s, kOl_n, kOl_s, kap_n, kap_c, kb0, kb1, kbif]
  have loop : ∀ (k i : Nat) (T1 : tT) (A1 B1 : Nat) (mi1 : Nat → Nat → Int32), i + k = n → tOK T1 → T1 0 12 + k < 2000 → tpass k T1 = tpass n T → A1 + tarr k T1 = A + tarr n T → B1 + trd k T1 = B + trd n T → kRM mi1 T1 A1 B1 → kFq mi mi1 → kJ 145 2 [some (.ref 83), some (.int (nI n)), some (.int (nI i))] [] (mi1, ml, MR, 95) Q := by
    intro k
    induction k with
    | zero =>
      intro i T1 A1 B1 mi1 hk o1 d1 eT eA eB h1 f1
      rw [s145_2]
      simp only [↓s145_0, ↓s145_1, ↓s145_3, ↓s145_4, ↓s145_7, ↓s145_8, ↓s145_9, ↓s145_12, ↓s145_15, ↓s145_18, kNLn, kNLi, kNLr, va_rf_s, kOl_n, kOl_s, kap_n, kap_c, kb0, kb1, kbif]
      rw [if_pos (by rw [show i = n by omega]; exact Int32.le_refl _)]
      rw [tpass_0] at eT
      have eA' : A1 = A + tarr n T := eA
      have eB' : B1 = B + trd n T := eB
      rw [eT, eA', eB'] at h1
      exact hQ mi1 h1 f1
    | succ k ih =>
      intro i T1 A1 B1 mi1 hk o1 d1 eT eA eB h1 f1
      have hlt : ¬ nI n ≤ nI i := nI_ge (by omega) (by omega)
      have e1 : nI i + nI 1 = nI (i + 1) := nI_add i 1
      rw [s145_2]
      simp only [↓s145_0, ↓s145_1, ↓s145_3, ↓s145_4, ↓s145_7, ↓s145_8, ↓s145_9, ↓s145_12, ↓s145_15, ↓s145_18, kNLn, kNLi, kNLr, va_rf_s, kOl_n, kOl_s, kap_n, kap_c, kb0, kb1, kbif, ki_83, hlt, if_false, e1]
      refine R_day h1 o1 (by omega) (fun mi2 h2 f2 => ?_)
      refine ih (i + 1) _ _ _ mi2 (by omega) (tOK_day (tday_ok o1).1 (by omega)) ?_ ?_ ?_ ?_ h2 (kFq_tr f1 f2)
      · rw [tup_s]; omega
      · rw [tpass_succ o1]; exact eT
      · rw [tarr_date]
        have : tarr (k + 1) T1 = tarrF T1 (T1 0 4) + tarr k (tday T1) := rfl
        omega
      · rw [trd_date]
        have : trd (k + 1) T1 = trdF T1 (T1 0 4) + trd k (tday T1) := rfl
        omega
  exact loop n 0 T A B mi (by omega) ho hd rfl rfl rfl h kFq_rf
theorem R_moods (h : kRR (mi 85) T) (ho : tOK T) : kJ 146 0 [some (.ref 83), none, none] [] (mi, ml, MR, 95) Q = Q (some (.int (nI (tmoods T)))) (mi, ml, MR, 95) := by
  have c15 : (nI 15).toNatClampNeg = 15 := rfl
  have v15 : vp_in (nI 15) 74 := vp_in_nI (by decide) (by decide)
  have o1 := ho.1
  simp only [↓s146_0, ↓s146_1, ↓s146_2, ↓s146_3, ↓s146_5, ↓s146_6, ↓s146_9, ↓s146_11, ↓s146_12, ↓s146_15, ↓s146_16, ↓s146_17, ↓s146_18, ↓s146_19, ↓s146_22, ↓s146_23, ↓s146_24, ↓s146_27, ↓s146_30, ↓s146_31, kNLn, kNLi, kNLr, va_rf_s, kOl_n, kOl_s, kap_n, kap_c, kb0, kb1, kbif]
  have loop : ∀ (k p : Nat), p + k = T 0 0 → kJ 146 4 [some (.ref 83), some (.int (nI (tmoodF T p))), some (.int (nI p))] [] (mi, ml, MR, 95) Q = Q (some (.int (nI (tmoods T)))) (mi, ml, MR, 95) := by
    intro k
    induction k with
    | zero =>
      intro p hk
      have e : p = T 0 0 := by omega
      rw [s146_4]
      simp only [↓s146_0, ↓s146_1, ↓s146_2, ↓s146_3, ↓s146_5, ↓s146_6, ↓s146_9, ↓s146_11, ↓s146_12, ↓s146_15, ↓s146_16, ↓s146_17, ↓s146_18, ↓s146_19, ↓s146_22, ↓s146_23, ↓s146_24, ↓s146_27, ↓s146_30, ↓s146_31, kNLn, kNLi, kNLr, va_rf_s, kOl_n, kOl_s, kap_n, kap_c, kb0, kb1, kbif, ki_83, ki_85, kl_85, mr_83_1, c15, v15, true_and, h.1.1]
      rw [if_pos (by rw [e]; exact Int32.le_refl _), e]
      rfl
    | succ k ih =>
      intro p hk
      have hlt : ¬ nI (T 0 0) ≤ nI p := nI_ge (by omega) (by omega)
      have e2 : ∀ Q', kJ 132 0 [some (.ref 83), some (.int (nI p)), some (.int (nI 2))] [] (mi, ml, MR, 95) Q' = Q' (some (.int (nI (T 3 p)))) (mi, ml, MR, 95) := fun Q' => R_of h ho (by omega) (w := 2) (by decide)
      rw [s146_4]
      simp only [↓s146_0, ↓s146_1, ↓s146_2, ↓s146_3, ↓s146_5, ↓s146_6, ↓s146_9, ↓s146_11, ↓s146_12, ↓s146_15, ↓s146_16, ↓s146_17, ↓s146_18, ↓s146_19, ↓s146_22, ↓s146_23, ↓s146_24, ↓s146_27, ↓s146_30, ↓s146_31, ↓e2, kNLn, kNLi, kNLr, va_rf_s, kOl_n, kOl_s, kap_n, kap_c, kb0, kb1, kbif, ki_83, ki_85, kl_85, mr_83_1, c15, v15, true_and, h.1.1, hlt, if_false, nI_add]
      exact ih (p + 1) (by omega)
  exact loop (T 0 0) 0 (by omega)
theorem R_behind (h : kRM mi T A B) (ho : tOK T) (hn : n < 100) (hd : T 0 12 + n < 2000) (hQ : ∀ mi', kRM mi' (tpass n T) (A + tarr n T) (B + trd n T) → kFq mi mi' → Q (some (.int (nI (tmoods (tdays n T))))) (mi', ml, MR, 95)) : kJ 147 0 [some (.ref 83), some (.int (nI n))] [] (mi, ml, MR, 95) Q := by
  simp only [↓s147_0, ↓s147_1, ↓s147_2, ↓s147_5, ↓s147_6, ↓s147_9, kNLn, kNLi, kNLr, va_rf_s, kOl_n, kOl_s, kap_n, kap_c, kb0, kb1, kbif, ki_83]
  refine R_days h ho hn hd (fun mi2 h2 f2 => ?_)
  simp only [↓s147_0, ↓s147_1, ↓s147_2, ↓s147_5, ↓s147_6, ↓s147_9, kNLn, kNLi, kNLr, va_rf_s, kOl_n, kOl_s, kap_n, kap_c, kb0, kb1, kbif, ki_83, ↓R_moods h2.1 (tpass_ok ho hd)]
  have e : tmoods (tpass n T) = tmoods (tdays n T) := tmoods_day
  rw [e]
  exact hQ mi2 h2 f2
/-- the first n of one row, the rest of another -/
def kcp (n : Nat) (f g : Nat → Int32) : Nat → Int32 := fun k => if k < n then f k else g k
theorem kcp_0 {f g : Nat → Int32} : kcp 0 f g = g := funext (fun k => if_neg (Nat.not_lt_zero k))
theorem kcp_s {n : Nat} {f g : Nat → Int32} : upd (kcp n f g) n (f n) = kcp (n + 1) f g := by
  funext k
  by_cases h : k = n
  · subst h
    rw [pk_us]
    exact (if_pos (Nat.lt_succ_self _)).symm
  · rw [pk_un h]
    unfold kcp
    by_cases h2 : k < n
    · rw [if_pos h2, if_pos (by omega)]
    · rw [if_neg h2, if_neg (by omega)]
theorem kRow_up {f : Nat → Nat → Int32} {q k : Nat} {g : Nat → Int32} {v : Int32} : kup (kRow f q g) q k v = kRow f q (upd g k v) := by
  funext a
  unfold kup kRow
  split
  · next h => rw [if_pos rfl]
  · rfl
theorem R_starts : kJ 130 0 [some (.ref 83), none] [] (mi, ml, MR, 95) Q = Q none (kup (kup (kRow mi 85 (kcp 74 (mi 84) (mi 85))) 83 14 (nI 0)) 83 15 (nI 0), ml, MR, 95) := by
  simp only [↓s130_0, ↓s130_1, ↓s130_3, ↓s130_5, ↓s130_8, ↓s130_9, ↓s130_12, ↓s130_13, ↓s130_14, ↓s130_17, ↓s130_18, ↓s130_19, ↓s130_20, ↓s130_23, ↓s130_26, ↓s130_27, ↓s130_28, ↓s130_31, ↓s130_32, ↓s130_33, ↓s130_36, kNLn, kNLi, kNLr, va_rf_s, kOl_n, kOl_s, kap_n, kap_c, kb0, kb1, kbif]
  have loop : ∀ (k i : Nat), i + k = 74 → kJ 130 2 [some (.ref 83), some (.int (nI i))] [] (kRow mi 85 (kcp i (mi 84) (mi 85)), ml, MR, 95) Q = Q none (kup (kup (kRow mi 85 (kcp 74 (mi 84) (mi 85))) 83 14 (nI 0)) 83 15 (nI 0), ml, MR, 95) := by
    intro k
    induction k with
    | zero =>
      intro i hk
      have e : i = 74 := by omega
      rw [s130_2]
      simp only [↓s130_0, ↓s130_1, ↓s130_3, ↓s130_5, ↓s130_8, ↓s130_9, ↓s130_12, ↓s130_13, ↓s130_14, ↓s130_17, ↓s130_18, ↓s130_19, ↓s130_20, ↓s130_23, ↓s130_26, ↓s130_27, ↓s130_28, ↓s130_31, ↓s130_32, ↓s130_33, ↓s130_36, kNLn, kNLi, kNLr, va_rf_s, kOl_n, kOl_s, kap_n, kap_c, kb0, kb1, kbif, ki_83, ki_84, ki_85]
      rw [if_pos (by rw [e]; exact Int32.le_refl _), e]
    | succ k ih =>
      intro i hk
      have hlt : ¬ nI 74 ≤ nI i := nI_ge (by omega) (by omega)
      have hc : (nI i).toNatClampNeg = i := nI_clamp (by omega)
      have hv : vp_in (nI i) 74 := vp_in_nI (by omega) (by decide)
      have hv2 : vp_in (nI i) 222 := vp_in_nI (by omega) (by decide)
      have e84 : kRow mi 85 (kcp i (mi 84) (mi 85)) 84 = mi 84 := kRow_ne (by decide)
      rw [s130_2]
      simp only [↓s130_0, ↓s130_1, ↓s130_3, ↓s130_5, ↓s130_8, ↓s130_9, ↓s130_12, ↓s130_13, ↓s130_14, ↓s130_17, ↓s130_18, ↓s130_19, ↓s130_20, ↓s130_23, ↓s130_26, ↓s130_27, ↓s130_28, ↓s130_31, ↓s130_32, ↓s130_33, ↓s130_36, kNLn, kNLi, kNLr, va_rf_s, kOl_n, kOl_s, kap_n, kap_c, kb0, kb1, kbif, ki_83, ki_84, ki_85, kl_84, kl_85, mr_83_0, mr_83_1, hlt, if_false, hc, hv, hv2, true_and, e84, kRow_up, kcp_s, nI_add]
      exact ih (i + 1) (by omega)
  have := loop 74 0 (by omega)
  rw [kcp_0] at this
  have e0 : kRow mi 85 (mi 85) = mi := by
    funext a
    unfold kRow
    split
    · next h => rw [h]
    · rfl
  rw [e0] at this
  exact this
theorem kRR_cong {a a' : Nat → Int32} (ho : tOK T) (e : ∀ k, k < 74 → a' k = a k) (h : kRR a T) : kRR a' T := by
  obtain ⟨⟨h1, h2, h3, h4, h5⟩, hP, hL, hS⟩ := h
  have o1 := ho.1
  have o2 := ho.2.1
  have o3 := ho.2.2.1
  exact ⟨⟨(e _ (by omega)).trans h1, (e _ (by omega)).trans h2, (e _ (by omega)).trans h3, (e _ (by omega)).trans h4, (e _ (by omega)).trans h5⟩, fun p w hp hw => (e _ (by omega)).trans (hP p w hp hw), fun p w hp hw => (e _ (by omega)).trans (hL p w hp hw), fun p w hp hw => (e _ (by omega)).trans (hS p w hp hw)⟩
/-- behind starts() -/
theorem R_startsT (h : kRR (mi 84) T) (ho : tOK T) (hQ : ∀ mi', kRM mi' T 0 0 → kFq mi mi' → Q none (mi', ml, MR, 95)) : kJ 130 0 [some (.ref 83), none] [] (mi, ml, MR, 95) Q := by
  rw [R_starts]
  refine hQ _ ⟨?_, ?_, ?_⟩ ⟨fun q a b => ?_, fun k a b => ?_⟩
  · rw [kup_ne (by decide), kup_ne (by decide), kRow_eq]
    exact kRR_cong ho (fun k hk => if_pos hk) h
  · rw [kup_eq, pk_un (by decide), kup_eq, pk_us]
  · rw [kup_eq, pk_us]
  · rw [kup_ne a, kup_ne a, kRow_ne b]
  · rw [kup_eq, pk_un b, kup_eq, pk_un a, kRow_ne (by decide)]
end RDAY
