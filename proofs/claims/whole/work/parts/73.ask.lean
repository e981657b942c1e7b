/-! ask, both sides -/
section ASK
variable {mi : Nat → Nat → Int32} {ml : Nat → Nat → Int64} {m : kMem} {Q : Option Value → kMem → Prop} {S : gS} {T U : tT} {a b p n k v i d c : Nat} {F : Nat → tT}
def tX (F : Nat → tT) (d p v : Nat) : Nat := tdays d (F v) 3 p
theorem J_place : kJ 103 0 [some (.int (nI v)), some (.int (nI d)), some (.int (nI p))] [] m Q = Q (some (.int (nI ((v * 21 + d) * 5 + p)))) m := by
  simp only [↓s103_0, ↓s103_1, ↓s103_3, ↓s103_4, ↓s103_5, ↓s103_6, ↓s103_7, ↓s103_8, ↓s103_9, ↓s103_10, kNLn, kNLi, kNLr, va_rf_s, kOl_n, kOl_s, kap_n, kap_c, kb0, kb1, kbif, pk_mul, nI_add]
/-- the moods of all tones that are left, by day -/
def tabOK (F : Nat → tT) (P N : Nat) (f : Nat → Nat → Int32) : Prop := ∀ v, v < N → tso (F v) = true → ∀ d, d < 21 → ∀ p, p < P → f 47 ((v * 21 + d) * 5 + p) = nI (tX F d p v)
theorem bitI (F : Nat → tT) {v : Nat} (hv : v < 19) : (nI (gwF F 19) >>> (nI v &&& 31)) &&& nI 1 = nI (if tso (F v) = true then 1 else 0) := by
  rw [sar_bit (Nat.lt_of_lt_of_le (gw_lt F 19) (by decide)) (by omega), gw_bit F 19 v hv]
theorem J_most (hP : T 0 0 ≤ 5) (hd : d < 21) (hp : p < T 0 0) (ht : tabOK F (T 0 0) 19 mi) (hX : ∀ v, v < 19 → tX F d p v ≤ 20) (hQ : ∀ mi', (∀ q, q ≠ 48 → mi' q = mi q) → Q (some (.int (nI (mstF (fun v => tso (F v)) (tX F d p) 19)))) (mi', ml, MR, 95)) : kJ 105 0 [some (.ref 0), some (.int (nI (gwF F 19))), some (.int (nI d)), some (.int (nI p)), none, none, none] [] (mi, ml, MR, 95) Q := by
  simp only [↓s105_0, ↓s105_1, ↓s105_5, ↓s105_7, ↓s105_10, ↓s105_11, ↓s105_14, ↓s105_16, ↓s105_17, ↓s105_18, ↓s105_21, ↓s105_24, ↓s105_25, ↓s105_27, ↓s105_28, ↓s105_32, ↓s105_34, ↓s105_37, ↓s105_38, ↓s105_40, ↓s105_41, ↓s105_42, ↓s105_43, ↓s105_46, ↓s105_47, ↓s105_50, ↓s105_52, ↓s105_53, ↓s105_54, ↓s105_57, ↓s105_58, ↓s105_60, ↓s105_61, ↓s105_64, ↓s105_66, ↓s105_67, ↓s105_68, ↓s105_69, ↓s105_70, ↓s105_71, ↓s105_73, ↓s105_74, ↓s105_77, ↓s105_79, ↓s105_80, ↓s105_83, ↓s105_85, ↓s105_88, ↓s105_91, ↓s105_93, kNLn, kNLi, kNLr, va_rf_s, kOl_n, kOl_s, kap_n, kap_c, kb0, kb1, kbif]
  have loop2 : ∀ (k v : Nat) (mi1 : Nat → Nat → Int32) (l6 : Option Value), v + k = 19 → (∀ y, y < 21 → mi1 48 y = nI (cntF (fun v => tso (F v)) (tX F d p) y v)) → (∀ q, q ≠ 48 → mi1 q = mi q) → kJ 105 30 [some (.ref 0), some (.int (nI (gwF F 19))), some (.int (nI d)), some (.int (nI p)), some (.int (nI (mstF (fun v => tso (F v)) (tX F d p) v))), some (.int (nI v)), l6] [] (mi1, ml, MR, 95) Q := by
    intro k
    induction k with
    | zero =>
      intro v mi1 l6 hk h1 f1
      have e : v = 19 := by omega
      subst e
      have hlt : nI 18 < nI 19 := by decide
      rw [s105_30]
      simp only [↓s105_0, ↓s105_1, ↓s105_5, ↓s105_7, ↓s105_10, ↓s105_11, ↓s105_14, ↓s105_16, ↓s105_17, ↓s105_18, ↓s105_21, ↓s105_24, ↓s105_25, ↓s105_27, ↓s105_28, ↓s105_32, ↓s105_34, ↓s105_37, ↓s105_38, ↓s105_40, ↓s105_41, ↓s105_42, ↓s105_43, ↓s105_46, ↓s105_47, ↓s105_50, ↓s105_52, ↓s105_53, ↓s105_54, ↓s105_57, ↓s105_58, ↓s105_60, ↓s105_61, ↓s105_64, ↓s105_66, ↓s105_67, ↓s105_68, ↓s105_69, ↓s105_70, ↓s105_71, ↓s105_73, ↓s105_74, ↓s105_77, ↓s105_79, ↓s105_80, ↓s105_83, ↓s105_85, ↓s105_88, ↓s105_91, ↓s105_93, kNLn, kNLi, kNLr, va_rf_s, kOl_n, kOl_s, kap_n, kap_c, kb0, kb1, kbif, zif, z0, z1, Bool.false_eq_true, eq_self, not_true_eq_false, not_false_eq_true, if_true, if_false, and_self, true_and, false_and, and_true, and_false, hlt]
      exact hQ mi1 f1
    | succ k ih =>
      intro v mi1 l6 hk h1 f1
      have hlt : ¬ nI 18 < nI v := nI_nlt (by omega) (by omega)
      have hb := bitI F (v := v) (by omega)
      rw [s105_30]
      by_cases cb : tso (F v) = true
      · rw [if_pos cb] at hb
        have hx := hX v (by omega)
        have htab : mi1 47 ((v * 21 + d) * 5 + p) = nI (tX F d p v) := by
          rw [f1 47 (by decide)]; exact ht v (by omega) cb d hd p hp
        have hc : (nI ((v * 21 + d) * 5 + p)).toNatClampNeg = (v * 21 + d) * 5 + p := nI_clamp (by omega)
        have hv : vp_in (nI ((v * 21 + d) * 5 + p)) 1995 := vp_in_nI (by omega) (by decide)
        have hc2 : (nI (tX F d p v)).toNatClampNeg = tX F d p v := nI_clamp (by omega)
        have hv2 : vp_in (nI (tX F d p v)) 21 := vp_in_nI (by omega) (by decide)
        have h48 := h1 (tX F d p v) (by omega)
        have eC : cntF (fun v => tso (F v)) (tX F d p) (tX F d p v) (v + 1) = cntF (fun v => tso (F v)) (tX F d p) (tX F d p v) v + 1 := by
          show cntF (fun v => tso (F v)) (tX F d p) (tX F d p v) v + (if tso (F v) = true ∧ tX F d p v = tX F d p v then 1 else 0) = _
          rw [if_pos ⟨cb, rfl⟩]
        have eM : mstF (fun v => tso (F v)) (tX F d p) (v + 1) = if mstF (fun v => tso (F v)) (tX F d p) v < cntF (fun v => tso (F v)) (tX F d p) (tX F d p v) (v + 1) then cntF (fun v => tso (F v)) (tX F d p) (tX F d p v) (v + 1) else mstF (fun v => tso (F v)) (tX F d p) v := if_pos cb
        have b1 := mst_le (L := fun v => tso (F v)) (X := tX F d p) (n := v)
        have b2 := cnt_le (L := fun v => tso (F v)) (X := tX F d p) (y := tX F d p v) (v + 1)
        have hmx : (if nI (mstF (fun v => tso (F v)) (tX F d p) v) < nI (cntF (fun v => tso (F v)) (tX F d p) (tX F d p v) (v + 1)) then nI (cntF (fun v => tso (F v)) (tX F d p) (tX F d p v) (v + 1)) else nI (mstF (fun v => tso (F v)) (tX F d p) v)) = nI (mstF (fun v => tso (F v)) (tX F d p) (v + 1)) := by
          rw [eM]
          by_cases cc : mstF (fun v => tso (F v)) (tX F d p) v < cntF (fun v => tso (F v)) (tX F d p) (tX F d p v) (v + 1)
          · rw [if_pos cc, if_pos (nI_lt cc (by omega))]
          · rw [if_neg cc, if_neg (nI_nlt (by omega) (by omega))]
        have ekup : ∀ w, kup mi1 48 (tX F d p v) w 48 (tX F d p v) = w := fun w => by rw [kup_eq, pk_us]
        simp only [↓s105_0, ↓s105_1, ↓s105_5, ↓s105_7, ↓s105_10, ↓s105_11, ↓s105_14, ↓s105_16, ↓s105_17, ↓s105_18, ↓s105_21, ↓s105_24, ↓s105_25, ↓s105_27, ↓s105_28, ↓s105_32, ↓s105_34, ↓s105_37, ↓s105_38, ↓s105_40, ↓s105_41, ↓s105_42, ↓s105_43, ↓s105_46, ↓s105_47, ↓s105_50, ↓s105_52, ↓s105_53, ↓s105_54, ↓s105_57, ↓s105_58, ↓s105_60, ↓s105_61, ↓s105_64, ↓s105_66, ↓s105_67, ↓s105_68, ↓s105_69, ↓s105_70, ↓s105_71, ↓s105_73, ↓s105_74, ↓s105_77, ↓s105_79, ↓s105_80, ↓s105_83, ↓s105_85, ↓s105_88, ↓s105_91, ↓s105_93, ↓J_place, kNLn, kNLi, kNLr, va_rf_s, kOl_n, kOl_s, kap_n, kap_c, kb0, kb1, kbif, zif, z0, z1, Bool.false_eq_true, eq_self, not_true_eq_false, not_false_eq_true, if_true, if_false, and_self, true_and, false_and, and_true, and_false, hlt, hb, ki_0, ki_47, kl_47, ki_48, kl_48, mr_0_7, mr_0_8, hc, hv, htab, hc2, hv2, h48, nI_add, ← eC, ekup, hmx]
        refine ih (v + 1) _ _ (by omega) (fun y hy => ?_) (fun q hq => by rw [kup_ne hq]; exact f1 q hq)
        rw [kup_eq]
        by_cases ey : y = tX F d p v
        · rw [ey, pk_us]
        · rw [pk_un ey, h1 y hy]
          show _ = nI (cntF (fun v => tso (F v)) (tX F d p) y v + (if tso (F v) = true ∧ tX F d p v = y then 1 else 0))
          rw [if_neg (fun z => ey z.2.symm)]
          rfl
      · rw [if_neg cb] at hb
        have eM : mstF (fun v => tso (F v)) (tX F d p) (v + 1) = mstF (fun v => tso (F v)) (tX F d p) v := if_neg cb
        simp only [↓s105_0, ↓s105_1, ↓s105_5, ↓s105_7, ↓s105_10, ↓s105_11, ↓s105_14, ↓s105_16, ↓s105_17, ↓s105_18, ↓s105_21, ↓s105_24, ↓s105_25, ↓s105_27, ↓s105_28, ↓s105_32, ↓s105_34, ↓s105_37, ↓s105_38, ↓s105_40, ↓s105_41, ↓s105_42, ↓s105_43, ↓s105_46, ↓s105_47, ↓s105_50, ↓s105_52, ↓s105_53, ↓s105_54, ↓s105_57, ↓s105_58, ↓s105_60, ↓s105_61, ↓s105_64, ↓s105_66, ↓s105_67, ↓s105_68, ↓s105_69, ↓s105_70, ↓s105_71, ↓s105_73, ↓s105_74, ↓s105_77, ↓s105_79, ↓s105_80, ↓s105_83, ↓s105_85, ↓s105_88, ↓s105_91, ↓s105_93, kNLn, kNLi, kNLr, va_rf_s, kOl_n, kOl_s, kap_n, kap_c, kb0, kb1, kbif, zif, z0, z1, Bool.false_eq_true, eq_self, not_true_eq_false, not_false_eq_true, if_true, if_false, and_self, true_and, false_and, and_true, and_false, hlt, hb, nI_add]
        have := ih (v + 1) mi1 l6 (by omega) (fun y hy => by
          rw [h1 y hy]
          show _ = nI (cntF (fun v => tso (F v)) (tX F d p) y v + (if tso (F v) = true ∧ tX F d p v = y then 1 else 0))
          rw [if_neg (fun z => cb z.1)]
          rfl) f1
        rw [eM] at this
        exact this
  have loop1 : ∀ (k j : Nat) (mi1 : Nat → Nat → Int32), j + k = 21 → (∀ y, y < j → mi1 48 y = nI 0) → (∀ q, q ≠ 48 → mi1 q = mi q) → kJ 105 3 [some (.ref 0), some (.int (nI (gwF F 19))), some (.int (nI d)), some (.int (nI p)), some (.int (nI j)), none, none] [] (mi1, ml, MR, 95) Q := by
    intro k
    induction k with
    | zero =>
      intro j mi1 hk h1 f1
      have e : j = 21 := by omega
      subst e
      have hlt : nI 20 < nI 21 := by decide
      rw [s105_3]
      simp only [↓s105_0, ↓s105_1, ↓s105_5, ↓s105_7, ↓s105_10, ↓s105_11, ↓s105_14, ↓s105_16, ↓s105_17, ↓s105_18, ↓s105_21, ↓s105_24, ↓s105_25, ↓s105_27, ↓s105_28, ↓s105_32, ↓s105_34, ↓s105_37, ↓s105_38, ↓s105_40, ↓s105_41, ↓s105_42, ↓s105_43, ↓s105_46, ↓s105_47, ↓s105_50, ↓s105_52, ↓s105_53, ↓s105_54, ↓s105_57, ↓s105_58, ↓s105_60, ↓s105_61, ↓s105_64, ↓s105_66, ↓s105_67, ↓s105_68, ↓s105_69, ↓s105_70, ↓s105_71, ↓s105_73, ↓s105_74, ↓s105_77, ↓s105_79, ↓s105_80, ↓s105_83, ↓s105_85, ↓s105_88, ↓s105_91, ↓s105_93, kNLn, kNLi, kNLr, va_rf_s, kOl_n, kOl_s, kap_n, kap_c, kb0, kb1, kbif, zif, z0, z1, Bool.false_eq_true, eq_self, not_true_eq_false, not_false_eq_true, if_true, if_false, and_self, true_and, false_and, and_true, and_false, hlt]
      exact loop2 19 0 mi1 none rfl h1 f1
    | succ k ih =>
      intro j mi1 hk h1 f1
      have hlt : ¬ nI 20 < nI j := nI_nlt (by omega) (by omega)
      have hc : (nI j).toNatClampNeg = j := nI_clamp (by omega)
      have hv : vp_in (nI j) 21 := vp_in_nI (by omega) (by decide)
      rw [s105_3]
      simp only [↓s105_0, ↓s105_1, ↓s105_5, ↓s105_7, ↓s105_10, ↓s105_11, ↓s105_14, ↓s105_16, ↓s105_17, ↓s105_18, ↓s105_21, ↓s105_24, ↓s105_25, ↓s105_27, ↓s105_28, ↓s105_32, ↓s105_34, ↓s105_37, ↓s105_38, ↓s105_40, ↓s105_41, ↓s105_42, ↓s105_43, ↓s105_46, ↓s105_47, ↓s105_50, ↓s105_52, ↓s105_53, ↓s105_54, ↓s105_57, ↓s105_58, ↓s105_60, ↓s105_61, ↓s105_64, ↓s105_66, ↓s105_67, ↓s105_68, ↓s105_69, ↓s105_70, ↓s105_71, ↓s105_73, ↓s105_74, ↓s105_77, ↓s105_79, ↓s105_80, ↓s105_83, ↓s105_85, ↓s105_88, ↓s105_91, ↓s105_93, kNLn, kNLi, kNLr, va_rf_s, kOl_n, kOl_s, kap_n, kap_c, kb0, kb1, kbif, zif, z0, z1, Bool.false_eq_true, eq_self, not_true_eq_false, not_false_eq_true, if_true, if_false, and_self, true_and, false_and, and_true, and_false, hlt, ki_0, ki_48, kl_48, mr_0_8, hc, hv, nI_add]
      refine ih (j + 1) _ (by omega) (fun y hy => ?_) (fun q hq => by rw [kup_ne hq]; exact f1 q hq)
      rw [kup_eq]
      by_cases ey : y = j
      · rw [ey, pk_us]
      · rw [pk_un ey]; exact h1 y (by omega)
  exact loop1 21 0 mi rfl (fun y hy => absurd hy (Nat.not_lt_zero y)) (fun q _ => rfl)
theorem J_fill (h : CI S mi) (hg : gOK S) (hi : i < S.1 0 4) (hQ : ∀ mi', wC mi mi' → tabOK (fun v => tup S.1 7 i v) (S.1 0 0) 19 mi' → Q none (mi', ml, MR, 95)) : kJ 104 0 [some (.ref 0), some (.int (nI i)), some (.int (nI (gwF (fun v => tup S.1 7 i v) 19))), none, none] [] (mi, ml, MR, 95) Q := by
  have ho := hg.1.1
  have o1 := ho.1
  have o2 := ho.2.1
  have hd12 := hg.1.2
  have hci : (nI i).toNatClampNeg = i := nI_clamp (by omega)
  have hvi : vp_in (nI i) 6 := vp_in_nI (by omega) (by decide)
  have z00 : (nI 0).toNatClampNeg = 0 := rfl
  have z55 : (nI 5).toNatClampNeg = 5 := rfl
  have nn0 : ¬ nI 0 < 0 := by decide
  have nn5 : ¬ nI 5 < 0 := by decide
  have l05 : 0 + 5 ≤ 5 := by decide
  simp only [↓s104_0, ↓s104_1, ↓s104_3, ↓s104_5, ↓s104_8, ↓s104_9, ↓s104_10, ↓s104_11, ↓s104_12, ↓s104_13, ↓s104_16, ↓s104_17, ↓s104_20, ↓s104_21, ↓s104_24, ↓s104_27, ↓s104_28, ↓s104_31, ↓s104_34, ↓s104_35, ↓s104_36, ↓s104_37, ↓s104_38, ↓s104_42, ↓s104_44, ↓s104_47, ↓s104_48, ↓s104_51, ↓s104_54, ↓s104_55, ↓s104_56, ↓s104_59, ↓s104_60, ↓s104_62, ↓s104_63, ↓s104_66, ↓s104_67, ↓s104_70, ↓s104_71, ↓s104_74, ↓s104_75, ↓s104_78, ↓s104_81, ↓s104_84, ↓s104_87, ↓s104_90, kNLn, kNLi, kNLr, va_rf_s, kOl_n, kOl_s, kap_n, kap_c, kb0, kb1, kbif]
  have outer : ∀ (k v : Nat) (mi1 : Nat → Nat → Int32) (l4 : Option Value), v + k = 19 → tabOK (fun v => tup S.1 7 i v) (S.1 0 0) v mi1 → wC mi mi1 → kJ 104 2 [some (.ref 0), some (.int (nI i)), some (.int (nI (gwF (fun v => tup S.1 7 i v) 19))), some (.int (nI v)), l4] [] (mi1, ml, MR, 95) Q := by
    intro k
    induction k with
    | zero =>
      intro v mi1 l4 hk h1 f1
      have e : v = 19 := by omega
      subst e
      have hlt : nI 18 < nI 19 := by decide
      rw [s104_2]
      simp only [↓s104_0, ↓s104_1, ↓s104_3, ↓s104_5, ↓s104_8, ↓s104_9, ↓s104_10, ↓s104_11, ↓s104_12, ↓s104_13, ↓s104_16, ↓s104_17, ↓s104_20, ↓s104_21, ↓s104_24, ↓s104_27, ↓s104_28, ↓s104_31, ↓s104_34, ↓s104_35, ↓s104_36, ↓s104_37, ↓s104_38, ↓s104_42, ↓s104_44, ↓s104_47, ↓s104_48, ↓s104_51, ↓s104_54, ↓s104_55, ↓s104_56, ↓s104_59, ↓s104_60, ↓s104_62, ↓s104_63, ↓s104_66, ↓s104_67, ↓s104_70, ↓s104_71, ↓s104_74, ↓s104_75, ↓s104_78, ↓s104_81, ↓s104_84, ↓s104_87, ↓s104_90, kNLn, kNLi, kNLr, va_rf_s, kOl_n, kOl_s, kap_n, kap_c, kb0, kb1, kbif, zif, z0, z1, Bool.false_eq_true, eq_self, not_true_eq_false, not_false_eq_true, if_true, if_false, and_self, true_and, false_and, and_true, and_false, hlt]
      exact hQ mi1 f1 h1
    | succ k ih =>
      intro v mi1 l4 hk h1 f1
      have hlt : ¬ nI 18 < nI v := nI_nlt (by omega) (by omega)
      have hb := bitI (fun v => tup S.1 7 i v) (v := v) (by omega)
      rw [s104_2]
      by_cases cb : tso (tup S.1 7 i v) = true
      · rw [if_pos cb] at hb
        have oF : tOK (tup S.1 7 i v) := tOK_upL ho (Or.inl ⟨rfl, by omega⟩)
        have dF : tup S.1 7 i v 0 12 = S.1 0 12 := tup_n (by omega)
        have pF : tup S.1 7 i v 0 0 = S.1 0 0 := tup_n (by omega)
        simp only [↓s104_0, ↓s104_1, ↓s104_3, ↓s104_5, ↓s104_8, ↓s104_9, ↓s104_10, ↓s104_11, ↓s104_12, ↓s104_13, ↓s104_16, ↓s104_17, ↓s104_20, ↓s104_21, ↓s104_24, ↓s104_27, ↓s104_28, ↓s104_31, ↓s104_34, ↓s104_35, ↓s104_36, ↓s104_37, ↓s104_38, ↓s104_42, ↓s104_44, ↓s104_47, ↓s104_48, ↓s104_51, ↓s104_54, ↓s104_55, ↓s104_56, ↓s104_59, ↓s104_60, ↓s104_62, ↓s104_63, ↓s104_66, ↓s104_67, ↓s104_70, ↓s104_71, ↓s104_74, ↓s104_75, ↓s104_78, ↓s104_81, ↓s104_84, ↓s104_87, ↓s104_90, kNLn, kNLi, kNLr, va_rf_s, kOl_n, kOl_s, kap_n, kap_c, kb0, kb1, kbif, zif, z0, z1, Bool.false_eq_true, eq_self, not_true_eq_false, not_false_eq_true, if_true, if_false, and_self, true_and, false_and, and_true, and_false, hlt, hb, ki_0, ki_1, ki_14, mr_0_0, mr_0_1]
        refine C_copy_14_1 (kCR1_w h.1 f1) ho (fun mi2 h2 f2 => ?_)
        simp only [↓s104_0, ↓s104_1, ↓s104_3, ↓s104_5, ↓s104_8, ↓s104_9, ↓s104_10, ↓s104_11, ↓s104_12, ↓s104_13, ↓s104_16, ↓s104_17, ↓s104_20, ↓s104_21, ↓s104_24, ↓s104_27, ↓s104_28, ↓s104_31, ↓s104_34, ↓s104_35, ↓s104_36, ↓s104_37, ↓s104_38, ↓s104_42, ↓s104_44, ↓s104_47, ↓s104_48, ↓s104_51, ↓s104_54, ↓s104_55, ↓s104_56, ↓s104_59, ↓s104_60, ↓s104_62, ↓s104_63, ↓s104_66, ↓s104_67, ↓s104_70, ↓s104_71, ↓s104_74, ↓s104_75, ↓s104_78, ↓s104_81, ↓s104_84, ↓s104_87, ↓s104_90, kNLn, kNLi, kNLr, va_rf_s, kOl_n, kOl_s, kap_n, kap_c, kb0, kb1, kbif, zif, z0, z1, Bool.false_eq_true, eq_self, not_true_eq_false, not_false_eq_true, if_true, if_false, and_self, true_and, false_and, and_true, and_false, ki_0, ki_14, ki_21, kl_21, mr_0_1, mr_14_8, hci, hvi]
        have h3 : kCR 14 (tup S.1 7 i v) (kup mi2 21 i (nI v)) := kCR_up (b := 14) (r := 7) h2 (by omega)
        have f3 : wC mi (kup mi2 21 i (nI v)) := wC_tr f1 (wC_tr (wC_14 f2) (wC_up (by omega)))
        have t3 : tabOK (fun v => tup S.1 7 i v) (S.1 0 0) v (kup mi2 21 i (nI v)) := fun v' hv' c' d hd p hp => by
          rw [kup_ne (by decide), f2 47 (by decide)]; exact h1 v' hv' c' d hd p hp
        have inner : ∀ (k2 d : Nat) (mi3 : Nat → Nat → Int32), d + k2 = 21 → kCR 14 (tpass d (tup S.1 7 i v)) mi3 → tabOK (fun v => tup S.1 7 i v) (S.1 0 0) v mi3 → (∀ d', d' < d → ∀ p, p < S.1 0 0 → mi3 47 ((v * 21 + d') * 5 + p) = nI (tX (fun v => tup S.1 7 i v) d' p v)) → wC mi mi3 → kJ 104 40 [some (.ref 0), some (.int (nI i)), some (.int (nI (gwF (fun v => tup S.1 7 i v) 19))), some (.int (nI v)), some (.int (nI d))] [] (mi3, ml, MR, 95) Q := by
          intro k2
          induction k2 with
          | zero =>
            intro d mi3 hk2 g1 g2 g3 g4
            have e : d = 21 := by omega
            subst e
            have hlt2 : nI 20 < nI 21 := by decide
            rw [s104_40]
            simp only [↓s104_0, ↓s104_1, ↓s104_3, ↓s104_5, ↓s104_8, ↓s104_9, ↓s104_10, ↓s104_11, ↓s104_12, ↓s104_13, ↓s104_16, ↓s104_17, ↓s104_20, ↓s104_21, ↓s104_24, ↓s104_27, ↓s104_28, ↓s104_31, ↓s104_34, ↓s104_35, ↓s104_36, ↓s104_37, ↓s104_38, ↓s104_42, ↓s104_44, ↓s104_47, ↓s104_48, ↓s104_51, ↓s104_54, ↓s104_55, ↓s104_56, ↓s104_59, ↓s104_60, ↓s104_62, ↓s104_63, ↓s104_66, ↓s104_67, ↓s104_70, ↓s104_71, ↓s104_74, ↓s104_75, ↓s104_78, ↓s104_81, ↓s104_84, ↓s104_87, ↓s104_90, kNLn, kNLi, kNLr, va_rf_s, kOl_n, kOl_s, kap_n, kap_c, kb0, kb1, kbif, zif, z0, z1, Bool.false_eq_true, eq_self, not_true_eq_false, not_false_eq_true, if_true, if_false, and_self, true_and, false_and, and_true, and_false, hlt2, nI_add]
            refine ih (v + 1) mi3 _ (by omega) (fun v' hv' c' d hd p hp => ?_) g4
            by_cases ev : v' = v
            · rw [ev]; exact g3 d hd p hp
            · exact g2 v' (by omega) c' d hd p hp
          | succ k2 ih2 =>
            intro d mi3 hk2 g1 g2 g3 g4
            have hlt2 : ¬ nI 20 < nI d := nI_nlt (by omega) (by omega)
            have oU : tOK (tpass d (tup S.1 7 i v)) := tpass_ok oF (by rw [dF]; omega)
            have hpl : ∀ Q', kJ 103 0 [some (.int (nI v)), some (.int (nI d)), some (.int (nI 0))] [] (mi3, ml, MR, 95) Q' = Q' (some (.int (nI ((v * 21 + d) * 5)))) (mi3, ml, MR, 95) := fun Q' => J_place (p := 0)
            have hcp : (nI ((v * 21 + d) * 5)).toNatClampNeg = (v * 21 + d) * 5 := nI_clamp (by omega)
            have np : ¬ nI ((v * 21 + d) * 5) < 0 := nI_pos (by omega)
            have l5 : (v * 21 + d) * 5 + 5 ≤ 1995 := by omega
            rw [s104_40]
            simp only [↓s104_0, ↓s104_1, ↓s104_3, ↓s104_5, ↓s104_8, ↓s104_9, ↓s104_10, ↓s104_11, ↓s104_12, ↓s104_13, ↓s104_16, ↓s104_17, ↓s104_20, ↓s104_21, ↓s104_24, ↓s104_27, ↓s104_28, ↓s104_31, ↓s104_34, ↓s104_35, ↓s104_36, ↓s104_37, ↓s104_38, ↓s104_42, ↓s104_44, ↓s104_47, ↓s104_48, ↓s104_51, ↓s104_54, ↓s104_55, ↓s104_56, ↓s104_59, ↓s104_60, ↓s104_62, ↓s104_63, ↓s104_66, ↓s104_67, ↓s104_70, ↓s104_71, ↓s104_74, ↓s104_75, ↓s104_78, ↓s104_81, ↓s104_84, ↓s104_87, ↓s104_90, ↓hpl, kNLn, kNLi, kNLr, va_rf_s, kOl_n, kOl_s, kap_n, kap_c, kb0, kb1, kbif, zif, z0, z1, Bool.false_eq_true, eq_self, not_true_eq_false, not_false_eq_true, if_true, if_false, and_self, true_and, false_and, and_true, and_false, hlt2, ki_0, ki_14, ki_17, kl_17, ki_47, kl_47, mr_0_1, mr_0_7, mr_14_3, z00, z55, nn0, nn5, hcp, np, l5, l05]
            have e14 : kCR 14 (tpass d (tup S.1 7 i v)) (kRow mi3 47 (va_cpy (mi3 17) (mi3 47) 0 ((v * 21 + d) * 5) 5)) := kCR_eq (fun q a b => kRow_ne (by omega)) g1
            refine J_pass kPost_14 e14 oU (by decide) (fun mi4 h4 f4 => ?_)
            simp only [↓s104_0, ↓s104_1, ↓s104_3, ↓s104_5, ↓s104_8, ↓s104_9, ↓s104_10, ↓s104_11, ↓s104_12, ↓s104_13, ↓s104_16, ↓s104_17, ↓s104_20, ↓s104_21, ↓s104_24, ↓s104_27, ↓s104_28, ↓s104_31, ↓s104_34, ↓s104_35, ↓s104_36, ↓s104_37, ↓s104_38, ↓s104_42, ↓s104_44, ↓s104_47, ↓s104_48, ↓s104_51, ↓s104_54, ↓s104_55, ↓s104_56, ↓s104_59, ↓s104_60, ↓s104_62, ↓s104_63, ↓s104_66, ↓s104_67, ↓s104_70, ↓s104_71, ↓s104_74, ↓s104_75, ↓s104_78, ↓s104_81, ↓s104_84, ↓s104_87, ↓s104_90, kNLn, kNLi, kNLr, va_rf_s, kOl_n, kOl_s, kap_n, kap_c, kb0, kb1, kbif, nI_add]
            rw [tpass_1, tD_pass] at h4
            refine ih2 (d + 1) mi4 (by omega) h4 (fun v' hv' c' d' hd' p hp => ?_) (fun d' hd' p hp => ?_) (wC_tr g4 (wC_tr (fun q a b c => kRow_ne b) (wC_14 f4)))
            · rw [f4 47 (by decide), kRow_eq, pk_cpy_out (by omega)]
              exact g2 v' hv' c' d' hd' p hp
            · rw [f4 47 (by decide), kRow_eq]
              by_cases ed : d' = d
              · rw [ed, pk_cpy_in (by omega) (by omega), show 0 + ((v * 21 + d) * 5 + p - (v * 21 + d) * 5) = p by omega]
                have hr := kCR_row g1 (r := 3) (j := p) (by omega) (by omega) (by rw [tcnt_p (by omega), tpass_n oF (by omega) (by omega), pF]; exact hp)
                rw [tpass_3 (by omega)] at hr
                exact hr
              · rw [pk_cpy_out (by omega)]
                exact g3 d' (by omega) p hp
        exact inner 21 0 _ rfl (by rw [tpass_0]; exact h3) t3 (fun d' hd' => absurd hd' (Nat.not_lt_zero d')) f3
      · rw [if_neg cb] at hb
        simp only [↓s104_0, ↓s104_1, ↓s104_3, ↓s104_5, ↓s104_8, ↓s104_9, ↓s104_10, ↓s104_11, ↓s104_12, ↓s104_13, ↓s104_16, ↓s104_17, ↓s104_20, ↓s104_21, ↓s104_24, ↓s104_27, ↓s104_28, ↓s104_31, ↓s104_34, ↓s104_35, ↓s104_36, ↓s104_37, ↓s104_38, ↓s104_42, ↓s104_44, ↓s104_47, ↓s104_48, ↓s104_51, ↓s104_54, ↓s104_55, ↓s104_56, ↓s104_59, ↓s104_60, ↓s104_62, ↓s104_63, ↓s104_66, ↓s104_67, ↓s104_70, ↓s104_71, ↓s104_74, ↓s104_75, ↓s104_78, ↓s104_81, ↓s104_84, ↓s104_87, ↓s104_90, kNLn, kNLi, kNLr, va_rf_s, kOl_n, kOl_s, kap_n, kap_c, kb0, kb1, kbif, zif, z0, z1, Bool.false_eq_true, eq_self, not_true_eq_false, not_false_eq_true, if_true, if_false, and_self, true_and, false_and, and_true, and_false, hlt, hb, nI_add]
        refine ih (v + 1) mi1 l4 (by omega) (fun v' hv' c' d hd p hp => ?_) f1
        by_cases ev : v' = v
        · rw [ev] at c'; exact absurd c' cb
        · exact h1 v' (by omega) c' d hd p hp
  exact outer 19 0 mi none rfl (fun v' hv' => absurd hv' (Nat.not_lt_zero v')) wC_rf
def gask (T : tT) (i : Nat) : Nat × Int32 := askF (fun c => mstF (fun v => tso (tup T 7 i v)) (tX (fun v => tup T 7 i v) (c / 5) (c % 5)) 19) (T 0 0) (rkF (fun v => tso (tup T 7 i v)) 19) 105
theorem tX_le (hg : tGood T) {i : Nat} (hd : d < 21) (hp : p < T 0 0) : ∀ v, v < 19 → tX (fun v => tup T 7 i v) d p v ≤ 20 := by
  intro v hv
  have oF : tOK (tup T 7 i v) := tOK_upL hg.1 (Or.inl ⟨rfl, by omega⟩)
  have h := (tdays_ok oF d)
  refine (h.1.2.2.2.2.2.1 p ?_).2.2
  rw [h.2 0 0 (by omega) (by omega) (by omega) (by omega), tup_n (by omega)]
  exact hp
theorem C_ask_y {x : Int32} (h : CI S mi) (hg : gOK S) (hi : i < S.1 0 4) (w : tway S.1 i = true) (hx : gin x 2 = true) (hQ : ∀ mi', wC mi mi' → Q (some (.int (jtold ((gask S.1 i).2, nI (gask S.1 i).1) x))) (mi', ml, MR, 95)) : kJ 81 0 [some (.ref 0), some (.int (nI i)), some (.int x), none, none, none, none, none, none] [] (mi, ml, MR, 95) Q := by
  have ho := hg.1.1
  have o1 := ho.1
  have o2 := ho.2.1
  have c : gin (nI i) (S.1 0 4) = true := gin_nI hi (by omega)
  have hbc : bcI (nI (gwF (fun v => tup S.1 7 i v) 19)) = nI (rkF (fun v => tso (tup S.1 7 i v)) 19) := by
    rw [bc_19 (gw_lt _ 19), pc_rk _ 19 (Nat.le_refl _)]
  have rk19 := rk_le (fun v => tso (tup S.1 7 i v)) 19
  simp only [↓s81_0, ↓s81_1, ↓s81_4, ↓s81_5, ↓s81_8, ↓s81_11, ↓s81_12, ↓s81_13, ↓s81_14, ↓s81_17, ↓s81_20, ↓s81_21, ↓s81_22, ↓s81_23, ↓s81_26, ↓s81_27, ↓s81_30, ↓s81_33, ↓s81_35, ↓s81_36, ↓s81_37, ↓s81_38, ↓s81_41, ↓s81_42, ↓s81_43, ↓s81_44, ↓s81_45, ↓s81_48, ↓s81_50, ↓s81_52, ↓s81_53, ↓s81_56, ↓s81_58, ↓s81_59, ↓s81_63, ↓s81_65, ↓s81_68, ↓s81_69, ↓s81_73, ↓s81_74, ↓s81_77, ↓s81_80, ↓s81_83, ↓s81_84, ↓s81_85, ↓s81_87, ↓s81_89, ↓s81_92, ↓s81_94, ↓s81_96, ↓s81_98, ↓s81_101, ↓s81_103, ↓s81_105, ↓s81_106, ↓s81_108, ↓s81_109, ↓s81_111, ↓s81_113, ↓s81_115, ↓s81_118, ↓s81_121, ↓s81_124, ↓s81_127, ↓s81_129, ↓s81_131, ↓s81_134, ↓s81_135, ↓s81_138, ↓s81_140, ↓s81_143, ↓s81_145, ↓J_hasLetterG kPost_1 h.1 ho, ↓J_wayT kPost_1 h.1 ho hi, ↓J_w1, kNLn, kNLi, kNLr, va_rf_s, kOl_n, kOl_s, kap_n, kap_c, kb0, kb1, kbif, zif, z0, z1, Bool.false_eq_true, eq_self, not_true_eq_false, not_false_eq_true, if_true, if_false, and_self, true_and, false_and, and_true, and_false, c, hx, w, ki_0, ki_1, mr_0_0]
  refine C_tones_y h hg hi w (fun mi1 f1 => ?_)
  simp only [↓s81_0, ↓s81_1, ↓s81_4, ↓s81_5, ↓s81_8, ↓s81_11, ↓s81_12, ↓s81_13, ↓s81_14, ↓s81_17, ↓s81_20, ↓s81_21, ↓s81_22, ↓s81_23, ↓s81_26, ↓s81_27, ↓s81_30, ↓s81_33, ↓s81_35, ↓s81_36, ↓s81_37, ↓s81_38, ↓s81_41, ↓s81_42, ↓s81_43, ↓s81_44, ↓s81_45, ↓s81_48, ↓s81_50, ↓s81_52, ↓s81_53, ↓s81_56, ↓s81_58, ↓s81_59, ↓s81_63, ↓s81_65, ↓s81_68, ↓s81_69, ↓s81_73, ↓s81_74, ↓s81_77, ↓s81_80, ↓s81_83, ↓s81_84, ↓s81_85, ↓s81_87, ↓s81_89, ↓s81_92, ↓s81_94, ↓s81_96, ↓s81_98, ↓s81_101, ↓s81_103, ↓s81_105, ↓s81_106, ↓s81_108, ↓s81_109, ↓s81_111, ↓s81_113, ↓s81_115, ↓s81_118, ↓s81_121, ↓s81_124, ↓s81_127, ↓s81_129, ↓s81_131, ↓s81_134, ↓s81_135, ↓s81_138, ↓s81_140, ↓s81_143, ↓s81_145, kNLn, kNLi, kNLr, va_rf_s, kOl_n, kOl_s, kap_n, kap_c, kb0, kb1, kbif, ki_0]
  refine J_fill (CI_w h f1) hg hi (fun mi2 f2 t2 => ?_)
  simp only [↓s81_0, ↓s81_1, ↓s81_4, ↓s81_5, ↓s81_8, ↓s81_11, ↓s81_12, ↓s81_13, ↓s81_14, ↓s81_17, ↓s81_20, ↓s81_21, ↓s81_22, ↓s81_23, ↓s81_26, ↓s81_27, ↓s81_30, ↓s81_33, ↓s81_35, ↓s81_36, ↓s81_37, ↓s81_38, ↓s81_41, ↓s81_42, ↓s81_43, ↓s81_44, ↓s81_45, ↓s81_48, ↓s81_50, ↓s81_52, ↓s81_53, ↓s81_56, ↓s81_58, ↓s81_59, ↓s81_63, ↓s81_65, ↓s81_68, ↓s81_69, ↓s81_73, ↓s81_74, ↓s81_77, ↓s81_80, ↓s81_83, ↓s81_84, ↓s81_85, ↓s81_87, ↓s81_89, ↓s81_92, ↓s81_94, ↓s81_96, ↓s81_98, ↓s81_101, ↓s81_103, ↓s81_105, ↓s81_106, ↓s81_108, ↓s81_109, ↓s81_111, ↓s81_113, ↓s81_115, ↓s81_118, ↓s81_121, ↓s81_124, ↓s81_127, ↓s81_129, ↓s81_131, ↓s81_134, ↓s81_135, ↓s81_138, ↓s81_140, ↓s81_143, ↓s81_145, ↓J_bit, kNLn, kNLi, kNLr, va_rf_s, kOl_n, kOl_s, kap_n, kap_c, kb0, kb1, kbif, hbc]
  have f12 := wC_tr f1 f2
  have outer : ∀ (k d : Nat) (mi3 : Nat → Nat → Int32) (l7 l8 : Option Value), d + k = 21 → wC mi mi3 → tabOK (fun v => tup S.1 7 i v) (S.1 0 0) 19 mi3 → kJ 81 61 [some (.ref 0), some (.int (nI i)), some (.int x), some (.int (nI (gwF (fun v => tup S.1 7 i v) 19))), some (.int (askF (fun c => mstF (fun v => tso (tup S.1 7 i v)) (tX (fun v => tup S.1 7 i v) (c / 5) (c % 5)) 19) (S.1 0 0) (rkF (fun v => tso (tup S.1 7 i v)) 19) (5 * d)).2), some (.int (nI (askF (fun c => mstF (fun v => tso (tup S.1 7 i v)) (tX (fun v => tup S.1 7 i v) (c / 5) (c % 5)) 19) (S.1 0 0) (rkF (fun v => tso (tup S.1 7 i v)) 19) (5 * d)).1)), some (.int (nI d)), l7, l8] [] (mi3, ml, MR, 95) Q := by
    intro k
    induction k with
    | zero =>
      intro d mi3 l7 l8 hk g1 g2
      have e : d = 21 := by omega
      subst e
      have hlt : nI 20 < nI 21 := by decide
      have h9 := hQ mi3 g1
      unfold gask at h9
      rw [s81_61]
      revert h9
      show _ → kJ 81 63 _ _ _ _
      generalize askF (fun c => mstF (fun v => tso (tup S.1 7 i v)) (tX (fun v => tup S.1 7 i v) (c / 5) (c % 5)) 19) (S.1 0 0) (rkF (fun v => tso (tup S.1 7 i v)) 19) 105 = r
      intro h9
      unfold jtold at h9
      by_cases c1 : r.2 = (-4)
      · simp only [↓s81_0, ↓s81_1, ↓s81_4, ↓s81_5, ↓s81_8, ↓s81_11, ↓s81_12, ↓s81_13, ↓s81_14, ↓s81_17, ↓s81_20, ↓s81_21, ↓s81_22, ↓s81_23, ↓s81_26, ↓s81_27, ↓s81_30, ↓s81_33, ↓s81_35, ↓s81_36, ↓s81_37, ↓s81_38, ↓s81_41, ↓s81_42, ↓s81_43, ↓s81_44, ↓s81_45, ↓s81_48, ↓s81_50, ↓s81_52, ↓s81_53, ↓s81_56, ↓s81_58, ↓s81_59, ↓s81_63, ↓s81_65, ↓s81_68, ↓s81_69, ↓s81_73, ↓s81_74, ↓s81_77, ↓s81_80, ↓s81_83, ↓s81_84, ↓s81_85, ↓s81_87, ↓s81_89, ↓s81_92, ↓s81_94, ↓s81_96, ↓s81_98, ↓s81_101, ↓s81_103, ↓s81_105, ↓s81_106, ↓s81_108, ↓s81_109, ↓s81_111, ↓s81_113, ↓s81_115, ↓s81_118, ↓s81_121, ↓s81_124, ↓s81_127, ↓s81_129, ↓s81_131, ↓s81_134, ↓s81_135, ↓s81_138, ↓s81_140, ↓s81_143, ↓s81_145, kNLn, kNLi, kNLr, va_rf_s, kOl_n, kOl_s, kap_n, kap_c, kb0, kb1, kbif, zif, z0, z1, Bool.false_eq_true, eq_self, not_true_eq_false, not_false_eq_true, if_true, if_false, and_self, true_and, false_and, and_true, and_false, hlt, c1, m4_r]
        simp only [c1, if_true] at h9
        exact h9
      · by_cases c2 : x = 0
        · simp only [↓s81_0, ↓s81_1, ↓s81_4, ↓s81_5, ↓s81_8, ↓s81_11, ↓s81_12, ↓s81_13, ↓s81_14, ↓s81_17, ↓s81_20, ↓s81_21, ↓s81_22, ↓s81_23, ↓s81_26, ↓s81_27, ↓s81_30, ↓s81_33, ↓s81_35, ↓s81_36, ↓s81_37, ↓s81_38, ↓s81_41, ↓s81_42, ↓s81_43, ↓s81_44, ↓s81_45, ↓s81_48, ↓s81_50, ↓s81_52, ↓s81_53, ↓s81_56, ↓s81_58, ↓s81_59, ↓s81_63, ↓s81_65, ↓s81_68, ↓s81_69, ↓s81_73, ↓s81_74, ↓s81_77, ↓s81_80, ↓s81_83, ↓s81_84, ↓s81_85, ↓s81_87, ↓s81_89, ↓s81_92, ↓s81_94, ↓s81_96, ↓s81_98, ↓s81_101, ↓s81_103, ↓s81_105, ↓s81_106, ↓s81_108, ↓s81_109, ↓s81_111, ↓s81_113, ↓s81_115, ↓s81_118, ↓s81_121, ↓s81_124, ↓s81_127, ↓s81_129, ↓s81_131, ↓s81_134, ↓s81_135, ↓s81_138, ↓s81_140, ↓s81_143, ↓s81_145, kNLn, kNLi, kNLr, va_rf_s, kOl_n, kOl_s, kap_n, kap_c, kb0, kb1, kbif, zif, z0, z1, Bool.false_eq_true, eq_self, not_true_eq_false, not_false_eq_true, if_true, if_false, and_self, true_and, false_and, and_true, and_false, hlt, c1, c2]
          simp only [c1, c2, if_true, if_false] at h9
          exact h9
        · simp only [↓s81_0, ↓s81_1, ↓s81_4, ↓s81_5, ↓s81_8, ↓s81_11, ↓s81_12, ↓s81_13, ↓s81_14, ↓s81_17, ↓s81_20, ↓s81_21, ↓s81_22, ↓s81_23, ↓s81_26, ↓s81_27, ↓s81_30, ↓s81_33, ↓s81_35, ↓s81_36, ↓s81_37, ↓s81_38, ↓s81_41, ↓s81_42, ↓s81_43, ↓s81_44, ↓s81_45, ↓s81_48, ↓s81_50, ↓s81_52, ↓s81_53, ↓s81_56, ↓s81_58, ↓s81_59, ↓s81_63, ↓s81_65, ↓s81_68, ↓s81_69, ↓s81_73, ↓s81_74, ↓s81_77, ↓s81_80, ↓s81_83, ↓s81_84, ↓s81_85, ↓s81_87, ↓s81_89, ↓s81_92, ↓s81_94, ↓s81_96, ↓s81_98, ↓s81_101, ↓s81_103, ↓s81_105, ↓s81_106, ↓s81_108, ↓s81_109, ↓s81_111, ↓s81_113, ↓s81_115, ↓s81_118, ↓s81_121, ↓s81_124, ↓s81_127, ↓s81_129, ↓s81_131, ↓s81_134, ↓s81_135, ↓s81_138, ↓s81_140, ↓s81_143, ↓s81_145, kNLn, kNLi, kNLr, va_rf_s, kOl_n, kOl_s, kap_n, kap_c, kb0, kb1, kbif, zif, z0, z1, Bool.false_eq_true, eq_self, not_true_eq_false, not_false_eq_true, if_true, if_false, and_self, true_and, false_and, and_true, and_false, hlt, c1, c2]
          simp only [c1, c2, if_false] at h9
          exact h9
    | succ k ih =>
      intro d mi3 l7 l8 hk g1 g2
      have hlt : ¬ nI 20 < nI d := nI_nlt (by omega) (by omega)
      rw [s81_61]
      simp only [↓s81_0, ↓s81_1, ↓s81_4, ↓s81_5, ↓s81_8, ↓s81_11, ↓s81_12, ↓s81_13, ↓s81_14, ↓s81_17, ↓s81_20, ↓s81_21, ↓s81_22, ↓s81_23, ↓s81_26, ↓s81_27, ↓s81_30, ↓s81_33, ↓s81_35, ↓s81_36, ↓s81_37, ↓s81_38, ↓s81_41, ↓s81_42, ↓s81_43, ↓s81_44, ↓s81_45, ↓s81_48, ↓s81_50, ↓s81_52, ↓s81_53, ↓s81_56, ↓s81_58, ↓s81_59, ↓s81_63, ↓s81_65, ↓s81_68, ↓s81_69, ↓s81_73, ↓s81_74, ↓s81_77, ↓s81_80, ↓s81_83, ↓s81_84, ↓s81_85, ↓s81_87, ↓s81_89, ↓s81_92, ↓s81_94, ↓s81_96, ↓s81_98, ↓s81_101, ↓s81_103, ↓s81_105, ↓s81_106, ↓s81_108, ↓s81_109, ↓s81_111, ↓s81_113, ↓s81_115, ↓s81_118, ↓s81_121, ↓s81_124, ↓s81_127, ↓s81_129, ↓s81_131, ↓s81_134, ↓s81_135, ↓s81_138, ↓s81_140, ↓s81_143, ↓s81_145, kNLn, kNLi, kNLr, va_rf_s, kOl_n, kOl_s, kap_n, kap_c, kb0, kb1, kbif, zif, z0, z1, Bool.false_eq_true, eq_self, not_true_eq_false, not_false_eq_true, if_true, if_false, and_self, true_and, false_and, and_true, and_false, hlt]
      have inner : ∀ (k2 p : Nat) (mi4 : Nat → Nat → Int32) (l8 : Option Value), p + k2 = S.1 0 0 → wC mi mi4 → tabOK (fun v => tup S.1 7 i v) (S.1 0 0) 19 mi4 → kJ 81 71 [some (.ref 0), some (.int (nI i)), some (.int x), some (.int (nI (gwF (fun v => tup S.1 7 i v) 19))), some (.int (askF (fun c => mstF (fun v => tso (tup S.1 7 i v)) (tX (fun v => tup S.1 7 i v) (c / 5) (c % 5)) 19) (S.1 0 0) (rkF (fun v => tso (tup S.1 7 i v)) 19) (5 * d + p)).2), some (.int (nI (askF (fun c => mstF (fun v => tso (tup S.1 7 i v)) (tX (fun v => tup S.1 7 i v) (c / 5) (c % 5)) 19) (S.1 0 0) (rkF (fun v => tso (tup S.1 7 i v)) 19) (5 * d + p)).1)), some (.int (nI d)), some (.int (nI p)), l8] [] (mi4, ml, MR, 95) Q := by
        intro k2
        induction k2 with
        | zero =>
          intro p mi4 l8 hk2 g3 g4
          have hP := (kCR1_w h.1 g3).1.1
          have hge : nI (S.1 0 0) ≤ nI p := nI_le (by omega) (by omega)
          have es := ask_skip (W := fun c => mstF (fun v => tso (tup S.1 7 i v)) (tX (fun v => tup S.1 7 i v) (c / 5) (c % 5)) 19) (P := S.1 0 0) (f0 := rkF (fun v => tso (tup S.1 7 i v)) 19) (d := d) (5 - S.1 0 0) (by omega)
          rw [show 5 * d + S.1 0 0 + (5 - S.1 0 0) = 5 * (d + 1) by omega] at es
          rw [show p = S.1 0 0 by omega]
          have hge2 : nI (S.1 0 0) ≤ nI (S.1 0 0) := Int32.le_refl _
          rw [s81_71]
          simp only [↓s81_0, ↓s81_1, ↓s81_4, ↓s81_5, ↓s81_8, ↓s81_11, ↓s81_12, ↓s81_13, ↓s81_14, ↓s81_17, ↓s81_20, ↓s81_21, ↓s81_22, ↓s81_23, ↓s81_26, ↓s81_27, ↓s81_30, ↓s81_33, ↓s81_35, ↓s81_36, ↓s81_37, ↓s81_38, ↓s81_41, ↓s81_42, ↓s81_43, ↓s81_44, ↓s81_45, ↓s81_48, ↓s81_50, ↓s81_52, ↓s81_53, ↓s81_56, ↓s81_58, ↓s81_59, ↓s81_63, ↓s81_65, ↓s81_68, ↓s81_69, ↓s81_73, ↓s81_74, ↓s81_77, ↓s81_80, ↓s81_83, ↓s81_84, ↓s81_85, ↓s81_87, ↓s81_89, ↓s81_92, ↓s81_94, ↓s81_96, ↓s81_98, ↓s81_101, ↓s81_103, ↓s81_105, ↓s81_106, ↓s81_108, ↓s81_109, ↓s81_111, ↓s81_113, ↓s81_115, ↓s81_118, ↓s81_121, ↓s81_124, ↓s81_127, ↓s81_129, ↓s81_131, ↓s81_134, ↓s81_135, ↓s81_138, ↓s81_140, ↓s81_143, ↓s81_145, kNLn, kNLi, kNLr, va_rf_s, kOl_n, kOl_s, kap_n, kap_c, kb0, kb1, kbif, zif, z0, z1, Bool.false_eq_true, eq_self, not_true_eq_false, not_false_eq_true, if_true, if_false, and_self, true_and, false_and, and_true, and_false, ki_0, ki_1, mr_0_0, hP, hge2, nI_add]
          have := ih (d + 1) mi4 (some (.int (nI (S.1 0 0)))) l8 (by omega) g3 g4
          rw [es] at this
          exact this
        | succ k2 ih2 =>
          intro p mi4 l8 hk2 g3 g4
          have hP := (kCR1_w h.1 g3).1.1
          have hlt2 : ¬ nI (S.1 0 0) ≤ nI p := nI_ge (by omega) (by omega)
          have e5 : (5 * d + p) / 5 = d := by omega
          have e6 : (5 * d + p) % 5 = p := by omega
          have est := ask_step (W := fun c => mstF (fun v => tso (tup S.1 7 i v)) (tX (fun v => tup S.1 7 i v) (c / 5) (c % 5)) 19) (P := S.1 0 0) (f0 := rkF (fun v => tso (tup S.1 7 i v)) 19) (d := d) (p := p) (by omega) o1
          have hfl := ask_le (W := fun c => mstF (fun v => tso (tup S.1 7 i v)) (tX (fun v => tup S.1 7 i v) (c / 5) (c % 5)) 19) (P := S.1 0 0) (f0 := rkF (fun v => tso (tup S.1 7 i v)) 19) (5 * d + p)
          have ih3 := fun mi5 l8 => ih2 (p + 1) mi5 l8 (by omega)
          rw [est] at ih3
          simp only [e5, e6] at ih3
          rw [s81_71]
          simp only [↓s81_0, ↓s81_1, ↓s81_4, ↓s81_5, ↓s81_8, ↓s81_11, ↓s81_12, ↓s81_13, ↓s81_14, ↓s81_17, ↓s81_20, ↓s81_21, ↓s81_22, ↓s81_23, ↓s81_26, ↓s81_27, ↓s81_30, ↓s81_33, ↓s81_35, ↓s81_36, ↓s81_37, ↓s81_38, ↓s81_41, ↓s81_42, ↓s81_43, ↓s81_44, ↓s81_45, ↓s81_48, ↓s81_50, ↓s81_52, ↓s81_53, ↓s81_56, ↓s81_58, ↓s81_59, ↓s81_63, ↓s81_65, ↓s81_68, ↓s81_69, ↓s81_73, ↓s81_74, ↓s81_77, ↓s81_80, ↓s81_83, ↓s81_84, ↓s81_85, ↓s81_87, ↓s81_89, ↓s81_92, ↓s81_94, ↓s81_96, ↓s81_98, ↓s81_101, ↓s81_103, ↓s81_105, ↓s81_106, ↓s81_108, ↓s81_109, ↓s81_111, ↓s81_113, ↓s81_115, ↓s81_118, ↓s81_121, ↓s81_124, ↓s81_127, ↓s81_129, ↓s81_131, ↓s81_134, ↓s81_135, ↓s81_138, ↓s81_140, ↓s81_143, ↓s81_145, kNLn, kNLi, kNLr, va_rf_s, kOl_n, kOl_s, kap_n, kap_c, kb0, kb1, kbif, zif, z0, z1, Bool.false_eq_true, eq_self, not_true_eq_false, not_false_eq_true, if_true, if_false, and_self, true_and, false_and, and_true, and_false, ki_0, ki_1, mr_0_0, hP, hlt2]
          refine J_most (T := S.1) o1 (by omega) (by omega) g4 (tX_le hg.1 (by omega) (by omega)) (fun mi5 f5 => ?_)
          have g5 : wC mi mi5 := wC_tr g3 (fun q a b c => f5 q c)
          have g6 : tabOK (fun v => tup S.1 7 i v) (S.1 0 0) 19 mi5 := fun v' hv' c' d' hd' p' hp' => by rw [f5 47 (by decide)]; exact g4 v' hv' c' d' hd' p' hp'
          have b1 := mst_le (L := fun v => tso (tup S.1 7 i v)) (X := tX (fun v => tup S.1 7 i v) d p) (n := 19)
          have ih4 := fun l8 => ih3 mi5 l8 g5 g6
          revert ih4 hfl
          generalize askF (fun c => mstF (fun v => tso (tup S.1 7 i v)) (tX (fun v => tup S.1 7 i v) (c / 5) (c % 5)) 19) (S.1 0 0) (rkF (fun v => tso (tup S.1 7 i v)) 19) (5 * d + p) = r
          intro hfl ih4
          by_cases cw : mstF (fun v => tso (tup S.1 7 i v)) (tX (fun v => tup S.1 7 i v) d p) 19 < r.1
          · have cw2 : ¬ nI r.1 ≤ nI (mstF (fun v => tso (tup S.1 7 i v)) (tX (fun v => tup S.1 7 i v) d p) 19) := nI_ge cw (by omega)
            simp only [↓s81_0, ↓s81_1, ↓s81_4, ↓s81_5, ↓s81_8, ↓s81_11, ↓s81_12, ↓s81_13, ↓s81_14, ↓s81_17, ↓s81_20, ↓s81_21, ↓s81_22, ↓s81_23, ↓s81_26, ↓s81_27, ↓s81_30, ↓s81_33, ↓s81_35, ↓s81_36, ↓s81_37, ↓s81_38, ↓s81_41, ↓s81_42, ↓s81_43, ↓s81_44, ↓s81_45, ↓s81_48, ↓s81_50, ↓s81_52, ↓s81_53, ↓s81_56, ↓s81_58, ↓s81_59, ↓s81_63, ↓s81_65, ↓s81_68, ↓s81_69, ↓s81_73, ↓s81_74, ↓s81_77, ↓s81_80, ↓s81_83, ↓s81_84, ↓s81_85, ↓s81_87, ↓s81_89, ↓s81_92, ↓s81_94, ↓s81_96, ↓s81_98, ↓s81_101, ↓s81_103, ↓s81_105, ↓s81_106, ↓s81_108, ↓s81_109, ↓s81_111, ↓s81_113, ↓s81_115, ↓s81_118, ↓s81_121, ↓s81_124, ↓s81_127, ↓s81_129, ↓s81_131, ↓s81_134, ↓s81_135, ↓s81_138, ↓s81_140, ↓s81_143, ↓s81_145, kNLn, kNLi, kNLr, va_rf_s, kOl_n, kOl_s, kap_n, kap_c, kb0, kb1, kbif, zif, z0, z1, Bool.false_eq_true, eq_self, not_true_eq_false, not_false_eq_true, if_true, if_false, and_self, true_and, false_and, and_true, and_false, cw2, pk_mul, nI_add]
            simp only [if_pos cw] at ih4
            exact ih4 _
          · have cw2 : nI r.1 ≤ nI (mstF (fun v => tso (tup S.1 7 i v)) (tX (fun v => tup S.1 7 i v) d p) 19) := nI_le (by omega) (by omega)
            simp only [↓s81_0, ↓s81_1, ↓s81_4, ↓s81_5, ↓s81_8, ↓s81_11, ↓s81_12, ↓s81_13, ↓s81_14, ↓s81_17, ↓s81_20, ↓s81_21, ↓s81_22, ↓s81_23, ↓s81_26, ↓s81_27, ↓s81_30, ↓s81_33, ↓s81_35, ↓s81_36, ↓s81_37, ↓s81_38, ↓s81_41, ↓s81_42, ↓s81_43, ↓s81_44, ↓s81_45, ↓s81_48, ↓s81_50, ↓s81_52, ↓s81_53, ↓s81_56, ↓s81_58, ↓s81_59, ↓s81_63, ↓s81_65, ↓s81_68, ↓s81_69, ↓s81_73, ↓s81_74, ↓s81_77, ↓s81_80, ↓s81_83, ↓s81_84, ↓s81_85, ↓s81_87, ↓s81_89, ↓s81_92, ↓s81_94, ↓s81_96, ↓s81_98, ↓s81_101, ↓s81_103, ↓s81_105, ↓s81_106, ↓s81_108, ↓s81_109, ↓s81_111, ↓s81_113, ↓s81_115, ↓s81_118, ↓s81_121, ↓s81_124, ↓s81_127, ↓s81_129, ↓s81_131, ↓s81_134, ↓s81_135, ↓s81_138, ↓s81_140, ↓s81_143, ↓s81_145, kNLn, kNLi, kNLr, va_rf_s, kOl_n, kOl_s, kap_n, kap_c, kb0, kb1, kbif, zif, z0, z1, Bool.false_eq_true, eq_self, not_true_eq_false, not_false_eq_true, if_true, if_false, and_self, true_and, false_and, and_true, and_false, cw2, nI_add]
            simp only [if_neg cw] at ih4
            exact ih4 _
      exact inner (S.1 0 0) 0 mi3 l8 (by omega) g1 g2
  exact outer 21 0 mi2 none none rfl f12 t2
end ASK
