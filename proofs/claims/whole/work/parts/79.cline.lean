/-! the text: lines, the class's side -/
/-- the current token -/
def cTok (B : Nat → Nat) (n q : Nat) (f : Nat → Nat → Int32) : Prop := f 28 4 = nI 0 ∧ f 28 6 = nI (tE B n q) ∧ f 28 7 = nI (tK B n q) ∧ f 28 8 = nI (tB B n q) ∧ (tK B n q = 2 → f 28 9 = nI (tV B n q))
def cFlt (r : Nat × Nat) (f : Nat → Nat → Int32) : Prop := f 28 4 = nI r.1 ∧ f 28 5 = nI r.2
def kCT (T : tT) (f : Nat → Nat → Int32) : Prop := (f 30 0 = nI (T 0 0) ∧ f 30 4 = nI (T 0 4) ∧ f 30 11 = nI (T 0 11) ∧ f 30 12 = nI 0 ∧ f 30 13 = nI 0) ∧ (∀ r k, 1 ≤ r → r ≤ 3 → k < T 0 0 → f (30 + r) k = nI (T r k)) ∧ (∀ r k, 4 ≤ r → r ≤ 7 → k < T 0 4 → f (30 + r) k = nI (T r k))
def cTold (T : tT) (hp : Bool) (ln : Nat) (f : Nat → Nat → Int32) : Prop := kCT T f ∧ f 28 10 = nI (if hp = true then 1 else 0) ∧ f 28 3 = nI ln
theorem kCT_eq {T : tT} {f g : Nat → Nat → Int32} (h : kCT T f) (e : ∀ q, 30 ≤ q → q ≤ 37 → g q = f q) : kCT T g := by
  obtain ⟨⟨h1, h2, h3, h4, h5⟩, hr, hl⟩ := h
  refine ⟨⟨?_, ?_, ?_, ?_, ?_⟩, fun r k a b c => ?_, fun r k a b c => ?_⟩
  · rw [e 30 (by omega) (by omega)]; exact h1
  · rw [e 30 (by omega) (by omega)]; exact h2
  · rw [e 30 (by omega) (by omega)]; exact h3
  · rw [e 30 (by omega) (by omega)]; exact h4
  · rw [e 30 (by omega) (by omega)]; exact h5
  · rw [e _ (by omega) (by omega)]; exact hr r k a b c
  · rw [e _ (by omega) (by omega)]; exact hl r k a b c
theorem cTold_fK {T : tT} {hp : Bool} {ln : Nat} {L : List Nat} {f g : Nat → Nat → Int32} (h : cTold T hp ln f) (e : fK 28 L f g) (h1 : 10 ∉ L) (h2 : 3 ∉ L) : cTold T hp ln g := ⟨kCT_eq h.1 (fun q a b => e.1 q (by omega)), (e.2 10 h1).trans h.2.1, (e.2 3 h2).trans h.2.2⟩
/-- what a reading of the text may change -/
def fP (f g : Nat → Nat → Int32) : Prop := (∀ q, ¬ (q = 28 ∨ (30 ≤ q ∧ q ≤ 43)) → g q = f q) ∧ g 28 1 = f 28 1
theorem fP_rf {f : Nat → Nat → Int32} : fP f f := ⟨fun _ _ => rfl, rfl⟩
theorem fP_tr {f g h : Nat → Nat → Int32} (h1 : fP f g) (h2 : fP g h) : fP f h := ⟨fun q hq => (h2.1 q hq).trans (h1.1 q hq), h2.2.trans h1.2⟩
theorem fP_fK {L : List Nat} {f g : Nat → Nat → Int32} (e : fK 28 L f g) (h : 1 ∉ L) : fP f g := ⟨fun q hq => e.1 q (by omega), e.2 1 h⟩
theorem fP_up {f g : Nat → Nat → Int32} {q k : Nat} {v : Int32} (h : fP f g) (hq : (q = 28 ∧ k ≠ 1) ∨ (30 ≤ q ∧ q ≤ 43)) : fP f (kup g q k v) := ⟨fun a ha => (kup_ne (by omega)).trans (h.1 a ha), by
  by_cases e : q = 28
  · subst e; rw [kup_eq, pk_un (by omega)]; exact h.2
  · rw [kup_ne (by omega)]; exact h.2⟩
theorem tR_fP {n : Nat} {B : Nat → Nat} {f g : Nat → Nat → Int32} (h : tR n B f) (e : fP f g) : tR n B g := ⟨h.1, e.2.trans h.2.1, fun j hj => by rw [e.1 29 (by omega)]; exact h.2.2 j hj⟩
section CLINE
variable {mi : Nat → Nat → Int32} {ml : Nat → Nat → Int64} {m : kMem} {Q : Option Value → kMem → Prop} {B : Nat → Nat} {n lo hi q b e j i K ln : Nat} {T : tT} {hp : Bool}
theorem J_mostOf (hK : K ≤ 5) (hj : j < 4) : kJ 41 0 [some (.int (nI K)), some (.int (nI j))] [] m Q = Q (some (.int (nI (bdF K j).2))) m := by
  have l5 := nI_lit (by omega : K < 2 ^ 31) (by decide : 5 < 2 ^ 31)
  have l4 := nI_lit (by omega : K < 2 ^ 31) (by decide : 4 < 2 ^ 31)
  have lj := nI_litle (by decide : 3 < 2 ^ 31) (by omega : j < 2 ^ 31)
  have l0 := nI_litz (by omega : j < 2 ^ 31)
  unfold bdF
  by_cases c5 : K = 5
  · simp only [↓s41_0, ↓s41_1, ↓s41_2, ↓s41_5, ↓s41_6, ↓s41_7, ↓s41_8, ↓s41_9, ↓s41_12, ↓s41_13, ↓s41_14, ↓s41_17, ↓s41_18, ↓s41_21, ↓s41_23, ↓s41_24, ↓s41_25, ↓s41_28, ↓s41_30, ↓s41_33, ↓s41_35, kNLn, kNLi, kNLr, va_rf_s, kOl_n, kOl_s, kap_n, kap_c, kb0, kb1, kbif, zif, z0, z1, Bool.false_eq_true, eq_self, not_true_eq_false, not_false_eq_true, if_true, if_false, and_self, true_and, false_and, and_true, and_false, l5, eq_true c5]
  · by_cases c4 : K = 4
    · by_cases d : j < 3
      · have d2 : ¬ 3 ≤ j := by omega
        simp only [↓s41_0, ↓s41_1, ↓s41_2, ↓s41_5, ↓s41_6, ↓s41_7, ↓s41_8, ↓s41_9, ↓s41_12, ↓s41_13, ↓s41_14, ↓s41_17, ↓s41_18, ↓s41_21, ↓s41_23, ↓s41_24, ↓s41_25, ↓s41_28, ↓s41_30, ↓s41_33, ↓s41_35, kNLn, kNLi, kNLr, va_rf_s, kOl_n, kOl_s, kap_n, kap_c, kb0, kb1, kbif, zif, z0, z1, Bool.false_eq_true, eq_self, not_true_eq_false, not_false_eq_true, if_true, if_false, and_self, true_and, false_and, and_true, and_false, l5, l4, lj, c5, eq_true c4, d, d2]
      · have d2 : 3 ≤ j := by omega
        simp only [↓s41_0, ↓s41_1, ↓s41_2, ↓s41_5, ↓s41_6, ↓s41_7, ↓s41_8, ↓s41_9, ↓s41_12, ↓s41_13, ↓s41_14, ↓s41_17, ↓s41_18, ↓s41_21, ↓s41_23, ↓s41_24, ↓s41_25, ↓s41_28, ↓s41_30, ↓s41_33, ↓s41_35, kNLn, kNLi, kNLr, va_rf_s, kOl_n, kOl_s, kap_n, kap_c, kb0, kb1, kbif, zif, z0, z1, Bool.false_eq_true, eq_self, not_true_eq_false, not_false_eq_true, if_true, if_false, and_self, true_and, false_and, and_true, and_false, l5, l4, lj, c5, eq_true c4, d, d2]
    · by_cases d : j = 0
      · simp only [↓s41_0, ↓s41_1, ↓s41_2, ↓s41_5, ↓s41_6, ↓s41_7, ↓s41_8, ↓s41_9, ↓s41_12, ↓s41_13, ↓s41_14, ↓s41_17, ↓s41_18, ↓s41_21, ↓s41_23, ↓s41_24, ↓s41_25, ↓s41_28, ↓s41_30, ↓s41_33, ↓s41_35, kNLn, kNLi, kNLr, va_rf_s, kOl_n, kOl_s, kap_n, kap_c, kb0, kb1, kbif, zif, z0, z1, Bool.false_eq_true, eq_self, not_true_eq_false, not_false_eq_true, if_true, if_false, and_self, true_and, false_and, and_true, and_false, l5, l4, l0, c5, c4, eq_true d]
      · simp only [↓s41_0, ↓s41_1, ↓s41_2, ↓s41_5, ↓s41_6, ↓s41_7, ↓s41_8, ↓s41_9, ↓s41_12, ↓s41_13, ↓s41_14, ↓s41_17, ↓s41_18, ↓s41_21, ↓s41_23, ↓s41_24, ↓s41_25, ↓s41_28, ↓s41_30, ↓s41_33, ↓s41_35, kNLn, kNLi, kNLr, va_rf_s, kOl_n, kOl_s, kap_n, kap_c, kb0, kb1, kbif, zif, z0, z1, Bool.false_eq_true, eq_self, not_true_eq_false, not_false_eq_true, if_true, if_false, and_self, true_and, false_and, and_true, and_false, l5, l4, l0, c5, c4, d]
theorem bd_lo (K j : Nat) : (bdF K j).1 = if K = 5 then 1 else 0 := by
  unfold bdF
  split
  · rfl
  · split <;> rfl
theorem bd_hi (K j : Nat) : (bdF K j).2 ≤ 20 := by
  unfold bdF
  split
  · decide
  · split
    · show (if j < 3 then 4 else 18) ≤ 20
      split <;> omega
    · show (if j = 0 then 9 else 20) ≤ 20
      split <;> omega
theorem J_num (hK : K ≤ 5) (hj : j < 4) (h : tR n B mi) (hq : q ≤ n) (h6 : mi 28 6 = nI q) (h4 : mi 28 4 = nI 0)
    (hQ1 : tK B n q = 4 → ∀ mi', fK 28 [4, 5, 6, 7, 8, 9] mi mi' → cFlt (1, tB B n q) mi' → Q none (mi', ml, MR, 95))
    (hQ2 : tK B n q ≠ 4 → tK B n q ≠ 2 → ∀ mi', fK 28 [4, 5, 6, 7, 8, 9] mi mi' → cFlt (2, tB B n q) mi' → Q none (mi', ml, MR, 95))
    (hQ3 : tK B n q = 2 → ¬ ((bdF K j).1 ≤ tV B n q ∧ tV B n q ≤ (bdF K j).2) → ∀ mi', fK 28 [4, 5, 6, 7, 8, 9] mi mi' → cFlt (3, tB B n q) mi' → Q none (mi', ml, MR, 95))
    (hQ4 : tK B n q = 2 → (bdF K j).1 ≤ tV B n q ∧ tV B n q ≤ (bdF K j).2 → ∀ mi', fK 28 [4, 5, 6, 7, 8, 9] mi mi' → mi' 28 4 = nI 0 → mi' 28 6 = nI (tE B n q) → Q none (kup mi' 43 j (nI (tV B n q)), ml, MR, 95)) :
    kJ 40 0 [some (.ref 28), some (.int (nI K)), some (.int (nI j))] [] (mi, ml, MR, 95) Q := by
  have hle := tK_le (B := B) (n := n) (q := q)
  have l5 := nI_lit (by omega : K < 2 ^ 31) (by decide : 5 < 2 ^ 31)
  simp only [↓s40_0, ↓s40_1, ↓s40_4, ↓s40_5, ↓s40_8, ↓s40_11, ↓s40_12, ↓s40_13, ↓s40_16, ↓s40_17, ↓s40_20, ↓s40_21, ↓s40_22, ↓s40_23, ↓s40_26, ↓s40_29, ↓s40_32, ↓s40_33, ↓s40_36, ↓s40_37, ↓s40_38, ↓s40_41, ↓s40_42, ↓s40_45, ↓s40_46, ↓s40_47, ↓s40_48, ↓s40_51, ↓s40_54, ↓s40_57, ↓s40_58, ↓s40_59, ↓s40_60, ↓s40_63, ↓s40_66, ↓s40_69, ↓s40_70, ↓s40_73, ↓s40_74, ↓s40_75, ↓s40_78, ↓s40_79, kNLn, kNLi, kNLr, va_rf_s, kOl_n, kOl_s, kap_n, kap_c, kb0, kb1, kbif, ki_28]
  refine J_tok h hq h6 (fun hk mi1 f1 g4 g6 g7 g8 g9 => ?_) (fun hk mi1 f1 g4 g5 => ?_)
  · rw [h4] at g4
    have l2 := nI_lit (by omega : tK B n q < 2 ^ 31) (by decide : 2 < 2 ^ 31)
    by_cases c : tK B n q = 2
    · have v9 := g9 c
      have v100 := (tK_2 c).2.2.2.2
      have hlo := bd_lo K j
      have hhi := bd_hi K j
      have hw : ∀ Q', kJ 90 0 [some (.int (nI (tV B n q))), some (.int (nI (bdF K j).1)), some (.int (nI (bdF K j).2))] [] (mi1, ml, MR, 95) Q' = Q' (some (.int (if (bdF K j).1 ≤ tV B n q ∧ tV B n q ≤ (bdF K j).2 then nI 1 else nI 0))) (mi1, ml, MR, 95) := fun Q' => by
        rw [J_within]
        simp only [nI_rg (by omega : tV B n q < 2 ^ 31) (by rw [hlo]; split <;> decide : (bdF K j).1 < 2 ^ 31) (by omega : (bdF K j).2 < 2 ^ 31)]
      have hcj : (nI j).toNatClampNeg = j := nI_clamp (by omega)
      have hvj : vp_in (nI j) 4 := vp_in_nI hj (by decide)
      have fin : kJ 40 51 [some (.ref 28), some (.int (nI K)), some (.int (nI j))] [.int (nI (bdF K j).2), .int (nI (bdF K j).1), .int (nI (tV B n q))] (mi1, ml, MR, 95) Q := by
        by_cases d : (bdF K j).1 ≤ tV B n q ∧ tV B n q ≤ (bdF K j).2
        · simp only [↓s40_0, ↓s40_1, ↓s40_4, ↓s40_5, ↓s40_8, ↓s40_11, ↓s40_12, ↓s40_13, ↓s40_16, ↓s40_17, ↓s40_20, ↓s40_21, ↓s40_22, ↓s40_23, ↓s40_26, ↓s40_29, ↓s40_32, ↓s40_33, ↓s40_36, ↓s40_37, ↓s40_38, ↓s40_41, ↓s40_42, ↓s40_45, ↓s40_46, ↓s40_47, ↓s40_48, ↓s40_51, ↓s40_54, ↓s40_57, ↓s40_58, ↓s40_59, ↓s40_60, ↓s40_63, ↓s40_66, ↓s40_69, ↓s40_70, ↓s40_73, ↓s40_74, ↓s40_75, ↓s40_78, ↓s40_79, ↓hw, kNLn, kNLi, kNLr, va_rf_s, kOl_n, kOl_s, kap_n, kap_c, kb0, kb1, kbif, zif, z0, z1, Bool.false_eq_true, eq_self, not_true_eq_false, not_false_eq_true, if_true, if_false, and_self, true_and, false_and, and_true, and_false, d, ki_28, ki_43, kl_43, mr_28_11, hcj, hvj, v9]
          exact hQ4 c d mi1 f1 g4 g6
        · simp only [↓s40_0, ↓s40_1, ↓s40_4, ↓s40_5, ↓s40_8, ↓s40_11, ↓s40_12, ↓s40_13, ↓s40_16, ↓s40_17, ↓s40_20, ↓s40_21, ↓s40_22, ↓s40_23, ↓s40_26, ↓s40_29, ↓s40_32, ↓s40_33, ↓s40_36, ↓s40_37, ↓s40_38, ↓s40_41, ↓s40_42, ↓s40_45, ↓s40_46, ↓s40_47, ↓s40_48, ↓s40_51, ↓s40_54, ↓s40_57, ↓s40_58, ↓s40_59, ↓s40_60, ↓s40_63, ↓s40_66, ↓s40_69, ↓s40_70, ↓s40_73, ↓s40_74, ↓s40_75, ↓s40_78, ↓s40_79, ↓hw, ↓J_fail, kNLn, kNLi, kNLr, va_rf_s, kOl_n, kOl_s, kap_n, kap_c, kb0, kb1, kbif, zif, z0, z1, Bool.false_eq_true, eq_self, not_true_eq_false, not_false_eq_true, if_true, if_false, and_self, true_and, false_and, and_true, and_false, d, ki_28, g8]
          exact hQ3 c d _ (fK_up (fK_up f1 (by decide)) (by decide)) ⟨by rw [kup_eq, pk_un (by decide), kup_eq, pk_us], by rw [kup_eq, pk_us]⟩
      by_cases c5 : K = 5
      · have e1 : (bdF K j).1 = 1 := by rw [hlo, if_pos c5]
        rw [e1] at fin
        simp only [↓s40_0, ↓s40_1, ↓s40_4, ↓s40_5, ↓s40_8, ↓s40_11, ↓s40_12, ↓s40_13, ↓s40_16, ↓s40_17, ↓s40_20, ↓s40_21, ↓s40_22, ↓s40_23, ↓s40_26, ↓s40_29, ↓s40_32, ↓s40_33, ↓s40_36, ↓s40_37, ↓s40_38, ↓s40_41, ↓s40_42, ↓s40_45, ↓s40_46, ↓s40_47, ↓s40_48, ↓s40_54, ↓s40_57, ↓s40_58, ↓s40_59, ↓s40_60, ↓s40_63, ↓s40_66, ↓s40_69, ↓s40_70, ↓s40_73, ↓s40_74, ↓s40_75, ↓s40_78, ↓s40_79, ↓J_mostOf hK hj, kNLn, kNLi, kNLr, va_rf_s, kOl_n, kOl_s, kap_n, kap_c, kb0, kb1, kbif, zif, z0, z1, Bool.false_eq_true, eq_self, not_true_eq_false, not_false_eq_true, if_true, if_false, and_self, true_and, false_and, and_true, and_false, ki_28, g4, g7, v9, l2, l5, eq_true c, eq_true c5]
        exact fin
      · have e1 : (bdF K j).1 = 0 := by rw [hlo, if_neg c5]
        rw [e1] at fin
        simp only [↓s40_0, ↓s40_1, ↓s40_4, ↓s40_5, ↓s40_8, ↓s40_11, ↓s40_12, ↓s40_13, ↓s40_16, ↓s40_17, ↓s40_20, ↓s40_21, ↓s40_22, ↓s40_23, ↓s40_26, ↓s40_29, ↓s40_32, ↓s40_33, ↓s40_36, ↓s40_37, ↓s40_38, ↓s40_41, ↓s40_42, ↓s40_45, ↓s40_46, ↓s40_47, ↓s40_48, ↓s40_54, ↓s40_57, ↓s40_58, ↓s40_59, ↓s40_60, ↓s40_63, ↓s40_66, ↓s40_69, ↓s40_70, ↓s40_73, ↓s40_74, ↓s40_75, ↓s40_78, ↓s40_79, ↓J_mostOf hK hj, kNLn, kNLi, kNLr, va_rf_s, kOl_n, kOl_s, kap_n, kap_c, kb0, kb1, kbif, zif, z0, z1, Bool.false_eq_true, eq_self, not_true_eq_false, not_false_eq_true, if_true, if_false, and_self, true_and, false_and, and_true, and_false, ki_28, g4, g7, v9, l2, l5, eq_true c, c5]
        exact fin
    · simp only [↓s40_0, ↓s40_1, ↓s40_4, ↓s40_5, ↓s40_8, ↓s40_11, ↓s40_12, ↓s40_13, ↓s40_16, ↓s40_17, ↓s40_20, ↓s40_21, ↓s40_22, ↓s40_23, ↓s40_26, ↓s40_29, ↓s40_32, ↓s40_33, ↓s40_36, ↓s40_37, ↓s40_38, ↓s40_41, ↓s40_42, ↓s40_45, ↓s40_46, ↓s40_47, ↓s40_48, ↓s40_51, ↓s40_54, ↓s40_57, ↓s40_58, ↓s40_59, ↓s40_60, ↓s40_63, ↓s40_66, ↓s40_69, ↓s40_70, ↓s40_73, ↓s40_74, ↓s40_75, ↓s40_78, ↓s40_79, ↓J_fail, kNLn, kNLi, kNLr, va_rf_s, kOl_n, kOl_s, kap_n, kap_c, kb0, kb1, kbif, zif, z0, z1, Bool.false_eq_true, eq_self, not_true_eq_false, not_false_eq_true, if_true, if_false, and_self, true_and, false_and, and_true, and_false, ki_28, g4, g7, g8, l2, c]
      exact hQ2 hk c _ (fK_up (fK_up f1 (by decide)) (by decide)) ⟨by rw [kup_eq, pk_un (by decide), kup_eq, pk_us], by rw [kup_eq, pk_us]⟩
  · simp only [↓s40_0, ↓s40_1, ↓s40_4, ↓s40_5, ↓s40_8, ↓s40_11, ↓s40_12, ↓s40_13, ↓s40_16, ↓s40_17, ↓s40_20, ↓s40_21, ↓s40_22, ↓s40_23, ↓s40_26, ↓s40_29, ↓s40_32, ↓s40_33, ↓s40_36, ↓s40_37, ↓s40_38, ↓s40_41, ↓s40_42, ↓s40_45, ↓s40_46, ↓s40_47, ↓s40_48, ↓s40_51, ↓s40_54, ↓s40_57, ↓s40_58, ↓s40_59, ↓s40_60, ↓s40_63, ↓s40_66, ↓s40_69, ↓s40_70, ↓s40_73, ↓s40_74, ↓s40_75, ↓s40_78, ↓s40_79, kNLn, kNLi, kNLr, va_rf_s, kOl_n, kOl_s, kap_n, kap_c, kb0, kb1, kbif, zif, z0, z1, Bool.false_eq_true, eq_self, not_true_eq_false, not_false_eq_true, if_true, if_false, and_self, true_and, false_and, and_true, and_false, ki_28, g4]
    exact hQ1 hk mi1 f1 ⟨g4, g5⟩
theorem J_check (hK : K ≤ 6) (hpo : pOK T) (ht : cTold T hp ln mi) (h8 : mi 28 8 = nI b) :
    kJ 39 0 [some (.ref 28), some (.int (nI K))] [] (mi, ml, MR, 95) Q = if chkF T hp K = 0 then Q none (mi, ml, MR, 95) else Q none (kup (kup mi 28 4 (nI (chkF T hp K))) 28 5 (nI b), ml, MR, 95) := by
  have l6 := nI_lit (by omega : K < 2 ^ 31) (by decide : 6 < 2 ^ 31)
  have l5 := nI_lit (by omega : K < 2 ^ 31) (by decide : 5 < 2 ^ 31)
  have l4 := nI_lit (by omega : K < 2 ^ 31) (by decide : 4 < 2 ^ 31)
  have lle := nI_litle (by decide : 4 < 2 ^ 31) (by omega : K < 2 ^ 31)
  have o1 := hpo.1
  have o2 := hpo.2.1
  have lp := nI_litlt (by omega : T 0 0 < 2 ^ 31) (by decide : 5 < 2 ^ 31)
  have ll := nI_litlt (by omega : T 0 4 < 2 ^ 31) (by decide : 6 < 2 ^ 31)
  have t0 := ht.1.1.1
  have t4 := ht.1.1.2.1
  have t10 := ht.2.1
  unfold chkF
  by_cases c6 : K = 6
  · have n2 : ¬ (2 = 0) := by decide
    simp only [↓s39_0, ↓s39_1, ↓s39_3, ↓s39_6, ↓s39_7, ↓s39_8, ↓s39_9, ↓s39_12, ↓s39_15, ↓s39_18, ↓s39_19, ↓s39_20, ↓s39_23, ↓s39_24, ↓s39_27, ↓s39_30, ↓s39_31, ↓s39_32, ↓s39_33, ↓s39_36, ↓s39_39, ↓s39_42, ↓s39_43, ↓s39_44, ↓s39_47, ↓s39_48, ↓s39_51, ↓s39_54, ↓s39_56, ↓s39_59, ↓s39_60, ↓s39_61, ↓s39_62, ↓s39_65, ↓s39_68, ↓s39_71, ↓s39_72, ↓s39_73, ↓s39_76, ↓s39_77, ↓s39_80, ↓s39_83, ↓s39_84, ↓s39_87, ↓s39_88, ↓s39_89, ↓s39_90, ↓s39_93, ↓s39_96, ↓J_fail, kNLn, kNLi, kNLr, va_rf_s, kOl_n, kOl_s, kap_n, kap_c, kb0, kb1, kbif, zif, z0, z1, Bool.false_eq_true, eq_self, not_true_eq_false, not_false_eq_true, if_true, if_false, and_self, true_and, false_and, and_true, and_false, ki_28, h8, l6, eq_true c6, n2]
  · by_cases c5 : K = 5
    · have nle : (4 ≤ K) = True := eq_true (by omega)
      have n54 : (K = 4) = False := eq_false (by omega)
      have n40 : ¬ (4 = 0) := by decide
      by_cases d : hp = true
      · rw [if_pos d] at t10
        simp only [↓s39_0, ↓s39_1, ↓s39_3, ↓s39_6, ↓s39_7, ↓s39_8, ↓s39_9, ↓s39_12, ↓s39_15, ↓s39_18, ↓s39_19, ↓s39_20, ↓s39_23, ↓s39_24, ↓s39_27, ↓s39_30, ↓s39_31, ↓s39_32, ↓s39_33, ↓s39_36, ↓s39_39, ↓s39_42, ↓s39_43, ↓s39_44, ↓s39_47, ↓s39_48, ↓s39_51, ↓s39_54, ↓s39_56, ↓s39_59, ↓s39_60, ↓s39_61, ↓s39_62, ↓s39_65, ↓s39_68, ↓s39_71, ↓s39_72, ↓s39_73, ↓s39_76, ↓s39_77, ↓s39_80, ↓s39_83, ↓s39_84, ↓s39_87, ↓s39_88, ↓s39_89, ↓s39_90, ↓s39_93, ↓s39_96, ↓J_fail, kNLn, kNLi, kNLr, va_rf_s, kOl_n, kOl_s, kap_n, kap_c, kb0, kb1, kbif, zif, z0, z1, Bool.false_eq_true, eq_self, not_true_eq_false, not_false_eq_true, if_true, if_false, and_self, true_and, false_and, and_true, and_false, ki_28, h8, l6, l5, c6, eq_true c5, t10, eq_true d, n40]
      · rw [if_neg d] at t10
        simp only [↓s39_0, ↓s39_1, ↓s39_3, ↓s39_6, ↓s39_7, ↓s39_8, ↓s39_9, ↓s39_12, ↓s39_15, ↓s39_18, ↓s39_19, ↓s39_20, ↓s39_23, ↓s39_24, ↓s39_27, ↓s39_30, ↓s39_31, ↓s39_32, ↓s39_33, ↓s39_36, ↓s39_39, ↓s39_42, ↓s39_43, ↓s39_44, ↓s39_47, ↓s39_48, ↓s39_51, ↓s39_54, ↓s39_56, ↓s39_59, ↓s39_60, ↓s39_61, ↓s39_62, ↓s39_65, ↓s39_68, ↓s39_71, ↓s39_72, ↓s39_73, ↓s39_76, ↓s39_77, ↓s39_80, ↓s39_83, ↓s39_84, ↓s39_87, ↓s39_88, ↓s39_89, ↓s39_90, ↓s39_93, ↓s39_96, ↓J_fail, kNLn, kNLi, kNLr, va_rf_s, kOl_n, kOl_s, kap_n, kap_c, kb0, kb1, kbif, zif, z0, z1, Bool.false_eq_true, eq_self, not_true_eq_false, not_false_eq_true, if_true, if_false, and_self, true_and, false_and, and_true, and_false, ki_28, h8, l6, l5, l4, lle, c6, eq_true c5, n54, nle, t10, d]
    · by_cases c4 : K = 4
      · have nle : (4 ≤ K) = True := eq_true (by omega)
        have n50 : ¬ (5 = 0) := by decide
        by_cases d : T 0 4 < 6
        · simp only [↓s39_0, ↓s39_1, ↓s39_3, ↓s39_6, ↓s39_7, ↓s39_8, ↓s39_9, ↓s39_12, ↓s39_15, ↓s39_18, ↓s39_19, ↓s39_20, ↓s39_23, ↓s39_24, ↓s39_27, ↓s39_30, ↓s39_31, ↓s39_32, ↓s39_33, ↓s39_36, ↓s39_39, ↓s39_42, ↓s39_43, ↓s39_44, ↓s39_47, ↓s39_48, ↓s39_51, ↓s39_54, ↓s39_56, ↓s39_59, ↓s39_60, ↓s39_61, ↓s39_62, ↓s39_65, ↓s39_68, ↓s39_71, ↓s39_72, ↓s39_73, ↓s39_76, ↓s39_77, ↓s39_80, ↓s39_83, ↓s39_84, ↓s39_87, ↓s39_88, ↓s39_89, ↓s39_90, ↓s39_93, ↓s39_96, ↓J_fail, kNLn, kNLi, kNLr, va_rf_s, kOl_n, kOl_s, kap_n, kap_c, kb0, kb1, kbif, zif, z0, z1, Bool.false_eq_true, eq_self, not_true_eq_false, not_false_eq_true, if_true, if_false, and_self, true_and, false_and, and_true, and_false, ki_28, ki_30, mr_28_2, h8, l6, l5, l4, lle, ll, c6, c5, eq_true c4, nle, t4, d]
        · simp only [↓s39_0, ↓s39_1, ↓s39_3, ↓s39_6, ↓s39_7, ↓s39_8, ↓s39_9, ↓s39_12, ↓s39_15, ↓s39_18, ↓s39_19, ↓s39_20, ↓s39_23, ↓s39_24, ↓s39_27, ↓s39_30, ↓s39_31, ↓s39_32, ↓s39_33, ↓s39_36, ↓s39_39, ↓s39_42, ↓s39_43, ↓s39_44, ↓s39_47, ↓s39_48, ↓s39_51, ↓s39_54, ↓s39_56, ↓s39_59, ↓s39_60, ↓s39_61, ↓s39_62, ↓s39_65, ↓s39_68, ↓s39_71, ↓s39_72, ↓s39_73, ↓s39_76, ↓s39_77, ↓s39_80, ↓s39_83, ↓s39_84, ↓s39_87, ↓s39_88, ↓s39_89, ↓s39_90, ↓s39_93, ↓s39_96, ↓J_fail, kNLn, kNLi, kNLr, va_rf_s, kOl_n, kOl_s, kap_n, kap_c, kb0, kb1, kbif, zif, z0, z1, Bool.false_eq_true, eq_self, not_true_eq_false, not_false_eq_true, if_true, if_false, and_self, true_and, false_and, and_true, and_false, ki_28, ki_30, mr_28_2, h8, l6, l5, l4, lle, ll, c6, c5, eq_true c4, nle, t4, d, n50]
      · have nle : (4 ≤ K) = False := eq_false (by omega)
        have n50 : ¬ (5 = 0) := by decide
        by_cases d : T 0 0 < 5
        · simp only [↓s39_0, ↓s39_1, ↓s39_3, ↓s39_6, ↓s39_7, ↓s39_8, ↓s39_9, ↓s39_12, ↓s39_15, ↓s39_18, ↓s39_19, ↓s39_20, ↓s39_23, ↓s39_24, ↓s39_27, ↓s39_30, ↓s39_31, ↓s39_32, ↓s39_33, ↓s39_36, ↓s39_39, ↓s39_42, ↓s39_43, ↓s39_44, ↓s39_47, ↓s39_48, ↓s39_51, ↓s39_54, ↓s39_56, ↓s39_59, ↓s39_60, ↓s39_61, ↓s39_62, ↓s39_65, ↓s39_68, ↓s39_71, ↓s39_72, ↓s39_73, ↓s39_76, ↓s39_77, ↓s39_80, ↓s39_83, ↓s39_84, ↓s39_87, ↓s39_88, ↓s39_89, ↓s39_90, ↓s39_93, ↓s39_96, ↓J_fail, kNLn, kNLi, kNLr, va_rf_s, kOl_n, kOl_s, kap_n, kap_c, kb0, kb1, kbif, zif, z0, z1, Bool.false_eq_true, eq_self, not_true_eq_false, not_false_eq_true, if_true, if_false, and_self, true_and, false_and, and_true, and_false, ki_28, ki_30, mr_28_2, h8, l6, l5, l4, lle, lp, c6, c5, c4, nle, t0, d]
        · simp only [↓s39_0, ↓s39_1, ↓s39_3, ↓s39_6, ↓s39_7, ↓s39_8, ↓s39_9, ↓s39_12, ↓s39_15, ↓s39_18, ↓s39_19, ↓s39_20, ↓s39_23, ↓s39_24, ↓s39_27, ↓s39_30, ↓s39_31, ↓s39_32, ↓s39_33, ↓s39_36, ↓s39_39, ↓s39_42, ↓s39_43, ↓s39_44, ↓s39_47, ↓s39_48, ↓s39_51, ↓s39_54, ↓s39_56, ↓s39_59, ↓s39_60, ↓s39_61, ↓s39_62, ↓s39_65, ↓s39_68, ↓s39_71, ↓s39_72, ↓s39_73, ↓s39_76, ↓s39_77, ↓s39_80, ↓s39_83, ↓s39_84, ↓s39_87, ↓s39_88, ↓s39_89, ↓s39_90, ↓s39_93, ↓s39_96, ↓J_fail, kNLn, kNLi, kNLr, va_rf_s, kOl_n, kOl_s, kap_n, kap_c, kb0, kb1, kbif, zif, z0, z1, Bool.false_eq_true, eq_self, not_true_eq_false, not_false_eq_true, if_true, if_false, and_self, true_and, false_and, and_true, and_false, ki_28, ki_30, mr_28_2, h8, l6, l5, l4, lle, lp, c6, c5, c4, nle, t0, d, n50]
theorem J_addO {x y z : Int32} (hn : n < 5) (h0 : mi 30 0 = nI n) : kJ 11 0 [some (.ref 30), some (.int x), some (.int y), some (.int z)] [] (mi, ml, MR, 95) Q = Q none (kup (kup (kup (kup mi 31 n x) 32 n y) 33 n z) 30 0 (nI (n + 1)), ml, MR, 95) := by
  have hlt : ¬ nI 5 ≤ nI n := nI_ge hn (by decide)
  have hc : (nI n).toNatClampNeg = n := nI_clamp (by omega)
  have hv : vp_in (nI n) 5 := vp_in_nI hn (by decide)
  have k1 : kup mi 31 n x 30 0 = nI n := by rw [kup_ne (by decide)]; exact h0
  have k2 : kup (kup mi 31 n x) 32 n y 30 0 = nI n := by rw [kup_ne (by decide)]; exact k1
  have k3 : kup (kup (kup mi 31 n x) 32 n y) 33 n z 30 0 = nI n := by rw [kup_ne (by decide)]; exact k2
  simp only [↓s11_0, ↓s11_1, ↓s11_4, ↓s11_5, ↓s11_8, ↓s11_9, ↓s11_12, ↓s11_13, ↓s11_16, ↓s11_17, ↓s11_18, ↓s11_19, ↓s11_22, ↓s11_23, ↓s11_26, ↓s11_27, ↓s11_28, ↓s11_29, ↓s11_32, ↓s11_33, ↓s11_36, ↓s11_37, ↓s11_38, ↓s11_39, ↓s11_40, ↓s11_43, ↓s11_44, ↓s11_45, ↓s11_48, kNLn, kNLi, kNLr, va_rf_s, kOl_n, kOl_s, kap_n, kap_c, kb0, kb1, kbif, zif, z0, z1, Bool.false_eq_true, eq_self, not_true_eq_false, not_false_eq_true, if_true, if_false, and_self, true_and, false_and, and_true, and_false, ki_30, ki_31, ki_32, ki_33, kl_31, kl_32, kl_33, mr_30_1, mr_30_2, mr_30_3, h0, hlt, hc, hv, k1, k2, k3, nI_add]
end CLINE
