/-! names of lines -/
def nmL (i : Nat) : List Nat := match i with
  | 0 => [112, 108, 97, 105, 110]
  | 1 => [112, 114, 111, 117, 100]
  | 2 => [107, 105, 110, 100]
  | 3 => [115, 108, 121]
  | 4 => [108, 101, 116, 116, 101, 114]
  | _ => [112, 97, 99, 101]
def nmB (B : Nat → Nat) (b e : Nat) (s : List Nat) : Bool := decide (e - b = s.length ∧ ∀ j, j < s.length → B (b + j) = s.getD j 0)
def lnS (B : Nat → Nat) (b e : Nat) : Nat → Nat → Nat
  | 0, i => i
  | k + 1, i => if nmB B b e (nmL i) = true then i else lnS B b e k (i + 1)
theorem lnS_le {B : Nat → Nat} {b e : Nat} : ∀ k i, lnS B b e k i ≤ i + k := by
  intro k
  induction k with
  | zero => intro i; exact Nat.le_refl _
  | succ k ih =>
    intro i
    unfold lnS
    split
    · omega
    · have := ih (i + 1); omega
section NAME
variable {mi : Nat → Nat → Int32} {ml : Nat → Nat → Int64} {m : kMem} {Q : Option Value → kMem → Prop} {B : Nat → Nat} {n lo hi q b e j i : Nat}
theorem nmL_tx : ∀ i, i < 6 → (kTx (1000 + i - 1000)).length = (nmL i).length ∧ (nmL i).length ≤ 6 ∧ (∀ j, j < 6 → j < (nmL i).length → (kTx (1000 + i - 1000)).getD j 0 = nI ((nmL i).getD j 0) ∧ (nmL i).getD j 0 < 128) := by decide +kernel
theorem J_nameIs (hi : i < 6) (h : tR n B mi) (h6 : mi 28 6 = nI e) (h8 : mi 28 8 = nI b) (hbe : b ≤ e) (hen : e ≤ n) : kJ 50 0 [some (.ref 28), some (.ref (1000 + i)), none] [] (mi, ml, MR, 95) Q = Q (some (.int (if nmB B b e (nmL i) = true then nI 1 else nI 0))) (mi, ml, MR, 95) := by
  have h160 := h.1.1
  obtain ⟨t1, t2, t3⟩ := nmL_tx i hi
  have es : nI e - nI b = nI (e - b) := pk_sub hbe
  have hs : 1000 ≤ 1000 + i ∧ 1000 + i < 1006 := by omega
  have el := nI_lit (by omega : e - b < 2 ^ 31) (by omega : (nmL i).length < 2 ^ 31)
  by_cases c : e - b = (nmL i).length
  · simp only [↓s50_0, ↓s50_1, ↓s50_4, ↓s50_5, ↓s50_8, ↓s50_9, ↓s50_10, ↓s50_13, ↓s50_16, ↓s50_17, ↓s50_18, ↓s50_19, ↓s50_21, ↓s50_22, ↓s50_25, ↓s50_28, ↓s50_29, ↓s50_32, ↓s50_33, ↓s50_36, ↓s50_37, ↓s50_38, ↓s50_39, ↓s50_40, ↓s50_41, ↓s50_44, ↓s50_47, ↓s50_48, ↓s50_49, ↓s50_52, ↓s50_55, ↓s50_56, ↓kb0, ↓kb1, kNLn, kNLi, kNLr, va_rf_s, kOl_n, kOl_s, kap_n, kap_c, kb0, kb1, kbif, zif, z0, z1, Bool.false_eq_true, eq_self, not_true_eq_false, not_false_eq_true, if_true, if_false, and_self, true_and, false_and, and_true, and_false, ki_28, h6, h8, es, hs, t1, el, c]
    have loop : ∀ (k j : Nat), j + k = (nmL i).length → (∀ j', j' < j → B (b + j') = (nmL i).getD j' 0) → kJ 50 20 [some (.ref 28), some (.ref (1000 + i)), some (.int (nI j))] [] (mi, ml, MR, 95) Q = Q (some (.int (if nmB B b e (nmL i) = true then nI 1 else nI 0))) (mi, ml, MR, 95) := by
      intro k
      induction k with
      | zero =>
        intro j hk hj
        have hge : nI (nmL i).length ≤ nI j := nI_le (by omega) (by omega)
        have hn : nmB B b e (nmL i) = true := decide_eq_true ⟨c, fun j' h' => hj j' (by omega)⟩
        rw [s50_20]
        simp only [↓s50_0, ↓s50_1, ↓s50_4, ↓s50_5, ↓s50_8, ↓s50_9, ↓s50_10, ↓s50_13, ↓s50_16, ↓s50_17, ↓s50_18, ↓s50_19, ↓s50_21, ↓s50_22, ↓s50_25, ↓s50_28, ↓s50_29, ↓s50_32, ↓s50_33, ↓s50_36, ↓s50_37, ↓s50_38, ↓s50_39, ↓s50_40, ↓s50_41, ↓s50_44, ↓s50_47, ↓s50_48, ↓s50_49, ↓s50_52, ↓s50_55, ↓s50_56, ↓kb0, ↓kb1, kNLn, kNLi, kNLr, va_rf_s, kOl_n, kOl_s, kap_n, kap_c, kb0, kb1, kbif, zif, z0, z1, Bool.false_eq_true, eq_self, not_true_eq_false, not_false_eq_true, if_true, if_false, and_self, true_and, false_and, and_true, and_false, hs, t1, hge, hn]
      | succ k ih =>
        intro j hk hj
        have hlt : ¬ nI (nmL i).length ≤ nI j := nI_ge (by omega) (by omega)
        have hc : (nI (b + j)).toNatClampNeg = b + j := nI_clamp (by omega)
        have hv : vp_in (nI (b + j)) 160 := vp_in_nI (by omega) (by decide)
        have hcj : (nI j).toNatClampNeg = j := nI_clamp (by omega)
        have hvj : vp_in (nI j) (nmL i).length := vp_in_nI (by omega) (by omega)
        have hr := h.2.2 (b + j) (by omega)
        have b128 := h.1.2 (b + j) (by omega)
        obtain ⟨t4, t5⟩ := t3 j (by omega) (by omega)
        have ec := nI_lit (by omega : B (b + j) < 2 ^ 31) (by omega : (nmL i).getD j 0 < 2 ^ 31)
        rw [s50_20]
        by_cases d : B (b + j) = (nmL i).getD j 0
        · simp only [↓s50_0, ↓s50_1, ↓s50_4, ↓s50_5, ↓s50_8, ↓s50_9, ↓s50_10, ↓s50_13, ↓s50_16, ↓s50_17, ↓s50_18, ↓s50_19, ↓s50_21, ↓s50_22, ↓s50_25, ↓s50_28, ↓s50_29, ↓s50_32, ↓s50_33, ↓s50_36, ↓s50_37, ↓s50_38, ↓s50_39, ↓s50_40, ↓s50_41, ↓s50_44, ↓s50_47, ↓s50_48, ↓s50_49, ↓s50_52, ↓s50_55, ↓s50_56, ↓kb0, ↓kb1, kNLn, kNLi, kNLr, va_rf_s, kOl_n, kOl_s, kap_n, kap_c, kb0, kb1, kbif, zif, z0, z1, Bool.false_eq_true, eq_self, not_true_eq_false, not_false_eq_true, if_true, if_false, and_self, true_and, false_and, and_true, and_false, ki_28, ki_29, kl_29, mr_28_0, h8, hs, t1, hlt, nI_add, hc, hv, hcj, hvj, hr, t4, ec, eq_true d]
          refine ih (j + 1) (by omega) (fun j' h' => ?_)
          by_cases ej : j' = j
          · rw [ej]; exact d
          · exact hj j' (by omega)
        · have hn : ¬ nmB B b e (nmL i) = true := fun z => d ((of_decide_eq_true z).2 j (by omega))
          simp only [↓s50_0, ↓s50_1, ↓s50_4, ↓s50_5, ↓s50_8, ↓s50_9, ↓s50_10, ↓s50_13, ↓s50_16, ↓s50_17, ↓s50_18, ↓s50_19, ↓s50_21, ↓s50_22, ↓s50_25, ↓s50_28, ↓s50_29, ↓s50_32, ↓s50_33, ↓s50_36, ↓s50_37, ↓s50_38, ↓s50_39, ↓s50_40, ↓s50_41, ↓s50_44, ↓s50_47, ↓s50_48, ↓s50_49, ↓s50_52, ↓s50_55, ↓s50_56, ↓kb0, ↓kb1, kNLn, kNLi, kNLr, va_rf_s, kOl_n, kOl_s, kap_n, kap_c, kb0, kb1, kbif, zif, z0, z1, Bool.false_eq_true, eq_self, not_true_eq_false, not_false_eq_true, if_true, if_false, and_self, true_and, false_and, and_true, and_false, ki_28, ki_29, kl_29, mr_28_0, h8, hs, t1, hlt, nI_add, hc, hv, hcj, hvj, hr, t4, ec, d, hn]
    exact loop (nmL i).length 0 (by omega) (fun j' h' => absurd h' (Nat.not_lt_zero j'))
  · have hn : ¬ nmB B b e (nmL i) = true := fun z => c (of_decide_eq_true z).1
    simp only [↓s50_0, ↓s50_1, ↓s50_4, ↓s50_5, ↓s50_8, ↓s50_9, ↓s50_10, ↓s50_13, ↓s50_16, ↓s50_17, ↓s50_18, ↓s50_19, ↓s50_21, ↓s50_22, ↓s50_25, ↓s50_28, ↓s50_29, ↓s50_32, ↓s50_33, ↓s50_36, ↓s50_37, ↓s50_38, ↓s50_39, ↓s50_40, ↓s50_41, ↓s50_44, ↓s50_47, ↓s50_48, ↓s50_49, ↓s50_52, ↓s50_55, ↓s50_56, ↓kb0, ↓kb1, kNLn, kNLi, kNLr, va_rf_s, kOl_n, kOl_s, kap_n, kap_c, kb0, kb1, kbif, zif, z0, z1, Bool.false_eq_true, eq_self, not_true_eq_false, not_false_eq_true, if_true, if_false, and_self, true_and, false_and, and_true, and_false, ki_28, h6, h8, es, hs, t1, el, c, hn]
theorem J_nameOf (hi : i < 6) : kJ 49 0 [some (.int (nI i))] [] m Q = Q (some (.ref (1000 + i))) m := by
  rcases (by omega : i = 0 ∨ i = 1 ∨ i = 2 ∨ i = 3 ∨ i = 4 ∨ i = 5) with rfl | rfl | rfl | rfl | rfl | rfl
  all_goals simp only [↓s49_0, ↓s49_1, ↓s49_36, ↓s49_38, ↓s49_39, ↓s49_41, ↓s49_42, ↓s49_44, ↓s49_45, ↓s49_47, ↓s49_48, ↓s49_50, ↓s49_51, ↓s49_53, kNLn, kNLi, kNLr, va_rf_s, kOl_n, kOl_s, kap_n, kap_c, kb0, kb1, kbif, nl_0_1, nl_0_2, nl_0_3, nl_0_4, nl_0_5, nl_0_6, nl_1_0, nl_1_2, nl_1_3, nl_1_4, nl_1_5, nl_1_6, nl_2_0, nl_2_1, nl_2_3, nl_2_4, nl_2_5, nl_2_6, nl_3_0, nl_3_1, nl_3_2, nl_3_4, nl_3_5, nl_3_6, nl_4_0, nl_4_1, nl_4_2, nl_4_3, nl_4_5, nl_4_6, nl_5_0, nl_5_1, nl_5_2, nl_5_3, nl_5_4, nl_5_6, nl_6_0, nl_6_1, nl_6_2, nl_6_3, nl_6_4, nl_6_5, nz_1, nz_2, nz_3, nz_4, nz_5, nz_6, eq_self, if_true, if_false]
theorem J_lineOf (h : tR n B mi) (h6 : mi 28 6 = nI e) (h8 : mi 28 8 = nI b) (hbe : b ≤ e) (hen : e ≤ n) : kJ 48 0 [some (.ref 28), none] [] (mi, ml, MR, 95) Q = Q (some (.int (nI (lnS B b e 6 0)))) (mi, ml, MR, 95) := by
  simp only [↓s48_0, ↓s48_1, ↓s48_3, ↓s48_5, ↓s48_8, ↓s48_9, ↓s48_10, ↓s48_13, ↓s48_16, ↓s48_19, ↓s48_20, ↓s48_21, ↓s48_24, ↓s48_27, ↓s48_29, kNLn, kNLi, kNLr, va_rf_s, kOl_n, kOl_s, kap_n, kap_c, kb0, kb1, kbif]
  have loop : ∀ (k i : Nat), i + k = 6 → kJ 48 2 [some (.ref 28), some (.int (nI i))] [] (mi, ml, MR, 95) Q = Q (some (.int (nI (lnS B b e k i)))) (mi, ml, MR, 95) := by
    intro k
    induction k with
    | zero =>
      intro i hk
      have e6 : i = 6 := by omega
      subst e6
      rw [s48_2]
      simp only [↓s48_0, ↓s48_1, ↓s48_3, ↓s48_5, ↓s48_8, ↓s48_9, ↓s48_10, ↓s48_13, ↓s48_16, ↓s48_19, ↓s48_20, ↓s48_21, ↓s48_24, ↓s48_27, ↓s48_29, kNLn, kNLi, kNLr, va_rf_s, kOl_n, kOl_s, kap_n, kap_c, kb0, kb1, kbif, zif, z0, z1, Bool.false_eq_true, eq_self, not_true_eq_false, not_false_eq_true, if_true, if_false, and_self, true_and, false_and, and_true, and_false, Int32.le_refl]
      rfl
    | succ k ih =>
      intro i hk
      have hlt : ¬ nI 6 ≤ nI i := nI_ge (by omega) (by omega)
      have eL : lnS B b e (k + 1) i = if nmB B b e (nmL i) = true then i else lnS B b e k (i + 1) := rfl
      rw [s48_2]
      by_cases c : nmB B b e (nmL i) = true
      · rw [if_pos c] at eL
        simp only [↓s48_0, ↓s48_1, ↓s48_3, ↓s48_5, ↓s48_8, ↓s48_9, ↓s48_10, ↓s48_13, ↓s48_16, ↓s48_19, ↓s48_20, ↓s48_21, ↓s48_24, ↓s48_27, ↓s48_29, ↓J_nameOf (by omega : i < 6), ↓J_nameIs (by omega : i < 6) h h6 h8 hbe hen, kNLn, kNLi, kNLr, va_rf_s, kOl_n, kOl_s, kap_n, kap_c, kb0, kb1, kbif, zif, z0, z1, Bool.false_eq_true, eq_self, not_true_eq_false, not_false_eq_true, if_true, if_false, and_self, true_and, false_and, and_true, and_false, ki_28, hlt, c, eL]
      · rw [if_neg c] at eL
        simp only [↓s48_0, ↓s48_1, ↓s48_3, ↓s48_5, ↓s48_8, ↓s48_9, ↓s48_10, ↓s48_13, ↓s48_16, ↓s48_19, ↓s48_20, ↓s48_21, ↓s48_24, ↓s48_27, ↓s48_29, ↓J_nameOf (by omega : i < 6), ↓J_nameIs (by omega : i < 6) h h6 h8 hbe hen, kNLn, kNLi, kNLr, va_rf_s, kOl_n, kOl_s, kap_n, kap_c, kb0, kb1, kbif, zif, z0, z1, Bool.false_eq_true, eq_self, not_true_eq_false, not_false_eq_true, if_true, if_false, and_self, true_and, false_and, and_true, and_false, ki_28, hlt, c, eL, nI_add]
        exact ih (i + 1) (by omega)
  exact loop 6 0 rfl
/-! the reference's -/
theorem R_is {N x y z : Nat} (h : rT n B mi) (hN : 3 ≤ N) (hN2 : N < 100) (hx : x < 128) (hy : y < 128) (hz : z < 128) (h8 : mi 83 8 = nI e) (h9 : mi 83 9 = nI b) (hbe : b ≤ e) (hen : e ≤ n) : kJ 116 0 [some (.ref 83), some (.int (nI N)), some (.int (nI x)), some (.int (nI y)), some (.int (nI z))] [] (mi, ml, MR, 95) Q = Q (some (.int (if e - b = N ∧ B b = x ∧ B (b + 1) = y ∧ B (b + 2) = z then nI 1 else nI 0))) (mi, ml, MR, 95) := by
  have h160 := h.1.1
  have es : nI e - nI b = nI (e - b) := pk_sub hbe
  have el := nI_lit (by omega : e - b < 2 ^ 31) (by omega : N < 2 ^ 31)
  by_cases c : e - b = N
  · have q0 : bAt B n b = nI (B b) := if_pos (by omega)
    have q1 : bAt B n (b + 1) = nI (B (b + 1)) := if_pos (by omega)
    have q2 : bAt B n (b + 2) = nI (B (b + 2)) := if_pos (by omega)
    have b0 := h.1.2 b (by omega)
    have b1 := h.1.2 (b + 1) (by omega)
    have b2 := h.1.2 (b + 2) (by omega)
    have l0 := nI_lit (by omega : B b < 2 ^ 31) (by omega : x < 2 ^ 31)
    have l1 := nI_lit (by omega : B (b + 1) < 2 ^ 31) (by omega : y < 2 ^ 31)
    have l2 := nI_lit (by omega : B (b + 2) < 2 ^ 31) (by omega : z < 2 ^ 31)
    by_cases d0 : B b = x
    · by_cases d1 : B (b + 1) = y
      · by_cases d2 : B (b + 2) = z
        · simp only [↓s116_0, ↓s116_1, ↓s116_4, ↓s116_5, ↓s116_8, ↓s116_9, ↓s116_10, ↓s116_13, ↓s116_14, ↓s116_15, ↓s116_18, ↓s116_21, ↓s116_22, ↓s116_25, ↓s116_26, ↓s116_27, ↓s116_30, ↓s116_31, ↓s116_32, ↓s116_35, ↓s116_36, ↓s116_39, ↓s116_40, ↓s116_41, ↓s116_44, ↓s116_45, ↓s116_46, ↓s116_49, ↓s116_51, ↓s116_54, ↓s116_55, ↓s116_58, ↓s116_59, ↓kb0, ↓kb1, ↓R_byte h (by omega : b < 1000), ↓R_byte h (by omega : b + 1 < 1000), ↓R_byte h (by omega : b + 2 < 1000), kNLn, kNLi, kNLr, va_rf_s, kOl_n, kOl_s, kap_n, kap_c, kb0, kb1, kbif, zif, z0, z1, Bool.false_eq_true, eq_self, not_true_eq_false, not_false_eq_true, if_true, if_false, and_self, true_and, false_and, and_true, and_false, ki_83, h8, h9, es, el, nI_add, q0, q1, q2, l0, l1, l2, eq_true c, eq_true d0, eq_true d1, eq_true d2]
        · simp only [↓s116_0, ↓s116_1, ↓s116_4, ↓s116_5, ↓s116_8, ↓s116_9, ↓s116_10, ↓s116_13, ↓s116_14, ↓s116_15, ↓s116_18, ↓s116_21, ↓s116_22, ↓s116_25, ↓s116_26, ↓s116_27, ↓s116_30, ↓s116_31, ↓s116_32, ↓s116_35, ↓s116_36, ↓s116_39, ↓s116_40, ↓s116_41, ↓s116_44, ↓s116_45, ↓s116_46, ↓s116_49, ↓s116_51, ↓s116_54, ↓s116_55, ↓s116_58, ↓s116_59, ↓kb0, ↓kb1, ↓R_byte h (by omega : b < 1000), ↓R_byte h (by omega : b + 1 < 1000), ↓R_byte h (by omega : b + 2 < 1000), kNLn, kNLi, kNLr, va_rf_s, kOl_n, kOl_s, kap_n, kap_c, kb0, kb1, kbif, zif, z0, z1, Bool.false_eq_true, eq_self, not_true_eq_false, not_false_eq_true, if_true, if_false, and_self, true_and, false_and, and_true, and_false, ki_83, h8, h9, es, el, nI_add, q0, q1, q2, l0, l1, l2, eq_true c, eq_true d0, eq_true d1, d2]
      · simp only [↓s116_0, ↓s116_1, ↓s116_4, ↓s116_5, ↓s116_8, ↓s116_9, ↓s116_10, ↓s116_13, ↓s116_14, ↓s116_15, ↓s116_18, ↓s116_21, ↓s116_22, ↓s116_25, ↓s116_26, ↓s116_27, ↓s116_30, ↓s116_31, ↓s116_32, ↓s116_35, ↓s116_36, ↓s116_39, ↓s116_40, ↓s116_41, ↓s116_44, ↓s116_45, ↓s116_46, ↓s116_49, ↓s116_51, ↓s116_54, ↓s116_55, ↓s116_58, ↓s116_59, ↓kb0, ↓kb1, ↓R_byte h (by omega : b < 1000), ↓R_byte h (by omega : b + 1 < 1000), kNLn, kNLi, kNLr, va_rf_s, kOl_n, kOl_s, kap_n, kap_c, kb0, kb1, kbif, zif, z0, z1, Bool.false_eq_true, eq_self, not_true_eq_false, not_false_eq_true, if_true, if_false, and_self, true_and, false_and, and_true, and_false, ki_83, h8, h9, es, el, nI_add, q0, q1, l0, l1, eq_true c, eq_true d0, d1]
    · simp only [↓s116_0, ↓s116_1, ↓s116_4, ↓s116_5, ↓s116_8, ↓s116_9, ↓s116_10, ↓s116_13, ↓s116_14, ↓s116_15, ↓s116_18, ↓s116_21, ↓s116_22, ↓s116_25, ↓s116_26, ↓s116_27, ↓s116_30, ↓s116_31, ↓s116_32, ↓s116_35, ↓s116_36, ↓s116_39, ↓s116_40, ↓s116_41, ↓s116_44, ↓s116_45, ↓s116_46, ↓s116_49, ↓s116_51, ↓s116_54, ↓s116_55, ↓s116_58, ↓s116_59, ↓kb0, ↓kb1, ↓R_byte h (by omega : b < 1000), kNLn, kNLi, kNLr, va_rf_s, kOl_n, kOl_s, kap_n, kap_c, kb0, kb1, kbif, zif, z0, z1, Bool.false_eq_true, eq_self, not_true_eq_false, not_false_eq_true, if_true, if_false, and_self, true_and, false_and, and_true, and_false, ki_83, h8, h9, es, el, q0, l0, eq_true c, d0]
  · simp only [↓s116_0, ↓s116_1, ↓s116_4, ↓s116_5, ↓s116_8, ↓s116_9, ↓s116_10, ↓s116_13, ↓s116_14, ↓s116_15, ↓s116_18, ↓s116_21, ↓s116_22, ↓s116_25, ↓s116_26, ↓s116_27, ↓s116_30, ↓s116_31, ↓s116_32, ↓s116_35, ↓s116_36, ↓s116_39, ↓s116_40, ↓s116_41, ↓s116_44, ↓s116_45, ↓s116_46, ↓s116_49, ↓s116_51, ↓s116_54, ↓s116_55, ↓s116_58, ↓s116_59, ↓kb0, ↓kb1, kNLn, kNLi, kNLr, va_rf_s, kOl_n, kOl_s, kap_n, kap_c, kb0, kb1, kbif, zif, z0, z1, Bool.false_eq_true, eq_self, not_true_eq_false, not_false_eq_true, if_true, if_false, and_self, true_and, false_and, and_true, and_false, ki_83, h8, h9, es, el, c]
theorem R_ends {x y z : Int32} (h : rT n B mi) (h9 : mi 83 9 = nI b) (hb : b ≤ n) : kJ 117 0 [some (.ref 83), some (.int x), some (.int y), some (.int z)] [] (mi, ml, MR, 95) Q = Q (some (.int (if bAt B n (b + 3) = x ∧ (y = 0 ∨ bAt B n (b + 4) = y) ∧ (z = 0 ∨ bAt B n (b + 5) = z) then nI 1 else nI 0))) (mi, ml, MR, 95) := by
  have h160 := h.1.1
  have hz : ∀ (z : Int32), kJ 117 32 [some (.ref 83), some (.int x), some (.int y), some (.int z)] [] (mi, ml, MR, 95) Q = Q (some (.int (if (z = 0 ∨ bAt B n (b + 5) = z) then nI 1 else nI 0))) (mi, ml, MR, 95) := by
    intro z
    by_cases c : z = 0
    · simp only [↓s117_0, ↓s117_1, ↓s117_2, ↓s117_5, ↓s117_6, ↓s117_7, ↓s117_10, ↓s117_11, ↓s117_14, ↓s117_15, ↓s117_18, ↓s117_19, ↓s117_20, ↓s117_23, ↓s117_24, ↓s117_25, ↓s117_28, ↓s117_29, ↓s117_32, ↓s117_33, ↓s117_36, ↓s117_37, ↓s117_38, ↓s117_41, ↓s117_42, ↓s117_43, ↓s117_46, ↓s117_47, ↓s117_50, ↓s117_51, ↓s117_54, ↓s117_55, ↓kb0, ↓kb1, kNLn, kNLi, kNLr, va_rf_s, kOl_n, kOl_s, kap_n, kap_c, kb0, kb1, kbif, zif, z0, z1, Bool.false_eq_true, eq_self, not_true_eq_false, not_false_eq_true, if_true, if_false, and_self, true_and, false_and, and_true, and_false, eq_true c, true_or]
    · by_cases d : bAt B n (b + 5) = z
      · simp only [↓s117_0, ↓s117_1, ↓s117_2, ↓s117_5, ↓s117_6, ↓s117_7, ↓s117_10, ↓s117_11, ↓s117_14, ↓s117_15, ↓s117_18, ↓s117_19, ↓s117_20, ↓s117_23, ↓s117_24, ↓s117_25, ↓s117_28, ↓s117_29, ↓s117_32, ↓s117_33, ↓s117_36, ↓s117_37, ↓s117_38, ↓s117_41, ↓s117_42, ↓s117_43, ↓s117_46, ↓s117_47, ↓s117_50, ↓s117_51, ↓s117_54, ↓s117_55, ↓kb0, ↓kb1, ↓R_byte h (by omega : b + 5 < 1000), kNLn, kNLi, kNLr, va_rf_s, kOl_n, kOl_s, kap_n, kap_c, kb0, kb1, kbif, zif, z0, z1, Bool.false_eq_true, eq_self, not_true_eq_false, not_false_eq_true, if_true, if_false, and_self, true_and, false_and, and_true, and_false, ki_83, h9, nI_add, c, eq_true d, or_true]
      · simp only [↓s117_0, ↓s117_1, ↓s117_2, ↓s117_5, ↓s117_6, ↓s117_7, ↓s117_10, ↓s117_11, ↓s117_14, ↓s117_15, ↓s117_18, ↓s117_19, ↓s117_20, ↓s117_23, ↓s117_24, ↓s117_25, ↓s117_28, ↓s117_29, ↓s117_32, ↓s117_33, ↓s117_36, ↓s117_37, ↓s117_38, ↓s117_41, ↓s117_42, ↓s117_43, ↓s117_46, ↓s117_47, ↓s117_50, ↓s117_51, ↓s117_54, ↓s117_55, ↓kb0, ↓kb1, ↓R_byte h (by omega : b + 5 < 1000), kNLn, kNLi, kNLr, va_rf_s, kOl_n, kOl_s, kap_n, kap_c, kb0, kb1, kbif, zif, z0, z1, Bool.false_eq_true, eq_self, not_true_eq_false, not_false_eq_true, if_true, if_false, and_self, true_and, false_and, and_true, and_false, ki_83, h9, nI_add, c, d, or_self]
  by_cases c0 : bAt B n (b + 3) = x
  · by_cases c1 : y = 0
    · simp only [↓s117_0, ↓s117_1, ↓s117_2, ↓s117_5, ↓s117_6, ↓s117_7, ↓s117_10, ↓s117_11, ↓s117_14, ↓s117_15, ↓s117_18, ↓s117_19, ↓s117_20, ↓s117_23, ↓s117_24, ↓s117_25, ↓s117_28, ↓s117_29, ↓s117_33, ↓s117_36, ↓s117_37, ↓s117_38, ↓s117_41, ↓s117_42, ↓s117_43, ↓s117_46, ↓s117_47, ↓s117_50, ↓s117_51, ↓s117_54, ↓s117_55, ↓hz, ↓R_byte h (by omega : b + 3 < 1000), kNLn, kNLi, kNLr, va_rf_s, kOl_n, kOl_s, kap_n, kap_c, kb0, kb1, kbif, zif, z0, z1, Bool.false_eq_true, eq_self, not_true_eq_false, not_false_eq_true, if_true, if_false, and_self, true_and, false_and, and_true, and_false, ki_83, h9, nI_add, eq_true c0, eq_true c1, true_or]
    · by_cases c2 : bAt B n (b + 4) = y
      · simp only [↓s117_0, ↓s117_1, ↓s117_2, ↓s117_5, ↓s117_6, ↓s117_7, ↓s117_10, ↓s117_11, ↓s117_14, ↓s117_15, ↓s117_18, ↓s117_19, ↓s117_20, ↓s117_23, ↓s117_24, ↓s117_25, ↓s117_28, ↓s117_29, ↓s117_33, ↓s117_36, ↓s117_37, ↓s117_38, ↓s117_41, ↓s117_42, ↓s117_43, ↓s117_46, ↓s117_47, ↓s117_50, ↓s117_51, ↓s117_54, ↓s117_55, ↓hz, ↓R_byte h (by omega : b + 3 < 1000), ↓R_byte h (by omega : b + 4 < 1000), kNLn, kNLi, kNLr, va_rf_s, kOl_n, kOl_s, kap_n, kap_c, kb0, kb1, kbif, zif, z0, z1, Bool.false_eq_true, eq_self, not_true_eq_false, not_false_eq_true, if_true, if_false, and_self, true_and, false_and, and_true, and_false, ki_83, h9, nI_add, eq_true c0, c1, eq_true c2, or_true]
      · simp only [↓s117_0, ↓s117_1, ↓s117_2, ↓s117_5, ↓s117_6, ↓s117_7, ↓s117_10, ↓s117_11, ↓s117_14, ↓s117_15, ↓s117_18, ↓s117_19, ↓s117_20, ↓s117_23, ↓s117_24, ↓s117_25, ↓s117_28, ↓s117_29, ↓s117_33, ↓s117_36, ↓s117_37, ↓s117_38, ↓s117_41, ↓s117_42, ↓s117_43, ↓s117_46, ↓s117_47, ↓s117_50, ↓s117_51, ↓s117_54, ↓s117_55, ↓kb0, ↓kb1, ↓R_byte h (by omega : b + 3 < 1000), ↓R_byte h (by omega : b + 4 < 1000), kNLn, kNLi, kNLr, va_rf_s, kOl_n, kOl_s, kap_n, kap_c, kb0, kb1, kbif, zif, z0, z1, Bool.false_eq_true, eq_self, not_true_eq_false, not_false_eq_true, if_true, if_false, and_self, true_and, false_and, and_true, and_false, ki_83, h9, nI_add, eq_true c0, c1, c2, or_self]
  · simp only [↓s117_0, ↓s117_1, ↓s117_2, ↓s117_5, ↓s117_6, ↓s117_7, ↓s117_10, ↓s117_11, ↓s117_14, ↓s117_15, ↓s117_18, ↓s117_19, ↓s117_20, ↓s117_23, ↓s117_24, ↓s117_25, ↓s117_28, ↓s117_29, ↓s117_32, ↓s117_33, ↓s117_36, ↓s117_37, ↓s117_38, ↓s117_41, ↓s117_42, ↓s117_43, ↓s117_46, ↓s117_47, ↓s117_50, ↓s117_51, ↓s117_54, ↓s117_55, ↓kb0, ↓kb1, ↓R_byte h (by omega : b + 3 < 1000), kNLn, kNLi, kNLr, va_rf_s, kOl_n, kOl_s, kap_n, kap_c, kb0, kb1, kbif, zif, z0, z1, Bool.false_eq_true, eq_self, not_true_eq_false, not_false_eq_true, if_true, if_false, and_self, true_and, false_and, and_true, and_false, ki_83, h9, nI_add, c0]
theorem nm_0 : (nmB B b e (nmL 0) = true) = (e - b = 5 ∧ B b = 112 ∧ B (b + 1) = 108 ∧ B (b + 2) = 97 ∧ B (b + 3) = 105 ∧ B (b + 4) = 110) := by
  apply propext
  constructor
  · intro z
    obtain ⟨z1, z2⟩ := of_decide_eq_true z
    exact ⟨z1, z2 0 (by decide), z2 1 (by decide), z2 2 (by decide), z2 3 (by decide), z2 4 (by decide)⟩
  · intro z
    obtain ⟨z1, y0, y1, y2, y3, y4⟩ := z
    refine decide_eq_true ⟨z1, fun j hj => ?_⟩
    have hj2 : j < 5 := hj
    rcases (by omega : j = 0 ∨ j = 1 ∨ j = 2 ∨ j = 3 ∨ j = 4) with rfl | rfl | rfl | rfl | rfl
    · exact y0
    · exact y1
    · exact y2
    · exact y3
    · exact y4
theorem R_seg0 (h : rT n B mi) (h8 : mi 83 8 = nI e) (h9 : mi 83 9 = nI b) (hbe : b ≤ e) (hen : e ≤ n) : kJ 118 0 [some (.ref 83)] [] (mi, ml, MR, 95) Q = if nmB B b e (nmL 0) = true then Q (some (.int (nI 0))) (mi, ml, MR, 95) else kJ 118 28 [some (.ref 83)] [] (mi, ml, MR, 95) Q := by
  have hIs : ∀ Q', kJ 116 0 [some (.ref 83), some (.int (nI 5)), some (.int (nI 112)), some (.int (nI 108)), some (.int (nI 97))] [] (mi, ml, MR, 95) Q' = Q' (some (.int (if e - b = 5 ∧ B b = 112 ∧ B (b + 1) = 108 ∧ B (b + 2) = 97 then nI 1 else nI 0))) (mi, ml, MR, 95) := fun Q' => R_is h (by decide) (by decide) (by decide) (by decide) (by decide) h8 h9 hbe hen
  by_cases c : e - b = 5 ∧ B b = 112 ∧ B (b + 1) = 108 ∧ B (b + 2) = 97
  · have hl := c.1
    have q0 : bAt B n (b + 3) = nI (B (b + 3)) := if_pos (by omega)
    have w0 := h.1.2 (b + 3) (by omega)
    have l0 := nI_lit (by omega : B (b + 3) < 2 ^ 31) (by decide : 105 < 2 ^ 31)
    have q1 : bAt B n (b + 4) = nI (B (b + 4)) := if_pos (by omega)
    have w1 := h.1.2 (b + 4) (by omega)
    have l1 := nI_lit (by omega : B (b + 4) < 2 ^ 31) (by decide : 110 < 2 ^ 31)
    have hE := fun Q' => R_ends (mi := mi) (ml := ml) (Q := Q') (x := nI 105) (y := nI 110) (z := nI 0) h h9 (by omega : b ≤ n)
    by_cases d : B (b + 3) = 105 ∧ B (b + 4) = 110
    · obtain ⟨d0, d1⟩ := d
      have hn : nmB B b e (nmL 0) = true := by rw [nm_0]; exact ⟨c.1, c.2.1, c.2.2.1, c.2.2.2, d0, d1⟩
      have hc : bAt B n (b + 3) = nI 105 ∧ (nI 110 = 0 ∨ bAt B n (b + 4) = nI 110) ∧ (nI 0 = 0 ∨ bAt B n (b + 5) = nI 0) := ⟨by rw [q0, d0], Or.inr (by rw [q1, d1]), Or.inl (by decide)⟩
      have hE1 : ∀ Q', kJ 117 0 [some (.ref 83), some (.int (nI 105)), some (.int (nI 110)), some (.int (nI 0))] [] (mi, ml, MR, 95) Q' = Q' (some (.int (nI 1))) (mi, ml, MR, 95) := fun Q' => by rw [hE, if_pos hc]
      simp only [↓s118_0, ↓s118_1, ↓s118_2, ↓s118_4, ↓s118_6, ↓s118_8, ↓s118_11, ↓s118_14, ↓s118_15, ↓s118_17, ↓s118_19, ↓s118_20, ↓s118_23, ↓s118_26, ↓s118_27, ↓s118_29, ↓s118_30, ↓s118_32, ↓s118_34, ↓s118_36, ↓s118_39, ↓s118_42, ↓s118_43, ↓s118_45, ↓s118_47, ↓s118_48, ↓s118_51, ↓s118_54, ↓s118_55, ↓s118_56, ↓s118_57, ↓s118_58, ↓s118_60, ↓s118_62, ↓s118_64, ↓s118_67, ↓s118_70, ↓s118_71, ↓s118_73, ↓s118_74, ↓s118_75, ↓s118_78, ↓s118_81, ↓s118_82, ↓s118_83, ↓s118_84, ↓s118_85, ↓s118_87, ↓s118_89, ↓s118_91, ↓s118_94, ↓s118_97, ↓s118_98, ↓s118_99, ↓s118_100, ↓s118_102, ↓s118_104, ↓s118_106, ↓s118_108, ↓s118_111, ↓s118_114, ↓s118_115, ↓s118_117, ↓s118_119, ↓s118_121, ↓s118_124, ↓s118_127, ↓s118_128, ↓s118_131, ↓s118_132, ↓s118_133, ↓s118_135, ↓s118_137, ↓s118_139, ↓s118_142, ↓s118_145, ↓s118_146, ↓s118_148, ↓s118_149, ↓s118_150, ↓s118_153, ↓s118_156, ↓s118_157, ↓s118_160, ↓s118_162, ↓hIs, ↓hE1, kNLn, kNLi, kNLr, va_rf_s, kOl_n, kOl_s, kap_n, kap_c, kb0, kb1, kbif, zif, z0, z1, Bool.false_eq_true, eq_self, not_true_eq_false, not_false_eq_true, if_true, if_false, and_self, true_and, false_and, and_true, and_false, ki_83, eq_true c, hn]
    · have hn : ¬ nmB B b e (nmL 0) = true := fun z => d (by rw [nm_0] at z; exact z.2.2.2.2)
      have hc : ¬ (bAt B n (b + 3) = nI 105 ∧ (nI 110 = 0 ∨ bAt B n (b + 4) = nI 110) ∧ (nI 0 = 0 ∨ bAt B n (b + 5) = nI 0)) := fun z => d (by
        obtain ⟨z0, z1, z2⟩ := z
        rw [q0, l0] at z0
        have z1' := z1.resolve_left (by decide)
        rw [q1, l1] at z1'
        exact ⟨z0, z1'⟩)
      have hE1 : ∀ Q', kJ 117 0 [some (.ref 83), some (.int (nI 105)), some (.int (nI 110)), some (.int (nI 0))] [] (mi, ml, MR, 95) Q' = Q' (some (.int (nI 0))) (mi, ml, MR, 95) := fun Q' => by rw [hE, if_neg hc]
      simp only [↓s118_0, ↓s118_1, ↓s118_2, ↓s118_4, ↓s118_6, ↓s118_8, ↓s118_11, ↓s118_14, ↓s118_15, ↓s118_17, ↓s118_19, ↓s118_20, ↓s118_23, ↓s118_26, ↓s118_27, ↓s118_29, ↓s118_30, ↓s118_32, ↓s118_34, ↓s118_36, ↓s118_39, ↓s118_42, ↓s118_43, ↓s118_45, ↓s118_47, ↓s118_48, ↓s118_51, ↓s118_54, ↓s118_55, ↓s118_56, ↓s118_57, ↓s118_58, ↓s118_60, ↓s118_62, ↓s118_64, ↓s118_67, ↓s118_70, ↓s118_71, ↓s118_73, ↓s118_74, ↓s118_75, ↓s118_78, ↓s118_81, ↓s118_82, ↓s118_83, ↓s118_84, ↓s118_85, ↓s118_87, ↓s118_89, ↓s118_91, ↓s118_94, ↓s118_97, ↓s118_98, ↓s118_99, ↓s118_100, ↓s118_102, ↓s118_104, ↓s118_106, ↓s118_108, ↓s118_111, ↓s118_114, ↓s118_115, ↓s118_117, ↓s118_119, ↓s118_121, ↓s118_124, ↓s118_127, ↓s118_128, ↓s118_131, ↓s118_132, ↓s118_133, ↓s118_135, ↓s118_137, ↓s118_139, ↓s118_142, ↓s118_145, ↓s118_146, ↓s118_148, ↓s118_149, ↓s118_150, ↓s118_153, ↓s118_156, ↓s118_157, ↓s118_160, ↓s118_162, ↓hIs, ↓hE1, kNLn, kNLi, kNLr, va_rf_s, kOl_n, kOl_s, kap_n, kap_c, kb0, kb1, kbif, zif, z0, z1, Bool.false_eq_true, eq_self, not_true_eq_false, not_false_eq_true, if_true, if_false, and_self, true_and, false_and, and_true, and_false, ki_83, eq_true c, hn]
  · have hn : ¬ nmB B b e (nmL 0) = true := fun z => c (by rw [nm_0] at z; exact ⟨z.1, z.2.1, z.2.2.1, z.2.2.2.1⟩)
    simp only [↓s118_0, ↓s118_1, ↓s118_2, ↓s118_4, ↓s118_6, ↓s118_8, ↓s118_11, ↓s118_14, ↓s118_15, ↓s118_17, ↓s118_19, ↓s118_20, ↓s118_23, ↓s118_26, ↓s118_27, ↓s118_29, ↓s118_30, ↓s118_32, ↓s118_34, ↓s118_36, ↓s118_39, ↓s118_42, ↓s118_43, ↓s118_45, ↓s118_47, ↓s118_48, ↓s118_51, ↓s118_54, ↓s118_55, ↓s118_56, ↓s118_57, ↓s118_58, ↓s118_60, ↓s118_62, ↓s118_64, ↓s118_67, ↓s118_70, ↓s118_71, ↓s118_73, ↓s118_74, ↓s118_75, ↓s118_78, ↓s118_81, ↓s118_82, ↓s118_83, ↓s118_84, ↓s118_85, ↓s118_87, ↓s118_89, ↓s118_91, ↓s118_94, ↓s118_97, ↓s118_98, ↓s118_99, ↓s118_100, ↓s118_102, ↓s118_104, ↓s118_106, ↓s118_108, ↓s118_111, ↓s118_114, ↓s118_115, ↓s118_117, ↓s118_119, ↓s118_121, ↓s118_124, ↓s118_127, ↓s118_128, ↓s118_131, ↓s118_132, ↓s118_133, ↓s118_135, ↓s118_137, ↓s118_139, ↓s118_142, ↓s118_145, ↓s118_146, ↓s118_148, ↓s118_149, ↓s118_150, ↓s118_153, ↓s118_156, ↓s118_157, ↓s118_160, ↓s118_162, ↓hIs, kNLn, kNLi, kNLr, va_rf_s, kOl_n, kOl_s, kap_n, kap_c, kb0, kb1, kbif, zif, z0, z1, Bool.false_eq_true, eq_self, not_true_eq_false, not_false_eq_true, if_true, if_false, and_self, true_and, false_and, and_true, and_false, ki_83, eq_false c, hn]
theorem nm_1 : (nmB B b e (nmL 1) = true) = (e - b = 5 ∧ B b = 112 ∧ B (b + 1) = 114 ∧ B (b + 2) = 111 ∧ B (b + 3) = 117 ∧ B (b + 4) = 100) := by
  apply propext
  constructor
  · intro z
    obtain ⟨z1, z2⟩ := of_decide_eq_true z
    exact ⟨z1, z2 0 (by decide), z2 1 (by decide), z2 2 (by decide), z2 3 (by decide), z2 4 (by decide)⟩
  · intro z
    obtain ⟨z1, y0, y1, y2, y3, y4⟩ := z
    refine decide_eq_true ⟨z1, fun j hj => ?_⟩
    have hj2 : j < 5 := hj
    rcases (by omega : j = 0 ∨ j = 1 ∨ j = 2 ∨ j = 3 ∨ j = 4) with rfl | rfl | rfl | rfl | rfl
    · exact y0
    · exact y1
    · exact y2
    · exact y3
    · exact y4
theorem R_seg1 (h : rT n B mi) (h8 : mi 83 8 = nI e) (h9 : mi 83 9 = nI b) (hbe : b ≤ e) (hen : e ≤ n) : kJ 118 28 [some (.ref 83)] [] (mi, ml, MR, 95) Q = if nmB B b e (nmL 1) = true then Q (some (.int (nI 1))) (mi, ml, MR, 95) else kJ 118 56 [some (.ref 83)] [] (mi, ml, MR, 95) Q := by
  have hIs : ∀ Q', kJ 116 0 [some (.ref 83), some (.int (nI 5)), some (.int (nI 112)), some (.int (nI 114)), some (.int (nI 111))] [] (mi, ml, MR, 95) Q' = Q' (some (.int (if e - b = 5 ∧ B b = 112 ∧ B (b + 1) = 114 ∧ B (b + 2) = 111 then nI 1 else nI 0))) (mi, ml, MR, 95) := fun Q' => R_is h (by decide) (by decide) (by decide) (by decide) (by decide) h8 h9 hbe hen
  by_cases c : e - b = 5 ∧ B b = 112 ∧ B (b + 1) = 114 ∧ B (b + 2) = 111
  · have hl := c.1
    have q0 : bAt B n (b + 3) = nI (B (b + 3)) := if_pos (by omega)
    have w0 := h.1.2 (b + 3) (by omega)
    have l0 := nI_lit (by omega : B (b + 3) < 2 ^ 31) (by decide : 117 < 2 ^ 31)
    have q1 : bAt B n (b + 4) = nI (B (b + 4)) := if_pos (by omega)
    have w1 := h.1.2 (b + 4) (by omega)
    have l1 := nI_lit (by omega : B (b + 4) < 2 ^ 31) (by decide : 100 < 2 ^ 31)
    have hE := fun Q' => R_ends (mi := mi) (ml := ml) (Q := Q') (x := nI 117) (y := nI 100) (z := nI 0) h h9 (by omega : b ≤ n)
    by_cases d : B (b + 3) = 117 ∧ B (b + 4) = 100
    · obtain ⟨d0, d1⟩ := d
      have hn : nmB B b e (nmL 1) = true := by rw [nm_1]; exact ⟨c.1, c.2.1, c.2.2.1, c.2.2.2, d0, d1⟩
      have hc : bAt B n (b + 3) = nI 117 ∧ (nI 100 = 0 ∨ bAt B n (b + 4) = nI 100) ∧ (nI 0 = 0 ∨ bAt B n (b + 5) = nI 0) := ⟨by rw [q0, d0], Or.inr (by rw [q1, d1]), Or.inl (by decide)⟩
      have hE1 : ∀ Q', kJ 117 0 [some (.ref 83), some (.int (nI 117)), some (.int (nI 100)), some (.int (nI 0))] [] (mi, ml, MR, 95) Q' = Q' (some (.int (nI 1))) (mi, ml, MR, 95) := fun Q' => by rw [hE, if_pos hc]
      simp only [↓s118_0, ↓s118_1, ↓s118_2, ↓s118_4, ↓s118_6, ↓s118_8, ↓s118_11, ↓s118_14, ↓s118_15, ↓s118_17, ↓s118_19, ↓s118_20, ↓s118_23, ↓s118_26, ↓s118_27, ↓s118_28, ↓s118_29, ↓s118_30, ↓s118_32, ↓s118_34, ↓s118_36, ↓s118_39, ↓s118_42, ↓s118_43, ↓s118_45, ↓s118_47, ↓s118_48, ↓s118_51, ↓s118_54, ↓s118_55, ↓s118_57, ↓s118_58, ↓s118_60, ↓s118_62, ↓s118_64, ↓s118_67, ↓s118_70, ↓s118_71, ↓s118_73, ↓s118_74, ↓s118_75, ↓s118_78, ↓s118_81, ↓s118_82, ↓s118_83, ↓s118_84, ↓s118_85, ↓s118_87, ↓s118_89, ↓s118_91, ↓s118_94, ↓s118_97, ↓s118_98, ↓s118_99, ↓s118_100, ↓s118_102, ↓s118_104, ↓s118_106, ↓s118_108, ↓s118_111, ↓s118_114, ↓s118_115, ↓s118_117, ↓s118_119, ↓s118_121, ↓s118_124, ↓s118_127, ↓s118_128, ↓s118_131, ↓s118_132, ↓s118_133, ↓s118_135, ↓s118_137, ↓s118_139, ↓s118_142, ↓s118_145, ↓s118_146, ↓s118_148, ↓s118_149, ↓s118_150, ↓s118_153, ↓s118_156, ↓s118_157, ↓s118_160, ↓s118_162, ↓hIs, ↓hE1, kNLn, kNLi, kNLr, va_rf_s, kOl_n, kOl_s, kap_n, kap_c, kb0, kb1, kbif, zif, z0, z1, Bool.false_eq_true, eq_self, not_true_eq_false, not_false_eq_true, if_true, if_false, and_self, true_and, false_and, and_true, and_false, ki_83, eq_true c, hn]
    · have hn : ¬ nmB B b e (nmL 1) = true := fun z => d (by rw [nm_1] at z; exact z.2.2.2.2)
      have hc : ¬ (bAt B n (b + 3) = nI 117 ∧ (nI 100 = 0 ∨ bAt B n (b + 4) = nI 100) ∧ (nI 0 = 0 ∨ bAt B n (b + 5) = nI 0)) := fun z => d (by
        obtain ⟨z0, z1, z2⟩ := z
        rw [q0, l0] at z0
        have z1' := z1.resolve_left (by decide)
        rw [q1, l1] at z1'
        exact ⟨z0, z1'⟩)
      have hE1 : ∀ Q', kJ 117 0 [some (.ref 83), some (.int (nI 117)), some (.int (nI 100)), some (.int (nI 0))] [] (mi, ml, MR, 95) Q' = Q' (some (.int (nI 0))) (mi, ml, MR, 95) := fun Q' => by rw [hE, if_neg hc]
      simp only [↓s118_0, ↓s118_1, ↓s118_2, ↓s118_4, ↓s118_6, ↓s118_8, ↓s118_11, ↓s118_14, ↓s118_15, ↓s118_17, ↓s118_19, ↓s118_20, ↓s118_23, ↓s118_26, ↓s118_27, ↓s118_28, ↓s118_29, ↓s118_30, ↓s118_32, ↓s118_34, ↓s118_36, ↓s118_39, ↓s118_42, ↓s118_43, ↓s118_45, ↓s118_47, ↓s118_48, ↓s118_51, ↓s118_54, ↓s118_55, ↓s118_57, ↓s118_58, ↓s118_60, ↓s118_62, ↓s118_64, ↓s118_67, ↓s118_70, ↓s118_71, ↓s118_73, ↓s118_74, ↓s118_75, ↓s118_78, ↓s118_81, ↓s118_82, ↓s118_83, ↓s118_84, ↓s118_85, ↓s118_87, ↓s118_89, ↓s118_91, ↓s118_94, ↓s118_97, ↓s118_98, ↓s118_99, ↓s118_100, ↓s118_102, ↓s118_104, ↓s118_106, ↓s118_108, ↓s118_111, ↓s118_114, ↓s118_115, ↓s118_117, ↓s118_119, ↓s118_121, ↓s118_124, ↓s118_127, ↓s118_128, ↓s118_131, ↓s118_132, ↓s118_133, ↓s118_135, ↓s118_137, ↓s118_139, ↓s118_142, ↓s118_145, ↓s118_146, ↓s118_148, ↓s118_149, ↓s118_150, ↓s118_153, ↓s118_156, ↓s118_157, ↓s118_160, ↓s118_162, ↓hIs, ↓hE1, kNLn, kNLi, kNLr, va_rf_s, kOl_n, kOl_s, kap_n, kap_c, kb0, kb1, kbif, zif, z0, z1, Bool.false_eq_true, eq_self, not_true_eq_false, not_false_eq_true, if_true, if_false, and_self, true_and, false_and, and_true, and_false, ki_83, eq_true c, hn]
  · have hn : ¬ nmB B b e (nmL 1) = true := fun z => c (by rw [nm_1] at z; exact ⟨z.1, z.2.1, z.2.2.1, z.2.2.2.1⟩)
    simp only [↓s118_0, ↓s118_1, ↓s118_2, ↓s118_4, ↓s118_6, ↓s118_8, ↓s118_11, ↓s118_14, ↓s118_15, ↓s118_17, ↓s118_19, ↓s118_20, ↓s118_23, ↓s118_26, ↓s118_27, ↓s118_28, ↓s118_29, ↓s118_30, ↓s118_32, ↓s118_34, ↓s118_36, ↓s118_39, ↓s118_42, ↓s118_43, ↓s118_45, ↓s118_47, ↓s118_48, ↓s118_51, ↓s118_54, ↓s118_55, ↓s118_57, ↓s118_58, ↓s118_60, ↓s118_62, ↓s118_64, ↓s118_67, ↓s118_70, ↓s118_71, ↓s118_73, ↓s118_74, ↓s118_75, ↓s118_78, ↓s118_81, ↓s118_82, ↓s118_83, ↓s118_84, ↓s118_85, ↓s118_87, ↓s118_89, ↓s118_91, ↓s118_94, ↓s118_97, ↓s118_98, ↓s118_99, ↓s118_100, ↓s118_102, ↓s118_104, ↓s118_106, ↓s118_108, ↓s118_111, ↓s118_114, ↓s118_115, ↓s118_117, ↓s118_119, ↓s118_121, ↓s118_124, ↓s118_127, ↓s118_128, ↓s118_131, ↓s118_132, ↓s118_133, ↓s118_135, ↓s118_137, ↓s118_139, ↓s118_142, ↓s118_145, ↓s118_146, ↓s118_148, ↓s118_149, ↓s118_150, ↓s118_153, ↓s118_156, ↓s118_157, ↓s118_160, ↓s118_162, ↓hIs, kNLn, kNLi, kNLr, va_rf_s, kOl_n, kOl_s, kap_n, kap_c, kb0, kb1, kbif, zif, z0, z1, Bool.false_eq_true, eq_self, not_true_eq_false, not_false_eq_true, if_true, if_false, and_self, true_and, false_and, and_true, and_false, ki_83, eq_false c, hn]
theorem nm_2 : (nmB B b e (nmL 2) = true) = (e - b = 4 ∧ B b = 107 ∧ B (b + 1) = 105 ∧ B (b + 2) = 110 ∧ B (b + 3) = 100) := by
  apply propext
  constructor
  · intro z
    obtain ⟨z1, z2⟩ := of_decide_eq_true z
    exact ⟨z1, z2 0 (by decide), z2 1 (by decide), z2 2 (by decide), z2 3 (by decide)⟩
  · intro z
    obtain ⟨z1, y0, y1, y2, y3⟩ := z
    refine decide_eq_true ⟨z1, fun j hj => ?_⟩
    have hj2 : j < 4 := hj
    rcases (by omega : j = 0 ∨ j = 1 ∨ j = 2 ∨ j = 3) with rfl | rfl | rfl | rfl
    · exact y0
    · exact y1
    · exact y2
    · exact y3
theorem R_seg2 (h : rT n B mi) (h8 : mi 83 8 = nI e) (h9 : mi 83 9 = nI b) (hbe : b ≤ e) (hen : e ≤ n) : kJ 118 56 [some (.ref 83)] [] (mi, ml, MR, 95) Q = if nmB B b e (nmL 2) = true then Q (some (.int (nI 2))) (mi, ml, MR, 95) else kJ 118 83 [some (.ref 83)] [] (mi, ml, MR, 95) Q := by
  have hIs : ∀ Q', kJ 116 0 [some (.ref 83), some (.int (nI 4)), some (.int (nI 107)), some (.int (nI 105)), some (.int (nI 110))] [] (mi, ml, MR, 95) Q' = Q' (some (.int (if e - b = 4 ∧ B b = 107 ∧ B (b + 1) = 105 ∧ B (b + 2) = 110 then nI 1 else nI 0))) (mi, ml, MR, 95) := fun Q' => R_is h (by decide) (by decide) (by decide) (by decide) (by decide) h8 h9 hbe hen
  by_cases c : e - b = 4 ∧ B b = 107 ∧ B (b + 1) = 105 ∧ B (b + 2) = 110
  · have hl := c.1
    have q0 : bAt B n (b + 3) = nI (B (b + 3)) := if_pos (by omega)
    have w0 := h.1.2 (b + 3) (by omega)
    have l0 := nI_lit (by omega : B (b + 3) < 2 ^ 31) (by decide : 100 < 2 ^ 31)
    have hE := fun Q' => R_ends (mi := mi) (ml := ml) (Q := Q') (x := nI 100) (y := nI 0) (z := nI 0) h h9 (by omega : b ≤ n)
    by_cases d : B (b + 3) = 100
    · have d0 := d
      have hn : nmB B b e (nmL 2) = true := by rw [nm_2]; exact ⟨c.1, c.2.1, c.2.2.1, c.2.2.2, d0⟩
      have hc : bAt B n (b + 3) = nI 100 ∧ (nI 0 = 0 ∨ bAt B n (b + 4) = nI 0) ∧ (nI 0 = 0 ∨ bAt B n (b + 5) = nI 0) := ⟨by rw [q0, d0], Or.inl (by decide), Or.inl (by decide)⟩
      have hE1 : ∀ Q', kJ 117 0 [some (.ref 83), some (.int (nI 100)), some (.int (nI 0)), some (.int (nI 0))] [] (mi, ml, MR, 95) Q' = Q' (some (.int (nI 1))) (mi, ml, MR, 95) := fun Q' => by rw [hE, if_pos hc]
      simp only [↓s118_0, ↓s118_1, ↓s118_2, ↓s118_4, ↓s118_6, ↓s118_8, ↓s118_11, ↓s118_14, ↓s118_15, ↓s118_17, ↓s118_19, ↓s118_20, ↓s118_23, ↓s118_26, ↓s118_27, ↓s118_28, ↓s118_29, ↓s118_30, ↓s118_32, ↓s118_34, ↓s118_36, ↓s118_39, ↓s118_42, ↓s118_43, ↓s118_45, ↓s118_47, ↓s118_48, ↓s118_51, ↓s118_54, ↓s118_55, ↓s118_56, ↓s118_57, ↓s118_58, ↓s118_60, ↓s118_62, ↓s118_64, ↓s118_67, ↓s118_70, ↓s118_71, ↓s118_73, ↓s118_74, ↓s118_75, ↓s118_78, ↓s118_81, ↓s118_82, ↓s118_84, ↓s118_85, ↓s118_87, ↓s118_89, ↓s118_91, ↓s118_94, ↓s118_97, ↓s118_98, ↓s118_99, ↓s118_100, ↓s118_102, ↓s118_104, ↓s118_106, ↓s118_108, ↓s118_111, ↓s118_114, ↓s118_115, ↓s118_117, ↓s118_119, ↓s118_121, ↓s118_124, ↓s118_127, ↓s118_128, ↓s118_131, ↓s118_132, ↓s118_133, ↓s118_135, ↓s118_137, ↓s118_139, ↓s118_142, ↓s118_145, ↓s118_146, ↓s118_148, ↓s118_149, ↓s118_150, ↓s118_153, ↓s118_156, ↓s118_157, ↓s118_160, ↓s118_162, ↓hIs, ↓hE1, kNLn, kNLi, kNLr, va_rf_s, kOl_n, kOl_s, kap_n, kap_c, kb0, kb1, kbif, zif, z0, z1, Bool.false_eq_true, eq_self, not_true_eq_false, not_false_eq_true, if_true, if_false, and_self, true_and, false_and, and_true, and_false, ki_83, eq_true c, hn]
    · have hn : ¬ nmB B b e (nmL 2) = true := fun z => d (by rw [nm_2] at z; exact z.2.2.2.2)
      have hc : ¬ (bAt B n (b + 3) = nI 100 ∧ (nI 0 = 0 ∨ bAt B n (b + 4) = nI 0) ∧ (nI 0 = 0 ∨ bAt B n (b + 5) = nI 0)) := fun z => d (by
        obtain ⟨z0, z1, z2⟩ := z
        rw [q0, l0] at z0
        exact z0)
      have hE1 : ∀ Q', kJ 117 0 [some (.ref 83), some (.int (nI 100)), some (.int (nI 0)), some (.int (nI 0))] [] (mi, ml, MR, 95) Q' = Q' (some (.int (nI 0))) (mi, ml, MR, 95) := fun Q' => by rw [hE, if_neg hc]
      simp only [↓s118_0, ↓s118_1, ↓s118_2, ↓s118_4, ↓s118_6, ↓s118_8, ↓s118_11, ↓s118_14, ↓s118_15, ↓s118_17, ↓s118_19, ↓s118_20, ↓s118_23, ↓s118_26, ↓s118_27, ↓s118_28, ↓s118_29, ↓s118_30, ↓s118_32, ↓s118_34, ↓s118_36, ↓s118_39, ↓s118_42, ↓s118_43, ↓s118_45, ↓s118_47, ↓s118_48, ↓s118_51, ↓s118_54, ↓s118_55, ↓s118_56, ↓s118_57, ↓s118_58, ↓s118_60, ↓s118_62, ↓s118_64, ↓s118_67, ↓s118_70, ↓s118_71, ↓s118_73, ↓s118_74, ↓s118_75, ↓s118_78, ↓s118_81, ↓s118_82, ↓s118_84, ↓s118_85, ↓s118_87, ↓s118_89, ↓s118_91, ↓s118_94, ↓s118_97, ↓s118_98, ↓s118_99, ↓s118_100, ↓s118_102, ↓s118_104, ↓s118_106, ↓s118_108, ↓s118_111, ↓s118_114, ↓s118_115, ↓s118_117, ↓s118_119, ↓s118_121, ↓s118_124, ↓s118_127, ↓s118_128, ↓s118_131, ↓s118_132, ↓s118_133, ↓s118_135, ↓s118_137, ↓s118_139, ↓s118_142, ↓s118_145, ↓s118_146, ↓s118_148, ↓s118_149, ↓s118_150, ↓s118_153, ↓s118_156, ↓s118_157, ↓s118_160, ↓s118_162, ↓hIs, ↓hE1, kNLn, kNLi, kNLr, va_rf_s, kOl_n, kOl_s, kap_n, kap_c, kb0, kb1, kbif, zif, z0, z1, Bool.false_eq_true, eq_self, not_true_eq_false, not_false_eq_true, if_true, if_false, and_self, true_and, false_and, and_true, and_false, ki_83, eq_true c, hn]
  · have hn : ¬ nmB B b e (nmL 2) = true := fun z => c (by rw [nm_2] at z; exact ⟨z.1, z.2.1, z.2.2.1, z.2.2.2.1⟩)
    simp only [↓s118_0, ↓s118_1, ↓s118_2, ↓s118_4, ↓s118_6, ↓s118_8, ↓s118_11, ↓s118_14, ↓s118_15, ↓s118_17, ↓s118_19, ↓s118_20, ↓s118_23, ↓s118_26, ↓s118_27, ↓s118_28, ↓s118_29, ↓s118_30, ↓s118_32, ↓s118_34, ↓s118_36, ↓s118_39, ↓s118_42, ↓s118_43, ↓s118_45, ↓s118_47, ↓s118_48, ↓s118_51, ↓s118_54, ↓s118_55, ↓s118_56, ↓s118_57, ↓s118_58, ↓s118_60, ↓s118_62, ↓s118_64, ↓s118_67, ↓s118_70, ↓s118_71, ↓s118_73, ↓s118_74, ↓s118_75, ↓s118_78, ↓s118_81, ↓s118_82, ↓s118_84, ↓s118_85, ↓s118_87, ↓s118_89, ↓s118_91, ↓s118_94, ↓s118_97, ↓s118_98, ↓s118_99, ↓s118_100, ↓s118_102, ↓s118_104, ↓s118_106, ↓s118_108, ↓s118_111, ↓s118_114, ↓s118_115, ↓s118_117, ↓s118_119, ↓s118_121, ↓s118_124, ↓s118_127, ↓s118_128, ↓s118_131, ↓s118_132, ↓s118_133, ↓s118_135, ↓s118_137, ↓s118_139, ↓s118_142, ↓s118_145, ↓s118_146, ↓s118_148, ↓s118_149, ↓s118_150, ↓s118_153, ↓s118_156, ↓s118_157, ↓s118_160, ↓s118_162, ↓hIs, kNLn, kNLi, kNLr, va_rf_s, kOl_n, kOl_s, kap_n, kap_c, kb0, kb1, kbif, zif, z0, z1, Bool.false_eq_true, eq_self, not_true_eq_false, not_false_eq_true, if_true, if_false, and_self, true_and, false_and, and_true, and_false, ki_83, eq_false c, hn]
theorem nm_3 : (nmB B b e (nmL 3) = true) = (e - b = 3 ∧ B b = 115 ∧ B (b + 1) = 108 ∧ B (b + 2) = 121) := by
  apply propext
  constructor
  · intro z
    obtain ⟨z1, z2⟩ := of_decide_eq_true z
    exact ⟨z1, z2 0 (by decide), z2 1 (by decide), z2 2 (by decide)⟩
  · intro z
    obtain ⟨z1, y0, y1, y2⟩ := z
    refine decide_eq_true ⟨z1, fun j hj => ?_⟩
    have hj2 : j < 3 := hj
    rcases (by omega : j = 0 ∨ j = 1 ∨ j = 2) with rfl | rfl | rfl
    · exact y0
    · exact y1
    · exact y2
theorem R_seg3 (h : rT n B mi) (h8 : mi 83 8 = nI e) (h9 : mi 83 9 = nI b) (hbe : b ≤ e) (hen : e ≤ n) : kJ 118 83 [some (.ref 83)] [] (mi, ml, MR, 95) Q = if nmB B b e (nmL 3) = true then Q (some (.int (nI 3))) (mi, ml, MR, 95) else kJ 118 99 [some (.ref 83)] [] (mi, ml, MR, 95) Q := by
  have hIs : ∀ Q', kJ 116 0 [some (.ref 83), some (.int (nI 3)), some (.int (nI 115)), some (.int (nI 108)), some (.int (nI 121))] [] (mi, ml, MR, 95) Q' = Q' (some (.int (if e - b = 3 ∧ B b = 115 ∧ B (b + 1) = 108 ∧ B (b + 2) = 121 then nI 1 else nI 0))) (mi, ml, MR, 95) := fun Q' => R_is h (by decide) (by decide) (by decide) (by decide) (by decide) h8 h9 hbe hen
  by_cases c : e - b = 3 ∧ B b = 115 ∧ B (b + 1) = 108 ∧ B (b + 2) = 121
  · have hn : nmB B b e (nmL 3) = true := by rw [nm_3]; exact ⟨c.1, c.2.1, c.2.2.1, c.2.2.2⟩
    simp only [↓s118_0, ↓s118_1, ↓s118_2, ↓s118_4, ↓s118_6, ↓s118_8, ↓s118_11, ↓s118_14, ↓s118_15, ↓s118_17, ↓s118_19, ↓s118_20, ↓s118_23, ↓s118_26, ↓s118_27, ↓s118_28, ↓s118_29, ↓s118_30, ↓s118_32, ↓s118_34, ↓s118_36, ↓s118_39, ↓s118_42, ↓s118_43, ↓s118_45, ↓s118_47, ↓s118_48, ↓s118_51, ↓s118_54, ↓s118_55, ↓s118_56, ↓s118_57, ↓s118_58, ↓s118_60, ↓s118_62, ↓s118_64, ↓s118_67, ↓s118_70, ↓s118_71, ↓s118_73, ↓s118_74, ↓s118_75, ↓s118_78, ↓s118_81, ↓s118_82, ↓s118_83, ↓s118_84, ↓s118_85, ↓s118_87, ↓s118_89, ↓s118_91, ↓s118_94, ↓s118_97, ↓s118_98, ↓s118_100, ↓s118_102, ↓s118_104, ↓s118_106, ↓s118_108, ↓s118_111, ↓s118_114, ↓s118_115, ↓s118_117, ↓s118_119, ↓s118_121, ↓s118_124, ↓s118_127, ↓s118_128, ↓s118_131, ↓s118_132, ↓s118_133, ↓s118_135, ↓s118_137, ↓s118_139, ↓s118_142, ↓s118_145, ↓s118_146, ↓s118_148, ↓s118_149, ↓s118_150, ↓s118_153, ↓s118_156, ↓s118_157, ↓s118_160, ↓s118_162, ↓hIs, kNLn, kNLi, kNLr, va_rf_s, kOl_n, kOl_s, kap_n, kap_c, kb0, kb1, kbif, zif, z0, z1, Bool.false_eq_true, eq_self, not_true_eq_false, not_false_eq_true, if_true, if_false, and_self, true_and, false_and, and_true, and_false, ki_83, eq_true c, hn]
  · have hn : ¬ nmB B b e (nmL 3) = true := fun z => c (by rw [nm_3] at z; exact ⟨z.1, z.2.1, z.2.2.1, z.2.2.2⟩)
    simp only [↓s118_0, ↓s118_1, ↓s118_2, ↓s118_4, ↓s118_6, ↓s118_8, ↓s118_11, ↓s118_14, ↓s118_15, ↓s118_17, ↓s118_19, ↓s118_20, ↓s118_23, ↓s118_26, ↓s118_27, ↓s118_28, ↓s118_29, ↓s118_30, ↓s118_32, ↓s118_34, ↓s118_36, ↓s118_39, ↓s118_42, ↓s118_43, ↓s118_45, ↓s118_47, ↓s118_48, ↓s118_51, ↓s118_54, ↓s118_55, ↓s118_56, ↓s118_57, ↓s118_58, ↓s118_60, ↓s118_62, ↓s118_64, ↓s118_67, ↓s118_70, ↓s118_71, ↓s118_73, ↓s118_74, ↓s118_75, ↓s118_78, ↓s118_81, ↓s118_82, ↓s118_83, ↓s118_84, ↓s118_85, ↓s118_87, ↓s118_89, ↓s118_91, ↓s118_94, ↓s118_97, ↓s118_98, ↓s118_100, ↓s118_102, ↓s118_104, ↓s118_106, ↓s118_108, ↓s118_111, ↓s118_114, ↓s118_115, ↓s118_117, ↓s118_119, ↓s118_121, ↓s118_124, ↓s118_127, ↓s118_128, ↓s118_131, ↓s118_132, ↓s118_133, ↓s118_135, ↓s118_137, ↓s118_139, ↓s118_142, ↓s118_145, ↓s118_146, ↓s118_148, ↓s118_149, ↓s118_150, ↓s118_153, ↓s118_156, ↓s118_157, ↓s118_160, ↓s118_162, ↓hIs, kNLn, kNLi, kNLr, va_rf_s, kOl_n, kOl_s, kap_n, kap_c, kb0, kb1, kbif, zif, z0, z1, Bool.false_eq_true, eq_self, not_true_eq_false, not_false_eq_true, if_true, if_false, and_self, true_and, false_and, and_true, and_false, ki_83, eq_false c, hn]
theorem nm_4 : (nmB B b e (nmL 4) = true) = (e - b = 6 ∧ B b = 108 ∧ B (b + 1) = 101 ∧ B (b + 2) = 116 ∧ B (b + 3) = 116 ∧ B (b + 4) = 101 ∧ B (b + 5) = 114) := by
  apply propext
  constructor
  · intro z
    obtain ⟨z1, z2⟩ := of_decide_eq_true z
    exact ⟨z1, z2 0 (by decide), z2 1 (by decide), z2 2 (by decide), z2 3 (by decide), z2 4 (by decide), z2 5 (by decide)⟩
  · intro z
    obtain ⟨z1, y0, y1, y2, y3, y4, y5⟩ := z
    refine decide_eq_true ⟨z1, fun j hj => ?_⟩
    have hj2 : j < 6 := hj
    rcases (by omega : j = 0 ∨ j = 1 ∨ j = 2 ∨ j = 3 ∨ j = 4 ∨ j = 5) with rfl | rfl | rfl | rfl | rfl | rfl
    · exact y0
    · exact y1
    · exact y2
    · exact y3
    · exact y4
    · exact y5
theorem R_seg4 (h : rT n B mi) (h8 : mi 83 8 = nI e) (h9 : mi 83 9 = nI b) (hbe : b ≤ e) (hen : e ≤ n) : kJ 118 99 [some (.ref 83)] [] (mi, ml, MR, 95) Q = if nmB B b e (nmL 4) = true then Q (some (.int (nI 4))) (mi, ml, MR, 95) else kJ 118 131 [some (.ref 83)] [] (mi, ml, MR, 95) Q := by
  have hIs : ∀ Q', kJ 116 0 [some (.ref 83), some (.int (nI 6)), some (.int (nI 108)), some (.int (nI 101)), some (.int (nI 116))] [] (mi, ml, MR, 95) Q' = Q' (some (.int (if e - b = 6 ∧ B b = 108 ∧ B (b + 1) = 101 ∧ B (b + 2) = 116 then nI 1 else nI 0))) (mi, ml, MR, 95) := fun Q' => R_is h (by decide) (by decide) (by decide) (by decide) (by decide) h8 h9 hbe hen
  by_cases c : e - b = 6 ∧ B b = 108 ∧ B (b + 1) = 101 ∧ B (b + 2) = 116
  · have hl := c.1
    have q0 : bAt B n (b + 3) = nI (B (b + 3)) := if_pos (by omega)
    have w0 := h.1.2 (b + 3) (by omega)
    have l0 := nI_lit (by omega : B (b + 3) < 2 ^ 31) (by decide : 116 < 2 ^ 31)
    have q1 : bAt B n (b + 4) = nI (B (b + 4)) := if_pos (by omega)
    have w1 := h.1.2 (b + 4) (by omega)
    have l1 := nI_lit (by omega : B (b + 4) < 2 ^ 31) (by decide : 101 < 2 ^ 31)
    have q2 : bAt B n (b + 5) = nI (B (b + 5)) := if_pos (by omega)
    have w2 := h.1.2 (b + 5) (by omega)
    have l2 := nI_lit (by omega : B (b + 5) < 2 ^ 31) (by decide : 114 < 2 ^ 31)
    have hE := fun Q' => R_ends (mi := mi) (ml := ml) (Q := Q') (x := nI 116) (y := nI 101) (z := nI 114) h h9 (by omega : b ≤ n)
    by_cases d : B (b + 3) = 116 ∧ B (b + 4) = 101 ∧ B (b + 5) = 114
    · obtain ⟨d0, d1, d2⟩ := d
      have hn : nmB B b e (nmL 4) = true := by rw [nm_4]; exact ⟨c.1, c.2.1, c.2.2.1, c.2.2.2, d0, d1, d2⟩
      have hc : bAt B n (b + 3) = nI 116 ∧ (nI 101 = 0 ∨ bAt B n (b + 4) = nI 101) ∧ (nI 114 = 0 ∨ bAt B n (b + 5) = nI 114) := ⟨by rw [q0, d0], Or.inr (by rw [q1, d1]), Or.inr (by rw [q2, d2])⟩
      have hE1 : ∀ Q', kJ 117 0 [some (.ref 83), some (.int (nI 116)), some (.int (nI 101)), some (.int (nI 114))] [] (mi, ml, MR, 95) Q' = Q' (some (.int (nI 1))) (mi, ml, MR, 95) := fun Q' => by rw [hE, if_pos hc]
      simp only [↓s118_0, ↓s118_1, ↓s118_2, ↓s118_4, ↓s118_6, ↓s118_8, ↓s118_11, ↓s118_14, ↓s118_15, ↓s118_17, ↓s118_19, ↓s118_20, ↓s118_23, ↓s118_26, ↓s118_27, ↓s118_28, ↓s118_29, ↓s118_30, ↓s118_32, ↓s118_34, ↓s118_36, ↓s118_39, ↓s118_42, ↓s118_43, ↓s118_45, ↓s118_47, ↓s118_48, ↓s118_51, ↓s118_54, ↓s118_55, ↓s118_56, ↓s118_57, ↓s118_58, ↓s118_60, ↓s118_62, ↓s118_64, ↓s118_67, ↓s118_70, ↓s118_71, ↓s118_73, ↓s118_74, ↓s118_75, ↓s118_78, ↓s118_81, ↓s118_82, ↓s118_83, ↓s118_84, ↓s118_85, ↓s118_87, ↓s118_89, ↓s118_91, ↓s118_94, ↓s118_97, ↓s118_98, ↓s118_99, ↓s118_100, ↓s118_102, ↓s118_104, ↓s118_106, ↓s118_108, ↓s118_111, ↓s118_114, ↓s118_115, ↓s118_117, ↓s118_119, ↓s118_121, ↓s118_124, ↓s118_127, ↓s118_128, ↓s118_132, ↓s118_133, ↓s118_135, ↓s118_137, ↓s118_139, ↓s118_142, ↓s118_145, ↓s118_146, ↓s118_148, ↓s118_149, ↓s118_150, ↓s118_153, ↓s118_156, ↓s118_157, ↓s118_160, ↓s118_162, ↓hIs, ↓hE1, kNLn, kNLi, kNLr, va_rf_s, kOl_n, kOl_s, kap_n, kap_c, kb0, kb1, kbif, zif, z0, z1, Bool.false_eq_true, eq_self, not_true_eq_false, not_false_eq_true, if_true, if_false, and_self, true_and, false_and, and_true, and_false, ki_83, eq_true c, hn]
    · have hn : ¬ nmB B b e (nmL 4) = true := fun z => d (by rw [nm_4] at z; exact z.2.2.2.2)
      have hc : ¬ (bAt B n (b + 3) = nI 116 ∧ (nI 101 = 0 ∨ bAt B n (b + 4) = nI 101) ∧ (nI 114 = 0 ∨ bAt B n (b + 5) = nI 114)) := fun z => d (by
        obtain ⟨z0, z1, z2⟩ := z
        rw [q0, l0] at z0
        have z1' := z1.resolve_left (by decide)
        rw [q1, l1] at z1'
        have z2' := z2.resolve_left (by decide)
        rw [q2, l2] at z2'
        exact ⟨z0, z1', z2'⟩)
      have hE1 : ∀ Q', kJ 117 0 [some (.ref 83), some (.int (nI 116)), some (.int (nI 101)), some (.int (nI 114))] [] (mi, ml, MR, 95) Q' = Q' (some (.int (nI 0))) (mi, ml, MR, 95) := fun Q' => by rw [hE, if_neg hc]
      simp only [↓s118_0, ↓s118_1, ↓s118_2, ↓s118_4, ↓s118_6, ↓s118_8, ↓s118_11, ↓s118_14, ↓s118_15, ↓s118_17, ↓s118_19, ↓s118_20, ↓s118_23, ↓s118_26, ↓s118_27, ↓s118_28, ↓s118_29, ↓s118_30, ↓s118_32, ↓s118_34, ↓s118_36, ↓s118_39, ↓s118_42, ↓s118_43, ↓s118_45, ↓s118_47, ↓s118_48, ↓s118_51, ↓s118_54, ↓s118_55, ↓s118_56, ↓s118_57, ↓s118_58, ↓s118_60, ↓s118_62, ↓s118_64, ↓s118_67, ↓s118_70, ↓s118_71, ↓s118_73, ↓s118_74, ↓s118_75, ↓s118_78, ↓s118_81, ↓s118_82, ↓s118_83, ↓s118_84, ↓s118_85, ↓s118_87, ↓s118_89, ↓s118_91, ↓s118_94, ↓s118_97, ↓s118_98, ↓s118_99, ↓s118_100, ↓s118_102, ↓s118_104, ↓s118_106, ↓s118_108, ↓s118_111, ↓s118_114, ↓s118_115, ↓s118_117, ↓s118_119, ↓s118_121, ↓s118_124, ↓s118_127, ↓s118_128, ↓s118_132, ↓s118_133, ↓s118_135, ↓s118_137, ↓s118_139, ↓s118_142, ↓s118_145, ↓s118_146, ↓s118_148, ↓s118_149, ↓s118_150, ↓s118_153, ↓s118_156, ↓s118_157, ↓s118_160, ↓s118_162, ↓hIs, ↓hE1, kNLn, kNLi, kNLr, va_rf_s, kOl_n, kOl_s, kap_n, kap_c, kb0, kb1, kbif, zif, z0, z1, Bool.false_eq_true, eq_self, not_true_eq_false, not_false_eq_true, if_true, if_false, and_self, true_and, false_and, and_true, and_false, ki_83, eq_true c, hn]
  · have hn : ¬ nmB B b e (nmL 4) = true := fun z => c (by rw [nm_4] at z; exact ⟨z.1, z.2.1, z.2.2.1, z.2.2.2.1⟩)
    simp only [↓s118_0, ↓s118_1, ↓s118_2, ↓s118_4, ↓s118_6, ↓s118_8, ↓s118_11, ↓s118_14, ↓s118_15, ↓s118_17, ↓s118_19, ↓s118_20, ↓s118_23, ↓s118_26, ↓s118_27, ↓s118_28, ↓s118_29, ↓s118_30, ↓s118_32, ↓s118_34, ↓s118_36, ↓s118_39, ↓s118_42, ↓s118_43, ↓s118_45, ↓s118_47, ↓s118_48, ↓s118_51, ↓s118_54, ↓s118_55, ↓s118_56, ↓s118_57, ↓s118_58, ↓s118_60, ↓s118_62, ↓s118_64, ↓s118_67, ↓s118_70, ↓s118_71, ↓s118_73, ↓s118_74, ↓s118_75, ↓s118_78, ↓s118_81, ↓s118_82, ↓s118_83, ↓s118_84, ↓s118_85, ↓s118_87, ↓s118_89, ↓s118_91, ↓s118_94, ↓s118_97, ↓s118_98, ↓s118_99, ↓s118_100, ↓s118_102, ↓s118_104, ↓s118_106, ↓s118_108, ↓s118_111, ↓s118_114, ↓s118_115, ↓s118_117, ↓s118_119, ↓s118_121, ↓s118_124, ↓s118_127, ↓s118_128, ↓s118_132, ↓s118_133, ↓s118_135, ↓s118_137, ↓s118_139, ↓s118_142, ↓s118_145, ↓s118_146, ↓s118_148, ↓s118_149, ↓s118_150, ↓s118_153, ↓s118_156, ↓s118_157, ↓s118_160, ↓s118_162, ↓hIs, kNLn, kNLi, kNLr, va_rf_s, kOl_n, kOl_s, kap_n, kap_c, kb0, kb1, kbif, zif, z0, z1, Bool.false_eq_true, eq_self, not_true_eq_false, not_false_eq_true, if_true, if_false, and_self, true_and, false_and, and_true, and_false, ki_83, eq_false c, hn]
theorem nm_5 : (nmB B b e (nmL 5) = true) = (e - b = 4 ∧ B b = 112 ∧ B (b + 1) = 97 ∧ B (b + 2) = 99 ∧ B (b + 3) = 101) := by
  apply propext
  constructor
  · intro z
    obtain ⟨z1, z2⟩ := of_decide_eq_true z
    exact ⟨z1, z2 0 (by decide), z2 1 (by decide), z2 2 (by decide), z2 3 (by decide)⟩
  · intro z
    obtain ⟨z1, y0, y1, y2, y3⟩ := z
    refine decide_eq_true ⟨z1, fun j hj => ?_⟩
    have hj2 : j < 4 := hj
    rcases (by omega : j = 0 ∨ j = 1 ∨ j = 2 ∨ j = 3) with rfl | rfl | rfl | rfl
    · exact y0
    · exact y1
    · exact y2
    · exact y3
theorem R_seg5 (h : rT n B mi) (h8 : mi 83 8 = nI e) (h9 : mi 83 9 = nI b) (hbe : b ≤ e) (hen : e ≤ n) : kJ 118 131 [some (.ref 83)] [] (mi, ml, MR, 95) Q = if nmB B b e (nmL 5) = true then Q (some (.int (nI 5))) (mi, ml, MR, 95) else Q (some (.int (-4))) (mi, ml, MR, 95) := by
  have hIs : ∀ Q', kJ 116 0 [some (.ref 83), some (.int (nI 4)), some (.int (nI 112)), some (.int (nI 97)), some (.int (nI 99))] [] (mi, ml, MR, 95) Q' = Q' (some (.int (if e - b = 4 ∧ B b = 112 ∧ B (b + 1) = 97 ∧ B (b + 2) = 99 then nI 1 else nI 0))) (mi, ml, MR, 95) := fun Q' => R_is h (by decide) (by decide) (by decide) (by decide) (by decide) h8 h9 hbe hen
  by_cases c : e - b = 4 ∧ B b = 112 ∧ B (b + 1) = 97 ∧ B (b + 2) = 99
  · have hl := c.1
    have q0 : bAt B n (b + 3) = nI (B (b + 3)) := if_pos (by omega)
    have w0 := h.1.2 (b + 3) (by omega)
    have l0 := nI_lit (by omega : B (b + 3) < 2 ^ 31) (by decide : 101 < 2 ^ 31)
    have hE := fun Q' => R_ends (mi := mi) (ml := ml) (Q := Q') (x := nI 101) (y := nI 0) (z := nI 0) h h9 (by omega : b ≤ n)
    by_cases d : B (b + 3) = 101
    · have d0 := d
      have hn : nmB B b e (nmL 5) = true := by rw [nm_5]; exact ⟨c.1, c.2.1, c.2.2.1, c.2.2.2, d0⟩
      have hc : bAt B n (b + 3) = nI 101 ∧ (nI 0 = 0 ∨ bAt B n (b + 4) = nI 0) ∧ (nI 0 = 0 ∨ bAt B n (b + 5) = nI 0) := ⟨by rw [q0, d0], Or.inl (by decide), Or.inl (by decide)⟩
      have hE1 : ∀ Q', kJ 117 0 [some (.ref 83), some (.int (nI 101)), some (.int (nI 0)), some (.int (nI 0))] [] (mi, ml, MR, 95) Q' = Q' (some (.int (nI 1))) (mi, ml, MR, 95) := fun Q' => by rw [hE, if_pos hc]
      simp only [↓s118_0, ↓s118_1, ↓s118_2, ↓s118_4, ↓s118_6, ↓s118_8, ↓s118_11, ↓s118_14, ↓s118_15, ↓s118_17, ↓s118_19, ↓s118_20, ↓s118_23, ↓s118_26, ↓s118_27, ↓s118_28, ↓s118_29, ↓s118_30, ↓s118_32, ↓s118_34, ↓s118_36, ↓s118_39, ↓s118_42, ↓s118_43, ↓s118_45, ↓s118_47, ↓s118_48, ↓s118_51, ↓s118_54, ↓s118_55, ↓s118_56, ↓s118_57, ↓s118_58, ↓s118_60, ↓s118_62, ↓s118_64, ↓s118_67, ↓s118_70, ↓s118_71, ↓s118_73, ↓s118_74, ↓s118_75, ↓s118_78, ↓s118_81, ↓s118_82, ↓s118_83, ↓s118_84, ↓s118_85, ↓s118_87, ↓s118_89, ↓s118_91, ↓s118_94, ↓s118_97, ↓s118_98, ↓s118_99, ↓s118_100, ↓s118_102, ↓s118_104, ↓s118_106, ↓s118_108, ↓s118_111, ↓s118_114, ↓s118_115, ↓s118_117, ↓s118_119, ↓s118_121, ↓s118_124, ↓s118_127, ↓s118_128, ↓s118_131, ↓s118_132, ↓s118_133, ↓s118_135, ↓s118_137, ↓s118_139, ↓s118_142, ↓s118_145, ↓s118_146, ↓s118_148, ↓s118_149, ↓s118_150, ↓s118_153, ↓s118_156, ↓s118_157, ↓s118_160, ↓s118_162, ↓hIs, ↓hE1, kNLn, kNLi, kNLr, va_rf_s, kOl_n, kOl_s, kap_n, kap_c, kb0, kb1, kbif, zif, z0, z1, Bool.false_eq_true, eq_self, not_true_eq_false, not_false_eq_true, if_true, if_false, and_self, true_and, false_and, and_true, and_false, ki_83, eq_true c, hn]
    · have hn : ¬ nmB B b e (nmL 5) = true := fun z => d (by rw [nm_5] at z; exact z.2.2.2.2)
      have hc : ¬ (bAt B n (b + 3) = nI 101 ∧ (nI 0 = 0 ∨ bAt B n (b + 4) = nI 0) ∧ (nI 0 = 0 ∨ bAt B n (b + 5) = nI 0)) := fun z => d (by
        obtain ⟨z0, z1, z2⟩ := z
        rw [q0, l0] at z0
        exact z0)
      have hE1 : ∀ Q', kJ 117 0 [some (.ref 83), some (.int (nI 101)), some (.int (nI 0)), some (.int (nI 0))] [] (mi, ml, MR, 95) Q' = Q' (some (.int (nI 0))) (mi, ml, MR, 95) := fun Q' => by rw [hE, if_neg hc]
      simp only [↓s118_0, ↓s118_1, ↓s118_2, ↓s118_4, ↓s118_6, ↓s118_8, ↓s118_11, ↓s118_14, ↓s118_15, ↓s118_17, ↓s118_19, ↓s118_20, ↓s118_23, ↓s118_26, ↓s118_27, ↓s118_28, ↓s118_29, ↓s118_30, ↓s118_32, ↓s118_34, ↓s118_36, ↓s118_39, ↓s118_42, ↓s118_43, ↓s118_45, ↓s118_47, ↓s118_48, ↓s118_51, ↓s118_54, ↓s118_55, ↓s118_56, ↓s118_57, ↓s118_58, ↓s118_60, ↓s118_62, ↓s118_64, ↓s118_67, ↓s118_70, ↓s118_71, ↓s118_73, ↓s118_74, ↓s118_75, ↓s118_78, ↓s118_81, ↓s118_82, ↓s118_83, ↓s118_84, ↓s118_85, ↓s118_87, ↓s118_89, ↓s118_91, ↓s118_94, ↓s118_97, ↓s118_98, ↓s118_99, ↓s118_100, ↓s118_102, ↓s118_104, ↓s118_106, ↓s118_108, ↓s118_111, ↓s118_114, ↓s118_115, ↓s118_117, ↓s118_119, ↓s118_121, ↓s118_124, ↓s118_127, ↓s118_128, ↓s118_131, ↓s118_132, ↓s118_133, ↓s118_135, ↓s118_137, ↓s118_139, ↓s118_142, ↓s118_145, ↓s118_146, ↓s118_148, ↓s118_149, ↓s118_150, ↓s118_153, ↓s118_156, ↓s118_157, ↓s118_160, ↓s118_162, ↓hIs, ↓hE1, kNLn, kNLi, kNLr, va_rf_s, kOl_n, kOl_s, kap_n, kap_c, kb0, kb1, kbif, zif, z0, z1, Bool.false_eq_true, eq_self, not_true_eq_false, not_false_eq_true, if_true, if_false, and_self, true_and, false_and, and_true, and_false, ki_83, eq_true c, hn]
  · have hn : ¬ nmB B b e (nmL 5) = true := fun z => c (by rw [nm_5] at z; exact ⟨z.1, z.2.1, z.2.2.1, z.2.2.2.1⟩)
    simp only [↓s118_0, ↓s118_1, ↓s118_2, ↓s118_4, ↓s118_6, ↓s118_8, ↓s118_11, ↓s118_14, ↓s118_15, ↓s118_17, ↓s118_19, ↓s118_20, ↓s118_23, ↓s118_26, ↓s118_27, ↓s118_28, ↓s118_29, ↓s118_30, ↓s118_32, ↓s118_34, ↓s118_36, ↓s118_39, ↓s118_42, ↓s118_43, ↓s118_45, ↓s118_47, ↓s118_48, ↓s118_51, ↓s118_54, ↓s118_55, ↓s118_56, ↓s118_57, ↓s118_58, ↓s118_60, ↓s118_62, ↓s118_64, ↓s118_67, ↓s118_70, ↓s118_71, ↓s118_73, ↓s118_74, ↓s118_75, ↓s118_78, ↓s118_81, ↓s118_82, ↓s118_83, ↓s118_84, ↓s118_85, ↓s118_87, ↓s118_89, ↓s118_91, ↓s118_94, ↓s118_97, ↓s118_98, ↓s118_99, ↓s118_100, ↓s118_102, ↓s118_104, ↓s118_106, ↓s118_108, ↓s118_111, ↓s118_114, ↓s118_115, ↓s118_117, ↓s118_119, ↓s118_121, ↓s118_124, ↓s118_127, ↓s118_128, ↓s118_131, ↓s118_132, ↓s118_133, ↓s118_135, ↓s118_137, ↓s118_139, ↓s118_142, ↓s118_145, ↓s118_146, ↓s118_148, ↓s118_149, ↓s118_150, ↓s118_153, ↓s118_156, ↓s118_157, ↓s118_160, ↓s118_162, ↓hIs, kNLn, kNLi, kNLr, va_rf_s, kOl_n, kOl_s, kap_n, kap_c, kb0, kb1, kbif, zif, z0, z1, Bool.false_eq_true, eq_self, not_true_eq_false, not_false_eq_true, if_true, if_false, and_self, true_and, false_and, and_true, and_false, ki_83, eq_false c, hn]
def lnI (k : Nat) : Int32 := if k = 6 then (-4) else nI k
theorem R_lineNow (h : rT n B mi) (h8 : mi 83 8 = nI e) (h9 : mi 83 9 = nI b) (hbe : b ≤ e) (hen : e ≤ n) : kJ 118 0 [some (.ref 83)] [] (mi, ml, MR, 95) Q = Q (some (.int (lnI (lnS B b e 6 0)))) (mi, ml, MR, 95) := by
  rw [R_seg0 h h8 h9 hbe hen, R_seg1 h h8 h9 hbe hen, R_seg2 h h8 h9 hbe hen, R_seg3 h h8 h9 hbe hen, R_seg4 h h8 h9 hbe hen, R_seg5 h h8 h9 hbe hen]
  simp only [lnS]
  by_cases c0 : nmB B b e (nmL 0) = true
  · rw [if_pos c0, if_pos c0]; rfl
  rw [if_neg c0, if_neg c0]
  by_cases c1 : nmB B b e (nmL 1) = true
  · rw [if_pos c1, if_pos c1]; rfl
  rw [if_neg c1, if_neg c1]
  by_cases c2 : nmB B b e (nmL 2) = true
  · rw [if_pos c2, if_pos c2]; rfl
  rw [if_neg c2, if_neg c2]
  by_cases c3 : nmB B b e (nmL 3) = true
  · rw [if_pos c3, if_pos c3]; rfl
  rw [if_neg c3, if_neg c3]
  by_cases c4 : nmB B b e (nmL 4) = true
  · rw [if_pos c4, if_pos c4]; rfl
  rw [if_neg c4, if_neg c4]
  by_cases c5 : nmB B b e (nmL 5) = true
  · rw [if_pos c5, if_pos c5]; rfl
  rw [if_neg c5, if_neg c5]
  rfl
end NAME
