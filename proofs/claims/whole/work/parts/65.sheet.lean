/-! sheets -/
theorem shq {k : Nat} (hk : k < 4) : MR 46 k = some (75 + 2 * k) ∧ kIs 95 (75 + 2 * k) 2 = true ∧ MR (75 + 2 * k) 1 = some (76 + 2 * k) ∧ kIs 95 (76 + 2 * k) 10 = true ∧ kAl (76 + 2 * k) = 40 := by
  rcases (by omega : k = 0 ∨ k = 1 ∨ k = 2 ∨ k = 3) with rfl | rfl | rfl | rfl
  · exact ⟨mr_46_0, ki_75, mr_75_1, ki_76, kl_76⟩
  · exact ⟨mr_46_1, ki_77, mr_77_1, ki_78, kl_78⟩
  · exact ⟨mr_46_2, ki_79, mr_79_1, ki_80, kl_80⟩
  · exact ⟨mr_46_3, ki_81, mr_81_1, ki_82, kl_82⟩
abbrev oS : Type := Option (Nat × Nat × (Nat → Int32))
/-- the fault of cells: from z on, m of them -/
def shF (o : oS) (z : Int) (m : Nat) : Nat := match o with
  | none => 1
  | some (_, n, _) => if 0 ≤ z ∧ z + m ≤ n then 0 else 2
def shL (o : oS) (lane : Nat) (z : Int) : Nat := match o with
  | none => 1
  | some (l, n, _) => if l = lane then (if 0 ≤ z ∧ z + 4 ≤ n then 0 else 2) else 3
def shG (o : oS) : Prop := ∀ l n c, o = some (l, n, c) → l < 3 ∧ n ≤ 40
def cnv (l : Nat) (v : Int32) : Int32 := if l = 0 then v.toInt8.toInt32 else if l = 1 then v.toInt16.toInt32 else v
section SHEET
variable {mi : Nat → Nat → Int32} {ml : Nat → Nat → Int64} {m : kMem} {Q : Option Value → kMem → Prop} {S : gS} {T U : tT} {b p n k l w : Nat} {o : oS}
theorem CI_sh {f g : Nat → Nat → Int32} (h : CI S f) (hk : k < 4) (e : ∀ q, q ≠ 75 + 2 * k → q ≠ 76 + 2 * k → g q = f q) (ho : cSh o k g) : CI (S.1, S.2.1, S.2.2.1, S.2.2.2.1, oput S.2.2.2.2.1 k o, S.2.2.2.2.2) g := by
  refine ⟨kCR_eq (fun q a b => e q (by omega) (by omega)) h.1, fun j hj => cImg_eq (e 45 (by omega) (by omega)) (fun q a b => e q (by omega) (by omega)) (h.2.1 j hj), ⟨by rw [e 28 (by omega) (by omega)]; exact h.2.2.1.1, fun j hj => by rw [e 29 (by omega) (by omega)]; exact h.2.2.1.2 j hj⟩, by rw [e 0 (by omega) (by omega)]; exact h.2.2.2.1, fun j hj => ?_, by rw [e 0 (by omega) (by omega)]; exact h.2.2.2.2.2⟩
  show cSh (oput S.2.2.2.2.1 k o j) j g
  by_cases ej : j = k
  · subst ej; rw [oput_s]; exact ho
  · rw [oput_n ej]
    exact cSh_eq (e _ (by omega) (by omega)) (e _ (by omega) (by omega)) (h.2.2.2.2.1 j hj)
theorem RI_sh {f g : Nat → Nat → Int32} (h : RI S f) (hg : gOK S) (hk : k < 4) (e : ∀ q, q ≠ 91 → q ≠ 92 → q ≠ 93 → g q = f q) (e1 : ∀ j, j ≠ k → g 91 j = f 91 j) (e2 : ∀ j, j ≠ k → g 92 j = f 92 j) (e3 : ∀ j, ¬ (40 * k ≤ j ∧ j < 40 * (k + 1)) → g 93 j = f 93 j) (ho : rSh o k g) : RI (S.1, S.2.1, S.2.2.1, S.2.2.2.1, oput S.2.2.2.2.1 k o, S.2.2.2.2.2) g := by
  have e83 := e 83 (by omega) (by omega) (by omega)
  have e84 := e 84 (by omega) (by omega) (by omega)
  refine ⟨by rw [e84]; exact h.1, fun j hj => rImg_eq (e 86 (by omega) (by omega) (by omega)) (fun i _ _ => by rw [e84]) (fun U hU => (hg.2.1 j hj U hU).1) (h.2.1 j hj), ⟨by rw [e83]; exact h.2.2.1.1, fun j hj => by rw [e 88 (by omega) (by omega) (by omega)]; exact h.2.2.1.2 j hj⟩, by rw [e83]; exact h.2.2.2.1, fun j hj => ?_, by rw [e83]; exact h.2.2.2.2.2⟩
  show rSh (oput S.2.2.2.2.1 k o j) j g
  by_cases ej : j = k
  · subst ej; rw [oput_s]; exact ho
  · rw [oput_n ej]
    exact rSh_eq (e1 j ej) (e2 j ej) (fun i a b => e3 i (by omega)) (fun l n c ec => (hg.2.2.2.2.1 j hj l n c ec).2) (h.2.2.2.2.1 j hj)
theorem gOK_sh (hg : gOK S) (ho : shG o) : gOK (S.1, S.2.1, S.2.2.1, S.2.2.2.1, oput S.2.2.2.2.1 k o, S.2.2.2.2.2) := by
  refine ⟨hg.1, hg.2.1, hg.2.2.1, hg.2.2.2.1, fun j hj l n c hc => ?_, hg.2.2.2.2.2⟩
  have hc' : oput S.2.2.2.2.1 k o j = some (l, n, c) := hc
  by_cases ej : j = k
  · rw [ej, oput_s] at hc'; exact ho l n c hc'
  · rw [oput_n ej] at hc'; exact hg.2.2.2.2.1 j hj l n c hc'
theorem J_renew (hk : k < 4) (hl : l < 3) (hn : n ≤ 40) (hQ : ∀ mi', cSh (some (l, n, fun _ => nI 0)) k mi' → (∀ q, q ≠ 75 + 2 * k → q ≠ 76 + 2 * k → mi' q = mi q) → Q none (mi', ml, MR, 95)) : kJ 31 0 [some (.ref (75 + 2 * k)), some (.int (nI l)), some (.int (nI n)), none] [] (mi, ml, MR, 95) Q := by
  obtain ⟨q1, q2, q3, q4, q5⟩ := shq hk
  simp only [↓s31_0, ↓s31_1, ↓s31_2, ↓s31_5, ↓s31_6, ↓s31_7, ↓s31_10, ↓s31_11, ↓s31_13, ↓s31_14, ↓s31_17, ↓s31_18, ↓s31_21, ↓s31_22, ↓s31_23, ↓s31_24, ↓s31_27, ↓s31_30, kNLn, kNLi, kNLr, va_rf_s, kOl_n, kOl_s, kap_n, kap_c, kb0, kb1, kbif, zif, z0, z1, Bool.false_eq_true, eq_self, not_true_eq_false, not_false_eq_true, if_true, if_false, and_self, true_and, false_and, and_true, and_false, q2]
  have loop : ∀ i, i ≤ n → ∀ mi1 : Nat → Nat → Int32, mi1 (75 + 2 * k) 0 = nI n → mi1 (75 + 2 * k) 2 = nI l → (∀ j, j < i → mi1 (76 + 2 * k) j = nI 0) → (∀ q, q ≠ 75 + 2 * k → q ≠ 76 + 2 * k → mi1 q = mi q) → kJ 31 12 [some (.ref (75 + 2 * k)), some (.int (nI l)), some (.int (nI n)), some (.int (nI i))] [] (mi1, ml, MR, 95) Q := by
    refine nUp (n := n) (P := fun i => ∀ mi1 : Nat → Nat → Int32, mi1 (75 + 2 * k) 0 = nI n → mi1 (75 + 2 * k) 2 = nI l → (∀ j, j < i → mi1 (76 + 2 * k) j = nI 0) → (∀ q, q ≠ 75 + 2 * k → q ≠ 76 + 2 * k → mi1 q = mi q) → kJ 31 12 [some (.ref (75 + 2 * k)), some (.int (nI l)), some (.int (nI n)), some (.int (nI i))] [] (mi1, ml, MR, 95) Q) ?_ (fun i hi ih => ?_)
    · intro mi1 a1 a2 a3 a4
      rw [s31_12]
      simp only [↓s31_0, ↓s31_1, ↓s31_2, ↓s31_5, ↓s31_6, ↓s31_7, ↓s31_10, ↓s31_11, ↓s31_13, ↓s31_14, ↓s31_17, ↓s31_18, ↓s31_21, ↓s31_22, ↓s31_23, ↓s31_24, ↓s31_27, ↓s31_30, kNLn, kNLi, kNLr, va_rf_s, kOl_n, kOl_s, kap_n, kap_c, kb0, kb1, kbif, zif, z0, z1, Bool.false_eq_true, eq_self, not_true_eq_false, not_false_eq_true, if_true, if_false, and_self, true_and, false_and, and_true, and_false, Int32.le_refl]
      exact hQ mi1 ⟨a1, a2, a3⟩ a4
    · intro mi1 a1 a2 a3 a4
      have hlt : ¬ nI n ≤ nI i := nI_ge (by omega) (by omega)
      have hc : (nI i).toNatClampNeg = i := nI_clamp (by omega)
      have hv : vp_in (nI i) 40 := vp_in_nI (by omega) (by decide)
      rw [s31_12]
      simp only [↓s31_0, ↓s31_1, ↓s31_2, ↓s31_5, ↓s31_6, ↓s31_7, ↓s31_10, ↓s31_11, ↓s31_13, ↓s31_14, ↓s31_17, ↓s31_18, ↓s31_21, ↓s31_22, ↓s31_23, ↓s31_24, ↓s31_27, ↓s31_30, kNLn, kNLi, kNLr, va_rf_s, kOl_n, kOl_s, kap_n, kap_c, kb0, kb1, kbif, zif, z0, z1, Bool.false_eq_true, eq_self, not_true_eq_false, not_false_eq_true, if_true, if_false, and_self, true_and, false_and, and_true, and_false, q2, q3, q4, q5, hlt, hc, hv, nI_add]
      refine ih _ (by rw [kup_ne (by omega)]; exact a1) (by rw [kup_ne (by omega)]; exact a2) (fun j hj => ?_) (fun q b1 b2 => by rw [kup_ne b2]; exact a4 q b1 b2)
      rw [kup_eq]
      by_cases ej : j = i
      · rw [ej, pk_us]
      · rw [pk_un ej]; exact a3 j (by omega)
  exact loop 0 (Nat.zero_le _) _ (by rw [kup_eq, pk_us]) (by rw [kup_eq, pk_un (by decide), kup_eq, pk_us]) (fun j hj => absurd hj (Nat.not_lt_zero j)) (fun q a b => by rw [kup_ne a, kup_ne a])
theorem R_isSheet {x y : Int32} : kJ 192 0 [some (.int x), some (.int y)] [] m Q = Q (some (.int (if gin x 4 = true ∧ gin y 3 = true then nI 1 else nI 0))) m := by
  by_cases c1 : gin x 4 = true
  · by_cases c2 : gin y 3 = true
    · simp only [↓s192_0, ↓s192_1, ↓s192_2, ↓s192_3, ↓s192_6, ↓s192_9, ↓s192_12, ↓s192_13, ↓s192_14, ↓s192_15, ↓s192_18, ↓s192_21, ↓s192_24, ↓s192_25, ↓s192_28, ↓s192_29, ↓kb0, ↓kb1, ↓R_i3, ↓R_i2, kNLn, kNLi, kNLr, va_rf_s, kOl_n, kOl_s, kap_n, kap_c, kb0, kb1, kbif, zif, z0, z1, Bool.false_eq_true, eq_self, not_true_eq_false, not_false_eq_true, if_true, if_false, and_self, true_and, false_and, and_true, and_false, c1, c2]
    · simp only [↓s192_0, ↓s192_1, ↓s192_2, ↓s192_3, ↓s192_6, ↓s192_9, ↓s192_12, ↓s192_13, ↓s192_14, ↓s192_15, ↓s192_18, ↓s192_21, ↓s192_24, ↓s192_25, ↓s192_28, ↓s192_29, ↓kb0, ↓kb1, ↓R_i3, ↓R_i2, kNLn, kNLi, kNLr, va_rf_s, kOl_n, kOl_s, kap_n, kap_c, kb0, kb1, kbif, zif, z0, z1, Bool.false_eq_true, eq_self, not_true_eq_false, not_false_eq_true, if_true, if_false, and_self, true_and, false_and, and_true, and_false, c1, c2]
  · simp only [↓s192_0, ↓s192_1, ↓s192_2, ↓s192_3, ↓s192_6, ↓s192_9, ↓s192_12, ↓s192_13, ↓s192_14, ↓s192_15, ↓s192_18, ↓s192_21, ↓s192_24, ↓s192_25, ↓s192_28, ↓s192_29, ↓kb0, ↓kb1, ↓R_i3, kNLn, kNLi, kNLr, va_rf_s, kOl_n, kOl_s, kap_n, kap_c, kb0, kb1, kbif, zif, z0, z1, Bool.false_eq_true, eq_self, not_true_eq_false, not_false_eq_true, if_true, if_false, and_self, true_and, false_and, and_true, and_false, c1]
theorem R_renew (hk : k < 4) (hn : n ≤ 40) (hQ : ∀ mi', rSh (some (l, n, fun _ => nI 0)) k mi' → (∀ q, q ≠ 91 → q ≠ 92 → q ≠ 93 → mi' q = mi q) → (∀ j, j ≠ k → mi' 91 j = mi 91 j) → (∀ j, j ≠ k → mi' 92 j = mi 92 j) → (∀ j, ¬ (40 * k ≤ j ∧ j < 40 * (k + 1)) → mi' 93 j = mi 93 j) → Q (some (.int (nI 1))) (mi', ml, MR, 95)) : kJ 193 40 [some (.ref 83), some (.int (nI k)), some (.int (nI l)), some (.int (nI n)), some (.int (nI 0))] [] (kup (kup mi 91 k (nI l)) 92 k (nI n), ml, MR, 95) Q := by
  have loop : ∀ i, i ≤ 40 → ∀ mi1 : Nat → Nat → Int32, (∀ q, q ≠ 93 → mi1 q = kup (kup mi 91 k (nI l)) 92 k (nI n) q) → (∀ j, j < i → mi1 93 (40 * k + j) = nI 0) → (∀ j, ¬ (40 * k ≤ j ∧ j < 40 * (k + 1)) → mi1 93 j = mi 93 j) → kJ 193 40 [some (.ref 83), some (.int (nI k)), some (.int (nI l)), some (.int (nI n)), some (.int (nI i))] [] (mi1, ml, MR, 95) Q := by
    refine nUp (n := 40) (P := fun i => ∀ mi1 : Nat → Nat → Int32, (∀ q, q ≠ 93 → mi1 q = kup (kup mi 91 k (nI l)) 92 k (nI n) q) → (∀ j, j < i → mi1 93 (40 * k + j) = nI 0) → (∀ j, ¬ (40 * k ≤ j ∧ j < 40 * (k + 1)) → mi1 93 j = mi 93 j) → kJ 193 40 [some (.ref 83), some (.int (nI k)), some (.int (nI l)), some (.int (nI n)), some (.int (nI i))] [] (mi1, ml, MR, 95) Q) ?_ (fun i hi ih => ?_)
    · intro mi1 a1 a2 a3
      rw [s193_40]
      simp only [↓s193_0, ↓s193_1, ↓s193_2, ↓s193_5, ↓s193_8, ↓s193_9, ↓s193_11, ↓s193_14, ↓s193_15, ↓s193_16, ↓s193_17, ↓s193_20, ↓s193_22, ↓s193_23, ↓s193_24, ↓s193_27, ↓s193_28, ↓s193_29, ↓s193_30, ↓s193_31, ↓s193_34, ↓s193_35, ↓s193_36, ↓s193_37, ↓s193_38, ↓s193_42, ↓s193_44, ↓s193_47, ↓s193_48, ↓s193_51, ↓s193_53, ↓s193_54, ↓s193_55, ↓s193_57, ↓s193_58, ↓s193_59, ↓s193_60, ↓s193_63, ↓s193_66, ↓s193_67, kNLn, kNLi, kNLr, va_rf_s, kOl_n, kOl_s, kap_n, kap_c, kb0, kb1, kbif, zif, z0, z1, Bool.false_eq_true, eq_self, not_true_eq_false, not_false_eq_true, if_true, if_false, and_self, true_and, false_and, and_true, and_false, Int32.le_refl]
      refine hQ mi1 ⟨?_, ?_, fun j hj => a2 j (by omega)⟩ (fun q b1 b2 b3 => by rw [a1 q b3, kup_ne b2, kup_ne b1]) (fun j hj => ?_) (fun j hj => ?_) a3
      · rw [a1 91 (by decide), kup_ne (by decide), kup_eq, pk_us]
      · rw [a1 92 (by decide), kup_eq, pk_us]
      · rw [a1 91 (by decide), kup_ne (by decide), kup_eq, pk_un hj]
      · rw [a1 92 (by decide), kup_eq, pk_un hj, kup_ne (by decide)]
    · intro mi1 a1 a2 a3
      have hlt : ¬ nI 40 ≤ nI i := nI_ge (by omega) (by omega)
      have hc : (nI (40 * k + i)).toNatClampNeg = 40 * k + i := nI_clamp (by omega)
      have hv : vp_in (nI (40 * k + i)) 160 := vp_in_nI (by omega) (by decide)
      rw [s193_40]
      simp only [↓s193_0, ↓s193_1, ↓s193_2, ↓s193_5, ↓s193_8, ↓s193_9, ↓s193_11, ↓s193_14, ↓s193_15, ↓s193_16, ↓s193_17, ↓s193_20, ↓s193_22, ↓s193_23, ↓s193_24, ↓s193_27, ↓s193_28, ↓s193_29, ↓s193_30, ↓s193_31, ↓s193_34, ↓s193_35, ↓s193_36, ↓s193_37, ↓s193_38, ↓s193_42, ↓s193_44, ↓s193_47, ↓s193_48, ↓s193_51, ↓s193_53, ↓s193_54, ↓s193_55, ↓s193_57, ↓s193_58, ↓s193_59, ↓s193_60, ↓s193_63, ↓s193_66, ↓s193_67, kNLn, kNLi, kNLr, va_rf_s, kOl_n, kOl_s, kap_n, kap_c, kb0, kb1, kbif, zif, z0, z1, Bool.false_eq_true, eq_self, not_true_eq_false, not_false_eq_true, if_true, if_false, and_self, true_and, false_and, and_true, and_false, ki_83, ki_93, kl_93, mr_83_25, hlt, pk_mul, nI_add, hc, hv]
      refine ih _ (fun q b => by rw [kup_ne b]; exact a1 q b) (fun j hj => ?_) (fun j hj => by rw [kup_eq, pk_un (by omega)]; exact a3 j hj)
      rw [kup_eq]
      by_cases ej : j = i
      · rw [ej, pk_us]
      · rw [pk_un (by omega)]; exact a2 j (by omega)
  exact loop 0 (Nat.zero_le _) _ (fun q b => rfl) (fun j hj => absurd hj (Nat.not_lt_zero j)) (fun j hj => by rw [kup_ne (by decide), kup_ne (by decide)])
theorem z_ge {z : Int32} (h : ¬ z < 0) (h2 : z ≤ nI 40) : ∃ n, n ≤ 40 ∧ z = nI n := nI_of2 (by decide) h h2
theorem B_sheet {x y z : Int32} (hg : gOK S) : bB 85 [some (.ref 0), some (.int x), some (.int y), some (.int z)] 193 [some (.ref 83), some (.int x), some (.int y), some (.int z), none] S := by
  by_cases c : gin x 4 = true
  · by_cases d : gin y 3 = true
    · by_cases e : z ≤ nI 40
      · by_cases f : z < 0
        · have f2 : ¬ 0 ≤ z := Int32.not_le.mpr f
          refine bB_e hg (-14) (fun mi ml Q h => ?_) (fun mi ml Q h => ?_)
          · simp only [↓s85_0, ↓s85_1, ↓s85_2, ↓s85_3, ↓s85_6, ↓s85_9, ↓s85_10, ↓s85_11, ↓s85_12, ↓s85_15, ↓s85_18, ↓s85_19, ↓s85_21, ↓s85_24, ↓s85_25, ↓s85_26, ↓s85_27, ↓s85_30, ↓s85_32, ↓s85_33, ↓s85_34, ↓s85_37, ↓s85_38, ↓s85_39, ↓s85_40, ↓s85_41, ↓s85_44, ↓s85_45, ↓J_w3, ↓J_w2, kNLn, kNLi, kNLr, va_rf_s, kOl_n, kOl_s, kap_n, kap_c, kb0, kb1, kbif, zif, z0, z1, Bool.false_eq_true, eq_self, not_true_eq_false, not_false_eq_true, if_true, if_false, and_self, true_and, false_and, and_true, and_false, c, d, e, f, f2]
          · simp only [↓s193_0, ↓s193_1, ↓s193_2, ↓s193_5, ↓s193_8, ↓s193_9, ↓s193_11, ↓s193_14, ↓s193_15, ↓s193_16, ↓s193_17, ↓s193_20, ↓s193_22, ↓s193_23, ↓s193_24, ↓s193_27, ↓s193_28, ↓s193_29, ↓s193_30, ↓s193_31, ↓s193_34, ↓s193_35, ↓s193_36, ↓s193_37, ↓s193_38, ↓s193_42, ↓s193_44, ↓s193_47, ↓s193_48, ↓s193_51, ↓s193_53, ↓s193_54, ↓s193_55, ↓s193_57, ↓s193_58, ↓s193_59, ↓s193_60, ↓s193_63, ↓s193_66, ↓s193_67, ↓R_isSheet, kNLn, kNLi, kNLr, va_rf_s, kOl_n, kOl_s, kap_n, kap_c, kb0, kb1, kbif, zif, z0, z1, Bool.false_eq_true, eq_self, not_true_eq_false, not_false_eq_true, if_true, if_false, and_self, true_and, false_and, and_true, and_false, c, d, e, f, f2]
        · obtain ⟨n, hn, rfl⟩ := z_ge f e
          obtain ⟨k, hk, rfl⟩ := gin_of c (by decide)
          obtain ⟨l, hl, rfl⟩ := gin_of d (by decide)
          obtain ⟨q1, q2, q3, q4, q5⟩ := shq hk
          have f2 : 0 ≤ nI n := Int32.not_lt.mp f
          have hc : (nI k).toNatClampNeg = k := nI_clamp (by omega)
          have hv : vp_in (nI k) 4 := vp_in_nI (by omega) (by decide)
          have hG : shG (some (l, n, fun _ => nI 0)) := fun l' n' c' h => by cases h; exact ⟨hl, hn⟩
          refine ⟨_, nI 1, gOK_sh (k := k) hg hG, fun mi ml Q h hQ => ?_, fun mi ml Q h hQ => ?_⟩
          · simp only [↓s85_0, ↓s85_1, ↓s85_2, ↓s85_3, ↓s85_6, ↓s85_9, ↓s85_10, ↓s85_11, ↓s85_12, ↓s85_15, ↓s85_18, ↓s85_19, ↓s85_21, ↓s85_24, ↓s85_25, ↓s85_26, ↓s85_27, ↓s85_30, ↓s85_32, ↓s85_33, ↓s85_34, ↓s85_37, ↓s85_38, ↓s85_39, ↓s85_40, ↓s85_41, ↓s85_44, ↓s85_45, ↓J_w3, ↓J_w2, kNLn, kNLi, kNLr, va_rf_s, kOl_n, kOl_s, kap_n, kap_c, kb0, kb1, kbif, zif, z0, z1, Bool.false_eq_true, eq_self, not_true_eq_false, not_false_eq_true, if_true, if_false, and_self, true_and, false_and, and_true, and_false, c, d, e, f, f2, ki_0, ki_46, kl_46, mr_0_6, hc, hv, q1, q2, or_true, true_or]
            refine J_renew hk hl hn (fun mi2 h2 e2 => ?_)
            simp only [↓s85_0, ↓s85_1, ↓s85_2, ↓s85_3, ↓s85_6, ↓s85_9, ↓s85_10, ↓s85_11, ↓s85_12, ↓s85_15, ↓s85_18, ↓s85_19, ↓s85_21, ↓s85_24, ↓s85_25, ↓s85_26, ↓s85_27, ↓s85_30, ↓s85_32, ↓s85_33, ↓s85_34, ↓s85_37, ↓s85_38, ↓s85_39, ↓s85_40, ↓s85_41, ↓s85_44, ↓s85_45, kNLn, kNLi, kNLr, va_rf_s, kOl_n, kOl_s, kap_n, kap_c, kb0, kb1, kbif]
            exact hQ _ (CI_sh h hk e2 h2) (fun q hq => e2 q (by omega) (by omega))
          · simp only [↓s193_0, ↓s193_1, ↓s193_2, ↓s193_5, ↓s193_8, ↓s193_9, ↓s193_11, ↓s193_14, ↓s193_15, ↓s193_16, ↓s193_17, ↓s193_20, ↓s193_22, ↓s193_23, ↓s193_24, ↓s193_27, ↓s193_28, ↓s193_29, ↓s193_30, ↓s193_31, ↓s193_34, ↓s193_35, ↓s193_36, ↓s193_37, ↓s193_38, ↓s193_42, ↓s193_44, ↓s193_47, ↓s193_48, ↓s193_51, ↓s193_53, ↓s193_54, ↓s193_55, ↓s193_57, ↓s193_58, ↓s193_59, ↓s193_60, ↓s193_63, ↓s193_66, ↓s193_67, ↓R_isSheet, kNLn, kNLi, kNLr, va_rf_s, kOl_n, kOl_s, kap_n, kap_c, kb0, kb1, kbif, zif, z0, z1, Bool.false_eq_true, eq_self, not_true_eq_false, not_false_eq_true, if_true, if_false, and_self, true_and, false_and, and_true, and_false, c, d, e, f, f2, ki_83, ki_91, kl_91, ki_92, kl_92, mr_83_23, mr_83_24, hc, hv]
            refine R_renew hk hn (fun mi2 h2 e2 e3 e4 e5 => ?_)
            exact hQ _ ml (RI_sh h hg hk e2 e3 e4 e5 h2) (fun q hq => e2 q (by omega) (by omega) (by omega))
      · refine bB_e hg (-1) (fun mi ml Q h => ?_) (fun mi ml Q h => ?_)
        · simp only [↓s85_0, ↓s85_1, ↓s85_2, ↓s85_3, ↓s85_6, ↓s85_9, ↓s85_10, ↓s85_11, ↓s85_12, ↓s85_15, ↓s85_18, ↓s85_19, ↓s85_21, ↓s85_24, ↓s85_25, ↓s85_26, ↓s85_27, ↓s85_30, ↓s85_32, ↓s85_33, ↓s85_34, ↓s85_37, ↓s85_38, ↓s85_39, ↓s85_40, ↓s85_41, ↓s85_44, ↓s85_45, ↓J_w3, ↓J_w2, kNLn, kNLi, kNLr, va_rf_s, kOl_n, kOl_s, kap_n, kap_c, kb0, kb1, kbif, zif, z0, z1, Bool.false_eq_true, eq_self, not_true_eq_false, not_false_eq_true, if_true, if_false, and_self, true_and, false_and, and_true, and_false, c, d, e]
        · simp only [↓s193_0, ↓s193_1, ↓s193_2, ↓s193_5, ↓s193_8, ↓s193_9, ↓s193_11, ↓s193_14, ↓s193_15, ↓s193_16, ↓s193_17, ↓s193_20, ↓s193_22, ↓s193_23, ↓s193_24, ↓s193_27, ↓s193_28, ↓s193_29, ↓s193_30, ↓s193_31, ↓s193_34, ↓s193_35, ↓s193_36, ↓s193_37, ↓s193_38, ↓s193_42, ↓s193_44, ↓s193_47, ↓s193_48, ↓s193_51, ↓s193_53, ↓s193_54, ↓s193_55, ↓s193_57, ↓s193_58, ↓s193_59, ↓s193_60, ↓s193_63, ↓s193_66, ↓s193_67, ↓R_isSheet, kNLn, kNLi, kNLr, va_rf_s, kOl_n, kOl_s, kap_n, kap_c, kb0, kb1, kbif, zif, z0, z1, Bool.false_eq_true, eq_self, not_true_eq_false, not_false_eq_true, if_true, if_false, and_self, true_and, false_and, and_true, and_false, c, d, e]
    · refine bB_e hg (-1) (fun mi ml Q h => ?_) (fun mi ml Q h => ?_)
      · simp only [↓s85_0, ↓s85_1, ↓s85_2, ↓s85_3, ↓s85_6, ↓s85_9, ↓s85_10, ↓s85_11, ↓s85_12, ↓s85_15, ↓s85_18, ↓s85_19, ↓s85_21, ↓s85_24, ↓s85_25, ↓s85_26, ↓s85_27, ↓s85_30, ↓s85_32, ↓s85_33, ↓s85_34, ↓s85_37, ↓s85_38, ↓s85_39, ↓s85_40, ↓s85_41, ↓s85_44, ↓s85_45, ↓J_w3, ↓J_w2, kNLn, kNLi, kNLr, va_rf_s, kOl_n, kOl_s, kap_n, kap_c, kb0, kb1, kbif, zif, z0, z1, Bool.false_eq_true, eq_self, not_true_eq_false, not_false_eq_true, if_true, if_false, and_self, true_and, false_and, and_true, and_false, c, d]
      · simp only [↓s193_0, ↓s193_1, ↓s193_2, ↓s193_5, ↓s193_8, ↓s193_9, ↓s193_11, ↓s193_14, ↓s193_15, ↓s193_16, ↓s193_17, ↓s193_20, ↓s193_22, ↓s193_23, ↓s193_24, ↓s193_27, ↓s193_28, ↓s193_29, ↓s193_30, ↓s193_31, ↓s193_34, ↓s193_35, ↓s193_36, ↓s193_37, ↓s193_38, ↓s193_42, ↓s193_44, ↓s193_47, ↓s193_48, ↓s193_51, ↓s193_53, ↓s193_54, ↓s193_55, ↓s193_57, ↓s193_58, ↓s193_59, ↓s193_60, ↓s193_63, ↓s193_66, ↓s193_67, ↓R_isSheet, kNLn, kNLi, kNLr, va_rf_s, kOl_n, kOl_s, kap_n, kap_c, kb0, kb1, kbif, zif, z0, z1, Bool.false_eq_true, eq_self, not_true_eq_false, not_false_eq_true, if_true, if_false, and_self, true_and, false_and, and_true, and_false, c, d]
  · refine bB_e hg (-1) (fun mi ml Q h => ?_) (fun mi ml Q h => ?_)
    · simp only [↓s85_0, ↓s85_1, ↓s85_2, ↓s85_3, ↓s85_6, ↓s85_9, ↓s85_10, ↓s85_11, ↓s85_12, ↓s85_15, ↓s85_18, ↓s85_19, ↓s85_21, ↓s85_24, ↓s85_25, ↓s85_26, ↓s85_27, ↓s85_30, ↓s85_32, ↓s85_33, ↓s85_34, ↓s85_37, ↓s85_38, ↓s85_39, ↓s85_40, ↓s85_41, ↓s85_44, ↓s85_45, ↓J_w3, kNLn, kNLi, kNLr, va_rf_s, kOl_n, kOl_s, kap_n, kap_c, kb0, kb1, kbif, zif, z0, z1, Bool.false_eq_true, eq_self, not_true_eq_false, not_false_eq_true, if_true, if_false, and_self, true_and, false_and, and_true, and_false, c]
    · simp only [↓s193_0, ↓s193_1, ↓s193_2, ↓s193_5, ↓s193_8, ↓s193_9, ↓s193_11, ↓s193_14, ↓s193_15, ↓s193_16, ↓s193_17, ↓s193_20, ↓s193_22, ↓s193_23, ↓s193_24, ↓s193_27, ↓s193_28, ↓s193_29, ↓s193_30, ↓s193_31, ↓s193_34, ↓s193_35, ↓s193_36, ↓s193_37, ↓s193_38, ↓s193_42, ↓s193_44, ↓s193_47, ↓s193_48, ↓s193_51, ↓s193_53, ↓s193_54, ↓s193_55, ↓s193_57, ↓s193_58, ↓s193_59, ↓s193_60, ↓s193_63, ↓s193_66, ↓s193_67, ↓R_isSheet, kNLn, kNLi, kNLr, va_rf_s, kOl_n, kOl_s, kap_n, kap_c, kb0, kb1, kbif, zif, z0, z1, Bool.false_eq_true, eq_self, not_true_eq_false, not_false_eq_true, if_true, if_false, and_self, true_and, false_and, and_true, and_false, c]
/-! lay -/
theorem J_cells {x : Int32} (hk : k < 4) (h : cSh o k mi) (hG : shG o) (hw : w ≤ 4) : kJ 34 0 [some (.ref (75 + 2 * k)), some (.int x), some (.int (nI w))] [] (mi, ml, MR, 95) Q = Q (some (.int (nI (shF o x.toInt w)))) (mi, ml, MR, 95) := by
  obtain ⟨q1, q2, q3, q4, q5⟩ := shq hk
  cases o with
  | none =>
    have h2 : mi (75 + 2 * k) 0 = (-1) := h
    simp only [↓s34_0, ↓s34_1, ↓s34_4, ↓s34_7, ↓s34_8, ↓s34_9, ↓s34_10, ↓s34_13, ↓s34_14, ↓s34_15, ↓s34_18, ↓s34_19, ↓s34_20, ↓s34_23, ↓s34_24, ↓s34_27, ↓s34_28, ↓J_nothing q2, kNLn, kNLi, kNLr, va_rf_s, kOl_n, kOl_s, kap_n, kap_c, kb0, kb1, kbif, zif, z0, z1, Bool.false_eq_true, eq_self, not_true_eq_false, not_false_eq_true, if_true, if_false, and_self, true_and, false_and, and_true, and_false, q2, h2, m1_r, shF]
  | some v =>
    obtain ⟨l, n, c⟩ := v
    have hn := (hG l n c rfl).2
    have h2 : mi (75 + 2 * k) 0 = nI n := h.1
    have nm := n_m1 (by omega : n < 2 ^ 31)
    have es := pk_sub_toInt (a := n) (b := w) (by omega) (by omega)
    simp only [↓s34_0, ↓s34_1, ↓s34_4, ↓s34_7, ↓s34_8, ↓s34_9, ↓s34_10, ↓s34_13, ↓s34_14, ↓s34_15, ↓s34_18, ↓s34_19, ↓s34_20, ↓s34_23, ↓s34_24, ↓s34_27, ↓s34_28, ↓J_nothing q2, kNLn, kNLi, kNLr, va_rf_s, kOl_n, kOl_s, kap_n, kap_c, kb0, kb1, kbif, zif, z0, z1, Bool.false_eq_true, eq_self, not_true_eq_false, not_false_eq_true, if_true, if_false, and_self, true_and, false_and, and_true, and_false, q2, h2, nm, shF]
    by_cases a : x < 0
    · have a2 := Int32.lt_iff_toInt_lt.mp a
      rw [Int32.toInt_zero] at a2
      rw [if_pos a, if_neg (by omega)]
    · have a2 := Int32.le_iff_toInt_le.mp (Int32.not_lt.mp a)
      rw [Int32.toInt_zero] at a2
      rw [if_neg a]
      by_cases d : x ≤ nI n - nI w
      · have d2 := Int32.le_iff_toInt_le.mp d
        rw [es] at d2
        rw [if_pos d, if_pos (by omega)]
      · have d2 := Int32.lt_iff_toInt_lt.mp (Int32.not_le.mp d)
        rw [es] at d2
        rw [if_neg d, if_neg (by omega)]
theorem J_put {i : Nat} {v : Int32} (hk : k < 4) (hi : i < 40) (hl : l < 3) (h : mi (75 + 2 * k) 2 = nI l) : kJ 32 0 [some (.ref (75 + 2 * k)), some (.int (nI i)), some (.int v)] [] (mi, ml, MR, 95) Q = Q none (kup mi (76 + 2 * k) i (cnv l v), ml, MR, 95) := by
  obtain ⟨q1, q2, q3, q4, q5⟩ := shq hk
  have hc : (nI i).toNatClampNeg = i := nI_clamp (by omega)
  have hv : vp_in (nI i) 40 := vp_in_nI hi (by decide)
  have e1 : (1 = 0) = False := by decide
  have e2 : (2 = 0) = False := by decide
  have e3 : (2 = 1) = False := by decide
  rcases (by omega : l = 0 ∨ l = 1 ∨ l = 2) with rfl | rfl | rfl
  · simp only [↓s32_0, ↓s32_1, ↓s32_4, ↓s32_5, ↓s32_6, ↓s32_9, ↓s32_12, ↓s32_13, ↓s32_14, ↓s32_17, ↓s32_18, ↓s32_21, ↓s32_22, ↓s32_25, ↓s32_26, ↓s32_27, ↓s32_30, ↓s32_31, ↓s32_32, kNLn, kNLi, kNLr, va_rf_s, kOl_n, kOl_s, kap_n, kap_c, kb0, kb1, kbif, zif, z0, z1, Bool.false_eq_true, eq_self, not_true_eq_false, not_false_eq_true, if_true, if_false, and_self, true_and, false_and, and_true, and_false, nl_0_1, nl_0_2, nl_0_3, nl_0_4, nl_0_5, nl_0_6, nl_1_0, nl_1_2, nl_1_3, nl_1_4, nl_1_5, nl_1_6, nl_2_0, nl_2_1, nl_2_3, nl_2_4, nl_2_5, nl_2_6, nl_3_0, nl_3_1, nl_3_2, nl_3_4, nl_3_5, nl_3_6, nl_4_0, nl_4_1, nl_4_2, nl_4_3, nl_4_5, nl_4_6, nl_5_0, nl_5_1, nl_5_2, nl_5_3, nl_5_4, nl_5_6, nl_6_0, nl_6_1, nl_6_2, nl_6_3, nl_6_4, nl_6_5, nz_1, nz_2, nz_3, nz_4, nz_5, nz_6, q2, q3, q4, q5, hc, hv, h, cnv]
  · simp only [↓s32_0, ↓s32_1, ↓s32_4, ↓s32_5, ↓s32_6, ↓s32_9, ↓s32_12, ↓s32_13, ↓s32_14, ↓s32_17, ↓s32_18, ↓s32_21, ↓s32_22, ↓s32_25, ↓s32_26, ↓s32_27, ↓s32_30, ↓s32_31, ↓s32_32, kNLn, kNLi, kNLr, va_rf_s, kOl_n, kOl_s, kap_n, kap_c, kb0, kb1, kbif, zif, z0, z1, Bool.false_eq_true, eq_self, not_true_eq_false, not_false_eq_true, if_true, if_false, and_self, true_and, false_and, and_true, and_false, nl_0_1, nl_0_2, nl_0_3, nl_0_4, nl_0_5, nl_0_6, nl_1_0, nl_1_2, nl_1_3, nl_1_4, nl_1_5, nl_1_6, nl_2_0, nl_2_1, nl_2_3, nl_2_4, nl_2_5, nl_2_6, nl_3_0, nl_3_1, nl_3_2, nl_3_4, nl_3_5, nl_3_6, nl_4_0, nl_4_1, nl_4_2, nl_4_3, nl_4_5, nl_4_6, nl_5_0, nl_5_1, nl_5_2, nl_5_3, nl_5_4, nl_5_6, nl_6_0, nl_6_1, nl_6_2, nl_6_3, nl_6_4, nl_6_5, nz_1, nz_2, nz_3, nz_4, nz_5, nz_6, q2, q3, q4, q5, hc, hv, h, cnv, e1]
  · simp only [↓s32_0, ↓s32_1, ↓s32_4, ↓s32_5, ↓s32_6, ↓s32_9, ↓s32_12, ↓s32_13, ↓s32_14, ↓s32_17, ↓s32_18, ↓s32_21, ↓s32_22, ↓s32_25, ↓s32_26, ↓s32_27, ↓s32_30, ↓s32_31, ↓s32_32, kNLn, kNLi, kNLr, va_rf_s, kOl_n, kOl_s, kap_n, kap_c, kb0, kb1, kbif, zif, z0, z1, Bool.false_eq_true, eq_self, not_true_eq_false, not_false_eq_true, if_true, if_false, and_self, true_and, false_and, and_true, and_false, nl_0_1, nl_0_2, nl_0_3, nl_0_4, nl_0_5, nl_0_6, nl_1_0, nl_1_2, nl_1_3, nl_1_4, nl_1_5, nl_1_6, nl_2_0, nl_2_1, nl_2_3, nl_2_4, nl_2_5, nl_2_6, nl_3_0, nl_3_1, nl_3_2, nl_3_4, nl_3_5, nl_3_6, nl_4_0, nl_4_1, nl_4_2, nl_4_3, nl_4_5, nl_4_6, nl_5_0, nl_5_1, nl_5_2, nl_5_3, nl_5_4, nl_5_6, nl_6_0, nl_6_1, nl_6_2, nl_6_3, nl_6_4, nl_6_5, nz_1, nz_2, nz_3, nz_4, nz_5, nz_6, q2, q3, q4, q5, hc, hv, h, cnv, e2, e3]
theorem B_lay {x y z : Int32} (hg : gOK S) : bB 86 [some (.ref 0), some (.int x), some (.int y), some (.int z), none] 194 [some (.ref 83), some (.int x), some (.int y), some (.int z)] S := by
  have g0 : gin (nI 0) 3 = true := by decide
  have i11 : (-10) - nI 1 = (-11) := by decide
  have i12 : (-10) - nI 2 = (-12) := by decide
  by_cases c : gin x 4 = true
  · obtain ⟨k, hk, rfl⟩ := gin_of c (by decide)
    obtain ⟨q1, q2, q3, q4, q5⟩ := shq hk
    have hc : (nI k).toNatClampNeg = k := nI_clamp (by omega)
    have hv : vp_in (nI k) 4 := vp_in_nI (by omega) (by decide)
    have hgs := hg.2.2.2.2.1 k hk
    cases e : S.2.2.2.2.1 k with
    | none =>
      refine bB_e hg (-11) (fun mi ml Q h => ?_) (fun mi ml Q h => ?_)
      · have hs := h.2.2.2.2.1 k hk
        rw [e] at hs
        have hj : ∀ Q', kJ 34 0 [some (.ref (75 + 2 * k)), some (.int y), some (.int (nI 1))] [] (mi, ml, MR, 95) Q' = Q' (some (.int (nI 1))) (mi, ml, MR, 95) := fun Q' => J_cells hk hs (fun _ _ _ z => by cases z) (by decide)
        simp only [↓s86_0, ↓s86_1, ↓s86_2, ↓s86_3, ↓s86_6, ↓s86_9, ↓s86_10, ↓s86_11, ↓s86_12, ↓s86_15, ↓s86_16, ↓s86_17, ↓s86_18, ↓s86_19, ↓s86_22, ↓s86_24, ↓s86_26, ↓s86_29, ↓s86_31, ↓s86_33, ↓s86_34, ↓s86_35, ↓s86_36, ↓s86_39, ↓s86_40, ↓s86_41, ↓s86_42, ↓s86_43, ↓s86_46, ↓s86_47, ↓J_w3, ↓hj, kNLn, kNLi, kNLr, va_rf_s, kOl_n, kOl_s, kap_n, kap_c, kb0, kb1, kbif, zif, z0, z1, Bool.false_eq_true, eq_self, not_true_eq_false, not_false_eq_true, if_true, if_false, and_self, true_and, false_and, and_true, and_false, nl_0_1, nl_0_2, nl_0_3, nl_0_4, nl_0_5, nl_0_6, nl_1_0, nl_1_2, nl_1_3, nl_1_4, nl_1_5, nl_1_6, nl_2_0, nl_2_1, nl_2_3, nl_2_4, nl_2_5, nl_2_6, nl_3_0, nl_3_1, nl_3_2, nl_3_4, nl_3_5, nl_3_6, nl_4_0, nl_4_1, nl_4_2, nl_4_3, nl_4_5, nl_4_6, nl_5_0, nl_5_1, nl_5_2, nl_5_3, nl_5_4, nl_5_6, nl_6_0, nl_6_1, nl_6_2, nl_6_3, nl_6_4, nl_6_5, nz_1, nz_2, nz_3, nz_4, nz_5, nz_6, c, ki_0, ki_46, kl_46, mr_0_6, hc, hv, q1, q2, or_true, true_or, i11]
      · have hs := h.2.2.2.2.1 k hk
        rw [e] at hs
        have hs2 : mi 91 k = (-4) := hs
        simp only [↓s194_0, ↓s194_1, ↓s194_2, ↓s194_5, ↓s194_8, ↓s194_9, ↓s194_10, ↓s194_11, ↓s194_14, ↓s194_15, ↓s194_16, ↓s194_18, ↓s194_21, ↓s194_23, ↓s194_24, ↓s194_25, ↓s194_26, ↓s194_27, ↓s194_28, ↓s194_31, ↓s194_32, ↓s194_33, ↓s194_34, ↓s194_35, ↓s194_36, ↓s194_39, ↓s194_42, ↓s194_44, ↓s194_45, ↓s194_46, ↓s194_49, ↓s194_51, ↓s194_52, ↓s194_53, ↓s194_54, ↓s194_55, ↓s194_56, ↓s194_59, ↓s194_60, ↓s194_61, ↓s194_64, ↓s194_65, ↓s194_66, ↓s194_69, ↓s194_70, ↓s194_73, ↓s194_74, ↓s194_75, ↓s194_76, ↓s194_79, ↓s194_80, ↓s194_81, ↓s194_84, ↓s194_85, ↓s194_86, ↓s194_87, ↓R_isSheet, kNLn, kNLi, kNLr, va_rf_s, kOl_n, kOl_s, kap_n, kap_c, kb0, kb1, kbif, zif, z0, z1, Bool.false_eq_true, eq_self, not_true_eq_false, not_false_eq_true, if_true, if_false, and_self, true_and, false_and, and_true, and_false, c, g0, ki_83, ki_91, kl_91, mr_83_23, hc, hv, hs2, m4_r]
    | some t =>
      obtain ⟨l, n, cc⟩ := t
      obtain ⟨hl, hn⟩ := hgs l n cc e
      have n4 := n_m4 (by omega : l < 2 ^ 31)
      by_cases d : gin y n = true
      · obtain ⟨i, hi, rfl⟩ := gin_of d (by omega)
        have hci : (nI (40 * k + i)).toNatClampNeg = 40 * k + i := nI_clamp (by omega)
        have hvi : vp_in (nI (40 * k + i)) 160 := vp_in_nI (by omega) (by decide)
        have hG : shG (some (l, n, oput cc i (cnv l z))) := fun l' n' c' h => by cases h; exact ⟨hl, hn⟩
        refine ⟨_, nI 1, gOK_sh (k := k) hg hG, fun mi ml Q h hQ => ?_, fun mi ml Q h hQ => ?_⟩
        · have hs := h.2.2.2.2.1 k hk
          rw [e] at hs
          have hj : ∀ Q', kJ 34 0 [some (.ref (75 + 2 * k)), some (.int (nI i)), some (.int (nI 1))] [] (mi, ml, MR, 95) Q' = Q' (some (.int (nI 0))) (mi, ml, MR, 95) := fun Q' => by
            rw [J_cells hk hs (fun l' n' c' h => by cases h; exact ⟨hl, hn⟩) (by decide)]
            have : shF (some (l, n, cc)) (nI i).toInt 1 = 0 := if_pos (by rw [nI_toInt (by omega)]; omega)
            rw [this]
          simp only [↓s86_0, ↓s86_1, ↓s86_2, ↓s86_3, ↓s86_6, ↓s86_9, ↓s86_10, ↓s86_11, ↓s86_12, ↓s86_15, ↓s86_16, ↓s86_17, ↓s86_18, ↓s86_19, ↓s86_22, ↓s86_24, ↓s86_26, ↓s86_29, ↓s86_31, ↓s86_33, ↓s86_34, ↓s86_35, ↓s86_36, ↓s86_39, ↓s86_40, ↓s86_41, ↓s86_42, ↓s86_43, ↓s86_46, ↓s86_47, ↓J_w3, ↓hj, ↓J_put hk (by omega : i < 40) hl hs.2.1, kNLn, kNLi, kNLr, va_rf_s, kOl_n, kOl_s, kap_n, kap_c, kb0, kb1, kbif, zif, z0, z1, Bool.false_eq_true, eq_self, not_true_eq_false, not_false_eq_true, if_true, if_false, and_self, true_and, false_and, and_true, and_false, nl_0_1, nl_0_2, nl_0_3, nl_0_4, nl_0_5, nl_0_6, nl_1_0, nl_1_2, nl_1_3, nl_1_4, nl_1_5, nl_1_6, nl_2_0, nl_2_1, nl_2_3, nl_2_4, nl_2_5, nl_2_6, nl_3_0, nl_3_1, nl_3_2, nl_3_4, nl_3_5, nl_3_6, nl_4_0, nl_4_1, nl_4_2, nl_4_3, nl_4_5, nl_4_6, nl_5_0, nl_5_1, nl_5_2, nl_5_3, nl_5_4, nl_5_6, nl_6_0, nl_6_1, nl_6_2, nl_6_3, nl_6_4, nl_6_5, nz_1, nz_2, nz_3, nz_4, nz_5, nz_6, c, ki_0, ki_46, kl_46, mr_0_6, hc, hv, q1, q2, or_true, true_or]
          refine hQ _ (CI_sh h hk (fun q a b => kup_ne b) ⟨by rw [kup_ne (by omega)]; exact hs.1, by rw [kup_ne (by omega)]; exact hs.2.1, fun j hj => ?_⟩) (fun q hq => kup_ne (by omega))
          rw [kup_eq]
          by_cases ej : j = i
          · rw [ej, pk_us, oput_s]
          · rw [pk_un ej, oput_n ej]; exact hs.2.2 j hj
        · have hs := h.2.2.2.2.1 k hk
          rw [e] at hs
          have hs1 : mi 91 k = nI l := hs.1
          have hs2 : mi 92 k = nI n := hs.2.1
          have e1 : (1 = 0) = False := by decide
          have e2 : (2 = 0) = False := by decide
          have e3 : (2 = 1) = False := by decide
          have hfin : kJ 194 46 [some (.ref 83), some (.int (nI k)), some (.int (nI i)), some (.int z)] [.ref 83] (mi, ml, MR, 95) Q := by
            have h9 := hQ (kup mi 93 (40 * k + i) (cnv l z)) ml (RI_sh h hg hk (fun q a b c => kup_ne c) (fun j hj => by rw [kup_ne (by decide)]) (fun j hj => by rw [kup_ne (by decide)]) (fun j hj => by rw [kup_eq, pk_un (by omega)]) ⟨by rw [kup_ne (by decide)]; exact hs.1, by rw [kup_ne (by decide)]; exact hs.2.1, fun j hj => by
              rw [kup_eq]
              by_cases ej : j = i
              · rw [ej, pk_us, oput_s]
              · rw [pk_un (by omega), oput_n ej]; exact hs.2.2 j hj⟩) (fun q hq => kup_ne (by omega))
            rcases (by omega : l = 0 ∨ l = 1 ∨ l = 2) with rfl | rfl | rfl
            · simp only [↓s194_0, ↓s194_1, ↓s194_2, ↓s194_5, ↓s194_8, ↓s194_9, ↓s194_10, ↓s194_11, ↓s194_14, ↓s194_15, ↓s194_16, ↓s194_18, ↓s194_21, ↓s194_23, ↓s194_24, ↓s194_25, ↓s194_26, ↓s194_27, ↓s194_28, ↓s194_31, ↓s194_32, ↓s194_33, ↓s194_34, ↓s194_35, ↓s194_36, ↓s194_39, ↓s194_42, ↓s194_44, ↓s194_45, ↓s194_46, ↓s194_49, ↓s194_51, ↓s194_52, ↓s194_53, ↓s194_54, ↓s194_55, ↓s194_56, ↓s194_59, ↓s194_60, ↓s194_61, ↓s194_64, ↓s194_65, ↓s194_66, ↓s194_69, ↓s194_70, ↓s194_73, ↓s194_74, ↓s194_75, ↓s194_76, ↓s194_79, ↓s194_80, ↓s194_81, ↓s194_84, ↓s194_85, ↓s194_86, ↓s194_87, kNLn, kNLi, kNLr, va_rf_s, kOl_n, kOl_s, kap_n, kap_c, kb0, kb1, kbif, zif, z0, z1, Bool.false_eq_true, eq_self, not_true_eq_false, not_false_eq_true, if_true, if_false, and_self, true_and, false_and, and_true, and_false, nl_0_1, nl_0_2, nl_0_3, nl_0_4, nl_0_5, nl_0_6, nl_1_0, nl_1_2, nl_1_3, nl_1_4, nl_1_5, nl_1_6, nl_2_0, nl_2_1, nl_2_3, nl_2_4, nl_2_5, nl_2_6, nl_3_0, nl_3_1, nl_3_2, nl_3_4, nl_3_5, nl_3_6, nl_4_0, nl_4_1, nl_4_2, nl_4_3, nl_4_5, nl_4_6, nl_5_0, nl_5_1, nl_5_2, nl_5_3, nl_5_4, nl_5_6, nl_6_0, nl_6_1, nl_6_2, nl_6_3, nl_6_4, nl_6_5, nz_1, nz_2, nz_3, nz_4, nz_5, nz_6, ki_83, ki_91, kl_91, ki_93, kl_93, mr_83_23, mr_83_25, hc, hv, hs1, pk_mul, nI_add, hci, hvi]
              simp only [cnv, zif, z0, z1, Bool.false_eq_true, eq_self, not_true_eq_false, not_false_eq_true, if_true, if_false, and_self, true_and, false_and, and_true, and_false] at h9
              exact h9
            · simp only [↓s194_0, ↓s194_1, ↓s194_2, ↓s194_5, ↓s194_8, ↓s194_9, ↓s194_10, ↓s194_11, ↓s194_14, ↓s194_15, ↓s194_16, ↓s194_18, ↓s194_21, ↓s194_23, ↓s194_24, ↓s194_25, ↓s194_26, ↓s194_27, ↓s194_28, ↓s194_31, ↓s194_32, ↓s194_33, ↓s194_34, ↓s194_35, ↓s194_36, ↓s194_39, ↓s194_42, ↓s194_44, ↓s194_45, ↓s194_46, ↓s194_49, ↓s194_51, ↓s194_52, ↓s194_53, ↓s194_54, ↓s194_55, ↓s194_56, ↓s194_59, ↓s194_60, ↓s194_61, ↓s194_64, ↓s194_65, ↓s194_66, ↓s194_69, ↓s194_70, ↓s194_73, ↓s194_74, ↓s194_75, ↓s194_76, ↓s194_79, ↓s194_80, ↓s194_81, ↓s194_84, ↓s194_85, ↓s194_86, ↓s194_87, kNLn, kNLi, kNLr, va_rf_s, kOl_n, kOl_s, kap_n, kap_c, kb0, kb1, kbif, zif, z0, z1, Bool.false_eq_true, eq_self, not_true_eq_false, not_false_eq_true, if_true, if_false, and_self, true_and, false_and, and_true, and_false, nl_0_1, nl_0_2, nl_0_3, nl_0_4, nl_0_5, nl_0_6, nl_1_0, nl_1_2, nl_1_3, nl_1_4, nl_1_5, nl_1_6, nl_2_0, nl_2_1, nl_2_3, nl_2_4, nl_2_5, nl_2_6, nl_3_0, nl_3_1, nl_3_2, nl_3_4, nl_3_5, nl_3_6, nl_4_0, nl_4_1, nl_4_2, nl_4_3, nl_4_5, nl_4_6, nl_5_0, nl_5_1, nl_5_2, nl_5_3, nl_5_4, nl_5_6, nl_6_0, nl_6_1, nl_6_2, nl_6_3, nl_6_4, nl_6_5, nz_1, nz_2, nz_3, nz_4, nz_5, nz_6, ki_83, ki_91, kl_91, ki_93, kl_93, mr_83_23, mr_83_25, hc, hv, hs1, pk_mul, nI_add, hci, hvi]
              simp only [cnv, zif, z0, z1, Bool.false_eq_true, eq_self, not_true_eq_false, not_false_eq_true, if_true, if_false, and_self, true_and, false_and, and_true, and_false, e1] at h9
              exact h9
            · simp only [↓s194_0, ↓s194_1, ↓s194_2, ↓s194_5, ↓s194_8, ↓s194_9, ↓s194_10, ↓s194_11, ↓s194_14, ↓s194_15, ↓s194_16, ↓s194_18, ↓s194_21, ↓s194_23, ↓s194_24, ↓s194_25, ↓s194_26, ↓s194_27, ↓s194_28, ↓s194_31, ↓s194_32, ↓s194_33, ↓s194_34, ↓s194_35, ↓s194_36, ↓s194_39, ↓s194_42, ↓s194_44, ↓s194_45, ↓s194_46, ↓s194_49, ↓s194_51, ↓s194_52, ↓s194_53, ↓s194_54, ↓s194_55, ↓s194_56, ↓s194_59, ↓s194_60, ↓s194_61, ↓s194_64, ↓s194_65, ↓s194_66, ↓s194_69, ↓s194_70, ↓s194_73, ↓s194_74, ↓s194_75, ↓s194_76, ↓s194_79, ↓s194_80, ↓s194_81, ↓s194_84, ↓s194_85, ↓s194_86, ↓s194_87, kNLn, kNLi, kNLr, va_rf_s, kOl_n, kOl_s, kap_n, kap_c, kb0, kb1, kbif, zif, z0, z1, Bool.false_eq_true, eq_self, not_true_eq_false, not_false_eq_true, if_true, if_false, and_self, true_and, false_and, and_true, and_false, nl_0_1, nl_0_2, nl_0_3, nl_0_4, nl_0_5, nl_0_6, nl_1_0, nl_1_2, nl_1_3, nl_1_4, nl_1_5, nl_1_6, nl_2_0, nl_2_1, nl_2_3, nl_2_4, nl_2_5, nl_2_6, nl_3_0, nl_3_1, nl_3_2, nl_3_4, nl_3_5, nl_3_6, nl_4_0, nl_4_1, nl_4_2, nl_4_3, nl_4_5, nl_4_6, nl_5_0, nl_5_1, nl_5_2, nl_5_3, nl_5_4, nl_5_6, nl_6_0, nl_6_1, nl_6_2, nl_6_3, nl_6_4, nl_6_5, nz_1, nz_2, nz_3, nz_4, nz_5, nz_6, ki_83, ki_91, kl_91, ki_93, kl_93, mr_83_23, mr_83_25, hc, hv, hs1, pk_mul, nI_add, hci, hvi]
              simp only [cnv, zif, z0, z1, Bool.false_eq_true, eq_self, not_true_eq_false, not_false_eq_true, if_true, if_false, and_self, true_and, false_and, and_true, and_false, e2, e3] at h9
              exact h9
          simp only [↓s194_0, ↓s194_1, ↓s194_2, ↓s194_5, ↓s194_8, ↓s194_9, ↓s194_10, ↓s194_11, ↓s194_14, ↓s194_15, ↓s194_16, ↓s194_18, ↓s194_21, ↓s194_23, ↓s194_24, ↓s194_25, ↓s194_26, ↓s194_27, ↓s194_28, ↓s194_31, ↓s194_32, ↓s194_33, ↓s194_34, ↓s194_35, ↓s194_36, ↓s194_39, ↓s194_42, ↓s194_44, ↓s194_45, ↓s194_49, ↓s194_51, ↓s194_52, ↓s194_53, ↓s194_54, ↓s194_55, ↓s194_56, ↓s194_59, ↓s194_60, ↓s194_61, ↓s194_64, ↓s194_65, ↓s194_66, ↓s194_69, ↓s194_70, ↓s194_73, ↓s194_74, ↓s194_75, ↓s194_76, ↓s194_79, ↓s194_80, ↓s194_81, ↓s194_84, ↓s194_85, ↓s194_86, ↓s194_87, ↓R_isSheet, ↓R_in0 (sub1 (by omega : n < 2 ^ 30)), kNLn, kNLi, kNLr, va_rf_s, kOl_n, kOl_s, kap_n, kap_c, kb0, kb1, kbif, zif, z0, z1, Bool.false_eq_true, eq_self, not_true_eq_false, not_false_eq_true, if_true, if_false, and_self, true_and, false_and, and_true, and_false, c, g0, d, ki_83, ki_91, kl_91, ki_92, kl_92, mr_83_23, mr_83_24, hc, hv, hs1, hs2, n4]
          exact hfin
      · refine bB_e hg (-12) (fun mi ml Q h => ?_) (fun mi ml Q h => ?_)
        · have hs := h.2.2.2.2.1 k hk
          rw [e] at hs
          have hj : ∀ Q', kJ 34 0 [some (.ref (75 + 2 * k)), some (.int y), some (.int (nI 1))] [] (mi, ml, MR, 95) Q' = Q' (some (.int (nI 2))) (mi, ml, MR, 95) := fun Q' => by
            rw [J_cells hk hs (fun l' n' c' h => by cases h; exact ⟨hl, hn⟩) (by decide)]
            have : shF (some (l, n, cc)) y.toInt 1 = 2 := if_neg (fun z => d (decide_eq_true (by omega)))
            rw [this]
          simp only [↓s86_0, ↓s86_1, ↓s86_2, ↓s86_3, ↓s86_6, ↓s86_9, ↓s86_10, ↓s86_11, ↓s86_12, ↓s86_15, ↓s86_16, ↓s86_17, ↓s86_18, ↓s86_19, ↓s86_22, ↓s86_24, ↓s86_26, ↓s86_29, ↓s86_31, ↓s86_33, ↓s86_34, ↓s86_35, ↓s86_36, ↓s86_39, ↓s86_40, ↓s86_41, ↓s86_42, ↓s86_43, ↓s86_46, ↓s86_47, ↓J_w3, ↓hj, kNLn, kNLi, kNLr, va_rf_s, kOl_n, kOl_s, kap_n, kap_c, kb0, kb1, kbif, zif, z0, z1, Bool.false_eq_true, eq_self, not_true_eq_false, not_false_eq_true, if_true, if_false, and_self, true_and, false_and, and_true, and_false, nl_0_1, nl_0_2, nl_0_3, nl_0_4, nl_0_5, nl_0_6, nl_1_0, nl_1_2, nl_1_3, nl_1_4, nl_1_5, nl_1_6, nl_2_0, nl_2_1, nl_2_3, nl_2_4, nl_2_5, nl_2_6, nl_3_0, nl_3_1, nl_3_2, nl_3_4, nl_3_5, nl_3_6, nl_4_0, nl_4_1, nl_4_2, nl_4_3, nl_4_5, nl_4_6, nl_5_0, nl_5_1, nl_5_2, nl_5_3, nl_5_4, nl_5_6, nl_6_0, nl_6_1, nl_6_2, nl_6_3, nl_6_4, nl_6_5, nz_1, nz_2, nz_3, nz_4, nz_5, nz_6, c, ki_0, ki_46, kl_46, mr_0_6, hc, hv, q1, q2, or_true, true_or, i12]
        · have hs := h.2.2.2.2.1 k hk
          rw [e] at hs
          have hs1 : mi 91 k = nI l := hs.1
          have hs2 : mi 92 k = nI n := hs.2.1
          simp only [↓s194_0, ↓s194_1, ↓s194_2, ↓s194_5, ↓s194_8, ↓s194_9, ↓s194_10, ↓s194_11, ↓s194_14, ↓s194_15, ↓s194_16, ↓s194_18, ↓s194_21, ↓s194_23, ↓s194_24, ↓s194_25, ↓s194_26, ↓s194_27, ↓s194_28, ↓s194_31, ↓s194_32, ↓s194_33, ↓s194_34, ↓s194_35, ↓s194_36, ↓s194_39, ↓s194_42, ↓s194_44, ↓s194_45, ↓s194_49, ↓s194_51, ↓s194_52, ↓s194_53, ↓s194_54, ↓s194_55, ↓s194_56, ↓s194_59, ↓s194_60, ↓s194_61, ↓s194_64, ↓s194_65, ↓s194_66, ↓s194_69, ↓s194_70, ↓s194_73, ↓s194_74, ↓s194_75, ↓s194_76, ↓s194_79, ↓s194_80, ↓s194_81, ↓s194_84, ↓s194_85, ↓s194_86, ↓s194_87, ↓R_isSheet, ↓R_in0 (sub1 (by omega : n < 2 ^ 30)), kNLn, kNLi, kNLr, va_rf_s, kOl_n, kOl_s, kap_n, kap_c, kb0, kb1, kbif, zif, z0, z1, Bool.false_eq_true, eq_self, not_true_eq_false, not_false_eq_true, if_true, if_false, and_self, true_and, false_and, and_true, and_false, c, g0, d, ki_83, ki_91, kl_91, ki_92, kl_92, mr_83_23, mr_83_24, hc, hv, hs1, hs2, n4]
  · refine bB_e hg (-1) (fun mi ml Q h => ?_) (fun mi ml Q h => ?_)
    · simp only [↓s86_0, ↓s86_1, ↓s86_2, ↓s86_3, ↓s86_6, ↓s86_9, ↓s86_10, ↓s86_11, ↓s86_12, ↓s86_15, ↓s86_16, ↓s86_17, ↓s86_18, ↓s86_19, ↓s86_22, ↓s86_24, ↓s86_26, ↓s86_29, ↓s86_31, ↓s86_33, ↓s86_34, ↓s86_35, ↓s86_36, ↓s86_39, ↓s86_40, ↓s86_41, ↓s86_42, ↓s86_43, ↓s86_46, ↓s86_47, ↓J_w3, kNLn, kNLi, kNLr, va_rf_s, kOl_n, kOl_s, kap_n, kap_c, kb0, kb1, kbif, zif, z0, z1, Bool.false_eq_true, eq_self, not_true_eq_false, not_false_eq_true, if_true, if_false, and_self, true_and, false_and, and_true, and_false, c]
    · simp only [↓s194_0, ↓s194_1, ↓s194_2, ↓s194_5, ↓s194_8, ↓s194_9, ↓s194_10, ↓s194_11, ↓s194_14, ↓s194_15, ↓s194_16, ↓s194_18, ↓s194_21, ↓s194_23, ↓s194_24, ↓s194_25, ↓s194_26, ↓s194_27, ↓s194_28, ↓s194_31, ↓s194_32, ↓s194_33, ↓s194_34, ↓s194_35, ↓s194_36, ↓s194_39, ↓s194_42, ↓s194_44, ↓s194_45, ↓s194_49, ↓s194_51, ↓s194_52, ↓s194_53, ↓s194_54, ↓s194_55, ↓s194_56, ↓s194_59, ↓s194_60, ↓s194_61, ↓s194_64, ↓s194_65, ↓s194_66, ↓s194_69, ↓s194_70, ↓s194_73, ↓s194_74, ↓s194_75, ↓s194_76, ↓s194_79, ↓s194_80, ↓s194_81, ↓s194_84, ↓s194_85, ↓s194_86, ↓s194_87, ↓R_isSheet, kNLn, kNLi, kNLr, va_rf_s, kOl_n, kOl_s, kap_n, kap_c, kb0, kb1, kbif, zif, z0, z1, Bool.false_eq_true, eq_self, not_true_eq_false, not_false_eq_true, if_true, if_false, and_self, true_and, false_and, and_true, and_false, c]
end SHEET
