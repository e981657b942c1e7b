/-! images; counts -/
def oput {α : Type} (f : Nat → α) (k : Nat) (v : α) : Nat → α := fun j => if j = k then v else f j
theorem oput_s {α : Type} {f : Nat → α} {k : Nat} {v : α} : oput f k v k = v := if_pos rfl
theorem oput_n {α : Type} {f : Nat → α} {k j : Nat} {v : α} (h : j ≠ k) : oput f k v j = f j := if_neg h
section IMG
variable {mi : Nat → Nat → Int32} {ml : Nat → Nat → Int64} {m : kMem} {Q : Option Value → kMem → Prop} {S : gS} {T U : tT} {b p n k : Nat}
theorem CI_img {o : Option tT} {f g : Nat → Nat → Int32} (h : CI S f) (hk : k < 2) (e : ∀ q, q ≠ 45 → ¬ (49 + 13 * k ≤ q ∧ q ≤ 61 + 13 * k) → g q = f q) (e2 : ∀ j, j ≠ k → g 45 j = f 45 j) (ho : cImg o k g) : CI (S.1, oput S.2.1 k o, S.2.2) g := by
  refine ⟨kCR_eq (fun q a b => e q (by omega) (by omega)) h.1, fun j hj => ?_, ⟨by rw [e 28 (by omega) (by omega)]; exact h.2.2.1.1, fun j hj => by rw [e 29 (by omega) (by omega)]; exact h.2.2.1.2 j hj⟩, by rw [e 0 (by omega) (by omega)]; exact h.2.2.2.1, fun j hj => cSh_eq (e _ (by omega) (by omega)) (e _ (by omega) (by omega)) (h.2.2.2.2.1 j hj), by rw [e 0 (by omega) (by omega)]; exact h.2.2.2.2.2⟩
  show cImg (oput S.2.1 k o j) j g
  by_cases ej : j = k
  · subst ej; rw [oput_s]; exact ho
  · rw [oput_n ej]
    have hc := h.2.1 j hj
    have e3 : ∀ q, 49 + 13 * j ≤ q → q ≤ 61 + 13 * j → g q = f q := fun q a b => e q (by omega) (by omega)
    have e45 : g 45 j = f 45 j := e2 j ej
    revert hc
    cases S.2.1 j with
    | none => intro hc; exact e45.trans hc
    | some U => intro hc; exact ⟨e45.trans hc.1, kCR_eq (fun q a b => e3 q a (by omega)) hc.2⟩
theorem RI_img {o : Option tT} {f g : Nat → Nat → Int32} (h : RI S f) (hg : gOK S) (hk : k < 2) (e : ∀ q, q ≠ 86 → q ≠ 84 → g q = f q) (e2 : ∀ j, j ≠ k → g 86 j = f 86 j) (e3 : ∀ j, ¬ (74 * (k + 1) ≤ j ∧ j < 74 * (k + 2)) → g 84 j = f 84 j) (ho : rImg o k g) : RI (S.1, oput S.2.1 k o, S.2.2) g := by
  refine ⟨kRR_cong hg.1.1 (fun j hj => e3 j (by omega)) h.1, fun j hj => ?_, ⟨by rw [e 83 (by omega) (by omega)]; exact h.2.2.1.1, fun j hj => by rw [e 88 (by omega) (by omega)]; exact h.2.2.1.2 j hj⟩, by rw [e 83 (by omega) (by omega)]; exact h.2.2.2.1, fun j hj => rSh_eq (by rw [e 91 (by omega) (by omega)]) (by rw [e 92 (by omega) (by omega)]) (fun i _ _ => by rw [e 93 (by omega) (by omega)]) (fun l n c ec => (hg.2.2.2.2.1 j hj l n c ec).2) (h.2.2.2.2.1 j hj), by rw [e 83 (by omega) (by omega)]; exact h.2.2.2.2.2⟩
  show rImg (oput S.2.1 k o j) j g
  by_cases ej : j = k
  · subst ej; rw [oput_s]; exact ho
  · rw [oput_n ej]
    have hc := h.2.1 j hj
    have hgj := hg.2.1 j hj
    have e86 : g 86 j = f 86 j := e2 j ej
    have e84 : ∀ i, 74 * (j + 1) ≤ i → i < 74 * (j + 2) → g 84 i = f 84 i := fun i a b => e3 i (by omega)
    revert hc hgj
    cases S.2.1 j with
    | none => intro hc hgj; exact e86.trans hc
    | some U => intro hc hgj; exact ⟨e86.trans hc.1, kRR_cong (hgj U rfl).1 (fun i hi => e84 _ (by omega) (by omega)) hc.2⟩
def cpw (to sr n : Nat) (a : Nat → Int32) : Nat → Int32 := fun j => if to ≤ j ∧ j < to + n then a (sr + (j - to)) else a j
theorem cpw_0 {to sr : Nat} {a : Nat → Int32} : cpw to sr 0 a = a := funext (fun j => if_neg (by omega))
theorem cpw_s {to sr n : Nat} {a : Nat → Int32} : upd (cpw to sr n a) (to + n) (a (sr + n)) = cpw to sr (n + 1) a := by
  funext j
  by_cases h : j = to + n
  · subst h
    rw [pk_us]
    unfold cpw
    rw [if_pos (by omega), show to + n - to = n by omega]
  · rw [pk_un h]
    unfold cpw
    by_cases h2 : to ≤ j ∧ j < to + n
    · rw [if_pos h2, if_pos (by omega)]
    · rw [if_neg h2, if_neg (by omega)]
theorem kRow_self {f : Nat → Nat → Int32} {q : Nat} : kRow f q (f q) = f := by
  funext a
  unfold kRow
  split
  · next h => rw [h]
  · rfl
theorem R_copies {to sr : Nat} (h1 : to + 74 ≤ 222) (h2 : sr + 74 ≤ 222) (hd : sr + 74 ≤ to ∨ to + 74 ≤ sr) : kJ 189 0 [some (.ref 83), some (.int (nI to)), some (.int (nI sr)), none] [] (mi, ml, MR, 95) Q = Q none (kRow mi 84 (cpw to sr 74 (mi 84)), ml, MR, 95) := by
  simp only [↓s189_0, ↓s189_1, ↓s189_3, ↓s189_5, ↓s189_8, ↓s189_9, ↓s189_12, ↓s189_13, ↓s189_14, ↓s189_15, ↓s189_16, ↓s189_19, ↓s189_20, ↓s189_21, ↓s189_22, ↓s189_23, ↓s189_24, ↓s189_27, ↓s189_30, kNLn, kNLi, kNLr, va_rf_s, kOl_n, kOl_s, kap_n, kap_c, kb0, kb1, kbif]
  have loop : ∀ (k i : Nat), i + k = 74 → kJ 189 2 [some (.ref 83), some (.int (nI to)), some (.int (nI sr)), some (.int (nI i))] [] (kRow mi 84 (cpw to sr i (mi 84)), ml, MR, 95) Q = Q none (kRow mi 84 (cpw to sr 74 (mi 84)), ml, MR, 95) := by
    intro k
    induction k with
    | zero =>
      intro i hk
      have e : i = 74 := by omega
      rw [s189_2]
      simp only [↓s189_0, ↓s189_1, ↓s189_3, ↓s189_5, ↓s189_8, ↓s189_9, ↓s189_12, ↓s189_13, ↓s189_14, ↓s189_15, ↓s189_16, ↓s189_19, ↓s189_20, ↓s189_21, ↓s189_22, ↓s189_23, ↓s189_24, ↓s189_27, ↓s189_30, kNLn, kNLi, kNLr, va_rf_s, kOl_n, kOl_s, kap_n, kap_c, kb0, kb1, kbif, ki_83, ki_84]
      rw [if_pos (by rw [e]; exact Int32.le_refl _), e]
    | succ k ih =>
      intro i hk
      have hlt : ¬ nI 74 ≤ nI i := nI_ge (by omega) (by omega)
      have hc : (nI (to + i)).toNatClampNeg = to + i := nI_clamp (by omega)
      have hv : vp_in (nI (to + i)) 222 := vp_in_nI (by omega) (by decide)
      have hc2 : (nI (sr + i)).toNatClampNeg = sr + i := nI_clamp (by omega)
      have hv2 : vp_in (nI (sr + i)) 222 := vp_in_nI (by omega) (by decide)
      have e84 : kRow mi 84 (cpw to sr i (mi 84)) 84 (sr + i) = mi 84 (sr + i) := by
        rw [kRow_eq]; exact if_neg (by omega)
      rw [s189_2]
      simp only [↓s189_0, ↓s189_1, ↓s189_3, ↓s189_5, ↓s189_8, ↓s189_9, ↓s189_12, ↓s189_13, ↓s189_14, ↓s189_15, ↓s189_16, ↓s189_19, ↓s189_20, ↓s189_21, ↓s189_22, ↓s189_23, ↓s189_24, ↓s189_27, ↓s189_30, kNLn, kNLi, kNLr, va_rf_s, kOl_n, kOl_s, kap_n, kap_c, kb0, kb1, kbif, ki_83, ki_84, kl_84, mr_83_0, hlt, if_false, hc, hv, hc2, hv2, true_and, e84, kRow_up, cpw_s, nI_add]
      exact ih (i + 1) (by omega)
  have := loop 74 0 (by omega)
  rw [cpw_0, kRow_self] at this
  exact this
def owas (o : Option tT) : Nat := match o with
  | none => 0
  | some _ => 1
theorem cImg_was {o : Option tT} {k : Nat} {f : Nat → Nat → Int32} (h : cImg o k f) : f 45 k = nI (owas o) := by
  cases o with
  | none => exact h
  | some U => exact h.1
theorem rImg_was {o : Option tT} {k : Nat} {f : Nat → Nat → Int32} (h : rImg o k f) : f 86 k = nI (owas o) := by
  cases o with
  | none => exact h
  | some U => exact h.1
theorem owas_2 (o : Option tT) : owas o = 0 ∨ owas o = 1 := by
  cases o with
  | none => exact Or.inl rfl
  | some U => exact Or.inr rfl
theorem fl01 {n : Nat} (h : n = 0 ∨ n = 1) : (if nI n = 0 then nI 0 else nI 1) = nI n := by
  rcases h with rfl | rfl <;> rfl
theorem n1a : nI 1 &&& 1 = nI 1 := by decide
theorem C_keep_y (hk : k < 2) (h : CI S mi) (hg : gOK S) (hQ : ∀ mi', CI (S.1, oput S.2.1 k (some S.1), S.2.2) mi' → fC mi mi' → Q (some (.int (nI (owas (S.2.1 k))))) (mi', ml, MR, 95)) : kJ 83 0 [some (.ref 0), some (.int (nI k)), none] [] (mi, ml, MR, 95) Q := by
  have ho := hg.1.1
  have c : gin (nI k) 2 = true := gin_nI hk (by decide)
  have hc : (nI k).toNatClampNeg = k := nI_clamp (by omega)
  have hv : vp_in (nI k) 2 := vp_in_nI hk (by decide)
  have hw := cImg_was (h.2.1 k hk)
  have h01 := owas_2 (S.2.1 k)
  rcases h01 with e | e <;> rw [e] at hw hQ <;> rcases (by omega : k = 0 ∨ k = 1) with rfl | rfl
  · simp only [↓s83_0, ↓s83_1, ↓s83_2, ↓s83_3, ↓s83_6, ↓s83_9, ↓s83_10, ↓s83_11, ↓s83_12, ↓s83_15, ↓s83_16, ↓s83_17, ↓s83_20, ↓s83_21, ↓s83_24, ↓s83_25, ↓s83_26, ↓s83_27, ↓s83_30, ↓s83_31, ↓s83_32, ↓s83_33, ↓s83_36, ↓s83_39, ↓s83_40, ↓s83_43, ↓s83_44, ↓s83_45, ↓s83_46, ↓s83_47, ↓J_w1, kNLn, kNLi, kNLr, va_rf_s, kOl_n, kOl_s, kap_n, kap_c, kb0, kb1, kbif, zif, z0, z1, Bool.false_eq_true, eq_self, not_true_eq_false, not_false_eq_true, if_true, if_false, and_self, true_and, false_and, and_true, and_false, c, ki_0, ki_1, ki_44, ki_45, kl_44, kl_45, ki_49, mr_0_0, mr_0_4, mr_0_5, mr_44_0, hc, hv, hw, or_true, true_or]
    refine C_copy_49_1 h.1 ho (fun mi2 h2 f2 => ?_)
    simp only [↓s83_0, ↓s83_1, ↓s83_2, ↓s83_3, ↓s83_6, ↓s83_9, ↓s83_10, ↓s83_11, ↓s83_12, ↓s83_15, ↓s83_16, ↓s83_17, ↓s83_20, ↓s83_21, ↓s83_24, ↓s83_25, ↓s83_26, ↓s83_27, ↓s83_30, ↓s83_31, ↓s83_32, ↓s83_33, ↓s83_36, ↓s83_39, ↓s83_40, ↓s83_43, ↓s83_44, ↓s83_45, ↓s83_46, ↓s83_47, kNLn, kNLi, kNLr, va_rf_s, kOl_n, kOl_s, kap_n, kap_c, kb0, kb1, kbif, zif, z0, z1, Bool.false_eq_true, eq_self, not_true_eq_false, not_false_eq_true, if_true, if_false, and_self, true_and, false_and, and_true, and_false, ki_0, ki_45, kl_45, mr_0_5, hc, hv, n1a]
    exact hQ _ (CI_img h hk (fun q a b => by rw [kup_ne a]; exact f2 q (by omega)) (fun j hj => by rw [kup_eq, pk_un hj, f2 45 (by omega)]) ⟨by rw [kup_eq, pk_us], kCR_eq (fun q a b => kup_ne (by omega)) h2⟩) (fun q hq => by rw [kup_ne (by omega)]; exact f2 q (by omega))
  · simp only [↓s83_0, ↓s83_1, ↓s83_2, ↓s83_3, ↓s83_6, ↓s83_9, ↓s83_10, ↓s83_11, ↓s83_12, ↓s83_15, ↓s83_16, ↓s83_17, ↓s83_20, ↓s83_21, ↓s83_24, ↓s83_25, ↓s83_26, ↓s83_27, ↓s83_30, ↓s83_31, ↓s83_32, ↓s83_33, ↓s83_36, ↓s83_39, ↓s83_40, ↓s83_43, ↓s83_44, ↓s83_45, ↓s83_46, ↓s83_47, ↓J_w1, kNLn, kNLi, kNLr, va_rf_s, kOl_n, kOl_s, kap_n, kap_c, kb0, kb1, kbif, zif, z0, z1, Bool.false_eq_true, eq_self, not_true_eq_false, not_false_eq_true, if_true, if_false, and_self, true_and, false_and, and_true, and_false, c, ki_0, ki_1, ki_44, ki_45, kl_44, kl_45, ki_62, mr_0_0, mr_0_4, mr_0_5, mr_44_1, hc, hv, hw, or_true, true_or]
    refine C_copy_62_1 h.1 ho (fun mi2 h2 f2 => ?_)
    simp only [↓s83_0, ↓s83_1, ↓s83_2, ↓s83_3, ↓s83_6, ↓s83_9, ↓s83_10, ↓s83_11, ↓s83_12, ↓s83_15, ↓s83_16, ↓s83_17, ↓s83_20, ↓s83_21, ↓s83_24, ↓s83_25, ↓s83_26, ↓s83_27, ↓s83_30, ↓s83_31, ↓s83_32, ↓s83_33, ↓s83_36, ↓s83_39, ↓s83_40, ↓s83_43, ↓s83_44, ↓s83_45, ↓s83_46, ↓s83_47, kNLn, kNLi, kNLr, va_rf_s, kOl_n, kOl_s, kap_n, kap_c, kb0, kb1, kbif, zif, z0, z1, Bool.false_eq_true, eq_self, not_true_eq_false, not_false_eq_true, if_true, if_false, and_self, true_and, false_and, and_true, and_false, ki_0, ki_45, kl_45, mr_0_5, hc, hv, n1a]
    exact hQ _ (CI_img h hk (fun q a b => by rw [kup_ne a]; exact f2 q (by omega)) (fun j hj => by rw [kup_eq, pk_un hj, f2 45 (by omega)]) ⟨by rw [kup_eq, pk_us], kCR_eq (fun q a b => kup_ne (by omega)) h2⟩) (fun q hq => by rw [kup_ne (by omega)]; exact f2 q (by omega))
  · simp only [↓s83_0, ↓s83_1, ↓s83_2, ↓s83_3, ↓s83_6, ↓s83_9, ↓s83_10, ↓s83_11, ↓s83_12, ↓s83_15, ↓s83_16, ↓s83_17, ↓s83_20, ↓s83_21, ↓s83_24, ↓s83_25, ↓s83_26, ↓s83_27, ↓s83_30, ↓s83_31, ↓s83_32, ↓s83_33, ↓s83_36, ↓s83_39, ↓s83_40, ↓s83_43, ↓s83_44, ↓s83_45, ↓s83_46, ↓s83_47, ↓J_w1, kNLn, kNLi, kNLr, va_rf_s, kOl_n, kOl_s, kap_n, kap_c, kb0, kb1, kbif, zif, z0, z1, Bool.false_eq_true, eq_self, not_true_eq_false, not_false_eq_true, if_true, if_false, and_self, true_and, false_and, and_true, and_false, c, ki_0, ki_1, ki_44, ki_45, kl_44, kl_45, ki_49, mr_0_0, mr_0_4, mr_0_5, mr_44_0, hc, hv, hw, or_true, true_or]
    refine C_copy_49_1 h.1 ho (fun mi2 h2 f2 => ?_)
    simp only [↓s83_0, ↓s83_1, ↓s83_2, ↓s83_3, ↓s83_6, ↓s83_9, ↓s83_10, ↓s83_11, ↓s83_12, ↓s83_15, ↓s83_16, ↓s83_17, ↓s83_20, ↓s83_21, ↓s83_24, ↓s83_25, ↓s83_26, ↓s83_27, ↓s83_30, ↓s83_31, ↓s83_32, ↓s83_33, ↓s83_36, ↓s83_39, ↓s83_40, ↓s83_43, ↓s83_44, ↓s83_45, ↓s83_46, ↓s83_47, kNLn, kNLi, kNLr, va_rf_s, kOl_n, kOl_s, kap_n, kap_c, kb0, kb1, kbif, zif, z0, z1, Bool.false_eq_true, eq_self, not_true_eq_false, not_false_eq_true, if_true, if_false, and_self, true_and, false_and, and_true, and_false, ki_0, ki_45, kl_45, mr_0_5, hc, hv, n1a]
    exact hQ _ (CI_img h hk (fun q a b => by rw [kup_ne a]; exact f2 q (by omega)) (fun j hj => by rw [kup_eq, pk_un hj, f2 45 (by omega)]) ⟨by rw [kup_eq, pk_us], kCR_eq (fun q a b => kup_ne (by omega)) h2⟩) (fun q hq => by rw [kup_ne (by omega)]; exact f2 q (by omega))
  · simp only [↓s83_0, ↓s83_1, ↓s83_2, ↓s83_3, ↓s83_6, ↓s83_9, ↓s83_10, ↓s83_11, ↓s83_12, ↓s83_15, ↓s83_16, ↓s83_17, ↓s83_20, ↓s83_21, ↓s83_24, ↓s83_25, ↓s83_26, ↓s83_27, ↓s83_30, ↓s83_31, ↓s83_32, ↓s83_33, ↓s83_36, ↓s83_39, ↓s83_40, ↓s83_43, ↓s83_44, ↓s83_45, ↓s83_46, ↓s83_47, ↓J_w1, kNLn, kNLi, kNLr, va_rf_s, kOl_n, kOl_s, kap_n, kap_c, kb0, kb1, kbif, zif, z0, z1, Bool.false_eq_true, eq_self, not_true_eq_false, not_false_eq_true, if_true, if_false, and_self, true_and, false_and, and_true, and_false, c, ki_0, ki_1, ki_44, ki_45, kl_44, kl_45, ki_62, mr_0_0, mr_0_4, mr_0_5, mr_44_1, hc, hv, hw, or_true, true_or]
    refine C_copy_62_1 h.1 ho (fun mi2 h2 f2 => ?_)
    simp only [↓s83_0, ↓s83_1, ↓s83_2, ↓s83_3, ↓s83_6, ↓s83_9, ↓s83_10, ↓s83_11, ↓s83_12, ↓s83_15, ↓s83_16, ↓s83_17, ↓s83_20, ↓s83_21, ↓s83_24, ↓s83_25, ↓s83_26, ↓s83_27, ↓s83_30, ↓s83_31, ↓s83_32, ↓s83_33, ↓s83_36, ↓s83_39, ↓s83_40, ↓s83_43, ↓s83_44, ↓s83_45, ↓s83_46, ↓s83_47, kNLn, kNLi, kNLr, va_rf_s, kOl_n, kOl_s, kap_n, kap_c, kb0, kb1, kbif, zif, z0, z1, Bool.false_eq_true, eq_self, not_true_eq_false, not_false_eq_true, if_true, if_false, and_self, true_and, false_and, and_true, and_false, ki_0, ki_45, kl_45, mr_0_5, hc, hv, n1a]
    exact hQ _ (CI_img h hk (fun q a b => by rw [kup_ne a]; exact f2 q (by omega)) (fun j hj => by rw [kup_eq, pk_un hj, f2 45 (by omega)]) ⟨by rw [kup_eq, pk_us], kCR_eq (fun q a b => kup_ne (by omega)) h2⟩) (fun q hq => by rw [kup_ne (by omega)]; exact f2 q (by omega))
theorem R_keep_y (hk : k < 2) (h : RI S mi) (hg : gOK S) (hQ : ∀ mi', RI (S.1, oput S.2.1 k (some S.1), S.2.2) mi' → fR mi mi' → Q (some (.int (nI (owas (S.2.1 k))))) (mi', ml, MR, 95)) : kJ 190 0 [some (.ref 83), some (.int (nI k)), none] [] (mi, ml, MR, 95) Q := by
  have ho := hg.1.1
  have c : gin (nI k) 2 = true := gin_nI hk (by decide)
  have hc : (nI k).toNatClampNeg = k := nI_clamp (by omega)
  have hv : vp_in (nI k) 2 := vp_in_nI hk (by decide)
  have hw := rImg_was (h.2.1 k hk)
  have e84 : kup mi 86 k (nI 1) 84 = mi 84 := kup_ne (by decide)
  have hcp : ∀ Q', kJ 189 0 [some (.ref 83), some (.int (nI (74 * (k + 1)))), some (.int (nI 0)), none] [] (kup mi 86 k (nI 1), ml, MR, 95) Q' = Q' none (kRow (kup mi 86 k (nI 1)) 84 (cpw (74 * (k + 1)) 0 74 (mi 84)), ml, MR, 95) := fun Q' => by rw [R_copies (by omega) (by omega) (by omega), e84]
  simp only [↓s190_0, ↓s190_1, ↓s190_2, ↓s190_3, ↓s190_4, ↓s190_7, ↓s190_10, ↓s190_11, ↓s190_12, ↓s190_13, ↓s190_16, ↓s190_17, ↓s190_18, ↓s190_21, ↓s190_22, ↓s190_23, ↓s190_26, ↓s190_27, ↓s190_28, ↓s190_29, ↓s190_30, ↓s190_32, ↓s190_33, ↓s190_34, ↓s190_35, ↓s190_36, ↓s190_37, ↓s190_40, ↓s190_41, ↓R_i1, ↓R_flag, ↓hcp, kNLn, kNLi, kNLr, va_rf_s, kOl_n, kOl_s, kap_n, kap_c, kb0, kb1, kbif, zif, z0, z1, Bool.false_eq_true, eq_self, not_true_eq_false, not_false_eq_true, if_true, if_false, and_self, true_and, false_and, and_true, and_false, c, ki_83, ki_86, kl_86, mr_83_2, hc, hv, hw, n1a, nI_add, pk_mul, fl01 (owas_2 (S.2.1 k))]
  refine hQ _ (RI_img h hg hk (fun q a b => by rw [kRow_ne b, kup_ne a]) (fun j hj => by rw [kRow_ne (by decide), kup_eq, pk_un hj]) (fun j hj => by rw [kRow_eq]; exact if_neg (by omega)) ⟨by rw [kRow_ne (by decide), kup_eq, pk_us], kRR_cong ho (fun j hj => ?_) h.1⟩) (fun q hq => by rw [kRow_ne (by omega), kup_ne (by omega)])
  rw [kRow_eq]
  unfold cpw
  rw [if_pos (by omega), show 0 + (74 * (k + 1) + j - 74 * (k + 1)) = j by omega]
theorem B_keep {x : Int32} (hg : gOK S) : bB 83 [some (.ref 0), some (.int x), none] 190 [some (.ref 83), some (.int x), none] S := by
  by_cases c : gin x 2 = true
  · obtain ⟨k, hk, rfl⟩ := gin_of c (by decide)
    refine ⟨(S.1, oput S.2.1 k (some S.1), S.2.2), _, ⟨hg.1, fun j hj U hU => ?_, hg.2.2⟩, fun mi ml Q h hQ => C_keep_y hk h hg hQ, fun mi ml Q h hQ => R_keep_y hk h hg (fun mi' a b => hQ mi' ml a b)⟩
    have hU' : oput S.2.1 k (some S.1) j = some U := hU
    by_cases ej : j = k
    · rw [ej, oput_s] at hU'
      cases hU'
      exact hg.1
    · rw [oput_n ej] at hU'
      exact hg.2.1 j hj U hU'
  · refine bB_e hg (-1) (fun mi ml Q h => ?_) (fun mi ml Q h => ?_)
    · simp only [↓s83_0, ↓s83_1, ↓s83_2, ↓s83_3, ↓s83_6, ↓s83_9, ↓s83_10, ↓s83_11, ↓s83_12, ↓s83_15, ↓s83_16, ↓s83_17, ↓s83_20, ↓s83_21, ↓s83_24, ↓s83_25, ↓s83_26, ↓s83_27, ↓s83_30, ↓s83_31, ↓s83_32, ↓s83_33, ↓s83_36, ↓s83_39, ↓s83_40, ↓s83_43, ↓s83_44, ↓s83_45, ↓s83_46, ↓s83_47, ↓J_w1, kNLn, kNLi, kNLr, va_rf_s, kOl_n, kOl_s, kap_n, kap_c, kb0, kb1, kbif, zif, z0, z1, Bool.false_eq_true, eq_self, not_true_eq_false, not_false_eq_true, if_true, if_false, and_self, true_and, false_and, and_true, and_false, c]
    · simp only [↓s190_0, ↓s190_1, ↓s190_2, ↓s190_3, ↓s190_4, ↓s190_7, ↓s190_10, ↓s190_11, ↓s190_12, ↓s190_13, ↓s190_16, ↓s190_17, ↓s190_18, ↓s190_21, ↓s190_22, ↓s190_23, ↓s190_26, ↓s190_27, ↓s190_28, ↓s190_29, ↓s190_30, ↓s190_32, ↓s190_33, ↓s190_34, ↓s190_35, ↓s190_36, ↓s190_37, ↓s190_40, ↓s190_41, ↓R_i1, kNLn, kNLi, kNLr, va_rf_s, kOl_n, kOl_s, kap_n, kap_c, kb0, kb1, kbif, zif, z0, z1, Bool.false_eq_true, eq_self, not_true_eq_false, not_false_eq_true, if_true, if_false, and_self, true_and, false_and, and_true, and_false, c]
theorem C_back_y (hk : k < 2) (h : CI S mi) (hg : gOK S) (hU : S.2.1 k = some U) (hQ : ∀ mi', CI (U, S.2) mi' → fC mi mi' → Q (some (.int (nI (U 0 12)))) (mi', ml, MR, 95)) : kJ 84 0 [some (.ref 0), some (.int (nI k))] [] (mi, ml, MR, 95) Q := by
  have oU := (hg.2.1 k hk U hU).1
  have c : gin (nI k) 2 = true := gin_nI hk (by decide)
  have hc : (nI k).toNatClampNeg = k := nI_clamp (by omega)
  have hv : vp_in (nI k) 2 := vp_in_nI hk (by decide)
  have hi := h.2.1 k hk
  rw [hU] at hi
  have hw := hi.1
  have hi2 := hi.2
  rcases (by omega : k = 0 ∨ k = 1) with rfl | rfl
  · simp only [↓s84_0, ↓s84_1, ↓s84_2, ↓s84_3, ↓s84_6, ↓s84_9, ↓s84_10, ↓s84_11, ↓s84_12, ↓s84_15, ↓s84_16, ↓s84_17, ↓s84_20, ↓s84_22, ↓s84_23, ↓s84_24, ↓s84_27, ↓s84_28, ↓s84_31, ↓s84_32, ↓s84_33, ↓s84_36, ↓s84_37, ↓s84_40, ↓s84_43, ↓J_w1, kNLn, kNLi, kNLr, va_rf_s, kOl_n, kOl_s, kap_n, kap_c, kb0, kb1, kbif, zif, z0, z1, Bool.false_eq_true, eq_self, not_true_eq_false, not_false_eq_true, if_true, if_false, and_self, true_and, false_and, and_true, and_false, c, ki_0, ki_1, ki_44, ki_45, kl_44, kl_45, ki_49, mr_0_0, mr_0_4, mr_0_5, mr_44_0, hc, hv, hw, or_true, true_or]
    refine C_copy_1_49 hi2 oU (fun mi2 h2 f2 => ?_)
    simp only [↓s84_0, ↓s84_1, ↓s84_2, ↓s84_3, ↓s84_6, ↓s84_9, ↓s84_10, ↓s84_11, ↓s84_12, ↓s84_15, ↓s84_16, ↓s84_17, ↓s84_20, ↓s84_22, ↓s84_23, ↓s84_24, ↓s84_27, ↓s84_28, ↓s84_31, ↓s84_32, ↓s84_33, ↓s84_36, ↓s84_37, ↓s84_40, ↓s84_43, kNLn, kNLi, kNLr, va_rf_s, kOl_n, kOl_s, kap_n, kap_c, kb0, kb1, kbif, zif, z0, z1, Bool.false_eq_true, eq_self, not_true_eq_false, not_false_eq_true, if_true, if_false, and_self, true_and, false_and, and_true, and_false, ki_0, ki_1, mr_0_0, h2.1.2.2.2.1]
    exact hQ _ (CI_T h h2 (sC_now f2)) (fC_now f2)
  · simp only [↓s84_0, ↓s84_1, ↓s84_2, ↓s84_3, ↓s84_6, ↓s84_9, ↓s84_10, ↓s84_11, ↓s84_12, ↓s84_15, ↓s84_16, ↓s84_17, ↓s84_20, ↓s84_22, ↓s84_23, ↓s84_24, ↓s84_27, ↓s84_28, ↓s84_31, ↓s84_32, ↓s84_33, ↓s84_36, ↓s84_37, ↓s84_40, ↓s84_43, ↓J_w1, kNLn, kNLi, kNLr, va_rf_s, kOl_n, kOl_s, kap_n, kap_c, kb0, kb1, kbif, zif, z0, z1, Bool.false_eq_true, eq_self, not_true_eq_false, not_false_eq_true, if_true, if_false, and_self, true_and, false_and, and_true, and_false, c, ki_0, ki_1, ki_44, ki_45, kl_44, kl_45, ki_62, mr_0_0, mr_0_4, mr_0_5, mr_44_1, hc, hv, hw, or_true, true_or]
    refine C_copy_1_62 hi2 oU (fun mi2 h2 f2 => ?_)
    simp only [↓s84_0, ↓s84_1, ↓s84_2, ↓s84_3, ↓s84_6, ↓s84_9, ↓s84_10, ↓s84_11, ↓s84_12, ↓s84_15, ↓s84_16, ↓s84_17, ↓s84_20, ↓s84_22, ↓s84_23, ↓s84_24, ↓s84_27, ↓s84_28, ↓s84_31, ↓s84_32, ↓s84_33, ↓s84_36, ↓s84_37, ↓s84_40, ↓s84_43, kNLn, kNLi, kNLr, va_rf_s, kOl_n, kOl_s, kap_n, kap_c, kb0, kb1, kbif, zif, z0, z1, Bool.false_eq_true, eq_self, not_true_eq_false, not_false_eq_true, if_true, if_false, and_self, true_and, false_and, and_true, and_false, ki_0, ki_1, mr_0_0, h2.1.2.2.2.1]
    exact hQ _ (CI_T h h2 (sC_now f2)) (fC_now f2)
theorem R_back_y (hk : k < 2) (h : RI S mi) (hg : gOK S) (hU : S.2.1 k = some U) (hQ : ∀ mi', RI (U, S.2) mi' → fR mi mi' → Q (some (.int (nI (U 0 12)))) (mi', ml, MR, 95)) : kJ 191 0 [some (.ref 83), some (.int (nI k))] [] (mi, ml, MR, 95) Q := by
  have oU := (hg.2.1 k hk U hU).1
  have c : gin (nI k) 2 = true := gin_nI hk (by decide)
  have hc : (nI k).toNatClampNeg = k := nI_clamp (by omega)
  have hv : vp_in (nI k) 2 := vp_in_nI hk (by decide)
  have hi := h.2.1 k hk
  rw [hU] at hi
  have hw := hi.1
  have hcp : ∀ Q', kJ 189 0 [some (.ref 83), some (.int (nI 0)), some (.int (nI (74 * (k + 1)))), none] [] (mi, ml, MR, 95) Q' = Q' none (kRow mi 84 (cpw 0 (74 * (k + 1)) 74 (mi 84)), ml, MR, 95) := fun Q' => R_copies (by omega) (by omega) (by omega)
  have hR : kRR (kRow mi 84 (cpw 0 (74 * (k + 1)) 74 (mi 84)) 84) U := by
    rw [kRow_eq]
    refine kRR_cong oU (fun j hj => ?_) hi.2
    unfold cpw
    rw [if_pos (by omega), show j - 0 = j by omega]
  have h54 := hR.1.2.2.2.1
  have c54 : (nI 54).toNatClampNeg = 54 := rfl
  have v54 : vp_in (nI 54) 222 := vp_in_nI (by decide) (by decide)
  simp only [↓s191_0, ↓s191_1, ↓s191_2, ↓s191_3, ↓s191_4, ↓s191_7, ↓s191_10, ↓s191_11, ↓s191_12, ↓s191_13, ↓s191_16, ↓s191_17, ↓s191_18, ↓s191_21, ↓s191_23, ↓s191_24, ↓s191_25, ↓s191_26, ↓s191_28, ↓s191_29, ↓s191_30, ↓s191_31, ↓s191_32, ↓s191_35, ↓s191_36, ↓s191_39, ↓s191_41, ↓s191_42, ↓R_i1, ↓hcp, kNLn, kNLi, kNLr, va_rf_s, kOl_n, kOl_s, kap_n, kap_c, kb0, kb1, kbif, zif, z0, z1, Bool.false_eq_true, eq_self, not_true_eq_false, not_false_eq_true, if_true, if_false, and_self, true_and, false_and, and_true, and_false, c, ki_83, ki_84, kl_84, ki_86, kl_86, mr_83_0, mr_83_2, hc, hv, hw, nI_add, pk_mul, c54, v54, h54]
  exact hQ _ (RI_T h hR ⟨fun q hq => kRow_ne (by omega), fun k hk => by rw [kRow_ne (by omega)], fun j hj => by rw [kRow_eq]; exact if_neg (by omega)⟩) (fun q hq => kRow_ne (by omega))
theorem B_back {x : Int32} (hg : gOK S) : bB 84 [some (.ref 0), some (.int x)] 191 [some (.ref 83), some (.int x)] S := by
  by_cases c : gin x 2 = true
  · obtain ⟨k, hk, rfl⟩ := gin_of c (by decide)
    have hc : (nI k).toNatClampNeg = k := nI_clamp (by omega)
    have hv : vp_in (nI k) 2 := vp_in_nI hk (by decide)
    cases hU : S.2.1 k with
    | none =>
      refine bB_e hg (-2) (fun mi ml Q h => ?_) (fun mi ml Q h => ?_)
      · have hw := h.2.1 k hk
        rw [hU] at hw
        have hw2 : mi 45 k = nI 0 := hw
        simp only [↓s84_0, ↓s84_1, ↓s84_2, ↓s84_3, ↓s84_6, ↓s84_9, ↓s84_10, ↓s84_11, ↓s84_12, ↓s84_15, ↓s84_16, ↓s84_17, ↓s84_20, ↓s84_22, ↓s84_23, ↓s84_24, ↓s84_27, ↓s84_28, ↓s84_31, ↓s84_32, ↓s84_33, ↓s84_36, ↓s84_37, ↓s84_40, ↓s84_43, ↓J_w1, kNLn, kNLi, kNLr, va_rf_s, kOl_n, kOl_s, kap_n, kap_c, kb0, kb1, kbif, zif, z0, z1, Bool.false_eq_true, eq_self, not_true_eq_false, not_false_eq_true, if_true, if_false, and_self, true_and, false_and, and_true, and_false, c, ki_0, ki_45, kl_45, mr_0_5, hc, hv, hw2]
      · have hw := h.2.1 k hk
        rw [hU] at hw
        have hw2 : mi 86 k = nI 0 := hw
        simp only [↓s191_0, ↓s191_1, ↓s191_2, ↓s191_3, ↓s191_4, ↓s191_7, ↓s191_10, ↓s191_11, ↓s191_12, ↓s191_13, ↓s191_16, ↓s191_17, ↓s191_18, ↓s191_21, ↓s191_23, ↓s191_24, ↓s191_25, ↓s191_26, ↓s191_28, ↓s191_29, ↓s191_30, ↓s191_31, ↓s191_32, ↓s191_35, ↓s191_36, ↓s191_39, ↓s191_41, ↓s191_42, ↓R_i1, kNLn, kNLi, kNLr, va_rf_s, kOl_n, kOl_s, kap_n, kap_c, kb0, kb1, kbif, zif, z0, z1, Bool.false_eq_true, eq_self, not_true_eq_false, not_false_eq_true, if_true, if_false, and_self, true_and, false_and, and_true, and_false, c, ki_83, ki_86, kl_86, mr_83_2, hc, hv, hw2]
    | some U => exact ⟨(U, S.2), _, ⟨hg.2.1 k hk U hU, hg.2⟩, fun mi ml Q h hQ => C_back_y hk h hg hU hQ, fun mi ml Q h hQ => R_back_y hk h hg hU (fun mi' a b => hQ mi' ml a b)⟩
  · refine bB_e hg (-1) (fun mi ml Q h => ?_) (fun mi ml Q h => ?_)
    · simp only [↓s84_0, ↓s84_1, ↓s84_2, ↓s84_3, ↓s84_6, ↓s84_9, ↓s84_10, ↓s84_11, ↓s84_12, ↓s84_15, ↓s84_16, ↓s84_17, ↓s84_20, ↓s84_22, ↓s84_23, ↓s84_24, ↓s84_27, ↓s84_28, ↓s84_31, ↓s84_32, ↓s84_33, ↓s84_36, ↓s84_37, ↓s84_40, ↓s84_43, ↓J_w1, kNLn, kNLi, kNLr, va_rf_s, kOl_n, kOl_s, kap_n, kap_c, kb0, kb1, kbif, zif, z0, z1, Bool.false_eq_true, eq_self, not_true_eq_false, not_false_eq_true, if_true, if_false, and_self, true_and, false_and, and_true, and_false, c]
    · simp only [↓s191_0, ↓s191_1, ↓s191_2, ↓s191_3, ↓s191_4, ↓s191_7, ↓s191_10, ↓s191_11, ↓s191_12, ↓s191_13, ↓s191_16, ↓s191_17, ↓s191_18, ↓s191_21, ↓s191_23, ↓s191_24, ↓s191_25, ↓s191_26, ↓s191_28, ↓s191_29, ↓s191_30, ↓s191_31, ↓s191_32, ↓s191_35, ↓s191_36, ↓s191_39, ↓s191_41, ↓s191_42, ↓R_i1, kNLn, kNLi, kNLr, va_rf_s, kOl_n, kOl_s, kap_n, kap_c, kb0, kb1, kbif, zif, z0, z1, Bool.false_eq_true, eq_self, not_true_eq_false, not_false_eq_true, if_true, if_false, and_self, true_and, false_and, and_true, and_false, c]
end IMG
