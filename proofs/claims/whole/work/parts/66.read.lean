/-! read -/
def gwB (T : tT) (x y z w : Int32) : Bool := decide ((gin x (T 0 0) = true ∧ gin y (T 0 0) = true ∧ gin z (T 0 0) = true ∧ gin w 19 = true) ∧ T 0 4 < 6)
def gwT (T : tT) (x y z w : Int32) : tT := taddL T x.toNatClampNeg y.toNatClampNeg z.toNatClampNeg w.toNatClampNeg
def shc (o : oS) : Nat → Int32 := match o with
  | none => fun _ => 0
  | some (_, _, c) => c
def grd (o : oS) (lane : Nat) (f : Int32) : Nat → Nat → tT → Nat ⊕ (tT × Nat × Nat)
  | 0, i, T => .inr (T, i, 0)
  | k + 1, i, T => if shL o lane (f.toInt + ((4 * i : Nat) : Int)) = 0 then
      (if gwB T (shc o (f.toInt + ((4 * i : Nat) : Int)).toNat) (shc o ((f.toInt + ((4 * i : Nat) : Int)).toNat + 1)) (shc o ((f.toInt + ((4 * i : Nat) : Int)).toNat + 2)) (shc o ((f.toInt + ((4 * i : Nat) : Int)).toNat + 3)) = true then grd o lane f k (i + 1) (gwT T (shc o (f.toInt + ((4 * i : Nat) : Int)).toNat) (shc o ((f.toInt + ((4 * i : Nat) : Int)).toNat + 1)) (shc o ((f.toInt + ((4 * i : Nat) : Int)).toNat + 2)) (shc o ((f.toInt + ((4 * i : Nat) : Int)).toNat + 3))) else .inl i)
      else .inr (T, i, shL o lane (f.toInt + ((4 * i : Nat) : Int)))
theorem shL_le {o : oS} {lane : Nat} {z : Int} : shL o lane z ≤ 3 := by
  unfold shL
  split
  · decide
  · split
    · split <;> decide
    · decide
theorem gwB_y {T : tT} {x y z w : Int32} (ho : tOK T) (h : gwB T x y z w = true) : T 0 4 < 6 ∧ ∃ a b c d, a < T 0 0 ∧ b < T 0 0 ∧ c < T 0 0 ∧ d < 19 ∧ x = nI a ∧ y = nI b ∧ z = nI c ∧ w = nI d ∧ gwT T x y z w = taddL T a b c d := by
  obtain ⟨⟨h1, h2, h3, h4⟩, h5⟩ := of_decide_eq_true h
  have o1 := ho.1
  obtain ⟨a, ha, rfl⟩ := gin_of h1 (by omega)
  obtain ⟨b, hb, rfl⟩ := gin_of h2 (by omega)
  obtain ⟨c, hc, rfl⟩ := gin_of h3 (by omega)
  obtain ⟨d, hd, rfl⟩ := gin_of h4 (by omega)
  refine ⟨h5, a, b, c, d, ha, hb, hc, hd, rfl, rfl, rfl, rfl, ?_⟩
  unfold gwT
  rw [nI_clamp (by omega), nI_clamp (by omega), nI_clamp (by omega), nI_clamp (by omega)]
theorem gwB_n {T : tT} {x y z w : Int32} (ho : tOK T) (h : ¬ gwB T x y z w = true) : ¬ gwOK T x y z w ∨ (gwOK T x y z w ∧ T 0 4 = 6) := by
  have o2 := ho.2.1
  by_cases c : gwOK T x y z w
  · by_cases d : T 0 4 < 6
    · exact absurd (decide_eq_true ⟨c, d⟩) h
    · exact Or.inr ⟨c, by omega⟩
  · exact Or.inl c
theorem gwT_good {T : tT} {x y z w : Int32} (hT : tGood T) (h : gwB T x y z w = true) : tGood (gwT T x y z w) := by
  obtain ⟨h5, a, b, c, d, ha, hb, hc, hd, -, -, -, -, e⟩ := gwB_y hT.1 h
  rw [e]
  exact tGood_addL hT h5 ha hb hc hd
theorem grd_ok {o : oS} {lane : Nat} {f : Int32} : ∀ (k i : Nat) (T : tT), tGood T → ∀ T' c e, grd o lane f k i T = .inr (T', c, e) → tGood T' ∧ e ≤ 3 := by
  intro k
  induction k with
  | zero =>
    intro i T hT T' c e h
    cases h
    exact ⟨hT, by decide⟩
  | succ k ih =>
    intro i T hT T' c e h
    unfold grd at h
    split at h
    · split at h
      · next hb => exact ih _ _ (gwT_good hT hb) T' c e h
      · cases h
    · cases h
      exact ⟨hT, shL_le⟩
def tExt (A T : tT) : Prop := (∀ j, j ≠ 4 → T 0 j = A 0 j) ∧ A 0 4 ≤ T 0 4 ∧ ∀ r k, 1 ≤ r → k < tcnt A r → T r k = A r k
theorem tExt_rf {A : tT} : tExt A A := ⟨fun _ _ => rfl, Nat.le_refl _, fun _ _ _ _ => rfl⟩
theorem tExt_add {A T : tT} {a b c d : Nat} (h : tExt A T) : tExt A (taddL T a b c d) := by
  refine ⟨fun j hj => ?_, ?_, fun r k hr hk => ?_⟩
  · rw [taddL_n (by omega) (by omega)]; exact h.1 j hj
  · rw [taddL_4]; have := h.2.1; omega
  · have h2 := h.2.1
    rw [taddL_n (fun z => ?_) (by omega)]
    · exact h.2.2 r k hr hk
    · have : tcnt A r = A 0 4 := tcnt_l (by omega) (by omega)
      omega
theorem add_ov (f : Int32) (m : Nat) (hm : m < 1000) : (f + nI m).toInt = f.toInt + (m : Int) ∨ ((f + nI m).toInt < 0 ∧ 2 ^ 31 ≤ f.toInt + (m : Int)) := by
  have h1 := f.toInt_lt
  have h2 := f.le_toInt
  rw [Int32.toInt_add, nI_toInt (by omega), Int.bmod_def]
  by_cases c : f.toInt + (m : Int) < 2 ^ 31
  · left
    split <;> omega
  · right
    split <;> omega
theorem shL_ov {o : oS} {lane m : Nat} {f : Int32} (hG : shG o) (hm : m < 1000) : shL o lane (f + nI m).toInt = shL o lane (f.toInt + (m : Int)) := by
  cases o with
  | none => rfl
  | some v =>
    obtain ⟨l, n, c⟩ := v
    have hn := (hG l n c rfl).2
    unfold shL
    rcases add_ov f m hm with e | ⟨e1, e2⟩
    · rw [e]
    · by_cases cl : l = lane
      · simp only [if_pos cl]
        rw [if_neg (by omega), if_neg (by omega)]
      · simp only [if_neg cl]
theorem shL_0 {o : oS} {lane : Nat} {z : Int} (hG : shG o) (h : shL o lane z = 0) : ∃ l n c, o = some (l, n, c) ∧ l = lane ∧ 0 ≤ z ∧ z + 4 ≤ n ∧ n ≤ 40 := by
  cases o with
  | none => cases h
  | some v =>
    obtain ⟨l, n, c⟩ := v
    have hn := (hG l n c rfl).2
    unfold shL at h
    by_cases cl : l = lane
    · simp only [if_pos cl] at h
      by_cases cz : 0 ≤ z ∧ z + 4 ≤ (n : Int)
      · exact ⟨l, n, c, rfl, cl, cz.1, cz.2, hn⟩
      · rw [if_neg cz] at h; cases h
    · simp only [if_neg cl] at h; cases h
theorem f_ix {f : Int32} {m : Nat} (hm : m < 1000) (h0 : 0 ≤ f.toInt + (m : Int)) (h1 : f.toInt + (m : Int) + 4 ≤ 40) : f + nI m = nI (f.toInt + (m : Int)).toNat := by
  apply Int32.toInt_inj.mp
  rw [nI_toInt (by omega)]
  rcases add_ov f m hm with e | ⟨e1, e2⟩
  · rw [e]; omega
  · omega
section READ
variable {mi : Nat → Nat → Int32} {ml : Nat → Nat → Int64} {m : kMem} {Q : Option Value → kMem → Prop} {S : gS} {T U : tT} {b p n k l w lane : Nat} {o : oS} {x y z u f : Int32}
theorem C_writeB (h : CI S mi) (hg : gOK S) (hy : gwB S.1 x y z u = true → ∀ mi', CI (gwT S.1 x y z u, S.2) mi' → fC mi mi' → Q (some (.int (nI (S.1 0 4 + 1)))) (mi', ml, MR, 95)) (hn : ¬ gwB S.1 x y z u = true → ∀ r : Int32, r < 0 → Q (some (.int r)) (mi, ml, MR, 95)) : kJ 63 0 [some (.ref 0), some (.int x), some (.int y), some (.int z), some (.int u)] [] (mi, ml, MR, 95) Q := by
  by_cases c : gwB S.1 x y z u = true
  · have hy2 := hy c
    obtain ⟨h5, a, b, d, e, ha, hb, hd, he, rfl, rfl, rfl, rfl, eT⟩ := gwB_y hg.1.1 c
    rw [eT] at hy2
    exact C_write_y h hg h5 ha hb hd he hy2
  · rcases gwB_n hg.1.1 c with d | ⟨d, e⟩
    · rw [C_write_n h hg d]; exact hn c _ (by decide)
    · rw [C_write_f h hg e d]; exact hn c _ (by decide)
theorem R_writeB (h : kRR (mi 84) T) (ho : tOK T) (hy : gwB T x y z u = true → ∀ A', kRR A' (gwT T x y z u) → (∀ j, 74 ≤ j → A' j = mi 84 j) → Q (some (.int (nI (T 0 4 + 1)))) (kRow mi 84 A', ml, MR, 95)) (hn : ¬ gwB T x y z u = true → ∀ r : Int32, r < 0 → Q (some (.int r)) (mi, ml, MR, 95)) : kJ 158 0 [some (.ref 83), some (.int x), some (.int y), some (.int z), some (.int u), none] [] (mi, ml, MR, 95) Q := by
  by_cases c : gwB T x y z u = true
  · have hy2 := hy c
    obtain ⟨h5, a, b, d, e, ha, hb, hd, he, rfl, rfl, rfl, rfl, eT⟩ := gwB_y ho c
    rw [eT] at hy2
    exact R_write_y h ho h5 ha hb hd he hy2
  · rcases gwB_n ho c with d | ⟨d, e⟩
    · rw [R_write_n h ho d]; exact hn c _ (by decide)
    · rw [R_write_f h ho e d]; exact hn c _ (by decide)
theorem J_letter (hk : k < 4) (h : cSh o k mi) (hG : shG o) (hl : lane < 3) : kJ 33 0 [some (.ref (75 + 2 * k)), some (.int (nI lane)), some (.int x)] [] (mi, ml, MR, 95) Q = Q (some (.int (nI (shL o lane x.toInt)))) (mi, ml, MR, 95) := by
  obtain ⟨q1, q2, q3, q4, q5⟩ := shq hk
  have hJ : ∀ Q', kJ 34 0 [some (.ref (75 + 2 * k)), some (.int x), some (.int (nI 4))] [] (mi, ml, MR, 95) Q' = Q' (some (.int (nI (shF o x.toInt 4)))) (mi, ml, MR, 95) := fun Q' => J_cells hk h hG (by decide)
  cases o with
  | none =>
    have h2 : mi (75 + 2 * k) 0 = (-1) := h
    simp only [↓s33_0, ↓s33_1, ↓s33_4, ↓s33_7, ↓s33_8, ↓s33_11, ↓s33_12, ↓s33_15, ↓s33_16, ↓s33_17, ↓s33_18, ↓s33_19, ↓s33_20, ↓s33_23, ↓J_nothing q2, ↓hJ, kNLn, kNLi, kNLr, va_rf_s, kOl_n, kOl_s, kap_n, kap_c, kb0, kb1, kbif, zif, z0, z1, Bool.false_eq_true, eq_self, not_true_eq_false, not_false_eq_true, if_true, if_false, and_self, true_and, false_and, and_true, and_false, q2, h2, m1_r, shF, shL]
  | some v =>
    obtain ⟨l, n, c⟩ := v
    have hn := (hG l n c rfl)
    have h2 : mi (75 + 2 * k) 0 = nI n := h.1
    have h3 : mi (75 + 2 * k) 2 = nI l := h.2.1
    have nm := n_m1 (by omega : n < 2 ^ 31)
    have el := nI_lit (by omega : l < 2 ^ 31) (by omega : lane < 2 ^ 31)
    by_cases cl : l = lane
    · simp only [↓s33_0, ↓s33_1, ↓s33_4, ↓s33_7, ↓s33_8, ↓s33_11, ↓s33_12, ↓s33_15, ↓s33_16, ↓s33_17, ↓s33_18, ↓s33_19, ↓s33_20, ↓s33_23, ↓J_nothing q2, ↓hJ, kNLn, kNLi, kNLr, va_rf_s, kOl_n, kOl_s, kap_n, kap_c, kb0, kb1, kbif, zif, z0, z1, Bool.false_eq_true, eq_self, not_true_eq_false, not_false_eq_true, if_true, if_false, and_self, true_and, false_and, and_true, and_false, q2, h2, h3, nm, el, cl, shF, shL]
      rfl
    · simp only [↓s33_0, ↓s33_1, ↓s33_4, ↓s33_7, ↓s33_8, ↓s33_11, ↓s33_12, ↓s33_15, ↓s33_16, ↓s33_17, ↓s33_18, ↓s33_19, ↓s33_20, ↓s33_23, ↓J_nothing q2, ↓hJ, kNLn, kNLi, kNLr, va_rf_s, kOl_n, kOl_s, kap_n, kap_c, kb0, kb1, kbif, zif, z0, z1, Bool.false_eq_true, eq_self, not_true_eq_false, not_false_eq_true, if_true, if_false, and_self, true_and, false_and, and_true, and_false, q2, h2, h3, nm, el, cl, shF, shL]
theorem CI_torn {e : Nat} (h : CI S mi) : CI (S.1, S.2.1, S.2.2.1, S.2.2.2.1, S.2.2.2.2.1, e) (kup mi 0 10 (nI e)) :=
  ⟨kCR_eq (fun q a b => kup_ne (by omega)) h.1, fun j hj => cImg_eq (kup_ne (by decide)) (fun q a b => kup_ne (by omega)) (h.2.1 j hj), ⟨by rw [kup_ne (by decide)]; exact h.2.2.1.1, fun j hj => by rw [kup_ne (by decide)]; exact h.2.2.1.2 j hj⟩, by rw [kup_eq, pk_un (by decide)]; exact h.2.2.2.1, fun j hj => cSh_eq (kup_ne (by omega)) (kup_ne (by omega)) (h.2.2.2.2.1 j hj), by rw [kup_eq, pk_us]⟩
theorem RI_torn {e : Nat} (h : RI S mi) (hg : gOK S) : RI (S.1, S.2.1, S.2.2.1, S.2.2.2.1, S.2.2.2.2.1, e) (kup mi 83 26 (nI e)) :=
  ⟨by rw [kup_ne (by decide)]; exact h.1, fun j hj => rImg_eq (kup_ne (by decide)) (fun i _ _ => by rw [kup_ne (by decide)]) (fun U hU => (hg.2.1 j hj U hU).1) (h.2.1 j hj), ⟨by rw [kup_eq, pk_un (by decide)]; exact h.2.2.1.1, fun j hj => by rw [kup_ne (by decide)]; exact h.2.2.1.2 j hj⟩, by rw [kup_eq, pk_un (by decide)]; exact h.2.2.2.1, fun j hj => rSh_eq (by rw [kup_ne (by decide)]) (by rw [kup_ne (by decide)]) (fun i _ _ => by rw [kup_ne (by decide)]) (fun l n c ec => (hg.2.2.2.2.1 j hj l n c ec).2) (h.2.2.2.2.1 j hj), by rw [kup_eq, pk_us]⟩
theorem kCR_bk {A T : tT} (h : kCR 1 T mi) (e : tExt A T) : kCR 1 A (kup mi 1 4 (nI (A 0 4))) := by
  obtain ⟨⟨h0, h4, h11, h12, h13⟩, hr⟩ := h
  refine ⟨⟨?_, ?_, ?_, ?_, ?_⟩, fun r j h1 h2 h3 => ?_⟩
  · rw [kup_eq, pk_un (by decide), h0, e.1 0 (by decide)]
  · rw [kup_eq, pk_us]
  · rw [kup_eq, pk_un (by decide), h11, e.1 11 (by decide)]
  · rw [kup_eq, pk_un (by decide), h12, e.1 12 (by decide)]
  · rw [kup_eq, pk_un (by decide), h13, e.1 13 (by decide)]
  · rw [kup_ne (by omega), ← e.2.2 r j h1 h3]
    refine hr r j h1 h2 ?_
    have a := e.2.1
    have a0 := e.1 0 (by decide)
    have a13 := e.1 13 (by decide)
    unfold tcnt at h3 ⊢
    split
    · next c => rw [if_pos c] at h3; omega
    · next c =>
      rw [if_neg c] at h3
      split
      · next d => rw [if_pos d] at h3; omega
      · next d => rw [if_neg d] at h3; omega
theorem C_readE {e c i : Nat} {l6 l10 l11 : Option Value} (he : e ≠ 0) (he3 : e ≤ 3) (hQ : Q (some (.int (nI c))) (kup mi 0 10 (nI e), ml, MR, 95)) : kJ 87 57 [some (.ref 0), some (.int (nI k)), some (.int (nI lane)), some (.int f), some (.int (nI n)), some (.ref (75 + 2 * k)), l6, some (.int (nI c)), some (.int (nI e)), some (.int (nI i)), l10, l11] [] (mi, ml, MR, 95) Q := by
  have e0 : ¬ nI e = 0 := nI_ne0 (by omega) (by omega)
  rw [s87_57]
  by_cases c : nI n ≤ nI i
  · simp only [↓s87_0, ↓s87_1, ↓s87_2, ↓s87_3, ↓s87_6, ↓s87_9, ↓s87_10, ↓s87_11, ↓s87_12, ↓s87_15, ↓s87_18, ↓s87_20, ↓s87_21, ↓s87_23, ↓s87_26, ↓s87_29, ↓s87_30, ↓s87_31, ↓s87_32, ↓s87_35, ↓s87_36, ↓s87_37, ↓s87_39, ↓s87_40, ↓s87_43, ↓s87_46, ↓s87_48, ↓s87_49, ↓s87_51, ↓s87_52, ↓s87_54, ↓s87_55, ↓s87_59, ↓s87_61, ↓s87_64, ↓s87_66, ↓s87_69, ↓s87_70, ↓s87_71, ↓s87_73, ↓s87_74, ↓s87_75, ↓s87_77, ↓s87_79, ↓s87_80, ↓s87_82, ↓s87_85, ↓s87_87, ↓s87_89, ↓s87_92, ↓s87_93, ↓s87_95, ↓s87_98, ↓s87_100, ↓s87_101, ↓s87_103, ↓s87_106, ↓s87_108, ↓s87_109, ↓s87_110, ↓s87_111, ↓s87_113, ↓s87_116, ↓s87_118, ↓s87_119, ↓s87_120, ↓s87_121, ↓s87_123, ↓s87_126, ↓s87_128, ↓s87_129, ↓s87_130, ↓s87_131, ↓s87_134, ↓s87_136, ↓s87_138, ↓s87_141, ↓s87_142, ↓s87_145, ↓s87_147, ↓s87_150, ↓s87_152, ↓s87_154, ↓s87_155, ↓s87_156, ↓s87_159, ↓s87_162, ↓s87_165, ↓s87_166, ↓s87_168, ↓s87_171, ↓s87_173, kNLn, kNLi, kNLr, va_rf_s, kOl_n, kOl_s, kap_n, kap_c, kb0, kb1, kbif, zif, z0, z1, Bool.false_eq_true, eq_self, not_true_eq_false, not_false_eq_true, if_true, if_false, and_self, true_and, false_and, and_true, and_false, c, ki_0]
    exact hQ
  · simp only [↓s87_0, ↓s87_1, ↓s87_2, ↓s87_3, ↓s87_6, ↓s87_9, ↓s87_10, ↓s87_11, ↓s87_12, ↓s87_15, ↓s87_18, ↓s87_20, ↓s87_21, ↓s87_23, ↓s87_26, ↓s87_29, ↓s87_30, ↓s87_31, ↓s87_32, ↓s87_35, ↓s87_36, ↓s87_37, ↓s87_39, ↓s87_40, ↓s87_43, ↓s87_46, ↓s87_48, ↓s87_49, ↓s87_51, ↓s87_52, ↓s87_54, ↓s87_55, ↓s87_59, ↓s87_61, ↓s87_64, ↓s87_66, ↓s87_69, ↓s87_70, ↓s87_71, ↓s87_73, ↓s87_74, ↓s87_75, ↓s87_77, ↓s87_79, ↓s87_80, ↓s87_82, ↓s87_85, ↓s87_87, ↓s87_89, ↓s87_92, ↓s87_93, ↓s87_95, ↓s87_98, ↓s87_100, ↓s87_101, ↓s87_103, ↓s87_106, ↓s87_108, ↓s87_109, ↓s87_110, ↓s87_111, ↓s87_113, ↓s87_116, ↓s87_118, ↓s87_119, ↓s87_120, ↓s87_121, ↓s87_123, ↓s87_126, ↓s87_128, ↓s87_129, ↓s87_130, ↓s87_131, ↓s87_134, ↓s87_136, ↓s87_138, ↓s87_141, ↓s87_142, ↓s87_145, ↓s87_147, ↓s87_150, ↓s87_152, ↓s87_154, ↓s87_155, ↓s87_156, ↓s87_159, ↓s87_162, ↓s87_165, ↓s87_166, ↓s87_168, ↓s87_171, ↓s87_173, kNLn, kNLi, kNLr, va_rf_s, kOl_n, kOl_s, kap_n, kap_c, kb0, kb1, kbif, zif, z0, z1, Bool.false_eq_true, eq_self, not_true_eq_false, not_false_eq_true, if_true, if_false, and_self, true_and, false_and, and_true, and_false, c, e0, ki_0]
    exact hQ
theorem C_readL (hk : k < 4) (hl : lane < 3) (hn : n ≤ 10) (h : CI S mi) (hg : gOK S)
    (hQ1 : ∀ i, grd (S.2.2.2.2.1 k) lane f n 0 S.1 = .inl i → ∀ mi', CI S mi' → fC mi mi' → Q (some (.int ((-20) - nI i))) (mi', ml, MR, 95))
    (hQ2 : ∀ T' c e, grd (S.2.2.2.2.1 k) lane f n 0 S.1 = .inr (T', c, e) → ∀ mi', CI (T', S.2.1, S.2.2.1, S.2.2.2.1, S.2.2.2.2.1, e) mi' → fC mi mi' → Q (some (.int (nI c))) (mi', ml, MR, 95)) :
    ∀ (kk i : Nat) (T : tT) (mi1 : Nat → Nat → Int32) (l10 l11 : Option Value), i + kk = n → CI (T, S.2) mi1 → fC mi mi1 → gOK (T, S.2) → tExt S.1 T → grd (S.2.2.2.2.1 k) lane f kk i T = grd (S.2.2.2.2.1 k) lane f n 0 S.1 → kJ 87 57 [some (.ref 0), some (.int (nI k)), some (.int (nI lane)), some (.int f), some (.int (nI n)), some (.ref (75 + 2 * k)), some (.int (nI (S.1 0 4))), some (.int (nI i)), some (.int (nI 0)), some (.int (nI i)), l10, l11] [] (mi1, ml, MR, 95) Q := by
  have hG : shG (S.2.2.2.2.1 k) := hg.2.2.2.2.1 k hk
  obtain ⟨q1, q2, q3, q4, q5⟩ := shq hk
  intro kk
  induction kk with
  | zero =>
    intro i T mi1 l10 l11 hi h1 f1 g1 x1 eG
    have hge : nI n ≤ nI i := nI_le (by omega) (by omega)
    rw [s87_57]
    simp only [↓s87_0, ↓s87_1, ↓s87_2, ↓s87_3, ↓s87_6, ↓s87_9, ↓s87_10, ↓s87_11, ↓s87_12, ↓s87_15, ↓s87_18, ↓s87_20, ↓s87_21, ↓s87_23, ↓s87_26, ↓s87_29, ↓s87_30, ↓s87_31, ↓s87_32, ↓s87_35, ↓s87_36, ↓s87_37, ↓s87_39, ↓s87_40, ↓s87_43, ↓s87_46, ↓s87_48, ↓s87_49, ↓s87_51, ↓s87_52, ↓s87_54, ↓s87_55, ↓s87_59, ↓s87_61, ↓s87_64, ↓s87_66, ↓s87_69, ↓s87_70, ↓s87_71, ↓s87_73, ↓s87_74, ↓s87_75, ↓s87_77, ↓s87_79, ↓s87_80, ↓s87_82, ↓s87_85, ↓s87_87, ↓s87_89, ↓s87_92, ↓s87_93, ↓s87_95, ↓s87_98, ↓s87_100, ↓s87_101, ↓s87_103, ↓s87_106, ↓s87_108, ↓s87_109, ↓s87_110, ↓s87_111, ↓s87_113, ↓s87_116, ↓s87_118, ↓s87_119, ↓s87_120, ↓s87_121, ↓s87_123, ↓s87_126, ↓s87_128, ↓s87_129, ↓s87_130, ↓s87_131, ↓s87_134, ↓s87_136, ↓s87_138, ↓s87_141, ↓s87_142, ↓s87_145, ↓s87_147, ↓s87_150, ↓s87_152, ↓s87_154, ↓s87_155, ↓s87_156, ↓s87_159, ↓s87_162, ↓s87_165, ↓s87_166, ↓s87_168, ↓s87_171, ↓s87_173, kNLn, kNLi, kNLr, va_rf_s, kOl_n, kOl_s, kap_n, kap_c, kb0, kb1, kbif, zif, z0, z1, Bool.false_eq_true, eq_self, not_true_eq_false, not_false_eq_true, if_true, if_false, and_self, true_and, false_and, and_true, and_false, hge, ki_0]
    exact hQ2 T i 0 eG.symm _ (CI_torn (S := (T, S.2)) h1) (fC_tr f1 (fun q hq => kup_ne (by omega)))
  | succ kk ih =>
    intro i T mi1 l10 l11 hi h1 f1 g1 x1 eG
    have hlt : ¬ nI n ≤ nI i := nI_ge (by omega) (by omega)
    have hs := h1.2.2.2.2.1 k hk
    have hJ : ∀ Q', kJ 33 0 [some (.ref (75 + 2 * k)), some (.int (nI lane)), some (.int (f + nI (4 * i)))] [] (mi1, ml, MR, 95) Q' = Q' (some (.int (nI (shL (S.2.2.2.2.1 k) lane (f.toInt + ((4 * i : Nat) : Int)))))) (mi1, ml, MR, 95) := fun Q' => by rw [J_letter hk hs hG hl, shL_ov hG (by omega)]
    by_cases ce : shL (S.2.2.2.2.1 k) lane (f.toInt + ((4 * i : Nat) : Int)) = 0
    · obtain ⟨l', n', c', eo, el, zz0, zz4, n40⟩ := shL_0 hG ce
      rw [eo] at hs
      have ix := f_ix (f := f) (m := 4 * i) (by omega) zz0 (by omega)
      have hjn : (f.toInt + ((4 * i : Nat) : Int)).toNat + 4 ≤ n' := by omega
      have eU : grd (S.2.2.2.2.1 k) lane f (kk + 1) i T = (if gwB T (c' (f.toInt + ((4 * i : Nat) : Int)).toNat) (c' ((f.toInt + ((4 * i : Nat) : Int)).toNat + 1)) (c' ((f.toInt + ((4 * i : Nat) : Int)).toNat + 2)) (c' ((f.toInt + ((4 * i : Nat) : Int)).toNat + 3)) = true then grd (S.2.2.2.2.1 k) lane f kk (i + 1) (gwT T (c' (f.toInt + ((4 * i : Nat) : Int)).toNat) (c' ((f.toInt + ((4 * i : Nat) : Int)).toNat + 1)) (c' ((f.toInt + ((4 * i : Nat) : Int)).toNat + 2)) (c' ((f.toInt + ((4 * i : Nat) : Int)).toNat + 3))) else .inl i) := by
        conv => lhs; unfold grd
        rw [if_pos ce, eo]
        rfl
      have hJ0 : ∀ Q', kJ 33 0 [some (.ref (75 + 2 * k)), some (.int (nI lane)), some (.int (nI (f.toInt + ((4 * i : Nat) : Int)).toNat))] [] (mi1, ml, MR, 95) Q' = Q' (some (.int (nI 0))) (mi1, ml, MR, 95) := fun Q' => by rw [← ix, hJ, ce]
      revert eU hjn ix hJ0
      generalize (f.toInt + ((4 * i : Nat) : Int)).toNat = j
      intro ix hjn eU hJ0
      have hc0 : (nI j).toNatClampNeg = j := nI_clamp (by omega)
      have hc1 : (nI (j + 1)).toNatClampNeg = j + 1 := nI_clamp (by omega)
      have hc2 : (nI (j + 2)).toNatClampNeg = j + 2 := nI_clamp (by omega)
      have hc3 : (nI (j + 3)).toNatClampNeg = j + 3 := nI_clamp (by omega)
      have hv0 : vp_in (nI j) 40 := vp_in_nI (by omega) (by decide)
      have hv1 : vp_in (nI (j + 1)) 40 := vp_in_nI (by omega) (by decide)
      have hv2 : vp_in (nI (j + 2)) 40 := vp_in_nI (by omega) (by decide)
      have hv3 : vp_in (nI (j + 3)) 40 := vp_in_nI (by omega) (by decide)
      have r0 := hs.2.2 j (by omega)
      have r1 := hs.2.2 (j + 1) (by omega)
      have r2 := hs.2.2 (j + 2) (by omega)
      have r3 := hs.2.2 (j + 3) (by omega)
      rw [s87_57]
      simp only [↓s87_0, ↓s87_1, ↓s87_2, ↓s87_3, ↓s87_6, ↓s87_9, ↓s87_10, ↓s87_11, ↓s87_12, ↓s87_15, ↓s87_18, ↓s87_20, ↓s87_21, ↓s87_23, ↓s87_26, ↓s87_29, ↓s87_30, ↓s87_31, ↓s87_32, ↓s87_35, ↓s87_36, ↓s87_37, ↓s87_39, ↓s87_40, ↓s87_43, ↓s87_46, ↓s87_48, ↓s87_49, ↓s87_51, ↓s87_52, ↓s87_54, ↓s87_55, ↓s87_59, ↓s87_61, ↓s87_64, ↓s87_66, ↓s87_69, ↓s87_70, ↓s87_71, ↓s87_73, ↓s87_74, ↓s87_75, ↓s87_77, ↓s87_79, ↓s87_80, ↓s87_82, ↓s87_85, ↓s87_87, ↓s87_89, ↓s87_92, ↓s87_93, ↓s87_95, ↓s87_98, ↓s87_100, ↓s87_101, ↓s87_103, ↓s87_106, ↓s87_108, ↓s87_109, ↓s87_110, ↓s87_111, ↓s87_113, ↓s87_116, ↓s87_118, ↓s87_119, ↓s87_120, ↓s87_121, ↓s87_123, ↓s87_126, ↓s87_128, ↓s87_129, ↓s87_130, ↓s87_131, ↓s87_134, ↓s87_136, ↓s87_138, ↓s87_141, ↓s87_142, ↓s87_145, ↓s87_147, ↓s87_150, ↓s87_152, ↓s87_154, ↓s87_155, ↓s87_156, ↓s87_159, ↓s87_162, ↓s87_165, ↓s87_166, ↓s87_168, ↓s87_171, ↓s87_173, pk_mul, kNLn, kNLi, kNLr, va_rf_s, kOl_n, kOl_s, kap_n, kap_c, kb0, kb1, kbif, zif, z0, z1, Bool.false_eq_true, eq_self, not_true_eq_false, not_false_eq_true, if_true, if_false, and_self, true_and, false_and, and_true, and_false, hlt, ki_0, q2, q3, q4, q5, ix, nI_add]
      rw [hJ0]
      simp only [↓s87_0, ↓s87_1, ↓s87_2, ↓s87_3, ↓s87_6, ↓s87_9, ↓s87_10, ↓s87_11, ↓s87_12, ↓s87_15, ↓s87_18, ↓s87_20, ↓s87_21, ↓s87_23, ↓s87_26, ↓s87_29, ↓s87_30, ↓s87_31, ↓s87_32, ↓s87_35, ↓s87_36, ↓s87_37, ↓s87_39, ↓s87_40, ↓s87_43, ↓s87_46, ↓s87_48, ↓s87_49, ↓s87_51, ↓s87_52, ↓s87_54, ↓s87_55, ↓s87_59, ↓s87_61, ↓s87_64, ↓s87_66, ↓s87_69, ↓s87_70, ↓s87_71, ↓s87_73, ↓s87_74, ↓s87_75, ↓s87_77, ↓s87_79, ↓s87_80, ↓s87_82, ↓s87_85, ↓s87_87, ↓s87_89, ↓s87_92, ↓s87_93, ↓s87_95, ↓s87_98, ↓s87_100, ↓s87_101, ↓s87_103, ↓s87_106, ↓s87_108, ↓s87_109, ↓s87_110, ↓s87_111, ↓s87_113, ↓s87_116, ↓s87_118, ↓s87_119, ↓s87_120, ↓s87_121, ↓s87_123, ↓s87_126, ↓s87_128, ↓s87_129, ↓s87_130, ↓s87_131, ↓s87_134, ↓s87_136, ↓s87_138, ↓s87_141, ↓s87_142, ↓s87_145, ↓s87_147, ↓s87_150, ↓s87_152, ↓s87_154, ↓s87_155, ↓s87_156, ↓s87_159, ↓s87_162, ↓s87_165, ↓s87_166, ↓s87_168, ↓s87_171, ↓s87_173, kNLn, kNLi, kNLr, va_rf_s, kOl_n, kOl_s, kap_n, kap_c, kb0, kb1, kbif, zif, z0, z1, Bool.false_eq_true, eq_self, not_true_eq_false, not_false_eq_true, if_true, if_false, and_self, true_and, false_and, and_true, and_false, ki_0, q2, q3, q4, q5, nI_add, hc0, hc1, hc2, hc3, hv0, hv1, hv2, hv3, r0, r1, r2, r3]
      refine C_writeB (S := (T, S.2)) h1 g1 (fun hb mi2 h2 f2 => ?_) (fun hb r hr => ?_)
      · have p1 : ¬ nI (T 0 4 + 1) < 0 := nI_pos (by have : T 0 4 ≤ 6 := g1.1.1.2.1; omega)
        have p2 : 0 ≤ nI (T 0 4 + 1) := Int32.not_lt.mp p1
        simp only [↓s87_0, ↓s87_1, ↓s87_2, ↓s87_3, ↓s87_6, ↓s87_9, ↓s87_10, ↓s87_11, ↓s87_12, ↓s87_15, ↓s87_18, ↓s87_20, ↓s87_21, ↓s87_23, ↓s87_26, ↓s87_29, ↓s87_30, ↓s87_31, ↓s87_32, ↓s87_35, ↓s87_36, ↓s87_37, ↓s87_39, ↓s87_40, ↓s87_43, ↓s87_46, ↓s87_48, ↓s87_49, ↓s87_51, ↓s87_52, ↓s87_54, ↓s87_55, ↓s87_59, ↓s87_61, ↓s87_64, ↓s87_66, ↓s87_69, ↓s87_70, ↓s87_71, ↓s87_73, ↓s87_74, ↓s87_75, ↓s87_77, ↓s87_79, ↓s87_80, ↓s87_82, ↓s87_85, ↓s87_87, ↓s87_89, ↓s87_92, ↓s87_93, ↓s87_95, ↓s87_98, ↓s87_100, ↓s87_101, ↓s87_103, ↓s87_106, ↓s87_108, ↓s87_109, ↓s87_110, ↓s87_111, ↓s87_113, ↓s87_116, ↓s87_118, ↓s87_119, ↓s87_120, ↓s87_121, ↓s87_123, ↓s87_126, ↓s87_128, ↓s87_129, ↓s87_130, ↓s87_131, ↓s87_134, ↓s87_136, ↓s87_138, ↓s87_141, ↓s87_142, ↓s87_145, ↓s87_147, ↓s87_150, ↓s87_152, ↓s87_154, ↓s87_155, ↓s87_156, ↓s87_159, ↓s87_162, ↓s87_165, ↓s87_166, ↓s87_168, ↓s87_171, ↓s87_173, kNLn, kNLi, kNLr, va_rf_s, kOl_n, kOl_s, kap_n, kap_c, kb0, kb1, kbif, zif, z0, z1, Bool.false_eq_true, eq_self, not_true_eq_false, not_false_eq_true, if_true, if_false, and_self, true_and, false_and, and_true, and_false, p1, p2, nI_add]
        rw [if_pos hb] at eU
        refine ih (i + 1) _ mi2 _ _ (by omega) h2 (fC_tr f1 f2) ⟨gwT_good g1.1 hb, g1.2⟩ ?_ (eU.symm.trans eG)
        obtain ⟨h5, a, b, c, d, ha, hb', hc, hd, -, -, -, -, e⟩ := gwB_y g1.1.1 hb
        rw [e]
        exact tExt_add x1
      · have p2 : ¬ 0 ≤ r := Int32.not_le.mpr hr
        simp only [↓s87_0, ↓s87_1, ↓s87_2, ↓s87_3, ↓s87_6, ↓s87_9, ↓s87_10, ↓s87_11, ↓s87_12, ↓s87_15, ↓s87_18, ↓s87_20, ↓s87_21, ↓s87_23, ↓s87_26, ↓s87_29, ↓s87_30, ↓s87_31, ↓s87_32, ↓s87_35, ↓s87_36, ↓s87_37, ↓s87_39, ↓s87_40, ↓s87_43, ↓s87_46, ↓s87_48, ↓s87_49, ↓s87_51, ↓s87_52, ↓s87_54, ↓s87_55, ↓s87_59, ↓s87_61, ↓s87_64, ↓s87_66, ↓s87_69, ↓s87_70, ↓s87_71, ↓s87_73, ↓s87_74, ↓s87_75, ↓s87_77, ↓s87_79, ↓s87_80, ↓s87_82, ↓s87_85, ↓s87_87, ↓s87_89, ↓s87_92, ↓s87_93, ↓s87_95, ↓s87_98, ↓s87_100, ↓s87_101, ↓s87_103, ↓s87_106, ↓s87_108, ↓s87_109, ↓s87_110, ↓s87_111, ↓s87_113, ↓s87_116, ↓s87_118, ↓s87_119, ↓s87_120, ↓s87_121, ↓s87_123, ↓s87_126, ↓s87_128, ↓s87_129, ↓s87_130, ↓s87_131, ↓s87_134, ↓s87_136, ↓s87_138, ↓s87_141, ↓s87_142, ↓s87_145, ↓s87_147, ↓s87_150, ↓s87_152, ↓s87_154, ↓s87_155, ↓s87_156, ↓s87_159, ↓s87_162, ↓s87_165, ↓s87_166, ↓s87_168, ↓s87_171, ↓s87_173, kNLn, kNLi, kNLr, va_rf_s, kOl_n, kOl_s, kap_n, kap_c, kb0, kb1, kbif, zif, z0, z1, Bool.false_eq_true, eq_self, not_true_eq_false, not_false_eq_true, if_true, if_false, and_self, true_and, false_and, and_true, and_false, hr, p2, ki_0, ki_1, mr_0_0]
        rw [if_neg hb] at eU
        refine hQ1 i (eG.symm.trans eU) _ (CI_T (S := (T, S.2)) (T := S.1) h1 (kCR_bk h1.1 x1) (fun q hq => kup_ne (by omega))) (fC_tr f1 (fun q hq => kup_ne (by omega)))
    · have e3 := shL_le (o := S.2.2.2.2.1 k) (lane := lane) (z := f.toInt + ((4 * i : Nat) : Int))
      have eU : grd (S.2.2.2.2.1 k) lane f (kk + 1) i T = .inr (T, i, shL (S.2.2.2.2.1 k) lane (f.toInt + ((4 * i : Nat) : Int))) := by
        conv => lhs; unfold grd
        rw [if_neg ce]
      have e0 : ¬ nI (shL (S.2.2.2.2.1 k) lane (f.toInt + ((4 * i : Nat) : Int))) = 0 := nI_ne0 (by omega) (by omega)
      rw [s87_57]
      simp only [↓s87_0, ↓s87_1, ↓s87_2, ↓s87_3, ↓s87_6, ↓s87_9, ↓s87_10, ↓s87_11, ↓s87_12, ↓s87_15, ↓s87_18, ↓s87_20, ↓s87_21, ↓s87_23, ↓s87_26, ↓s87_29, ↓s87_30, ↓s87_31, ↓s87_32, ↓s87_35, ↓s87_36, ↓s87_37, ↓s87_39, ↓s87_40, ↓s87_43, ↓s87_46, ↓s87_48, ↓s87_49, ↓s87_51, ↓s87_52, ↓s87_54, ↓s87_55, ↓s87_59, ↓s87_61, ↓s87_64, ↓s87_66, ↓s87_69, ↓s87_70, ↓s87_71, ↓s87_73, ↓s87_74, ↓s87_75, ↓s87_77, ↓s87_79, ↓s87_80, ↓s87_82, ↓s87_85, ↓s87_87, ↓s87_89, ↓s87_92, ↓s87_93, ↓s87_95, ↓s87_98, ↓s87_100, ↓s87_101, ↓s87_103, ↓s87_106, ↓s87_108, ↓s87_109, ↓s87_110, ↓s87_111, ↓s87_113, ↓s87_116, ↓s87_118, ↓s87_119, ↓s87_120, ↓s87_121, ↓s87_123, ↓s87_126, ↓s87_128, ↓s87_129, ↓s87_130, ↓s87_131, ↓s87_134, ↓s87_136, ↓s87_138, ↓s87_141, ↓s87_142, ↓s87_145, ↓s87_147, ↓s87_150, ↓s87_152, ↓s87_154, ↓s87_155, ↓s87_156, ↓s87_159, ↓s87_162, ↓s87_165, ↓s87_166, ↓s87_168, ↓s87_171, ↓s87_173, pk_mul, ↓hJ, kNLn, kNLi, kNLr, va_rf_s, kOl_n, kOl_s, kap_n, kap_c, kb0, kb1, kbif, zif, z0, z1, Bool.false_eq_true, eq_self, not_true_eq_false, not_false_eq_true, if_true, if_false, and_self, true_and, false_and, and_true, and_false, hlt, ki_0, q2, e0, nI_add]
      exact C_readE ce e3 (hQ2 T i _ (eG.symm.trans eU) _ (CI_torn (S := (T, S.2)) h1) (fC_tr f1 (fun q hq => kup_ne (by omega))))
theorem C_read_y (hk : k < 4) (hl : lane < 3) (hn : n ≤ 10) (h : CI S mi) (hg : gOK S)
    (hQ1 : ∀ i, grd (S.2.2.2.2.1 k) lane f n 0 S.1 = .inl i → ∀ mi', CI S mi' → fC mi mi' → Q (some (.int ((-20) - nI i))) (mi', ml, MR, 95))
    (hQ2 : ∀ T' c e, grd (S.2.2.2.2.1 k) lane f n 0 S.1 = .inr (T', c, e) → ∀ mi', CI (T', S.2.1, S.2.2.1, S.2.2.2.1, S.2.2.2.2.1, e) mi' → fC mi mi' → Q (some (.int (nI c))) (mi', ml, MR, 95)) :
    kJ 87 0 [some (.ref 0), some (.int (nI k)), some (.int (nI lane)), some (.int f), some (.int (nI n)), none, none, none, none, none, none, none] [] (mi, ml, MR, 95) Q := by
  obtain ⟨q1, q2, q3, q4, q5⟩ := shq hk
  have c1 : gin (nI k) 4 = true := gin_nI hk (by decide)
  have c2 : gin (nI lane) 3 = true := gin_nI hl (by decide)
  have c3 : gin (nI n) 11 = true := gin_nI (by omega) (by decide)
  have hc : (nI k).toNatClampNeg = k := nI_clamp (by omega)
  have hv : vp_in (nI k) 4 := vp_in_nI (by omega) (by decide)
  simp only [↓s87_0, ↓s87_1, ↓s87_2, ↓s87_3, ↓s87_6, ↓s87_9, ↓s87_10, ↓s87_11, ↓s87_12, ↓s87_15, ↓s87_18, ↓s87_20, ↓s87_21, ↓s87_23, ↓s87_26, ↓s87_29, ↓s87_30, ↓s87_31, ↓s87_32, ↓s87_35, ↓s87_36, ↓s87_37, ↓s87_39, ↓s87_40, ↓s87_43, ↓s87_46, ↓s87_48, ↓s87_49, ↓s87_51, ↓s87_52, ↓s87_54, ↓s87_55, ↓s87_59, ↓s87_61, ↓s87_64, ↓s87_66, ↓s87_69, ↓s87_70, ↓s87_71, ↓s87_73, ↓s87_74, ↓s87_75, ↓s87_77, ↓s87_79, ↓s87_80, ↓s87_82, ↓s87_85, ↓s87_87, ↓s87_89, ↓s87_92, ↓s87_93, ↓s87_95, ↓s87_98, ↓s87_100, ↓s87_101, ↓s87_103, ↓s87_106, ↓s87_108, ↓s87_109, ↓s87_110, ↓s87_111, ↓s87_113, ↓s87_116, ↓s87_118, ↓s87_119, ↓s87_120, ↓s87_121, ↓s87_123, ↓s87_126, ↓s87_128, ↓s87_129, ↓s87_130, ↓s87_131, ↓s87_134, ↓s87_136, ↓s87_138, ↓s87_141, ↓s87_142, ↓s87_145, ↓s87_147, ↓s87_150, ↓s87_152, ↓s87_154, ↓s87_155, ↓s87_156, ↓s87_159, ↓s87_162, ↓s87_165, ↓s87_166, ↓s87_168, ↓s87_171, ↓s87_173, ↓J_w3, ↓J_w2, ↓J_w10, kNLn, kNLi, kNLr, va_rf_s, kOl_n, kOl_s, kap_n, kap_c, kb0, kb1, kbif, zif, z0, z1, Bool.false_eq_true, eq_self, not_true_eq_false, not_false_eq_true, if_true, if_false, and_self, true_and, false_and, and_true, and_false, c1, c2, c3, ki_0, ki_1, ki_46, kl_46, mr_0_0, mr_0_6, hc, hv, q1, or_true, true_or, h.1.1.2.1]
  exact C_readL hk hl hn h hg hQ1 hQ2 n 0 S.1 mi none none (by omega) h fC_rf hg tExt_rf rfl
end READ
