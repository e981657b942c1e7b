/-! ranges, both sides -/
def gin (x : Int32) (n : Nat) : Bool := decide (0 ≤ x.toInt ∧ x.toInt < n)
theorem gin_of {x : Int32} {n : Nat} (h : gin x n = true) (hn : n < 2 ^ 31) : ∃ j, j < n ∧ x = nI j := by
  obtain ⟨h1, h2⟩ := of_decide_eq_true h
  exact vp_in_of (vp_in_iff.mpr ⟨h1, h2⟩) hn
theorem gin_nI {j n : Nat} (h : j < n) (hn : n < 2 ^ 31) : gin (nI j) n = true := by
  refine decide_eq_true ?_
  rw [nI_toInt (by omega)]
  omega
theorem gin_c {x : Int32} {n : Nat} (hn : n < 2 ^ 31) : (0 ≤ x ∧ x < nI n) = (gin x n = true) := by
  unfold gin
  rw [decide_eq_true_iff, Int32.le_iff_toInt_le, Int32.lt_iff_toInt_lt, nI_toInt hn, Int32.toInt_zero]
theorem gin_w {x : Int32} {n : Nat} (hn : n + 1 < 2 ^ 31) : (nI 0 ≤ x ∧ x ≤ nI n) = (gin x (n + 1) = true) := by
  unfold gin
  rw [decide_eq_true_iff, Int32.le_iff_toInt_le, Int32.le_iff_toInt_le, nI_toInt (by omega), nI_toInt (by omega)]
  apply propext
  omega
theorem gin_w1 {x : Int32} {n : Nat} (hn : n + 1 < 2 ^ 31) : (nI 1 ≤ x ∧ x ≤ nI n) = (gin x (n + 1) = true ∧ x ≠ nI 0) := by
  unfold gin
  rw [decide_eq_true_iff, Int32.le_iff_toInt_le, Int32.le_iff_toInt_le, nI_toInt (by omega), nI_toInt (by omega), ne_eq, ← Int32.toInt_inj, nI_toInt (by omega)]
  apply propext
  omega
theorem toI64 (x : Int32) : x.toInt64.toInt = x.toInt := Int32.toInt_toInt64 x
/-- the reference's: from low on, up to high -/
theorem gin_r {x : Int32} {n : Nat} {hi : Int64} (hh : hi.toInt = (n : Int) - 1) : ((0 : Int64) ≤ x.toInt64 ∧ x.toInt64 ≤ hi) = (gin x n = true) := by
  unfold gin
  rw [decide_eq_true_iff, Int64.le_iff_toInt_le, Int64.le_iff_toInt_le, hh, toI64, Int64.toInt_zero]
  apply propext
  omega
theorem sub1 {n : Nat} (h : n < 2 ^ 30) : (nI n - nI 1).toInt64.toInt = (n : Int) - 1 := by
  rw [toI64, pk_sub_toInt h (by decide)]
  rfl
section RNG
variable {mi : Nat → Nat → Int32} {ml : Nat → Nat → Int64} {m : kMem} {Q : Option Value → kMem → Prop} {i k t p n w A B : Nat} {T : tT}
theorem lg_lt0 (x y : Int64) : (lg_cmp x y < 0) = (x < y) := by
  have := lg_cmp_ge x y
  apply propext
  constructor
  · intro h
    exact Int64.not_le.mp (fun z => Int32.not_le.mpr h (this.mpr z))
  · intro h
    exact Int32.not_le.mp (fun z => Int64.not_le.mpr h (this.mp z))
theorem lg_gt0 (x y : Int64) : (0 < lg_cmp x y) = (y < x) := by
  have := lg_cmp_le x y
  apply propext
  constructor
  · intro h
    exact Int64.not_le.mp (fun z => Int32.not_le.mpr h (this.mpr z))
  · intro h
    exact Int32.not_le.mp (fun z => Int64.not_le.mpr h (this.mp z))
theorem R_in {v lo hi : Int64} : kJ 107 0 [some (.long v), none, some (.long lo), none, some (.long hi), none] [] m Q = Q (some (.int (if lo ≤ v ∧ v ≤ hi then nI 1 else nI 0))) m := by
  simp only [↓s107_0, ↓s107_1, ↓s107_2, ↓s107_3, ↓s107_6, ↓s107_7, ↓s107_9, ↓s107_10, ↓s107_13, ↓s107_14, ↓s107_17, ↓s107_18, kNLn, kNLi, kNLr, va_rf_s, kOl_n, kOl_s, kap_n, kap_c, kb0, kb1, kbif, lg_lt0, lg_gt0]
  by_cases h1 : lo ≤ v
  · by_cases h2 : v ≤ hi
    · rw [if_neg (Int64.not_lt.mpr h1), if_neg (Int64.not_lt.mpr h2), if_pos ⟨h1, h2⟩]
    · rw [if_neg (Int64.not_lt.mpr h1), if_pos (Int64.not_le.mp h2), if_neg (fun z => h2 z.2)]
  · rw [if_pos (Int64.not_le.mp h1), if_neg (fun z => h1 z.1)]
theorem R_isOne {x : Int32} (h : kRR (mi 84) T) (ho : tOK T) : kJ 126 0 [some (.ref 83), some (.int x)] [] (mi, ml, MR, 95) Q = Q (some (.int (if gin x (T 0 0) = true then nI 1 else nI 0))) (mi, ml, MR, 95) := by
  have c15 : (nI 15).toNatClampNeg = 15 := rfl
  have v15 : vp_in (nI 15) 222 := vp_in_nI (by decide) (by decide)
  have o1 := ho.1
  simp only [↓s126_0, ↓s126_1, ↓s126_2, ↓s126_3, ↓s126_4, ↓s126_7, ↓s126_9, ↓s126_10, ↓s126_11, ↓s126_12, ↓s126_13, ↓s126_16, ↓R_in, kNLn, kNLi, kNLr, va_rf_s, kOl_n, kOl_s, kap_n, kap_c, kb0, kb1, kbif, ki_83, ki_84, kl_84, mr_83_0, c15, v15, true_and, h.1.1, gin_r (sub1 (by omega : T 0 0 < 2 ^ 30))]
theorem R_isLetter {x : Int32} (h : kRR (mi 84) T) (ho : tOK T) : kJ 127 0 [some (.ref 83), some (.int x)] [] (mi, ml, MR, 95) Q = Q (some (.int (if gin x (T 0 4) = true then nI 1 else nI 0))) (mi, ml, MR, 95) := by
  have c15 : (nI 52).toNatClampNeg = 52 := rfl
  have v15 : vp_in (nI 52) 222 := vp_in_nI (by decide) (by decide)
  have o1 := ho.2.1
  simp only [↓s127_0, ↓s127_1, ↓s127_2, ↓s127_3, ↓s127_4, ↓s127_7, ↓s127_9, ↓s127_10, ↓s127_11, ↓s127_12, ↓s127_13, ↓s127_16, ↓R_in, kNLn, kNLi, kNLr, va_rf_s, kOl_n, kOl_s, kap_n, kap_c, kb0, kb1, kbif, ki_83, ki_84, kl_84, mr_83_0, c15, v15, true_and, h.1.2.1, gin_r (sub1 (by omega : T 0 4 < 2 ^ 30))]
theorem R_isTone {x : Int32} : kJ 128 0 [some (.int x)] [] m Q = Q (some (.int (if gin x 19 = true then nI 1 else nI 0))) m := by
  have e : ((18 : Int64)).toInt = ((19 : Nat) : Int) - 1 := by decide
  simp only [↓s128_0, ↓s128_1, ↓s128_2, ↓s128_3, ↓s128_6, ↓s128_9, ↓R_in, kNLn, kNLi, kNLr, va_rf_s, kOl_n, kOl_s, kap_n, kap_c, kb0, kb1, kbif, gin_r e]
theorem R_isPart {x : Int32} : kJ 129 0 [some (.int x)] [] m Q = Q (some (.int (if gin x 2 = true then nI 1 else nI 0))) m := by
  have e : ((1 : Int64)).toInt = ((2 : Nat) : Int) - 1 := by decide
  simp only [↓s129_0, ↓s129_1, ↓s129_2, ↓s129_3, ↓s129_4, ↓s129_7, ↓R_in, kNLn, kNLi, kNLr, va_rf_s, kOl_n, kOl_s, kap_n, kap_c, kb0, kb1, kbif, gin_r e]
theorem R_isFar {x : Int32} : kJ 161 0 [some (.int x)] [] m Q = Q (some (.int (if gin x 61 = true then nI 1 else nI 0))) m := by
  have e : ((60 : Int64)).toInt = ((61 : Nat) : Int) - 1 := by decide
  simp only [↓s161_0, ↓s161_1, ↓s161_2, ↓s161_3, ↓s161_6, ↓s161_9, ↓R_in, kNLn, kNLi, kNLr, va_rf_s, kOl_n, kOl_s, kap_n, kap_c, kb0, kb1, kbif, gin_r e]
theorem R_flag {x : Int32} : kJ 108 0 [some (.int x)] [] m Q = Q (some (.int (if x = 0 then nI 0 else nI 1))) m := by
  simp only [↓s108_0, ↓s108_1, ↓s108_4, ↓s108_5, ↓s108_8, ↓s108_9, kNLn, kNLi, kNLr, va_rf_s, kOl_n, kOl_s, kap_n, kap_c, kb0, kb1, kbif]
  by_cases c : x = 0
  · simp only [if_pos c]
  · simp only [if_neg c]
theorem R_becomes {v : Int32} (hk : k < 222) : kJ 153 0 [some (.ref 83), some (.int (nI k)), some (.int v), none] [] (mi, ml, MR, 95) Q = Q (some (.int (mi 84 k))) (kup mi 84 k v, ml, MR, 95) := by
  have hc : (nI k).toNatClampNeg = k := nI_clamp (by omega)
  have hv : vp_in (nI k) 222 := vp_in_nI hk (by decide)
  simp only [↓s153_0, ↓s153_1, ↓s153_4, ↓s153_5, ↓s153_6, ↓s153_7, ↓s153_8, ↓s153_11, ↓s153_12, ↓s153_13, ↓s153_14, ↓s153_15, kNLn, kNLi, kNLr, va_rf_s, kOl_n, kOl_s, kap_n, kap_c, kb0, kb1, kbif, ki_83, ki_84, kl_84, mr_83_0, hc, hv, true_and]
theorem R_legOf (h : kRR (mi 84) T) (ho : tOK T) (hi : i < T 0 4) : kJ 155 0 [some (.ref 83), some (.int (nI i))] [] (mi, ml, MR, 95) Q = Q (some (.int (nI (T 9 i)))) (mi, ml, MR, 95) := by
  have o1 := ho.2.1
  have hc : (nI (16 + 6 * i + 5)).toNatClampNeg = 16 + 6 * i + 5 := nI_clamp (by omega)
  have hv : vp_in (nI (16 + 6 * i + 5)) 222 := vp_in_nI (by omega) (by decide)
  simp only [↓s155_0, ↓s155_1, ↓s155_4, ↓s155_6, ↓s155_8, ↓s155_9, ↓s155_10, ↓s155_11, ↓s155_12, ↓s155_13, ↓s155_14, kNLn, kNLi, kNLr, va_rf_s, kOl_n, kOl_s, kap_n, kap_c, kb0, kb1, kbif, ki_83, ki_84, kl_84, mr_83_0, pk_mul, nI_add, hc, hv, true_and, h.2.2.1 i 5 hi (by decide)]
/-! class: hasOne, hasLetter, within by gin; letters of a leg -/
variable {b : Nat}
theorem J_hasOneG {x : Int32} (hp : kPost b) (h : kCR b T mi) (ho : tOK T) : kJ 7 0 [some (.ref b), some (.int x)] [] (mi, ml, MR, 95) Q = Q (some (.int (if gin x (T 0 0) = true then nI 1 else nI 0))) (mi, ml, MR, 95) := by
  have o1 := ho.1
  rw [J_hasOne hp, h.1.1]
  simp only [gin_c (by omega : T 0 0 < 2 ^ 31)]
theorem J_hasLetterG {x : Int32} (hp : kPost b) (h : kCR b T mi) (ho : tOK T) : kJ 8 0 [some (.ref b), some (.int x)] [] (mi, ml, MR, 95) Q = Q (some (.int (if gin x (T 0 4) = true then nI 1 else nI 0))) (mi, ml, MR, 95) := by
  have o1 := ho.2.1
  rw [J_hasLetter hp, h.1.2.1]
  simp only [gin_c (by omega : T 0 4 < 2 ^ 31)]
theorem J_withinG {x : Int32} (hn : n + 1 < 2 ^ 31) : kJ 90 0 [some (.int x), some (.int (nI 0)), some (.int (nI n))] [] m Q = Q (some (.int (if gin x (n + 1) = true then nI 1 else nI 0))) m := by
  rw [J_within]
  simp only [gin_w hn]
theorem J_isQuestion {x y : Int32} : kJ 91 0 [some (.int x), some (.int y)] [] m Q = Q (some (.int (if gin x 61 = true ∧ gin y 2 = true then nI 1 else nI 0))) m := by
  have e1 : ∀ Q', kJ 90 0 [some (.int x), some (.int (nI 0)), some (.int (nI 60))] [] m Q' = Q' (some (.int (if gin x 61 = true then nI 1 else nI 0))) m := fun Q' => J_withinG (by decide)
  have e2 : ∀ Q', kJ 90 0 [some (.int y), some (.int (nI 0)), some (.int (nI 1))] [] m Q' = Q' (some (.int (if gin y 2 = true then nI 1 else nI 0))) m := fun Q' => J_withinG (by decide)
  simp only [↓s91_0, ↓s91_1, ↓s91_2, ↓s91_4, ↓s91_7, ↓s91_10, ↓s91_11, ↓s91_12, ↓s91_13, ↓s91_16, ↓s91_19, ↓s91_20, ↓s91_23, ↓s91_24, ↓e1, ↓e2, kNLn, kNLi, kNLr, va_rf_s, kOl_n, kOl_s, kap_n, kap_c, kb0, kb1, kbif, zif]
  by_cases c1 : gin x 61 = true
  · by_cases c2 : gin y 2 = true
    · rw [if_neg (by simpa using c1), if_neg (by simpa using c2), if_pos ⟨c1, c2⟩]
    · rw [if_neg (by simpa using c1), if_pos c2, if_neg (fun z => c2 z.2)]
  · rw [if_pos c1, if_neg (fun z => c1 z.1)]
/-- bits: adding a bit that isn't there -/
theorem or_bit {a i : Nat} (ha : a < 2 ^ i) (hi : i < 31) : nI a ||| (nI 1 <<< (nI i &&& 31)) = nI (a + 2 ^ i) := by
  have e1 : nI 1 <<< (nI i &&& 31) = nI (2 ^ i) := by
    have h : ∀ i, i < 31 → nI 1 <<< (nI i &&& 31) = nI (2 ^ i) := by decide +kernel
    exact h i hi
  rw [e1]
  have e2 : nI a ||| nI (2 ^ i) = nI (a ||| 2 ^ i) := by
    apply Int32.toBitVec_inj.mp
    show (BitVec.ofNat 32 a) ||| (BitVec.ofNat 32 (2 ^ i)) = BitVec.ofNat 32 (a ||| 2 ^ i)
    rw [BitVec.ofNat_or]
  rw [e2]
  have e3 : a ||| 2 ^ i = a + 2 ^ i := by
    have h := Nat.two_pow_add_eq_or_of_lt ha 1
    rw [Nat.mul_one] at h
    rw [Nat.or_comm, ← h]
    omega
  rw [e3]
end RNG
