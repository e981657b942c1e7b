/-! write, see -/
/-- a letter more -/
def taddL (T : tT) (f t a v : Nat) : tT := tup (tup (tup (tup (tup (tup (tup T 4 (T 0 4) f) 5 (T 0 4) t) 6 (T 0 4) a) 0 4 (T 0 4 + 1)) 7 (T 0 4) v) 8 (T 0 4) (T 2 f)) 9 (T 0 4) 0
/-- a mood seen more -/
def taddS (T : tT) (d p v : Nat) : tT := tup (tup (tup (tup T 10 (T 0 13) d) 11 (T 0 13) p) 12 (T 0 13) v) 0 13 (T 0 13 + 1)
theorem taddL_at {T : tT} {f t a v r k : Nat} : taddL T f t a v r k = if r = 9 ∧ k = T 0 4 then 0 else if r = 8 ∧ k = T 0 4 then T 2 f else if r = 7 ∧ k = T 0 4 then v else if r = 0 ∧ k = 4 then T 0 4 + 1 else if r = 6 ∧ k = T 0 4 then a else if r = 5 ∧ k = T 0 4 then t else if r = 4 ∧ k = T 0 4 then f else T r k := rfl
theorem taddS_at {T : tT} {d p v r k : Nat} : taddS T d p v r k = if r = 0 ∧ k = 13 then T 0 13 + 1 else if r = 12 ∧ k = T 0 13 then v else if r = 11 ∧ k = T 0 13 then p else if r = 10 ∧ k = T 0 13 then d else T r k := rfl
theorem taddL_n {T : tT} {f t a v r k : Nat} (h1 : ¬ (4 ≤ r ∧ r ≤ 9 ∧ k = T 0 4)) (h2 : ¬ (r = 0 ∧ k = 4)) : taddL T f t a v r k = T r k := by
  rw [taddL_at, if_neg (by omega), if_neg (by omega), if_neg (by omega), if_neg (by omega), if_neg (by omega), if_neg (by omega), if_neg (by omega)]
theorem taddS_n {T : tT} {d p v r k : Nat} (h1 : ¬ (10 ≤ r ∧ r ≤ 12 ∧ k = T 0 13)) (h2 : ¬ (r = 0 ∧ k = 13)) : taddS T d p v r k = T r k := by
  rw [taddS_at, if_neg (by omega), if_neg (by omega), if_neg (by omega), if_neg (by omega)]
theorem taddL_4 {T : tT} {f t a v : Nat} : taddL T f t a v 0 4 = T 0 4 + 1 := by
  rw [taddL_at, if_neg (by omega), if_neg (by omega), if_neg (by omega), if_pos ⟨rfl, rfl⟩]
theorem taddS_13 {T : tT} {d p v : Nat} : taddS T d p v 0 13 = T 0 13 + 1 := by
  rw [taddS_at, if_pos ⟨rfl, rfl⟩]
theorem tGood_addL {T : tT} {f t a v : Nat} (h : tGood T) (hn : T 0 4 < 6) (hf : f < T 0 0) (ht : t < T 0 0) (ha : a < T 0 0) (hv : v < 19) : tGood (taddL T f t a v) := by
  obtain ⟨⟨h1, h2, h3, h4, h5, h6, h7, h8⟩, hd⟩ := h
  have e0 : taddL T f t a v 0 0 = T 0 0 := taddL_n (by omega) (by omega)
  have e13 : taddL T f t a v 0 13 = T 0 13 := taddL_n (by omega) (by omega)
  have e11 : taddL T f t a v 0 11 = T 0 11 := taddL_n (by omega) (by omega)
  have e12 : taddL T f t a v 0 12 = T 0 12 := taddL_n (by omega) (by omega)
  refine ⟨⟨by rw [e0]; exact h1, by rw [taddL_4]; omega, by rw [e13]; exact h3, by rw [e11]; exact h4, by rw [e12]; exact h5, fun p hp => ?_, fun i hi => ?_, fun j hj => ?_⟩, by rw [e12]; exact hd⟩
  · rw [e0] at hp
    rw [taddL_n (by omega) (by omega), taddL_n (by omega) (by omega), taddL_n (by omega) (by omega)]
    exact h6 p hp
  · rw [taddL_4] at hi
    rw [e0]
    by_cases ei : i = T 0 4
    · subst ei
      have h2f := (h6 f hf).2.1
      refine ⟨?_, ?_, ?_, ?_, ?_, ?_⟩
      · simp [taddL_at]; exact hf
      · simp [taddL_at]; exact ht
      · simp [taddL_at]; exact ha
      · simp [taddL_at]; omega
      · simp [taddL_at]; exact h2f
      · simp [taddL_at]
    · rw [taddL_n (by omega) (by omega), taddL_n (by omega) (by omega), taddL_n (by omega) (by omega), taddL_n (by omega) (by omega), taddL_n (by omega) (by omega), taddL_n (by omega) (by omega)]
      exact h7 i (by omega)
  · rw [e13] at hj
    rw [e0, taddL_n (by omega) (by omega), taddL_n (by omega) (by omega), taddL_n (by omega) (by omega)]
    exact h8 j hj
theorem tGood_addS {T : tT} {d p v : Nat} (h : tGood T) (hn : T 0 13 < 6) (hd' : d ≤ 20) (hp' : p < T 0 0) (hv : v ≤ 20) : tGood (taddS T d p v) := by
  obtain ⟨⟨h1, h2, h3, h4, h5, h6, h7, h8⟩, hd⟩ := h
  have e0 : taddS T d p v 0 0 = T 0 0 := taddS_n (by omega) (by omega)
  have e4 : taddS T d p v 0 4 = T 0 4 := taddS_n (by omega) (by omega)
  have e11 : taddS T d p v 0 11 = T 0 11 := taddS_n (by omega) (by omega)
  have e12 : taddS T d p v 0 12 = T 0 12 := taddS_n (by omega) (by omega)
  refine ⟨⟨by rw [e0]; exact h1, by rw [e4]; omega, by rw [taddS_13]; omega, by rw [e11]; exact h4, by rw [e12]; exact h5, fun p hp => ?_, fun i hi => ?_, fun j hj => ?_⟩, by rw [e12]; exact hd⟩
  · rw [e0] at hp
    rw [taddS_n (by omega) (by omega), taddS_n (by omega) (by omega), taddS_n (by omega) (by omega)]
    exact h6 p hp
  · rw [e4] at hi
    rw [e0, taddS_n (by omega) (by omega), taddS_n (by omega) (by omega), taddS_n (by omega) (by omega), taddS_n (by omega) (by omega), taddS_n (by omega) (by omega), taddS_n (by omega) (by omega)]
    exact h7 i hi
  · rw [taddS_13] at hj
    rw [e0]
    by_cases ej : j = T 0 13
    · subst ej
      refine ⟨?_, ?_, ?_⟩
      · simp [taddS_at]; exact hd'
      · simp [taddS_at]; exact hp'
      · simp [taddS_at]; exact hv
    · rw [taddS_n (by omega) (by omega), taddS_n (by omega) (by omega), taddS_n (by omega) (by omega)]
      exact h8 j (by omega)
section PUB5
set_option maxHeartbeats 400000
variable {mi : Nat → Nat → Int32} {ml : Nat → Nat → Int64} {m : kMem} {Q : Option Value → kMem → Prop} {S : gS} {T : tT} {b p n f t a v d : Nat}
/-- the memory behind writeAgain -/
def kWA (b i f : Nat) (v : Int32) (mi : Nat → Nat → Int32) : Nat → Nat → Int32 := kup (kup (kup mi (b + 7) i v) (b + 8) i (mi (b + 2) f)) (b + 9) i (nI 0)
theorem J_again {x : Int32} (hp : kPost b) (hn : n < 6) (hf : f < 5) (h4 : mi (b + 4) n = nI f) : kJ 13 0 [some (.ref b), some (.int (nI n)), some (.int x)] [] (mi, ml, MR, 95) Q = Q none (kWA b n f x mi, ml, MR, 95) := by
  obtain ⟨pis, ⟨r1, r2, r3, r4, r5, r6, r7, r8, r9, r10, r11, r12⟩, ⟨a1, a2, a3, a4, a5, a6, a7, a8, a9, a10, a11, a12⟩, e1, e2, e3, e4, e5, e6, e7, e8, e9, e10, e11, e12⟩ := hp
  have hc : (nI n).toNatClampNeg = n := nI_clamp (by omega)
  have hv : vp_in (nI n) 6 := vp_in_nI (by omega) (by decide)
  have hc2 : (nI f).toNatClampNeg = f := nI_clamp (by omega)
  have hv2 : vp_in (nI f) 5 := vp_in_nI (by omega) (by decide)
  simp only [↓s13_0, ↓s13_1, ↓s13_4, ↓s13_5, ↓s13_6, ↓s13_7, ↓s13_8, ↓s13_11, ↓s13_12, ↓s13_13, ↓s13_16, ↓s13_17, ↓s13_20, ↓s13_21, ↓s13_22, ↓s13_23, ↓s13_24, ↓s13_25, ↓s13_28, ↓s13_29, ↓s13_30, ↓s13_31, kNLn, kNLi, kNLr, va_rf_s, kOl_n, kOl_s, kap_n, kap_c, kb0, kb1, kbif, pis, r1, r2, r3, r4, r5, r6, r7, r8, r9, r10, r11, r12, a1, a2, a3, a4, a5, a6, a7, a8, a9, a10, a11, a12, e1, e2, e3, e4, e5, e6, e7, e8, e9, e10, e11, e12, kq_0_1, kq_0_2, kq_0_3, kq_0_4, kq_0_5, kq_0_6, kq_0_7, kq_0_8, kq_0_9, kq_0_10, kq_0_11, kq_0_12, kq_1_0, kq_1_2, kq_1_3, kq_1_4, kq_1_5, kq_1_6, kq_1_7, kq_1_8, kq_1_9, kq_1_10, kq_1_11, kq_1_12, kq_2_0, kq_2_1, kq_2_3, kq_2_4, kq_2_5, kq_2_6, kq_2_7, kq_2_8, kq_2_9, kq_2_10, kq_2_11, kq_2_12, kq_3_0, kq_3_1, kq_3_2, kq_3_4, kq_3_5, kq_3_6, kq_3_7, kq_3_8, kq_3_9, kq_3_10, kq_3_11, kq_3_12, kq_4_0, kq_4_1, kq_4_2, kq_4_3, kq_4_5, kq_4_6, kq_4_7, kq_4_8, kq_4_9, kq_4_10, kq_4_11, kq_4_12, kq_5_0, kq_5_1, kq_5_2, kq_5_3, kq_5_4, kq_5_6, kq_5_7, kq_5_8, kq_5_9, kq_5_10, kq_5_11, kq_5_12, kq_6_0, kq_6_1, kq_6_2, kq_6_3, kq_6_4, kq_6_5, kq_6_7, kq_6_8, kq_6_9, kq_6_10, kq_6_11, kq_6_12, kq_7_0, kq_7_1, kq_7_2, kq_7_3, kq_7_4, kq_7_5, kq_7_6, kq_7_8, kq_7_9, kq_7_10, kq_7_11, kq_7_12, kq_8_0, kq_8_1, kq_8_2, kq_8_3, kq_8_4, kq_8_5, kq_8_6, kq_8_7, kq_8_9, kq_8_10, kq_8_11, kq_8_12, kq_9_0, kq_9_1, kq_9_2, kq_9_3, kq_9_4, kq_9_5, kq_9_6, kq_9_7, kq_9_8, kq_9_10, kq_9_11, kq_9_12, kq_10_0, kq_10_1, kq_10_2, kq_10_3, kq_10_4, kq_10_5, kq_10_6, kq_10_7, kq_10_8, kq_10_9, kq_10_11, kq_10_12, kq_11_0, kq_11_1, kq_11_2, kq_11_3, kq_11_4, kq_11_5, kq_11_6, kq_11_7, kq_11_8, kq_11_9, kq_11_10, kq_11_12, kq_12_0, kq_12_1, kq_12_2, kq_12_3, kq_12_4, kq_12_5, kq_12_6, kq_12_7, kq_12_8, kq_12_9, kq_12_10, kq_12_11, hc, hv, hc2, hv2, h4, true_and, kWA]
def kAL (b n f : Nat) (t a v : Int32) (mi : Nat → Nat → Int32) : Nat → Nat → Int32 := kWA b n f v (kup (kup (kup (kup mi (b + 4) n (nI f)) (b + 5) n t) (b + 6) n a) b 4 (nI (n + 1)))
theorem nI_sub1 : nI (n + 1) - nI 1 = nI n := by
  rw [← nI_add n 1, Int32.add_sub_cancel]
theorem J_addL {x y z : Int32} (hp : kPost b) (hn : n < 6) (hf : f < 5) (h4 : mi b 4 = nI n) : kJ 12 0 [some (.ref b), some (.int (nI f)), some (.int x), some (.int y), some (.int z)] [] (mi, ml, MR, 95) Q = Q none (kAL b n f x y z mi, ml, MR, 95) := by
  have hp0 := hp
  obtain ⟨pis, ⟨r1, r2, r3, r4, r5, r6, r7, r8, r9, r10, r11, r12⟩, ⟨a1, a2, a3, a4, a5, a6, a7, a8, a9, a10, a11, a12⟩, e1, e2, e3, e4, e5, e6, e7, e8, e9, e10, e11, e12⟩ := hp
  have hc : (nI n).toNatClampNeg = n := nI_clamp (by omega)
  have hv : vp_in (nI n) 6 := vp_in_nI (by omega) (by decide)
  have hlt : ¬ nI 6 ≤ nI n := nI_ge hn (by decide)
  have hw : ∀ Q', kJ 13 0 [some (.ref b), some (.int (nI n)), some (.int z)] [] (kup (kup (kup (kup mi (b + 4) n (nI f)) (b + 5) n x) (b + 6) n y) b 4 (nI (n + 1)), ml, MR, 95) Q' = Q' none (kAL b n f x y z mi, ml, MR, 95) := fun Q' => J_again hp0 hn hf (by rw [kq_0_4, kq_6_4, kq_5_4, kup_at])
  simp only [↓s12_0, ↓s12_1, ↓s12_4, ↓s12_6, ↓s12_9, ↓s12_10, ↓s12_13, ↓s12_14, ↓s12_17, ↓s12_18, ↓s12_19, ↓s12_20, ↓s12_23, ↓s12_24, ↓s12_27, ↓s12_28, ↓s12_29, ↓s12_30, ↓s12_33, ↓s12_34, ↓s12_37, ↓s12_38, ↓s12_39, ↓s12_40, ↓s12_41, ↓s12_44, ↓s12_45, ↓s12_46, ↓s12_49, ↓s12_50, ↓s12_51, ↓s12_54, ↓s12_55, ↓s12_56, ↓s12_58, ↓s12_61, kNLn, kNLi, kNLr, va_rf_s, kOl_n, kOl_s, kap_n, kap_c, kb0, kb1, kbif, pis, r1, r2, r3, r4, r5, r6, r7, r8, r9, r10, r11, r12, a1, a2, a3, a4, a5, a6, a7, a8, a9, a10, a11, a12, e1, e2, e3, e4, e5, e6, e7, e8, e9, e10, e11, e12, kq_0_1, kq_0_2, kq_0_3, kq_0_4, kq_0_5, kq_0_6, kq_0_7, kq_0_8, kq_0_9, kq_0_10, kq_0_11, kq_0_12, kq_1_0, kq_1_2, kq_1_3, kq_1_4, kq_1_5, kq_1_6, kq_1_7, kq_1_8, kq_1_9, kq_1_10, kq_1_11, kq_1_12, kq_2_0, kq_2_1, kq_2_3, kq_2_4, kq_2_5, kq_2_6, kq_2_7, kq_2_8, kq_2_9, kq_2_10, kq_2_11, kq_2_12, kq_3_0, kq_3_1, kq_3_2, kq_3_4, kq_3_5, kq_3_6, kq_3_7, kq_3_8, kq_3_9, kq_3_10, kq_3_11, kq_3_12, kq_4_0, kq_4_1, kq_4_2, kq_4_3, kq_4_5, kq_4_6, kq_4_7, kq_4_8, kq_4_9, kq_4_10, kq_4_11, kq_4_12, kq_5_0, kq_5_1, kq_5_2, kq_5_3, kq_5_4, kq_5_6, kq_5_7, kq_5_8, kq_5_9, kq_5_10, kq_5_11, kq_5_12, kq_6_0, kq_6_1, kq_6_2, kq_6_3, kq_6_4, kq_6_5, kq_6_7, kq_6_8, kq_6_9, kq_6_10, kq_6_11, kq_6_12, kq_7_0, kq_7_1, kq_7_2, kq_7_3, kq_7_4, kq_7_5, kq_7_6, kq_7_8, kq_7_9, kq_7_10, kq_7_11, kq_7_12, kq_8_0, kq_8_1, kq_8_2, kq_8_3, kq_8_4, kq_8_5, kq_8_6, kq_8_7, kq_8_9, kq_8_10, kq_8_11, kq_8_12, kq_9_0, kq_9_1, kq_9_2, kq_9_3, kq_9_4, kq_9_5, kq_9_6, kq_9_7, kq_9_8, kq_9_10, kq_9_11, kq_9_12, kq_10_0, kq_10_1, kq_10_2, kq_10_3, kq_10_4, kq_10_5, kq_10_6, kq_10_7, kq_10_8, kq_10_9, kq_10_11, kq_10_12, kq_11_0, kq_11_1, kq_11_2, kq_11_3, kq_11_4, kq_11_5, kq_11_6, kq_11_7, kq_11_8, kq_11_9, kq_11_10, kq_11_12, kq_12_0, kq_12_1, kq_12_2, kq_12_3, kq_12_4, kq_12_5, kq_12_6, kq_12_7, kq_12_8, kq_12_9, kq_12_10, kq_12_11, hc, hv, h4, hlt, if_false, true_and, nI_add, kup_at, nI_sub1, ↓hw]
theorem kCR_addL (h : kCR b T mi) (ho : tOK T) (hn : T 0 4 < 6) (hf : f < T 0 0) : kCR b (taddL T f t a v) (kAL b (T 0 4) f (nI t) (nI a) (nI v) mi) := by
  obtain ⟨⟨h0, h4, h11, h12, h13⟩, hrow⟩ := h
  have hdoor : mi (b + 2) f = nI (T 2 f) := hrow 2 f (by omega) (by omega) (by rw [tcnt_p (by omega)]; exact hf)
  unfold kAL kWA
  refine ⟨⟨?_, ?_, ?_, ?_, ?_⟩, fun r k h1 h2 h3 => ?_⟩
  · rw [kq_9_0, kq_8_0, kq_7_0, kup_eq, pk_un (by omega), kq_6_0, kq_5_0, kq_4_0, taddL_n (by omega) (by omega)]; exact h0
  · rw [kq_9_0, kq_8_0, kq_7_0, kup_eq, pk_us, taddL_4]
  · rw [kq_9_0, kq_8_0, kq_7_0, kup_eq, pk_un (by omega), kq_6_0, kq_5_0, kq_4_0, taddL_n (by omega) (by omega)]; exact h11
  · rw [kq_9_0, kq_8_0, kq_7_0, kup_eq, pk_un (by omega), kq_6_0, kq_5_0, kq_4_0, taddL_n (by omega) (by omega)]; exact h12
  · rw [kq_9_0, kq_8_0, kq_7_0, kup_eq, pk_un (by omega), kq_6_0, kq_5_0, kq_4_0, taddL_n (by omega) (by omega)]; exact h13
  · have e2 : kup (kup (kup (kup mi (b + 4) (T 0 4) (nI f)) (b + 5) (T 0 4) (nI t)) (b + 6) (T 0 4) (nI a)) b 4 (nI (T 0 4 + 1)) (b + 2) f = nI (T 2 f) := by
      rw [kq_0_2, kq_6_2, kq_5_2, kq_4_2]; exact hdoor
    rw [e2]
    have hcn : k = T 0 4 ∧ 4 ≤ r ∧ r ≤ 9 ∨ k < tcnt T r := by
      unfold tcnt at h3 ⊢
      rw [taddL_4, taddL_n (by omega) (by omega), taddL_n (by omega) (by omega)] at h3
      split at h3
      · next c => rw [if_pos c]; exact Or.inr h3
      · next c =>
        rw [if_neg c]
        split at h3
        · next c2 =>
          rw [if_pos c2]
          by_cases e : k = T 0 4
          · exact Or.inl ⟨e, by omega, by omega⟩
          · exact Or.inr (by omega)
        · next c2 => rw [if_neg c2]; exact Or.inr h3
    by_cases e : k = T 0 4 ∧ 4 ≤ r ∧ r ≤ 9
    · obtain ⟨rfl, e1, e2⟩ := e
      rcases (by omega : r = 4 ∨ r = 5 ∨ r = 6 ∨ r = 7 ∨ r = 8 ∨ r = 9) with rfl | rfl | rfl | rfl | rfl | rfl
      all_goals simp [kup_ap, upd_ap, taddL_at]
    · have h3' : k < tcnt T r := hcn.resolve_left e
      rw [taddL_n (by omega) (by omega)]
      refine Eq.trans ?_ (hrow r k h1 h2 h3')
      by_cases ek : k = T 0 4
      · (repeat (first | rw [kup_eq] | rw [kup_ne (by omega)]))
      · by_cases er : 4 ≤ r ∧ r ≤ 9
        · rcases (by omega : r = 4 ∨ r = 5 ∨ r = 6 ∨ r = 7 ∨ r = 8 ∨ r = 9) with rfl | rfl | rfl | rfl | rfl | rfl
          all_goals simp [kup_ap, upd_ap, ek]
        · (repeat (first | rw [kup_eq] | rw [kup_ne (by omega)]))
theorem kFr_addL {x y z : Int32} : kFr b mi (kAL b n f x y z mi) := by
  unfold kAL kWA
  exact kFr_up (kFr_up (kFr_up (kFr_up0 (kFr_up (kFr_up (kFr_up kFr_rf (by omega)) (by omega)) (by omega))) (by omega)) (by omega)) (by omega)
theorem kRR_addL {A : Nat → Int32} (h : kRR A T) (ho : tOK T) (hn : T 0 4 < 6) (hf : f < T 0 0) : kRR (upd (upd (upd (upd (upd (upd (upd A (16 + 6 * T 0 4 + 0) (nI f)) (16 + 6 * T 0 4 + 1) (nI t)) (16 + 6 * T 0 4 + 2) (nI a)) (16 + 6 * T 0 4 + 3) (nI v)) (16 + 6 * T 0 4 + 4) (nI (T 2 f))) (16 + 6 * T 0 4 + 5) (nI 0)) 52 (nI (T 0 4 + 1))) (taddL T f t a v) := by
  obtain ⟨⟨h1, h2, h3, h4, h5⟩, hP, hL, hS⟩ := h
  have o1 := ho.1
  have o2 := ho.2.1
  have o3 := ho.2.2.1
  refine ⟨⟨?_, ?_, ?_, ?_, ?_⟩, fun q u hq hu => ?_, fun k u hk hu => ?_, fun j u hj hu => ?_⟩
  · rw [taddL_n (by omega) (by omega)]; (repeat (first | rw [pk_us] | rw [pk_un (by omega)])); exact h1
  · rw [taddL_4, pk_us]
  · rw [taddL_n (by omega) (by omega)]; (repeat (first | rw [pk_us] | rw [pk_un (by omega)])); exact h3
  · rw [taddL_n (by omega) (by omega)]; (repeat (first | rw [pk_us] | rw [pk_un (by omega)])); exact h4
  · rw [taddL_n (by omega) (by omega)]; (repeat (first | rw [pk_us] | rw [pk_un (by omega)])); exact h5
  · rw [taddL_n (by omega) (by omega)] at hq
    rw [taddL_n (by omega) (by omega)]; (repeat (first | rw [pk_us] | rw [pk_un (by omega)])); exact hP q u hq hu
  · rw [taddL_4] at hk
    by_cases e : k = T 0 4
    · subst e
      rcases (by omega : u = 0 ∨ u = 1 ∨ u = 2 ∨ u = 3 ∨ u = 4 ∨ u = 5) with rfl | rfl | rfl | rfl | rfl | rfl
      · (repeat (first | rw [pk_us] | rw [pk_un (by omega)])); simp [taddL_at]
      · (repeat (first | rw [pk_us] | rw [pk_un (by omega)])); simp [taddL_at]
      · (repeat (first | rw [pk_us] | rw [pk_un (by omega)])); simp [taddL_at]
      · (repeat (first | rw [pk_us] | rw [pk_un (by omega)])); simp [taddL_at]
      · (repeat (first | rw [pk_us] | rw [pk_un (by omega)])); simp [taddL_at]
      · (repeat (first | rw [pk_us] | rw [pk_un (by omega)])); simp [taddL_at]
    · rw [taddL_n (by omega) (by omega)]; (repeat (first | rw [pk_us] | rw [pk_un (by omega)])); exact hL k u (by omega) hu
  · rw [taddL_n (by omega) (by omega)] at hj
    rw [taddL_n (by omega) (by omega)]; (repeat (first | rw [pk_us] | rw [pk_un (by omega)])); exact hS j u hj hu
/-- a letter is written, or it is refused -/
theorem C_write_y (h : CI S mi) (hg : gOK S) (hn : S.1 0 4 < 6) (hf : f < S.1 0 0) (ht : t < S.1 0 0) (ha : a < S.1 0 0) (hv : v < 19) (hQ : ∀ mi', CI (taddL S.1 f t a v, S.2) mi' → fC mi mi' → Q (some (.int (nI (S.1 0 4 + 1)))) (mi', ml, MR, 95)) : kJ 63 0 [some (.ref 0), some (.int (nI f)), some (.int (nI t)), some (.int (nI a)), some (.int (nI v))] [] (mi, ml, MR, 95) Q := by
  have ho := hg.1.1
  have o1 := ho.1
  have g1 : gin (nI f) (S.1 0 0) = true := gin_nI hf (by omega)
  have g2 : gin (nI t) (S.1 0 0) = true := gin_nI ht (by omega)
  have g3 : gin (nI a) (S.1 0 0) = true := gin_nI ha (by omega)
  have g4 : gin (nI v) 19 = true := gin_nI hv (by decide)
  have hlt : nI (S.1 0 4) < nI 6 := Int32.not_le.mp (nI_ge hn (by decide))
  have hw : ∀ Q', kJ 12 0 [some (.ref 1), some (.int (nI f)), some (.int (nI t)), some (.int (nI a)), some (.int (nI v))] [] (mi, ml, MR, 95) Q' = Q' none (kAL 1 (S.1 0 4) f (nI t) (nI a) (nI v) mi, ml, MR, 95) := fun Q' => J_addL kPost_1 hn (by omega) h.1.1.2.1
  have hk := kCR_addL (t := t) (a := a) (v := v) h.1 ho hn hf
  have h14 := hk.1.2.1
  rw [taddL_4] at h14
  simp only [↓s63_0, ↓s63_1, ↓s63_4, ↓s63_5, ↓s63_8, ↓s63_11, ↓s63_12, ↓s63_15, ↓s63_16, ↓s63_19, ↓s63_22, ↓s63_23, ↓s63_26, ↓s63_27, ↓s63_30, ↓s63_33, ↓s63_35, ↓s63_36, ↓s63_38, ↓s63_41, ↓s63_44, ↓s63_45, ↓s63_46, ↓s63_47, ↓s63_50, ↓s63_53, ↓s63_55, ↓s63_58, ↓s63_60, ↓s63_61, ↓s63_62, ↓s63_65, ↓s63_66, ↓s63_67, ↓s63_68, ↓s63_70, ↓s63_73, ↓s63_74, ↓s63_77, ↓s63_80, ↓J_hasOneG kPost_1 h.1 ho, ↓J_w18, ↓hw, kNLn, kNLi, kNLr, va_rf_s, kOl_n, kOl_s, kap_n, kap_c, kb0, kb1, kbif, zif, z0, z1, Bool.false_eq_true, eq_self, not_true_eq_false, not_false_eq_true, if_true, if_false, and_self, true_and, false_and, and_true, and_false, g1, g2, g3, g4, ki_0, ki_1, mr_0_0, h.1.1.2.1, hlt, h14]
  exact hQ _ (CI_T h hk (sC_now kFr_addL)) (fC_now kFr_addL)
def gwOK (T : tT) (x y z w : Int32) : Prop := gin x (T 0 0) = true ∧ gin y (T 0 0) = true ∧ gin z (T 0 0) = true ∧ gin w 19 = true
theorem C_write_f {x y z w : Int32} (h : CI S mi) (hg : gOK S) (hn : S.1 0 4 = 6) (hw : gwOK S.1 x y z w) : kJ 63 0 [some (.ref 0), some (.int x), some (.int y), some (.int z), some (.int w)] [] (mi, ml, MR, 95) Q = Q (some (.int (-3))) (mi, ml, MR, 95) := by
  have ho := hg.1.1
  obtain ⟨g1, g2, g3, g4⟩ := hw
  have h4 := h.1.1.2.1
  rw [hn] at h4
  have hlt : ¬ nI 6 < nI 6 := by decide
  simp only [↓s63_0, ↓s63_1, ↓s63_4, ↓s63_5, ↓s63_8, ↓s63_11, ↓s63_12, ↓s63_15, ↓s63_16, ↓s63_19, ↓s63_22, ↓s63_23, ↓s63_26, ↓s63_27, ↓s63_30, ↓s63_33, ↓s63_35, ↓s63_36, ↓s63_38, ↓s63_41, ↓s63_44, ↓s63_45, ↓s63_46, ↓s63_47, ↓s63_50, ↓s63_53, ↓s63_55, ↓s63_58, ↓s63_60, ↓s63_61, ↓s63_62, ↓s63_65, ↓s63_66, ↓s63_67, ↓s63_68, ↓s63_70, ↓s63_73, ↓s63_74, ↓s63_77, ↓s63_80, ↓J_hasOneG kPost_1 h.1 ho, ↓J_w18, kNLn, kNLi, kNLr, va_rf_s, kOl_n, kOl_s, kap_n, kap_c, kb0, kb1, kbif, zif, z0, z1, Bool.false_eq_true, eq_self, not_true_eq_false, not_false_eq_true, if_true, if_false, and_self, true_and, false_and, and_true, and_false, g1, g2, g3, g4, ki_0, ki_1, mr_0_0, h4, hlt]
theorem C_write_n {x y z w : Int32} (h : CI S mi) (hg : gOK S) (hw : ¬ gwOK S.1 x y z w) : kJ 63 0 [some (.ref 0), some (.int x), some (.int y), some (.int z), some (.int w)] [] (mi, ml, MR, 95) Q = Q (some (.int (-1))) (mi, ml, MR, 95) := by
  have ho := hg.1.1
  by_cases g1 : gin x (S.1 0 0) = true
  · by_cases g2 : gin y (S.1 0 0) = true
    · by_cases g3 : gin z (S.1 0 0) = true
      · have g4 : ¬ gin w 19 = true := fun g4 => hw ⟨g1, g2, g3, g4⟩
        simp only [↓s63_0, ↓s63_1, ↓s63_4, ↓s63_5, ↓s63_8, ↓s63_11, ↓s63_12, ↓s63_15, ↓s63_16, ↓s63_19, ↓s63_22, ↓s63_23, ↓s63_26, ↓s63_27, ↓s63_30, ↓s63_33, ↓s63_35, ↓s63_36, ↓s63_38, ↓s63_41, ↓s63_44, ↓s63_45, ↓s63_46, ↓s63_47, ↓s63_50, ↓s63_53, ↓s63_55, ↓s63_58, ↓s63_60, ↓s63_61, ↓s63_62, ↓s63_65, ↓s63_66, ↓s63_67, ↓s63_68, ↓s63_70, ↓s63_73, ↓s63_74, ↓s63_77, ↓s63_80, ↓J_hasOneG kPost_1 h.1 ho, ↓J_w18, kNLn, kNLi, kNLr, va_rf_s, kOl_n, kOl_s, kap_n, kap_c, kb0, kb1, kbif, zif, z0, z1, Bool.false_eq_true, eq_self, not_true_eq_false, not_false_eq_true, if_true, if_false, and_self, true_and, false_and, and_true, and_false, g1, g2, g3, g4, ki_0, ki_1, mr_0_0]
      · simp only [↓s63_0, ↓s63_1, ↓s63_4, ↓s63_5, ↓s63_8, ↓s63_11, ↓s63_12, ↓s63_15, ↓s63_16, ↓s63_19, ↓s63_22, ↓s63_23, ↓s63_26, ↓s63_27, ↓s63_30, ↓s63_33, ↓s63_35, ↓s63_36, ↓s63_38, ↓s63_41, ↓s63_44, ↓s63_45, ↓s63_46, ↓s63_47, ↓s63_50, ↓s63_53, ↓s63_55, ↓s63_58, ↓s63_60, ↓s63_61, ↓s63_62, ↓s63_65, ↓s63_66, ↓s63_67, ↓s63_68, ↓s63_70, ↓s63_73, ↓s63_74, ↓s63_77, ↓s63_80, ↓J_hasOneG kPost_1 h.1 ho, kNLn, kNLi, kNLr, va_rf_s, kOl_n, kOl_s, kap_n, kap_c, kb0, kb1, kbif, zif, z0, z1, Bool.false_eq_true, eq_self, not_true_eq_false, not_false_eq_true, if_true, if_false, and_self, true_and, false_and, and_true, and_false, g1, g2, g3, ki_0, ki_1, mr_0_0]
    · simp only [↓s63_0, ↓s63_1, ↓s63_4, ↓s63_5, ↓s63_8, ↓s63_11, ↓s63_12, ↓s63_15, ↓s63_16, ↓s63_19, ↓s63_22, ↓s63_23, ↓s63_26, ↓s63_27, ↓s63_30, ↓s63_33, ↓s63_35, ↓s63_36, ↓s63_38, ↓s63_41, ↓s63_44, ↓s63_45, ↓s63_46, ↓s63_47, ↓s63_50, ↓s63_53, ↓s63_55, ↓s63_58, ↓s63_60, ↓s63_61, ↓s63_62, ↓s63_65, ↓s63_66, ↓s63_67, ↓s63_68, ↓s63_70, ↓s63_73, ↓s63_74, ↓s63_77, ↓s63_80, ↓J_hasOneG kPost_1 h.1 ho, kNLn, kNLi, kNLr, va_rf_s, kOl_n, kOl_s, kap_n, kap_c, kb0, kb1, kbif, zif, z0, z1, Bool.false_eq_true, eq_self, not_true_eq_false, not_false_eq_true, if_true, if_false, and_self, true_and, false_and, and_true, and_false, g1, g2, ki_0, ki_1, mr_0_0]
  · simp only [↓s63_0, ↓s63_1, ↓s63_4, ↓s63_5, ↓s63_8, ↓s63_11, ↓s63_12, ↓s63_15, ↓s63_16, ↓s63_19, ↓s63_22, ↓s63_23, ↓s63_26, ↓s63_27, ↓s63_30, ↓s63_33, ↓s63_35, ↓s63_36, ↓s63_38, ↓s63_41, ↓s63_44, ↓s63_45, ↓s63_46, ↓s63_47, ↓s63_50, ↓s63_53, ↓s63_55, ↓s63_58, ↓s63_60, ↓s63_61, ↓s63_62, ↓s63_65, ↓s63_66, ↓s63_67, ↓s63_68, ↓s63_70, ↓s63_73, ↓s63_74, ↓s63_77, ↓s63_80, ↓J_hasOneG kPost_1 h.1 ho, kNLn, kNLi, kNLr, va_rf_s, kOl_n, kOl_s, kap_n, kap_c, kb0, kb1, kbif, zif, z0, z1, Bool.false_eq_true, eq_self, not_true_eq_false, not_false_eq_true, if_true, if_false, and_self, true_and, false_and, and_true, and_false, g1, ki_0, ki_1, mr_0_0]
theorem R_write_n {x y z w : Int32} (h : kRR (mi 84) T) (ho : tOK T) (hw : ¬ gwOK T x y z w) : kJ 158 0 [some (.ref 83), some (.int x), some (.int y), some (.int z), some (.int w), none] [] (mi, ml, MR, 95) Q = Q (some (.int (-1))) (mi, ml, MR, 95) := by
  by_cases g1 : gin x (T 0 0) = true
  · by_cases g2 : gin y (T 0 0) = true
    · by_cases g3 : gin z (T 0 0) = true
      · have g4 : ¬ gin w 19 = true := fun g4 => hw ⟨g1, g2, g3, g4⟩
        simp only [↓s158_0, ↓s158_1, ↓s158_2, ↓s158_5, ↓s158_8, ↓s158_9, ↓s158_10, ↓s158_13, ↓s158_16, ↓s158_17, ↓s158_18, ↓s158_21, ↓s158_24, ↓s158_26, ↓s158_29, ↓s158_32, ↓s158_33, ↓s158_34, ↓s158_35, ↓s158_38, ↓s158_40, ↓s158_41, ↓s158_43, ↓s158_46, ↓s158_48, ↓s158_49, ↓s158_51, ↓s158_53, ↓s158_54, ↓s158_57, ↓s158_59, ↓s158_60, ↓s158_61, ↓s158_62, ↓s158_64, ↓s158_65, ↓s158_68, ↓s158_70, ↓s158_71, ↓s158_72, ↓s158_73, ↓s158_74, ↓s158_75, ↓s158_78, ↓s158_80, ↓s158_81, ↓s158_82, ↓s158_83, ↓s158_84, ↓s158_85, ↓s158_88, ↓s158_90, ↓s158_91, ↓s158_92, ↓s158_93, ↓s158_94, ↓s158_95, ↓s158_98, ↓s158_100, ↓s158_101, ↓s158_102, ↓s158_104, ↓s158_105, ↓s158_106, ↓s158_109, ↓s158_111, ↓s158_112, ↓s158_113, ↓s158_114, ↓s158_117, ↓s158_118, ↓s158_119, ↓s158_120, ↓s158_121, ↓s158_122, ↓s158_123, ↓s158_124, ↓s158_125, ↓s158_128, ↓s158_130, ↓s158_131, ↓s158_132, ↓s158_133, ↓s158_134, ↓s158_135, ↓s158_138, ↓s158_140, ↓s158_141, ↓s158_142, ↓s158_143, ↓s158_144, ↓s158_145, ↓s158_146, ↓s158_149, ↓s158_151, ↓s158_152, ↓R_isOne h ho, ↓R_isTone, kNLn, kNLi, kNLr, va_rf_s, kOl_n, kOl_s, kap_n, kap_c, kb0, kb1, kbif, zif, z0, z1, Bool.false_eq_true, eq_self, not_true_eq_false, not_false_eq_true, if_true, if_false, and_self, true_and, false_and, and_true, and_false, g1, g2, g3, g4, ki_83]
      · simp only [↓s158_0, ↓s158_1, ↓s158_2, ↓s158_5, ↓s158_8, ↓s158_9, ↓s158_10, ↓s158_13, ↓s158_16, ↓s158_17, ↓s158_18, ↓s158_21, ↓s158_24, ↓s158_26, ↓s158_29, ↓s158_32, ↓s158_33, ↓s158_34, ↓s158_35, ↓s158_38, ↓s158_40, ↓s158_41, ↓s158_43, ↓s158_46, ↓s158_48, ↓s158_49, ↓s158_51, ↓s158_53, ↓s158_54, ↓s158_57, ↓s158_59, ↓s158_60, ↓s158_61, ↓s158_62, ↓s158_64, ↓s158_65, ↓s158_68, ↓s158_70, ↓s158_71, ↓s158_72, ↓s158_73, ↓s158_74, ↓s158_75, ↓s158_78, ↓s158_80, ↓s158_81, ↓s158_82, ↓s158_83, ↓s158_84, ↓s158_85, ↓s158_88, ↓s158_90, ↓s158_91, ↓s158_92, ↓s158_93, ↓s158_94, ↓s158_95, ↓s158_98, ↓s158_100, ↓s158_101, ↓s158_102, ↓s158_104, ↓s158_105, ↓s158_106, ↓s158_109, ↓s158_111, ↓s158_112, ↓s158_113, ↓s158_114, ↓s158_117, ↓s158_118, ↓s158_119, ↓s158_120, ↓s158_121, ↓s158_122, ↓s158_123, ↓s158_124, ↓s158_125, ↓s158_128, ↓s158_130, ↓s158_131, ↓s158_132, ↓s158_133, ↓s158_134, ↓s158_135, ↓s158_138, ↓s158_140, ↓s158_141, ↓s158_142, ↓s158_143, ↓s158_144, ↓s158_145, ↓s158_146, ↓s158_149, ↓s158_151, ↓s158_152, ↓R_isOne h ho, kNLn, kNLi, kNLr, va_rf_s, kOl_n, kOl_s, kap_n, kap_c, kb0, kb1, kbif, zif, z0, z1, Bool.false_eq_true, eq_self, not_true_eq_false, not_false_eq_true, if_true, if_false, and_self, true_and, false_and, and_true, and_false, g1, g2, g3, ki_83]
    · simp only [↓s158_0, ↓s158_1, ↓s158_2, ↓s158_5, ↓s158_8, ↓s158_9, ↓s158_10, ↓s158_13, ↓s158_16, ↓s158_17, ↓s158_18, ↓s158_21, ↓s158_24, ↓s158_26, ↓s158_29, ↓s158_32, ↓s158_33, ↓s158_34, ↓s158_35, ↓s158_38, ↓s158_40, ↓s158_41, ↓s158_43, ↓s158_46, ↓s158_48, ↓s158_49, ↓s158_51, ↓s158_53, ↓s158_54, ↓s158_57, ↓s158_59, ↓s158_60, ↓s158_61, ↓s158_62, ↓s158_64, ↓s158_65, ↓s158_68, ↓s158_70, ↓s158_71, ↓s158_72, ↓s158_73, ↓s158_74, ↓s158_75, ↓s158_78, ↓s158_80, ↓s158_81, ↓s158_82, ↓s158_83, ↓s158_84, ↓s158_85, ↓s158_88, ↓s158_90, ↓s158_91, ↓s158_92, ↓s158_93, ↓s158_94, ↓s158_95, ↓s158_98, ↓s158_100, ↓s158_101, ↓s158_102, ↓s158_104, ↓s158_105, ↓s158_106, ↓s158_109, ↓s158_111, ↓s158_112, ↓s158_113, ↓s158_114, ↓s158_117, ↓s158_118, ↓s158_119, ↓s158_120, ↓s158_121, ↓s158_122, ↓s158_123, ↓s158_124, ↓s158_125, ↓s158_128, ↓s158_130, ↓s158_131, ↓s158_132, ↓s158_133, ↓s158_134, ↓s158_135, ↓s158_138, ↓s158_140, ↓s158_141, ↓s158_142, ↓s158_143, ↓s158_144, ↓s158_145, ↓s158_146, ↓s158_149, ↓s158_151, ↓s158_152, ↓R_isOne h ho, kNLn, kNLi, kNLr, va_rf_s, kOl_n, kOl_s, kap_n, kap_c, kb0, kb1, kbif, zif, z0, z1, Bool.false_eq_true, eq_self, not_true_eq_false, not_false_eq_true, if_true, if_false, and_self, true_and, false_and, and_true, and_false, g1, g2, ki_83]
  · simp only [↓s158_0, ↓s158_1, ↓s158_2, ↓s158_5, ↓s158_8, ↓s158_9, ↓s158_10, ↓s158_13, ↓s158_16, ↓s158_17, ↓s158_18, ↓s158_21, ↓s158_24, ↓s158_26, ↓s158_29, ↓s158_32, ↓s158_33, ↓s158_34, ↓s158_35, ↓s158_38, ↓s158_40, ↓s158_41, ↓s158_43, ↓s158_46, ↓s158_48, ↓s158_49, ↓s158_51, ↓s158_53, ↓s158_54, ↓s158_57, ↓s158_59, ↓s158_60, ↓s158_61, ↓s158_62, ↓s158_64, ↓s158_65, ↓s158_68, ↓s158_70, ↓s158_71, ↓s158_72, ↓s158_73, ↓s158_74, ↓s158_75, ↓s158_78, ↓s158_80, ↓s158_81, ↓s158_82, ↓s158_83, ↓s158_84, ↓s158_85, ↓s158_88, ↓s158_90, ↓s158_91, ↓s158_92, ↓s158_93, ↓s158_94, ↓s158_95, ↓s158_98, ↓s158_100, ↓s158_101, ↓s158_102, ↓s158_104, ↓s158_105, ↓s158_106, ↓s158_109, ↓s158_111, ↓s158_112, ↓s158_113, ↓s158_114, ↓s158_117, ↓s158_118, ↓s158_119, ↓s158_120, ↓s158_121, ↓s158_122, ↓s158_123, ↓s158_124, ↓s158_125, ↓s158_128, ↓s158_130, ↓s158_131, ↓s158_132, ↓s158_133, ↓s158_134, ↓s158_135, ↓s158_138, ↓s158_140, ↓s158_141, ↓s158_142, ↓s158_143, ↓s158_144, ↓s158_145, ↓s158_146, ↓s158_149, ↓s158_151, ↓s158_152, ↓R_isOne h ho, kNLn, kNLi, kNLr, va_rf_s, kOl_n, kOl_s, kap_n, kap_c, kb0, kb1, kbif, zif, z0, z1, Bool.false_eq_true, eq_self, not_true_eq_false, not_false_eq_true, if_true, if_false, and_self, true_and, false_and, and_true, and_false, g1, ki_83]
theorem R_write_f {x y z w : Int32} (h : kRR (mi 84) T) (ho : tOK T) (hn : T 0 4 = 6) (hw : gwOK T x y z w) : kJ 158 0 [some (.ref 83), some (.int x), some (.int y), some (.int z), some (.int w), none] [] (mi, ml, MR, 95) Q = Q (some (.int (-3))) (mi, ml, MR, 95) := by
  obtain ⟨g1, g2, g3, g4⟩ := hw
  have h4 := h.1.2.1
  rw [hn] at h4
  have c52 : (nI 52).toNatClampNeg = 52 := rfl
  have v52 : vp_in (nI 52) 222 := vp_in_nI (by decide) (by decide)
  simp only [↓s158_0, ↓s158_1, ↓s158_2, ↓s158_5, ↓s158_8, ↓s158_9, ↓s158_10, ↓s158_13, ↓s158_16, ↓s158_17, ↓s158_18, ↓s158_21, ↓s158_24, ↓s158_26, ↓s158_29, ↓s158_32, ↓s158_33, ↓s158_34, ↓s158_35, ↓s158_38, ↓s158_40, ↓s158_41, ↓s158_43, ↓s158_46, ↓s158_48, ↓s158_49, ↓s158_51, ↓s158_53, ↓s158_54, ↓s158_57, ↓s158_59, ↓s158_60, ↓s158_61, ↓s158_62, ↓s158_64, ↓s158_65, ↓s158_68, ↓s158_70, ↓s158_71, ↓s158_72, ↓s158_73, ↓s158_74, ↓s158_75, ↓s158_78, ↓s158_80, ↓s158_81, ↓s158_82, ↓s158_83, ↓s158_84, ↓s158_85, ↓s158_88, ↓s158_90, ↓s158_91, ↓s158_92, ↓s158_93, ↓s158_94, ↓s158_95, ↓s158_98, ↓s158_100, ↓s158_101, ↓s158_102, ↓s158_104, ↓s158_105, ↓s158_106, ↓s158_109, ↓s158_111, ↓s158_112, ↓s158_113, ↓s158_114, ↓s158_117, ↓s158_118, ↓s158_119, ↓s158_120, ↓s158_121, ↓s158_122, ↓s158_123, ↓s158_124, ↓s158_125, ↓s158_128, ↓s158_130, ↓s158_131, ↓s158_132, ↓s158_133, ↓s158_134, ↓s158_135, ↓s158_138, ↓s158_140, ↓s158_141, ↓s158_142, ↓s158_143, ↓s158_144, ↓s158_145, ↓s158_146, ↓s158_149, ↓s158_151, ↓s158_152, ↓R_isOne h ho, ↓R_isTone, kNLn, kNLi, kNLr, va_rf_s, kOl_n, kOl_s, kap_n, kap_c, kb0, kb1, kbif, zif, z0, z1, Bool.false_eq_true, eq_self, not_true_eq_false, not_false_eq_true, if_true, if_false, and_self, true_and, false_and, and_true, and_false, g1, g2, g3, g4, ki_83, ki_84, kl_84, mr_83_0, c52, v52, h4]
theorem R_write_y (h : kRR (mi 84) T) (ho : tOK T) (hn : T 0 4 < 6) (hf : f < T 0 0) (ht : t < T 0 0) (ha : a < T 0 0) (hv : v < 19) (hQ : ∀ A', kRR A' (taddL T f t a v) → (∀ j, 74 ≤ j → A' j = mi 84 j) → Q (some (.int (nI (T 0 4 + 1)))) (kRow mi 84 A', ml, MR, 95)) : kJ 158 0 [some (.ref 83), some (.int (nI f)), some (.int (nI t)), some (.int (nI a)), some (.int (nI v)), none] [] (mi, ml, MR, 95) Q := by
  have o1 := ho.1
  have g1 : gin (nI f) (T 0 0) = true := gin_nI hf (by omega)
  have g2 : gin (nI t) (T 0 0) = true := gin_nI ht (by omega)
  have g3 : gin (nI a) (T 0 0) = true := gin_nI ha (by omega)
  have g4 : gin (nI v) 19 = true := gin_nI hv (by decide)
  have h4 := h.1.2.1
  have hdoor := h.2.1 f 1 hf (by decide)
  have hne : ¬ nI (T 0 4) = nI 6 := fun z => by have := (nI_eq (by omega) (by decide)).mp z; omega
  have c52 : (nI 52).toNatClampNeg = 52 := rfl
  have v52 : vp_in (nI 52) 222 := vp_in_nI (by decide) (by decide)
  have k0 : (nI (16 + 6 * T 0 4 + 0)).toNatClampNeg = 16 + 6 * T 0 4 + 0 := nI_clamp (by omega)
  have k1 : (nI (16 + 6 * T 0 4 + 1)).toNatClampNeg = 16 + 6 * T 0 4 + 1 := nI_clamp (by omega)
  have k2 : (nI (16 + 6 * T 0 4 + 2)).toNatClampNeg = 16 + 6 * T 0 4 + 2 := nI_clamp (by omega)
  have k3 : (nI (16 + 6 * T 0 4 + 3)).toNatClampNeg = 16 + 6 * T 0 4 + 3 := nI_clamp (by omega)
  have k4 : (nI (16 + 6 * T 0 4 + 4)).toNatClampNeg = 16 + 6 * T 0 4 + 4 := nI_clamp (by omega)
  have k5 : (nI (16 + 6 * T 0 4 + 5)).toNatClampNeg = 16 + 6 * T 0 4 + 5 := nI_clamp (by omega)
  have p0 : vp_in (nI (16 + 6 * T 0 4 + 0)) 222 := vp_in_nI (by omega) (by decide)
  have p1 : vp_in (nI (16 + 6 * T 0 4 + 1)) 222 := vp_in_nI (by omega) (by decide)
  have p2 : vp_in (nI (16 + 6 * T 0 4 + 2)) 222 := vp_in_nI (by omega) (by decide)
  have p3 : vp_in (nI (16 + 6 * T 0 4 + 3)) 222 := vp_in_nI (by omega) (by decide)
  have p4 : vp_in (nI (16 + 6 * T 0 4 + 4)) 222 := vp_in_nI (by omega) (by decide)
  have p5 : vp_in (nI (16 + 6 * T 0 4 + 5)) 222 := vp_in_nI (by omega) (by decide)
  have kd : (nI (3 * f + 1)).toNatClampNeg = 3 * f + 1 := nI_clamp (by omega)
  have pd : vp_in (nI (3 * f + 1)) 222 := vp_in_nI (by omega) (by decide)
  have ed : upd (upd (upd (upd (mi 84) (16 + 6 * T 0 4 + 0) (nI f)) (16 + 6 * T 0 4 + 1) (nI t)) (16 + 6 * T 0 4 + 2) (nI a)) (16 + 6 * T 0 4 + 3) (nI v) (3 * f + 1) = nI (T 2 f) := by
    (repeat (first | rw [pk_us] | rw [pk_un (by omega)])); exact hdoor
  have e52 : upd (upd (upd (upd (upd (upd (mi 84) (16 + 6 * T 0 4 + 0) (nI f)) (16 + 6 * T 0 4 + 1) (nI t)) (16 + 6 * T 0 4 + 2) (nI a)) (16 + 6 * T 0 4 + 3) (nI v)) (16 + 6 * T 0 4 + 4) (nI (T 2 f))) (16 + 6 * T 0 4 + 5) (nI 0) 52 = nI (T 0 4) := by
    (repeat (first | rw [pk_us] | rw [pk_un (by omega)])); exact h4
  have h9 := hQ _ (kRR_addL (t := t) (a := a) (v := v) h ho hn hf) (fun j hj => by (repeat (first | rw [pk_us] | rw [pk_un (by omega)])))
  have e0 : kRow mi 84 (mi 84) = mi := by
    funext q
    unfold kRow
    split
    · next c => rw [c]
    · rfl
  rw [← e0]
  simp only [↓s158_0, ↓s158_1, ↓s158_2, ↓s158_5, ↓s158_8, ↓s158_9, ↓s158_10, ↓s158_13, ↓s158_16, ↓s158_17, ↓s158_18, ↓s158_21, ↓s158_24, ↓s158_26, ↓s158_29, ↓s158_32, ↓s158_33, ↓s158_34, ↓s158_35, ↓s158_38, ↓s158_40, ↓s158_41, ↓s158_43, ↓s158_46, ↓s158_48, ↓s158_49, ↓s158_51, ↓s158_53, ↓s158_54, ↓s158_57, ↓s158_59, ↓s158_60, ↓s158_61, ↓s158_62, ↓s158_64, ↓s158_65, ↓s158_68, ↓s158_70, ↓s158_71, ↓s158_72, ↓s158_73, ↓s158_74, ↓s158_75, ↓s158_78, ↓s158_80, ↓s158_81, ↓s158_82, ↓s158_83, ↓s158_84, ↓s158_85, ↓s158_88, ↓s158_90, ↓s158_91, ↓s158_92, ↓s158_93, ↓s158_94, ↓s158_95, ↓s158_98, ↓s158_100, ↓s158_101, ↓s158_102, ↓s158_104, ↓s158_105, ↓s158_106, ↓s158_109, ↓s158_111, ↓s158_112, ↓s158_113, ↓s158_114, ↓s158_117, ↓s158_118, ↓s158_119, ↓s158_120, ↓s158_121, ↓s158_122, ↓s158_123, ↓s158_124, ↓s158_125, ↓s158_128, ↓s158_130, ↓s158_131, ↓s158_132, ↓s158_133, ↓s158_134, ↓s158_135, ↓s158_138, ↓s158_140, ↓s158_141, ↓s158_142, ↓s158_143, ↓s158_144, ↓s158_145, ↓s158_146, ↓s158_149, ↓s158_151, ↓s158_152, ↓R_isOne (mi := kRow mi 84 (mi 84)) (by rw [e0]; exact h) ho, ↓R_isTone, kNLn, kNLi, kNLr, va_rf_s, kOl_n, kOl_s, kap_n, kap_c, kb0, kb1, kbif, zif, z0, z1, Bool.false_eq_true, eq_self, not_true_eq_false, not_false_eq_true, if_true, if_false, and_self, true_and, false_and, and_true, and_false, g1, g2, g3, g4, ki_83, ki_84, kl_84, mr_83_0, c52, v52, kRow_eq, kRow_up, h4, hne, pk_mul, nI_add, k0, k1, k2, k3, k4, k5, p0, p1, p2, p3, p4, p5, kd, pd, ed, e52, pk_us]
  exact h9
theorem kRow84 {A : Nat → Int32} (hj : ∀ j, 74 ≤ j → A j = mi 84 j) : sR mi (kRow mi 84 A) := ⟨fun q hq => kRow_ne (by omega), fun k hk => by rw [kRow_ne (by omega)], fun j h => by rw [kRow_eq]; exact hj j h⟩
theorem B_write {x y z w : Int32} (hg : gOK S) : bB 63 [some (.ref 0), some (.int x), some (.int y), some (.int z), some (.int w)] 158 [some (.ref 83), some (.int x), some (.int y), some (.int z), some (.int w), none] S := by
  have ho := hg.1.1
  have o1 := ho.1
  have o2 := ho.2.1
  by_cases c : gwOK S.1 x y z w
  · by_cases d : S.1 0 4 < 6
    · obtain ⟨g1, g2, g3, g4⟩ := c
      obtain ⟨f, hf, rfl⟩ := gin_of g1 (by omega)
      obtain ⟨t, ht, rfl⟩ := gin_of g2 (by omega)
      obtain ⟨a, ha, rfl⟩ := gin_of g3 (by omega)
      obtain ⟨v, hv, rfl⟩ := gin_of g4 (by omega)
      exact ⟨_, _, gOK_T hg (tGood_addL hg.1 d hf ht ha hv), fun mi ml Q h hQ => C_write_y h hg d hf ht ha hv hQ, fun mi ml Q h hQ => R_write_y h.1 ho d hf ht ha hv (fun A' hA hj => hQ _ ml (RI_T h (by rw [kRow_eq]; exact hA) (kRow84 hj)) (fun q hq => kRow_ne (by omega)))⟩
    · have e : S.1 0 4 = 6 := by omega
      exact bB_e hg _ (fun _ _ _ h => C_write_f h hg e c) (fun _ _ _ h => R_write_f h.1 ho e c)
  · exact bB_e hg _ (fun _ _ _ h => C_write_n h hg c) (fun _ _ _ h => R_write_n h.1 ho c)
end PUB5
