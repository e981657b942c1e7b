/-! public methods: burn, forget, letter, feels, tone -/
theorem kCR_sc {b k v : Nat} {T : tT} {mi : Nat → Nat → Int32} (h : kCR b T mi) (hk : k = 4 ∨ k = 13) (hv : v ≤ T 0 k) : kCR b (tup T 0 k v) (kup mi b k (nI v)) := by
  obtain ⟨⟨h0, h4, h11, h12, h13⟩, hrow⟩ := h
  refine ⟨?_, fun a j h1 h2 h3 => ?_⟩
  · rcases hk with rfl | rfl
    · rw [kup_eq, pk_un (by omega), pk_us, pk_un (by omega), pk_un (by omega), pk_un (by omega), tup_n (by omega), tup_s, tup_n (by omega), tup_n (by omega), tup_n (by omega)]
      exact ⟨h0, rfl, h11, h12, h13⟩
    · rw [kup_eq, pk_un (by omega), pk_un (by omega), pk_un (by omega), pk_un (by omega), pk_us, tup_n (by omega), tup_n (by omega), tup_n (by omega), tup_n (by omega), tup_s]
      exact ⟨h0, h4, h11, h12, rfl⟩
  · have h3' : j < tcnt T a := by
      rcases hk with rfl | rfl
      · unfold tcnt at h3 ⊢
        rw [tup_n (by omega), tup_s, tup_n (by omega)] at h3
        split at h3
        · next c => rw [if_pos c]; exact h3
        · next c =>
          rw [if_neg c]
          split at h3
          · next c2 => rw [if_pos c2]; omega
          · next c2 => rw [if_neg c2]; exact h3
      · unfold tcnt at h3 ⊢
        rw [tup_n (by omega), tup_n (by omega), tup_s] at h3
        split at h3
        · next c => rw [if_pos c]; exact h3
        · next c =>
          rw [if_neg c]
          split at h3
          · next c2 => rw [if_pos c2]; exact h3
          · next c2 => rw [if_neg c2]; omega
    rw [kup_ne (by omega), tup_n (by omega)]
    exact hrow a j h1 h2 h3'
theorem kRR_let {a : Nat → Int32} {T : tT} {v : Nat} (ho : tOK T) (h : kRR a T) (hv : v ≤ T 0 4) : kRR (upd a 52 (nI v)) (tup T 0 4 v) := by
  obtain ⟨⟨h1, h2, h3, h4, h5⟩, hP, hL, hS⟩ := h
  have o1 := ho.1
  have o2 := ho.2.1
  have o3 := ho.2.2.1
  refine ⟨?_, fun q u hq hu => ?_, fun k u hk hu => ?_, fun j u hj hu => ?_⟩
  · rw [pk_un (by omega), pk_us, pk_un (by omega), pk_un (by omega), pk_un (by omega), tup_n (by omega), tup_s, tup_n (by omega), tup_n (by omega), tup_n (by omega)]
    exact ⟨h1, rfl, h3, h4, h5⟩
  · rw [tup_n (by omega)] at hq
    rw [pk_un (by omega), tup_n (by omega)]
    exact hP q u hq hu
  · rw [tup_s] at hk
    rw [pk_un (by omega), tup_n (by omega)]
    exact hL k u (by omega) hu
  · rw [tup_n (by omega)] at hj
    rw [pk_un (by omega), tup_n (by omega)]
    exact hS j u hj hu
theorem kRR_seen {a : Nat → Int32} {T : tT} {v : Nat} (ho : tOK T) (h : kRR a T) (hv : v ≤ T 0 13) : kRR (upd a 55 (nI v)) (tup T 0 13 v) := by
  obtain ⟨⟨h1, h2, h3, h4, h5⟩, hP, hL, hS⟩ := h
  have o1 := ho.1
  have o2 := ho.2.1
  have o3 := ho.2.2.1
  refine ⟨?_, fun q u hq hu => ?_, fun k u hk hu => ?_, fun j u hj hu => ?_⟩
  · rw [pk_un (by omega), pk_un (by omega), pk_un (by omega), pk_un (by omega), pk_us, tup_n (by omega), tup_n (by omega), tup_n (by omega), tup_n (by omega), tup_s]
    exact ⟨h1, h2, h3, h4, rfl⟩
  · rw [tup_n (by omega)] at hq
    rw [pk_un (by omega), tup_n (by omega)]
    exact hP q u hq hu
  · rw [tup_n (by omega)] at hk
    rw [pk_un (by omega), tup_n (by omega)]
    exact hL k u hk hu
  · rw [tup_s] at hj
    rw [pk_un (by omega), tup_n (by omega)]
    exact hS j u (by omega) hu
theorem tGood_sc {T : tT} {k v : Nat} (h : tGood T) (hk : k = 4 ∨ k = 13) (hv : v ≤ T 0 k) : tGood (tup T 0 k v) := by
  obtain ⟨⟨h1, h2, h3, h4, h5, h6, h7, h8⟩, hd⟩ := h
  have e : ∀ r j, ¬ (r = 0 ∧ j = k) → tup T 0 k v r j = T r j := fun r j hr => tup_n hr
  have e0 : tup T 0 k v 0 0 = T 0 0 := e 0 0 (by omega)
  have e4 : tup T 0 k v 0 4 ≤ T 0 4 := by
    rcases hk with rfl | rfl
    · rw [tup_s]; exact hv
    · rw [e 0 4 (by omega)]; exact Nat.le_refl _
  have e13 : tup T 0 k v 0 13 ≤ T 0 13 := by
    rcases hk with rfl | rfl
    · rw [e 0 13 (by omega)]; exact Nat.le_refl _
    · rw [tup_s]; exact hv
  refine ⟨⟨by rw [e0]; exact h1, Nat.le_trans e4 h2, Nat.le_trans e13 h3, by rw [e 0 11 (by omega)]; exact h4, by rw [e 0 12 (by omega)]; exact h5, fun p hp => ?_, fun i hi => ?_, fun j hj => ?_⟩, by rw [e 0 12 (by omega)]; exact hd⟩
  · rw [e0] at hp
    rw [e 1 p (by omega), e 2 p (by omega), e 3 p (by omega)]
    exact h6 p hp
  · rw [e0, e 4 i (by omega), e 5 i (by omega), e 6 i (by omega), e 7 i (by omega), e 8 i (by omega), e 9 i (by omega)]
    exact h7 i (by omega)
  · rw [e0, e 10 j (by omega), e 11 j (by omega), e 12 j (by omega)]
    exact h8 j (by omega)
theorem zif2 {c : Prop} [Decidable c] : ((if c then nI 1 else nI 0) = 0) = ¬ c := zif
section PUB2
variable {mi : Nat → Nat → Int32} {ml : Nat → Nat → Int64} {m : kMem} {Q : Option Value → kMem → Prop} {S : gS}
theorem C_burn_y {v : Nat} (h : CI S mi) (hg : gOK S) (hv : v ≤ S.1 0 4) (hQ : ∀ mi', CI (tup S.1 0 4 v, S.2) mi' → fC mi mi' → Q (some (.int (nI (S.1 0 4)))) (mi', ml, MR, 95)) : kJ 64 0 [some (.ref 0), some (.int (nI v)), none] [] (mi, ml, MR, 95) Q := by
  have o2 := hg.1.1.2.1
  have hok : gin (nI v) (S.1 0 4 + 1) = true := gin_nI (by omega) (by omega)
  have hw : ∀ Q', kJ 90 0 [some (.int (nI v)), some (.int (nI 0)), some (.int (nI (S.1 0 4)))] [] (mi, ml, MR, 95) Q' = Q' (some (.int (nI 1))) (mi, ml, MR, 95) := fun Q' => by rw [J_withinG (by omega), if_pos hok]
  simp only [↓s64_0, ↓s64_1, ↓s64_2, ↓s64_3, ↓s64_6, ↓s64_9, ↓s64_12, ↓s64_15, ↓s64_16, ↓s64_17, ↓s64_18, ↓s64_21, ↓s64_24, ↓s64_25, ↓s64_26, ↓s64_29, ↓s64_30, ↓s64_33, ↓s64_34, kNLn, kNLi, kNLr, va_rf_s, kOl_n, kOl_s, kap_n, kap_c, kb0, kb1, kbif, ki_0, ki_1, mr_0_0, h.1.1.2.1, ↓hw, z1, if_false]
  have f1 : kFr 1 mi (kup mi 1 4 (nI v)) := kFr_up0 kFr_rf
  exact hQ _ (CI_T h (kCR_sc h.1 (Or.inl rfl) hv) (sC_now f1)) (fC_now f1)
theorem C_burn_n {x : Int32} (h : CI S mi) (hg : gOK S) (hx : ¬ gin x (S.1 0 4 + 1) = true) : kJ 64 0 [some (.ref 0), some (.int x), none] [] (mi, ml, MR, 95) Q = Q (some (.int (-1))) (mi, ml, MR, 95) := by
  have o2 := hg.1.1.2.1
  have hw : ∀ Q', kJ 90 0 [some (.int x), some (.int (nI 0)), some (.int (nI (S.1 0 4)))] [] (mi, ml, MR, 95) Q' = Q' (some (.int (nI 0))) (mi, ml, MR, 95) := fun Q' => by rw [J_withinG (by omega), if_neg hx]
  simp only [↓s64_0, ↓s64_1, ↓s64_2, ↓s64_3, ↓s64_6, ↓s64_9, ↓s64_12, ↓s64_15, ↓s64_16, ↓s64_17, ↓s64_18, ↓s64_21, ↓s64_24, ↓s64_25, ↓s64_26, ↓s64_29, ↓s64_30, ↓s64_33, ↓s64_34, kNLn, kNLi, kNLr, va_rf_s, kOl_n, kOl_s, kap_n, kap_c, kb0, kb1, kbif, ki_0, ki_1, mr_0_0, h.1.1.2.1, ↓hw, z0, if_true]
theorem C_forget_y {v : Nat} (h : CI S mi) (hg : gOK S) (hv : v ≤ S.1 0 13) (hQ : ∀ mi', CI (tup S.1 0 13 v, S.2) mi' → fC mi mi' → Q (some (.int (nI (S.1 0 13)))) (mi', ml, MR, 95)) : kJ 78 0 [some (.ref 0), some (.int (nI v)), none] [] (mi, ml, MR, 95) Q := by
  have o2 := hg.1.1.2.2.1
  have hok : gin (nI v) (S.1 0 13 + 1) = true := gin_nI (by omega) (by omega)
  have hw : ∀ Q', kJ 90 0 [some (.int (nI v)), some (.int (nI 0)), some (.int (nI (S.1 0 13)))] [] (mi, ml, MR, 95) Q' = Q' (some (.int (nI 1))) (mi, ml, MR, 95) := fun Q' => by rw [J_withinG (by omega), if_pos hok]
  simp only [↓s78_0, ↓s78_1, ↓s78_2, ↓s78_3, ↓s78_6, ↓s78_9, ↓s78_12, ↓s78_15, ↓s78_16, ↓s78_17, ↓s78_18, ↓s78_21, ↓s78_24, ↓s78_25, ↓s78_26, ↓s78_29, ↓s78_30, ↓s78_33, ↓s78_34, kNLn, kNLi, kNLr, va_rf_s, kOl_n, kOl_s, kap_n, kap_c, kb0, kb1, kbif, ki_0, ki_1, mr_0_0, h.1.1.2.2.2.2, ↓hw, z1, if_false]
  have f1 : kFr 1 mi (kup mi 1 13 (nI v)) := kFr_up0 kFr_rf
  exact hQ _ (CI_T h (kCR_sc h.1 (Or.inr rfl) hv) (sC_now f1)) (fC_now f1)
theorem C_forget_n {x : Int32} (h : CI S mi) (hg : gOK S) (hx : ¬ gin x (S.1 0 13 + 1) = true) : kJ 78 0 [some (.ref 0), some (.int x), none] [] (mi, ml, MR, 95) Q = Q (some (.int (-1))) (mi, ml, MR, 95) := by
  have o2 := hg.1.1.2.2.1
  have hw : ∀ Q', kJ 90 0 [some (.int x), some (.int (nI 0)), some (.int (nI (S.1 0 13)))] [] (mi, ml, MR, 95) Q' = Q' (some (.int (nI 0))) (mi, ml, MR, 95) := fun Q' => by rw [J_withinG (by omega), if_neg hx]
  simp only [↓s78_0, ↓s78_1, ↓s78_2, ↓s78_3, ↓s78_6, ↓s78_9, ↓s78_12, ↓s78_15, ↓s78_16, ↓s78_17, ↓s78_18, ↓s78_21, ↓s78_24, ↓s78_25, ↓s78_26, ↓s78_29, ↓s78_30, ↓s78_33, ↓s78_34, kNLn, kNLi, kNLr, va_rf_s, kOl_n, kOl_s, kap_n, kap_c, kb0, kb1, kbif, ki_0, ki_1, mr_0_0, h.1.1.2.2.2.2, ↓hw, z0, if_true]
theorem nI64 {n : Nat} (h : n < 2 ^ 31) : (nI n).toInt64.toInt = ((n + 1 : Nat) : Int) - 1 := by
  rw [toI64, nI_toInt h]; omega
theorem R_burn_y {v : Nat} (h : RI S mi) (hg : gOK S) (hv : v ≤ S.1 0 4) (hQ : ∀ mi', RI (tup S.1 0 4 v, S.2) mi' → fR mi mi' → Q (some (.int (nI (S.1 0 4)))) (mi', ml, MR, 95)) : kJ 159 0 [some (.ref 83), some (.int (nI v))] [] (mi, ml, MR, 95) Q := by
  have o2 := hg.1.1.2.1
  have c52 : (nI 52).toNatClampNeg = 52 := rfl
  have v52 : vp_in (nI 52) 222 := vp_in_nI (by decide) (by decide)
  have hok : gin (nI v) (S.1 0 4 + 1) = true := gin_nI (by omega) (by omega)
  have hbk : ∀ Q', kJ 153 0 [some (.ref 83), some (.int (nI 52)), some (.int (nI v)), none] [] (mi, ml, MR, 95) Q' = Q' (some (.int (mi 84 52))) (kup mi 84 52 (nI v), ml, MR, 95) := fun Q' => R_becomes (by decide)
  simp only [↓s159_0, ↓s159_1, ↓s159_2, ↓s159_3, ↓s159_4, ↓s159_7, ↓s159_9, ↓s159_10, ↓s159_11, ↓s159_14, ↓s159_17, ↓s159_18, ↓s159_20, ↓s159_21, ↓s159_24, ↓s159_27, ↓s159_28, ↓R_in, ↓hbk, kNLn, kNLi, kNLr, va_rf_s, kOl_n, kOl_s, kap_n, kap_c, kb0, kb1, kbif, ki_83, ki_84, kl_84, mr_83_0, c52, v52, true_and, h.1.1.2.1, gin_r (nI64 (by omega : S.1 0 4 < 2 ^ 31)), if_pos hok, z1, if_false]
  refine hQ _ (RI_T h ?_ (sR_84 (by decide))) fR_84
  rw [kup_eq]
  exact kRR_let hg.1.1 h.1 hv
theorem R_burn_n {x : Int32} (h : RI S mi) (hg : gOK S) (hx : ¬ gin x (S.1 0 4 + 1) = true) : kJ 159 0 [some (.ref 83), some (.int x)] [] (mi, ml, MR, 95) Q = Q (some (.int (-1))) (mi, ml, MR, 95) := by
  have o2 := hg.1.1.2.1
  have c52 : (nI 52).toNatClampNeg = 52 := rfl
  have v52 : vp_in (nI 52) 222 := vp_in_nI (by decide) (by decide)
  simp only [↓s159_0, ↓s159_1, ↓s159_2, ↓s159_3, ↓s159_4, ↓s159_7, ↓s159_9, ↓s159_10, ↓s159_11, ↓s159_14, ↓s159_17, ↓s159_18, ↓s159_20, ↓s159_21, ↓s159_24, ↓s159_27, ↓s159_28, ↓R_in, kNLn, kNLi, kNLr, va_rf_s, kOl_n, kOl_s, kap_n, kap_c, kb0, kb1, kbif, ki_83, ki_84, kl_84, mr_83_0, c52, v52, true_and, h.1.1.2.1, gin_r (nI64 (by omega : S.1 0 4 < 2 ^ 31)), if_neg hx, z0, if_true]
theorem R_forget_y {v : Nat} (h : RI S mi) (hg : gOK S) (hv : v ≤ S.1 0 13) (hQ : ∀ mi', RI (tup S.1 0 13 v, S.2) mi' → fR mi mi' → Q (some (.int (nI (S.1 0 13)))) (mi', ml, MR, 95)) : kJ 181 0 [some (.ref 83), some (.int (nI v))] [] (mi, ml, MR, 95) Q := by
  have o2 := hg.1.1.2.2.1
  have c52 : (nI 55).toNatClampNeg = 55 := rfl
  have v52 : vp_in (nI 55) 222 := vp_in_nI (by decide) (by decide)
  have hok : gin (nI v) (S.1 0 13 + 1) = true := gin_nI (by omega) (by omega)
  have hbk : ∀ Q', kJ 153 0 [some (.ref 83), some (.int (nI 55)), some (.int (nI v)), none] [] (mi, ml, MR, 95) Q' = Q' (some (.int (mi 84 55))) (kup mi 84 55 (nI v), ml, MR, 95) := fun Q' => R_becomes (by decide)
  simp only [↓s181_0, ↓s181_1, ↓s181_2, ↓s181_3, ↓s181_4, ↓s181_7, ↓s181_9, ↓s181_10, ↓s181_11, ↓s181_14, ↓s181_17, ↓s181_18, ↓s181_20, ↓s181_21, ↓s181_24, ↓s181_27, ↓s181_28, ↓R_in, ↓hbk, kNLn, kNLi, kNLr, va_rf_s, kOl_n, kOl_s, kap_n, kap_c, kb0, kb1, kbif, ki_83, ki_84, kl_84, mr_83_0, c52, v52, true_and, h.1.1.2.2.2.2, gin_r (nI64 (by omega : S.1 0 13 < 2 ^ 31)), if_pos hok, z1, if_false]
  refine hQ _ (RI_T h ?_ (sR_84 (by decide))) fR_84
  rw [kup_eq]
  exact kRR_seen hg.1.1 h.1 hv
theorem R_forget_n {x : Int32} (h : RI S mi) (hg : gOK S) (hx : ¬ gin x (S.1 0 13 + 1) = true) : kJ 181 0 [some (.ref 83), some (.int x)] [] (mi, ml, MR, 95) Q = Q (some (.int (-1))) (mi, ml, MR, 95) := by
  have o2 := hg.1.1.2.2.1
  have c52 : (nI 55).toNatClampNeg = 55 := rfl
  have v52 : vp_in (nI 55) 222 := vp_in_nI (by decide) (by decide)
  simp only [↓s181_0, ↓s181_1, ↓s181_2, ↓s181_3, ↓s181_4, ↓s181_7, ↓s181_9, ↓s181_10, ↓s181_11, ↓s181_14, ↓s181_17, ↓s181_18, ↓s181_20, ↓s181_21, ↓s181_24, ↓s181_27, ↓s181_28, ↓R_in, kNLn, kNLi, kNLr, va_rf_s, kOl_n, kOl_s, kap_n, kap_c, kb0, kb1, kbif, ki_83, ki_84, kl_84, mr_83_0, c52, v52, true_and, h.1.1.2.2.2.2, gin_r (nI64 (by omega : S.1 0 13 < 2 ^ 31)), if_neg hx, z0, if_true]
/-! tone: the letter is on its way, or STATE -/
theorem C_put {q p most v : Nat} {f0 : Nat} (hq : kIs 95 q 10 = true) (hl : p < kAl q) (hl2 : kAl q ≤ 2000) (hm : most < 1000) (hv : v ≤ most) (h0 : mi q p = nI f0) : kJ 93 0 [some (.ref q), some (.int (nI p)), some (.int (nI v)), some (.int (nI most)), none] [] (mi, ml, MR, 95) Q = Q (some (.int (nI f0))) (kup mi q p (nI v), ml, MR, 95) := by
  have hok : gin (nI v) (most + 1) = true := gin_nI (by omega) (by omega)
  have hw : ∀ Q', kJ 90 0 [some (.int (nI v)), some (.int (nI 0)), some (.int (nI most))] [] (mi, ml, MR, 95) Q' = Q' (some (.int (nI 1))) (mi, ml, MR, 95) := fun Q' => by rw [J_withinG (by omega), if_pos hok]
  have hc : (nI p).toNatClampNeg = p := nI_clamp (by omega)
  have hvp : vp_in (nI p) (kAl q) := vp_in_nI hl (by omega)
  simp only [↓s93_0, ↓s93_1, ↓s93_2, ↓s93_3, ↓s93_6, ↓s93_9, ↓s93_10, ↓s93_11, ↓s93_12, ↓s93_13, ↓s93_14, ↓s93_16, ↓s93_17, ↓s93_18, ↓s93_19, ↓s93_20, ↓s93_22, ↓hw, kNLn, kNLi, kNLr, va_rf_s, kOl_n, kOl_s, kap_n, kap_c, kb0, kb1, kbif, hq, hc, hvp, true_and, h0, z1, if_false]
theorem C_tone_y {i v : Nat} (h : CI S mi) (hg : gOK S) (hi : i < S.1 0 4) (hv : v < 19) (hw : tway S.1 i = true) (hQ : ∀ mi', CI (tup S.1 7 i v, S.2) mi' → fC mi mi' → Q (some (.int (nI (S.1 7 i)))) (mi', ml, MR, 95)) : kJ 61 0 [some (.ref 0), some (.int (nI i)), some (.int (nI v))] [] (mi, ml, MR, 95) Q := by
  have ho := hg.1.1
  have o2 := ho.2.1
  have hok : gin (nI i) (S.1 0 4) = true := gin_nI hi (by omega)
  have hok2 : gin (nI v) (18 + 1) = true := gin_nI hv (by decide)
  have hw1 : ∀ Q', kJ 90 0 [some (.int (nI v)), some (.int (nI 0)), some (.int (nI 18))] [] (mi, ml, MR, 95) Q' = Q' (some (.int (nI 1))) (mi, ml, MR, 95) := fun Q' => by rw [J_withinG (by decide), if_pos hok2]
  have hh : ∀ Q', kJ 8 0 [some (.ref 1), some (.int (nI i))] [] (mi, ml, MR, 95) Q' = Q' (some (.int (nI 1))) (mi, ml, MR, 95) := fun Q' => by rw [J_hasLetterG kPost_1 h.1 ho, if_pos hok]
  have hy : ∀ Q', kJ 9 0 [some (.ref 1), some (.int (nI i))] [] (mi, ml, MR, 95) Q' = Q' (some (.int (nI 1))) (mi, ml, MR, 95) := fun Q' => by rw [J_wayT kPost_1 h.1 ho hi, if_pos hw]
  have ht := kCR_row h.1 (r := 7) (j := i) (by omega) (by omega) (by rw [tcnt_l (by omega) (by omega)]; exact hi)
  have hp : ∀ Q', kJ 93 0 [some (.ref 8), some (.int (nI i)), some (.int (nI v)), some (.int (nI 18)), none] [] (mi, ml, MR, 95) Q' = Q' (some (.int (nI (S.1 7 i)))) (kup mi 8 i (nI v), ml, MR, 95) := fun Q' => C_put ki_8 (by rw [kl_8]; omega) (by rw [kl_8]; decide) (by decide) (by omega) ht
  simp only [↓s61_0, ↓s61_1, ↓s61_4, ↓s61_5, ↓s61_8, ↓s61_11, ↓s61_12, ↓s61_13, ↓s61_15, ↓s61_18, ↓s61_21, ↓s61_22, ↓s61_23, ↓s61_24, ↓s61_27, ↓s61_28, ↓s61_31, ↓s61_34, ↓s61_36, ↓s61_37, ↓s61_38, ↓s61_41, ↓s61_44, ↓s61_45, ↓s61_46, ↓s61_48, ↓s61_51, ↓hw1, ↓hh, ↓hy, ↓hp, kNLn, kNLi, kNLr, va_rf_s, kOl_n, kOl_s, kap_n, kap_c, kb0, kb1, kbif, ki_0, ki_1, mr_0_0, mr_1_8, z1, if_false]
  have f1 : kFr 1 mi (kup mi (1 + 7) i (nI v)) := kFr_up kFr_rf (by omega)
  exact hQ _ (CI_T h (kCR_up (r := 7) h.1 (by omega)) (sC_now f1)) (fC_now f1)
theorem C_tone_s {i v : Nat} (h : CI S mi) (hg : gOK S) (hi : i < S.1 0 4) (hv : v < 19) (hw : ¬ tway S.1 i = true) : kJ 61 0 [some (.ref 0), some (.int (nI i)), some (.int (nI v))] [] (mi, ml, MR, 95) Q = Q (some (.int (-2))) (mi, ml, MR, 95) := by
  have ho := hg.1.1
  have o2 := ho.2.1
  have hok : gin (nI i) (S.1 0 4) = true := gin_nI hi (by omega)
  have hok2 : gin (nI v) (18 + 1) = true := gin_nI hv (by decide)
  have hw1 : ∀ Q', kJ 90 0 [some (.int (nI v)), some (.int (nI 0)), some (.int (nI 18))] [] (mi, ml, MR, 95) Q' = Q' (some (.int (nI 1))) (mi, ml, MR, 95) := fun Q' => by rw [J_withinG (by decide), if_pos hok2]
  have hh : ∀ Q', kJ 8 0 [some (.ref 1), some (.int (nI i))] [] (mi, ml, MR, 95) Q' = Q' (some (.int (nI 1))) (mi, ml, MR, 95) := fun Q' => by rw [J_hasLetterG kPost_1 h.1 ho, if_pos hok]
  have hy : ∀ Q', kJ 9 0 [some (.ref 1), some (.int (nI i))] [] (mi, ml, MR, 95) Q' = Q' (some (.int (nI 0))) (mi, ml, MR, 95) := fun Q' => by rw [J_wayT kPost_1 h.1 ho hi, if_neg hw]
  simp only [↓s61_0, ↓s61_1, ↓s61_4, ↓s61_5, ↓s61_8, ↓s61_11, ↓s61_12, ↓s61_13, ↓s61_15, ↓s61_18, ↓s61_21, ↓s61_22, ↓s61_23, ↓s61_24, ↓s61_27, ↓s61_28, ↓s61_31, ↓s61_34, ↓s61_36, ↓s61_37, ↓s61_38, ↓s61_41, ↓s61_44, ↓s61_45, ↓s61_46, ↓s61_48, ↓s61_51, ↓hw1, ↓hh, ↓hy, kNLn, kNLi, kNLr, va_rf_s, kOl_n, kOl_s, kap_n, kap_c, kb0, kb1, kbif, ki_0, ki_1, mr_0_0, z1, z0, if_false, if_true]
theorem C_tone_n {x y : Int32} (h : CI S mi) (hg : gOK S) (hx : ¬ (gin x (S.1 0 4) = true ∧ gin y 19 = true)) : kJ 61 0 [some (.ref 0), some (.int x), some (.int y)] [] (mi, ml, MR, 95) Q = Q (some (.int (-1))) (mi, ml, MR, 95) := by
  have ho := hg.1.1
  have hw1 : ∀ Q', kJ 90 0 [some (.int y), some (.int (nI 0)), some (.int (nI 18))] [] (mi, ml, MR, 95) Q' = Q' (some (.int (if gin y 19 = true then nI 1 else nI 0))) (mi, ml, MR, 95) := fun Q' => J_withinG (by decide)
  simp only [↓s61_0, ↓s61_1, ↓s61_4, ↓s61_5, ↓s61_8, ↓s61_11, ↓s61_12, ↓s61_13, ↓s61_15, ↓s61_18, ↓s61_21, ↓s61_22, ↓s61_23, ↓s61_24, ↓s61_27, ↓s61_28, ↓s61_31, ↓s61_34, ↓s61_36, ↓s61_37, ↓s61_38, ↓s61_41, ↓s61_44, ↓s61_45, ↓s61_46, ↓s61_48, ↓s61_51, ↓hw1, ↓J_hasLetterG kPost_1 h.1 ho, kNLn, kNLi, kNLr, va_rf_s, kOl_n, kOl_s, kap_n, kap_c, kb0, kb1, kbif, ki_0, ki_1, mr_0_0, zif]
  by_cases c1 : gin x (S.1 0 4) = true
  · have c2 : ¬ gin y 19 = true := fun z => hx ⟨c1, z⟩
    rw [if_neg (not_not_intro c1), if_pos c2]
  · rw [if_pos c1]
theorem R_tone_y {i v : Nat} (h : RI S mi) (hg : gOK S) (hi : i < S.1 0 4) (hv : v < 19) (hw : tway S.1 i = true) (hQ : ∀ mi', RI (tup S.1 7 i v, S.2) mi' → fR mi mi' → Q (some (.int (nI (S.1 7 i)))) (mi', ml, MR, 95)) : kJ 156 0 [some (.ref 83), some (.int (nI i)), some (.int (nI v))] [] (mi, ml, MR, 95) Q := by
  have ho := hg.1.1
  have o2 := ho.2.1
  have hok : gin (nI i) (S.1 0 4) = true := gin_nI hi (by omega)
  have hok2 : gin (nI v) 19 = true := gin_nI hv (by decide)
  have hl : ¬ nI 2 ≤ nI (S.1 9 i) := nI_ge (of_decide_eq_true hw) (by decide)
  have hbk : ∀ Q', kJ 153 0 [some (.ref 83), some (.int (nI (16 + 6 * i + 3))), some (.int (nI v)), none] [] (mi, ml, MR, 95) Q' = Q' (some (.int (mi 84 (16 + 6 * i + 3)))) (kup mi 84 (16 + 6 * i + 3) (nI v), ml, MR, 95) := fun Q' => R_becomes (by omega)
  simp only [↓s156_0, ↓s156_1, ↓s156_2, ↓s156_5, ↓s156_8, ↓s156_9, ↓s156_12, ↓s156_15, ↓s156_16, ↓s156_17, ↓s156_18, ↓s156_19, ↓s156_22, ↓s156_23, ↓s156_26, ↓s156_28, ↓s156_31, ↓s156_32, ↓s156_34, ↓s156_36, ↓s156_37, ↓s156_38, ↓s156_39, ↓s156_40, ↓s156_41, ↓s156_42, ↓s156_45, ↓R_isLetter h.1 ho, ↓R_isTone, ↓R_legOf h.1 ho hi, ↓hbk, kNLn, kNLi, kNLr, va_rf_s, kOl_n, kOl_s, kap_n, kap_c, kb0, kb1, kbif, ki_83, if_pos hok, if_pos hok2, z1, if_false, if_neg hl, pk_mul, nI_add, h.1.2.2.1 i 3 hi (by decide)]
  rw [if_pos (Int32.not_le.mp hl)]
  refine hQ _ (RI_T h ?_ (sR_84 (k := 16 + 6 * i + 3) (by omega))) fR_84
  rw [kup_eq]
  exact kRR_upL ho h.1 hi (by decide)
theorem R_tone_s {i v : Nat} (h : RI S mi) (hg : gOK S) (hi : i < S.1 0 4) (hv : v < 19) (hw : ¬ tway S.1 i = true) : kJ 156 0 [some (.ref 83), some (.int (nI i)), some (.int (nI v))] [] (mi, ml, MR, 95) Q = Q (some (.int (-2))) (mi, ml, MR, 95) := by
  have ho := hg.1.1
  have o2 := ho.2.1
  have hok : gin (nI i) (S.1 0 4) = true := gin_nI hi (by omega)
  have hok2 : gin (nI v) 19 = true := gin_nI hv (by decide)
  have hl3 := (ho.2.2.2.2.2.2.1 i hi).2.2.2.2.2
  have h2 : ¬ S.1 9 i < 2 := fun z => hw (decide_eq_true z)
  have hl : nI 2 ≤ nI (S.1 9 i) := nI_le (by omega) (by omega)
  simp only [↓s156_0, ↓s156_1, ↓s156_2, ↓s156_5, ↓s156_8, ↓s156_9, ↓s156_12, ↓s156_15, ↓s156_16, ↓s156_17, ↓s156_18, ↓s156_19, ↓s156_22, ↓s156_23, ↓s156_26, ↓s156_28, ↓s156_31, ↓s156_32, ↓s156_34, ↓s156_36, ↓s156_37, ↓s156_38, ↓s156_39, ↓s156_40, ↓s156_41, ↓s156_42, ↓s156_45, ↓R_isLetter h.1 ho, ↓R_isTone, ↓R_legOf h.1 ho hi, kNLn, kNLi, kNLr, va_rf_s, kOl_n, kOl_s, kap_n, kap_c, kb0, kb1, kbif, ki_83, if_pos hok, if_pos hok2, z1, if_false, if_neg (Int32.not_lt.mpr hl)]
theorem R_tone_n {x y : Int32} (h : RI S mi) (hg : gOK S) (hx : ¬ (gin x (S.1 0 4) = true ∧ gin y 19 = true)) : kJ 156 0 [some (.ref 83), some (.int x), some (.int y)] [] (mi, ml, MR, 95) Q = Q (some (.int (-1))) (mi, ml, MR, 95) := by
  have ho := hg.1.1
  simp only [↓s156_0, ↓s156_1, ↓s156_2, ↓s156_5, ↓s156_8, ↓s156_9, ↓s156_12, ↓s156_15, ↓s156_16, ↓s156_17, ↓s156_18, ↓s156_19, ↓s156_22, ↓s156_23, ↓s156_26, ↓s156_28, ↓s156_31, ↓s156_32, ↓s156_34, ↓s156_36, ↓s156_37, ↓s156_38, ↓s156_39, ↓s156_40, ↓s156_41, ↓s156_42, ↓s156_45, ↓R_isLetter h.1 ho, ↓R_isTone, kNLn, kNLi, kNLr, va_rf_s, kOl_n, kOl_s, kap_n, kap_c, kb0, kb1, kbif, ki_83, zif]
  by_cases c1 : gin x (S.1 0 4) = true
  · have c2 : ¬ gin y 19 = true := fun z => hx ⟨c1, z⟩
    rw [if_neg (not_not_intro c1), if_pos c2]
  · rw [if_pos c1]
end PUB2
