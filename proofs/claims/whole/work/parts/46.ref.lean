/-! THE REFERENCE's days, by the same mathematical value -/
/-- an array of the reference holds T -/
def kRR (a : Nat → Int32) (T : tT) : Prop :=
  (a 15 = nI (T 0 0) ∧ a 52 = nI (T 0 4) ∧ a 53 = nI (T 0 11) ∧ a 54 = nI (T 0 12) ∧ a 55 = nI (T 0 13)) ∧ (∀ p w, p < T 0 0 → w < 3 → a (3 * p + w) = nI (T (1 + w) p)) ∧ (∀ i w, i < T 0 4 → w < 6 → a (16 + 6 * i + w) = nI (T (4 + w) i)) ∧ (∀ j w, j < T 0 13 → w < 3 → a (56 + 3 * j + w) = nI (T (10 + w) j))
theorem kRR_upP {a : Nat → Int32} {T : tT} {p w v : Nat} (ho : tOK T) (h : kRR a T) (hp : p < T 0 0) (hw : w < 3) : kRR (upd a (3 * p + w) (nI v)) (tup T (1 + w) p v) := by
  obtain ⟨⟨h1, h2, h3, h4, h5⟩, hP, hL, hS⟩ := h
  have o1 := ho.1
  have o2 := ho.2.1
  have o3 := ho.2.2.1
  refine ⟨?_, fun q u hq hu => ?_, fun i u hi hu => ?_, fun j u hj hu => ?_⟩
  · rw [pk_un (by omega), pk_un (by omega), pk_un (by omega), pk_un (by omega), pk_un (by omega), tup_n (by omega), tup_n (by omega), tup_n (by omega), tup_n (by omega), tup_n (by omega)]
    exact ⟨h1, h2, h3, h4, h5⟩
  · rw [tup_n (by omega)] at hq
    by_cases e : q = p ∧ u = w
    · obtain ⟨rfl, rfl⟩ := e
      rw [pk_us, tup_s]
    · rw [pk_un (by omega), tup_n (by omega)]
      exact hP q u hq hu
  · rw [tup_n (by omega)] at hi
    rw [pk_un (by omega), tup_n (by omega)]
    exact hL i u hi hu
  · rw [tup_n (by omega)] at hj
    rw [pk_un (by omega), tup_n (by omega)]
    exact hS j u hj hu
theorem kRR_upL {a : Nat → Int32} {T : tT} {i w v : Nat} (ho : tOK T) (h : kRR a T) (hi : i < T 0 4) (hw : w < 6) : kRR (upd a (16 + 6 * i + w) (nI v)) (tup T (4 + w) i v) := by
  obtain ⟨⟨h1, h2, h3, h4, h5⟩, hP, hL, hS⟩ := h
  have o1 := ho.1
  have o2 := ho.2.1
  have o3 := ho.2.2.1
  refine ⟨?_, fun q u hq hu => ?_, fun k u hk hu => ?_, fun j u hj hu => ?_⟩
  · rw [pk_un (by omega), pk_un (by omega), pk_un (by omega), pk_un (by omega), pk_un (by omega), tup_n (by omega), tup_n (by omega), tup_n (by omega), tup_n (by omega), tup_n (by omega)]
    exact ⟨h1, h2, h3, h4, h5⟩
  · rw [tup_n (by omega)] at hq
    rw [pk_un (by omega), tup_n (by omega)]
    exact hP q u hq hu
  · rw [tup_n (by omega)] at hk
    by_cases e : k = i ∧ u = w
    · obtain ⟨rfl, rfl⟩ := e
      rw [pk_us, tup_s]
    · rw [pk_un (by omega), tup_n (by omega)]
      exact hL k u hk hu
  · rw [tup_n (by omega)] at hj
    rw [pk_un (by omega), tup_n (by omega)]
    exact hS j u hj hu
theorem kRR_day {a : Nat → Int32} {T : tT} {v : Nat} (ho : tOK T) (h : kRR a T) : kRR (upd a 54 (nI v)) (tup T 0 12 v) := by
  obtain ⟨⟨h1, h2, h3, h4, h5⟩, hP, hL, hS⟩ := h
  have o1 := ho.1
  have o2 := ho.2.1
  have o3 := ho.2.2.1
  refine ⟨?_, fun q u hq hu => ?_, fun k u hk hu => ?_, fun j u hj hu => ?_⟩
  · rw [pk_un (by omega), pk_un (by omega), pk_un (by omega), pk_us, pk_un (by omega), tup_n (by omega), tup_n (by omega), tup_n (by omega), tup_s, tup_n (by omega)]
    exact ⟨h1, h2, h3, rfl, h5⟩
  · rw [tup_n (by omega)] at hq
    rw [pk_un (by omega), tup_n (by omega)]
    exact hP q u hq hu
  · rw [tup_n (by omega)] at hk
    rw [pk_un (by omega), tup_n (by omega)]
    exact hL k u hk hu
  · rw [tup_n (by omega)] at hj
    rw [pk_un (by omega), tup_n (by omega)]
    exact hS j u hj hu
/-- the running array, arrivals, readings -/
def kRM (f : Nat → Nat → Int32) (T : tT) (A B : Nat) : Prop := kRR (f 85) T ∧ f 83 14 = nI A ∧ f 83 15 = nI B
def kFq (f g : Nat → Nat → Int32) : Prop := (∀ q, q ≠ 83 → q ≠ 85 → g q = f q) ∧ ∀ k, k ≠ 14 → k ≠ 15 → g 83 k = f 83 k
theorem kFq_rf {f : Nat → Nat → Int32} : kFq f f := ⟨fun _ _ _ => rfl, fun _ _ _ => rfl⟩
theorem kFq_tr {f g h : Nat → Nat → Int32} (h1 : kFq f g) (h2 : kFq g h) : kFq f h := ⟨fun q a b => (h2.1 q a b).trans (h1.1 q a b), fun k a b => (h2.2 k a b).trans (h1.2 k a b)⟩
theorem kFq_up {f g : Nat → Nat → Int32} {k : Nat} {v : Int32} (h : kFq f g) : kFq f (kup g 85 k v) := ⟨fun q a b => (kup_ne b).trans (h.1 q a b), fun k a b => by rw [kup_ne (by omega)]; exact h.2 k a b⟩
theorem kFq_c {f g : Nat → Nat → Int32} {k : Nat} {v : Int32} (h : kFq f g) (hk : k = 14 ∨ k = 15) : kFq f (kup g 83 k v) := ⟨fun q a b => (kup_ne a).trans (h.1 q a b), fun j a b => by rw [kup_eq, pk_un (by omega)]; exact h.2 j a b⟩
/-! its leaves -/
def rfeltI (k t : Int32) : Int32 := if k = nI 1 then nI 2 * (t - nI 9) else if k = nI 2 then (if 0 ≤ t - nI 9 then t - nI 9 else (t - nI 9) / nI 2) else if k = nI 3 then (if 0 ≤ t - nI 9 then t - nI 9 else (t - nI 9) / nI 2) + nI 1 else t - nI 9
def rwithI (v c : Int32) : Int32 := if 0 ≤ v then (if v ≤ c then v else c) else nI 0
def rsendsI (k t : Int32) : Int32 := if k = nI 2 then nI 1 else if k = nI 3 then nI 1 else if k = nI 1 then (if t - nI 9 < nI 0 then nI 0 else nI 1) else (if t - nI 9 < (-3) then nI 0 else nI 1)
def raltI (k t : Int32) : Int32 := rwithI (t + (if k = nI 2 then nI 1 else if k = nI 3 then nI 2 else nI 0)) (nI 18)
theorem rfelt_ok : ∀ m, m < 21 → ∀ k, k < 4 → ∀ t, t < 19 → rwithI (nI m + rfeltI (nI k) (nI t)) (nI 20) = nI (clm ((m : Int) + feel k t)) := by decide +kernel
theorem rfelt_ok2 : ∀ m, m < 21 → ∀ k, k < 4 → ∀ t, t < 19 → rwithI (nI m + rfeltI (nI k) (nI t) / nI 2) (nI 20) = nI (clm ((m : Int) + (feel k t).tdiv 2)) := by decide +kernel
theorem rsends_ok : ∀ k, k < 4 → ∀ t, t < 19 → rsendsI (nI k) (nI t) = if sends k t then nI 1 else nI 0 := by decide +kernel
theorem ralt_ok : ∀ k, k < 4 → ∀ t, t < 19 → raltI (nI k) (nI t) = nI (alt k t) := by decide +kernel
def lgb (a g v : Nat) : Bool := if 0 ≤ nI g - nI a then (if nI v ≤ nI g - nI a then (decide (nI a + nI v = nI (tnear a g v)) && (decide (nI v = nI g - nI a) == decide (tnear a g v = g))) else (decide (nI a + (nI g - nI a) = nI (tnear a g v)) && decide (tnear a g v = g))) else (if nI v ≤ -(nI g - nI a) then (decide (nI a - nI v = nI (tnear a g v)) && (decide (nI v = -(nI g - nI a)) == decide (tnear a g v = g))) else (decide (nI a - -(nI g - nI a) = nI (tnear a g v)) && decide (tnear a g v = g)))
theorem lgb_ok : ∀ a, a < 10 → ∀ g, g < 10 → ∀ v, v < 4 → lgb a g (v + 1) = true := by decide +kernel
theorem lgb_at {a g v : Nat} (ha : a < 10) (hg : g < 10) (hv : v < 5) (h1 : 1 ≤ v) : lgb a g v = true := by
  obtain ⟨u, rfl⟩ : ∃ u, v = u + 1 := ⟨v - 1, by omega⟩
  exact lgb_ok a ha g hg u (by omega)
theorem kRR_eq {a : Nat → Int32} {T U : tT} (e : ∀ r k, U r k = T r k) (h : kRR a T) : kRR a U := by
  have : U = T := funext (fun r => funext (fun k => e r k))
  rw [this]
  exact h
theorem tup_swap {T : tT} {r s k j v u : Nat} (h : ¬ (r = s ∧ k = j)) : ∀ a b, tup (tup T r k v) s j u a b = tup (tup T s j u) r k v a b := by
  intro a b
  by_cases h1 : a = r ∧ b = k
  · obtain ⟨rfl, rfl⟩ := h1
    rw [tup_s, tup_n h, tup_s]
  · rw [tup_n (r := r) h1]
    by_cases h2 : a = s ∧ b = j
    · obtain ⟨rfl, rfl⟩ := h2
      rw [tup_s, tup_s]
    · rw [tup_n h2, tup_n h2, tup_n h1]
section REF
variable {mi : Nat → Nat → Int32} {ml : Nat → Nat → Int64} {m : kMem} {Q : Option Value → kMem → Prop} {i k t p n w A B : Nat} {T : tT}
theorem R_felt {k t : Int32} : kJ 136 0 [some (.int k), some (.int t), none, none] [] m Q = Q (some (.int (rfeltI k t))) m := by
  have h2 : ¬ nI 2 = 0 := by decide
  simp only [↓s136_0, ↓s136_1, ↓s136_3, ↓s136_4, ↓s136_5, ↓s136_6, ↓s136_9, ↓s136_10, ↓s136_11, ↓s136_12, ↓s136_15, ↓s136_16, ↓s136_17, ↓s136_18, ↓s136_19, ↓s136_22, ↓s136_23, ↓s136_24, ↓s136_25, ↓s136_28, ↓s136_29, ↓s136_30, ↓s136_33, ↓s136_34, ↓s136_37, ↓s136_38, ↓s136_39, ↓s136_42, ↓s136_43, ↓s136_44, ↓s136_45, ↓s136_48, ↓s136_49, kNLn, kNLi, kNLr, va_rf_s, kOl_n, kOl_s, kap_n, kap_c, kb0, kb1, kbif, h2, not_false_eq_true]
  unfold rfeltI
  by_cases c4 : 0 ≤ t - nI 9
  · by_cases c1 : k = nI 1
    · simp only [if_pos c1, if_pos c4]
    · by_cases c2 : k = nI 2
      · simp only [if_neg c1, if_pos c2, if_pos c4]
      · by_cases c3 : k = nI 3
        · simp only [if_neg c1, if_neg c2, if_pos c3, if_pos c4]
        · simp only [if_neg c1, if_neg c2, if_neg c3, if_pos c4]
  · by_cases c1 : k = nI 1
    · simp only [if_pos c1, if_neg c4]
    · by_cases c2 : k = nI 2
      · simp only [if_neg c1, if_pos c2, if_neg c4]
      · by_cases c3 : k = nI 3
        · simp only [if_neg c1, if_neg c2, if_pos c3, if_neg c4]
        · simp only [if_neg c1, if_neg c2, if_neg c3, if_neg c4]
theorem R_with {v c : Int32} : kJ 109 0 [some (.int v), some (.int c)] [] m Q = Q (some (.int (rwithI v c))) m := by
  simp only [↓s109_0, ↓s109_1, ↓s109_4, ↓s109_5, ↓s109_8, ↓s109_9, ↓s109_10, ↓s109_13, ↓s109_14, ↓s109_17, ↓s109_18, kNLn, kNLi, kNLr, va_rf_s, kOl_n, kOl_s, kap_n, kap_c, kb0, kb1, kbif]
  unfold rwithI
  by_cases c0 : 0 ≤ v
  · by_cases c1 : v ≤ c
    · simp only [if_pos c0, if_pos c1]
    · simp only [if_pos c0, if_neg c1]
  · simp only [if_neg c0]
theorem R_sends {k t : Int32} : kJ 137 0 [some (.int k), some (.int t), none] [] m Q = Q (some (.int (rsendsI k t))) m := by
  simp only [↓s137_0, ↓s137_1, ↓s137_3, ↓s137_4, ↓s137_5, ↓s137_6, ↓s137_7, ↓s137_10, ↓s137_11, ↓s137_12, ↓s137_15, ↓s137_16, ↓s137_17, ↓s137_18, ↓s137_21, ↓s137_22, ↓s137_25, ↓s137_27, ↓s137_30, ↓s137_31, ↓s137_34, ↓s137_35, kNLn, kNLi, kNLr, va_rf_s, kOl_n, kOl_s, kap_n, kap_c, kb0, kb1, kbif]
  unfold rsendsI
  by_cases c2 : k = nI 2
  · simp only [if_pos c2]
  · by_cases c3 : k = nI 3
    · simp only [if_neg c2, if_pos c3]
    · by_cases c1 : k = nI 1
      · by_cases c4 : t - nI 9 < nI 0
        · simp only [if_neg c2, if_neg c3, if_pos c1, if_pos c4]
        · simp only [if_neg c2, if_neg c3, if_pos c1, if_neg c4]
      · by_cases c4 : t - nI 9 < (-3)
        · simp only [if_neg c2, if_neg c3, if_neg c1, if_pos c4]
        · simp only [if_neg c2, if_neg c3, if_neg c1, if_neg c4]
theorem R_alt {k t : Int32} : kJ 138 0 [some (.int k), some (.int t)] [] m Q = Q (some (.int (raltI k t))) m := by
  simp only [↓s138_0, ↓s138_1, ↓s138_2, ↓s138_3, ↓s138_6, ↓s138_7, ↓s138_10, ↓s138_11, ↓s138_12, ↓s138_15, ↓s138_16, ↓s138_19, ↓s138_20, ↓s138_21, ↓s138_23, ↓s138_26, ↓R_with, kNLn, kNLi, kNLr, va_rf_s, kOl_n, kOl_s, kap_n, kap_c, kb0, kb1, kbif]
  unfold raltI
  by_cases c2 : k = nI 2
  · simp only [if_pos c2]
  · by_cases c3 : k = nI 3
    · simp only [if_neg c2, if_pos c3]
    · simp only [if_neg c2, if_neg c3]
theorem R_of (h : kRR (mi 85) T) (ho : tOK T) (hp : p < T 0 0) (hw : w < 3) : kJ 132 0 [some (.ref 83), some (.int (nI p)), some (.int (nI w))] [] (mi, ml, MR, 95) Q = Q (some (.int (nI (T (1 + w) p)))) (mi, ml, MR, 95) := by
  have o1 := ho.1
  have hc : (nI (3 * p + w)).toNatClampNeg = 3 * p + w := nI_clamp (by omega)
  have hv : vp_in (nI (3 * p + w)) 74 := vp_in_nI (by omega) (by decide)
  simp only [↓s132_0, ↓s132_1, ↓s132_4, ↓s132_5, ↓s132_6, ↓s132_7, ↓s132_8, ↓s132_9, ↓s132_10, kNLn, kNLi, kNLr, va_rf_s, kOl_n, kOl_s, kap_n, kap_c, kb0, kb1, kbif, mr_83_1, ki_83, ki_85, kl_85, pk_mul, nI_add, hc, hv, true_and, h.2.1 p w hp hw]
theorem R_setOf {v : Int32} (hp : p < 5) (hw : w < 3) : kJ 133 0 [some (.ref 83), some (.int (nI p)), some (.int (nI w)), some (.int v)] [] (mi, ml, MR, 95) Q = Q none (kup mi 85 (3 * p + w) v, ml, MR, 95) := by
  have hc : (nI (3 * p + w)).toNatClampNeg = 3 * p + w := nI_clamp (by omega)
  have hv : vp_in (nI (3 * p + w)) 74 := vp_in_nI (by omega) (by decide)
  simp only [↓s133_0, ↓s133_1, ↓s133_4, ↓s133_5, ↓s133_6, ↓s133_7, ↓s133_8, ↓s133_9, ↓s133_10, ↓s133_11, kNLn, kNLi, kNLr, va_rf_s, kOl_n, kOl_s, kap_n, kap_c, kb0, kb1, kbif, mr_83_1, ki_83, ki_85, kl_85, pk_mul, nI_add, hc, hv, true_and]
theorem R_ofL (h : kRR (mi 85) T) (ho : tOK T) (hi : i < T 0 4) (hw : w < 6) : kJ 134 0 [some (.ref 83), some (.int (nI i)), some (.int (nI w))] [] (mi, ml, MR, 95) Q = Q (some (.int (nI (T (4 + w) i)))) (mi, ml, MR, 95) := by
  have o1 := ho.2.1
  have hc : (nI (16 + 6 * i + w)).toNatClampNeg = 16 + 6 * i + w := nI_clamp (by omega)
  have hv : vp_in (nI (16 + 6 * i + w)) 74 := vp_in_nI (by omega) (by decide)
  simp only [↓s134_0, ↓s134_1, ↓s134_4, ↓s134_6, ↓s134_8, ↓s134_9, ↓s134_10, ↓s134_11, ↓s134_12, ↓s134_13, ↓s134_14, kNLn, kNLi, kNLr, va_rf_s, kOl_n, kOl_s, kap_n, kap_c, kb0, kb1, kbif, mr_83_1, ki_83, ki_85, kl_85, pk_mul, nI_add, hc, hv, true_and, h.2.2.1 i w hi hw]
theorem R_setL {v : Int32} (hi : i < 6) (hw : w < 6) : kJ 135 0 [some (.ref 83), some (.int (nI i)), some (.int (nI w)), some (.int v)] [] (mi, ml, MR, 95) Q = Q none (kup mi 85 (16 + 6 * i + w) v, ml, MR, 95) := by
  have hc : (nI (16 + 6 * i + w)).toNatClampNeg = 16 + 6 * i + w := nI_clamp (by omega)
  have hv : vp_in (nI (16 + 6 * i + w)) 74 := vp_in_nI (by omega) (by decide)
  simp only [↓s135_0, ↓s135_1, ↓s135_4, ↓s135_6, ↓s135_8, ↓s135_9, ↓s135_10, ↓s135_11, ↓s135_12, ↓s135_13, ↓s135_14, ↓s135_15, kNLn, kNLi, kNLr, va_rf_s, kOl_n, kOl_s, kap_n, kap_c, kb0, kb1, kbif, mr_83_1, ki_83, ki_85, kl_85, pk_mul, nI_add, hc, hv, true_and]
theorem R_way (h : kRR (mi 85) T) (ho : tOK T) (hi : i < T 0 4) : kJ 139 0 [some (.ref 83), some (.int (nI i))] [] (mi, ml, MR, 95) Q = Q (some (.int (if tway T i = true then nI 1 else nI 0))) (mi, ml, MR, 95) := by
  have hl := (ho.2.2.2.2.2.2.1 i hi).2.2.2.2.2
  have e5 : ∀ Q', kJ 134 0 [some (.ref 83), some (.int (nI i)), some (.int (nI 5))] [] (mi, ml, MR, 95) Q' = Q' (some (.int (nI (T 9 i)))) (mi, ml, MR, 95) := fun Q' => R_ofL h ho hi (w := 5) (by decide)
  simp only [↓s139_0, ↓s139_1, ↓s139_2, ↓s139_3, ↓s139_6, ↓s139_7, ↓s139_10, ↓s139_11, ↓s139_14, ↓s139_15, ↓e5, kNLn, kNLi, kNLr, va_rf_s, kOl_n, kOl_s, kap_n, kap_c, kb0, kb1, kbif, ki_83]
  by_cases c : tway T i = true
  · have := of_decide_eq_true c
    rw [if_pos c, if_neg (nI_ge (by omega) (by omega))]
  · have h2 : ¬ T 9 i < 2 := fun z => c (decide_eq_true z)
    rw [if_neg c, if_pos (nI_le (by omega) (by omega))]
theorem R_whom (h : kRR (mi 85) T) (ho : tOK T) (hi : i < T 0 4) : kJ 140 0 [some (.ref 83), some (.int (nI i))] [] (mi, ml, MR, 95) Q = Q (some (.int (nI (twhom T i)))) (mi, ml, MR, 95) := by
  have hl := (ho.2.2.2.2.2.2.1 i hi).2.2.2.2.2
  have e5 : ∀ Q', kJ 134 0 [some (.ref 83), some (.int (nI i)), some (.int (nI 5))] [] (mi, ml, MR, 95) Q' = Q' (some (.int (nI (T 9 i)))) (mi, ml, MR, 95) := fun Q' => R_ofL h ho hi (w := 5) (by decide)
  have e2 : ∀ Q', kJ 134 0 [some (.ref 83), some (.int (nI i)), some (.int (nI 2))] [] (mi, ml, MR, 95) Q' = Q' (some (.int (nI (T 6 i)))) (mi, ml, MR, 95) := fun Q' => R_ofL h ho hi (w := 2) (by decide)
  have e1 : ∀ Q', kJ 134 0 [some (.ref 83), some (.int (nI i)), some (.int (nI 1))] [] (mi, ml, MR, 95) Q' = Q' (some (.int (nI (T 5 i)))) (mi, ml, MR, 95) := fun Q' => R_ofL h ho hi (w := 1) (by decide)
  simp only [↓s140_0, ↓s140_1, ↓s140_2, ↓s140_3, ↓s140_6, ↓s140_9, ↓s140_10, ↓s140_11, ↓s140_12, ↓s140_15, ↓s140_18, ↓s140_19, ↓s140_20, ↓s140_21, ↓s140_24, ↓e5, ↓e2, ↓e1, kNLn, kNLi, kNLr, va_rf_s, kOl_n, kOl_s, kap_n, kap_c, kb0, kb1, kbif, ki_83]
  unfold twhom
  by_cases c : T 9 i = 0
  · rw [if_pos c, if_pos (by rw [c]; rfl)]
  · rw [if_neg c, if_neg (fun z => c (by rw [kz (by omega)] at z; exact z))]
/-- one is moved -/
theorem R_moved {v : Int32} {x : Nat} (h : kRM mi T A B) (ho : tOK T) (hp : p < T 0 0) (hx : rwithI (nI (T 3 p) + v) (nI 20) = nI x) (hQ : ∀ mi', kRM mi' (tup T 3 p x) A (B + 1) → kFq mi mi' → Q none (mi', ml, MR, 95)) : kJ 141 0 [some (.ref 83), some (.int (nI p)), some (.int v)] [] (mi, ml, MR, 95) Q := by
  obtain ⟨hR, hA, hB⟩ := h
  have hp5 : p < 5 := Nat.lt_of_lt_of_le hp ho.1
  have e2 : ∀ Q', kJ 132 0 [some (.ref 83), some (.int (nI p)), some (.int (nI 2))] [] (mi, ml, MR, 95) Q' = Q' (some (.int (nI (T 3 p)))) (mi, ml, MR, 95) := fun Q' => R_of hR ho hp (w := 2) (by decide)
  have e3 : ∀ v' Q', kJ 133 0 [some (.ref 83), some (.int (nI p)), some (.int (nI 2)), some (.int v')] [] (mi, ml, MR, 95) Q' = Q' none (kup mi 85 (3 * p + 2) v', ml, MR, 95) := fun v' Q' => R_setOf hp5 (by decide)
  have hB2 : kup mi 85 (3 * p + 2) (nI x) 83 15 = nI B := by rw [kup_ne (by decide)]; exact hB
  simp only [↓s141_0, ↓s141_1, ↓s141_2, ↓s141_3, ↓s141_4, ↓s141_5, ↓s141_6, ↓s141_9, ↓s141_10, ↓s141_11, ↓s141_13, ↓s141_16, ↓s141_19, ↓s141_20, ↓s141_21, ↓s141_24, ↓s141_25, ↓s141_26, ↓s141_29, ↓e2, ↓e3, ↓R_with, hx, kNLn, kNLi, kNLr, va_rf_s, kOl_n, kOl_s, kap_n, kap_c, kb0, kb1, kbif, ki_83, hB2, nI_add]
  refine hQ _ ⟨?_, ?_, ?_⟩ (kFq_c (kFq_up kFq_rf) (Or.inr rfl))
  · rw [kup_ne (by decide), kup_eq]
    exact kRR_upP ho hR hp (by decide)
  · rw [kup_eq, pk_un (by decide), kup_ne (by decide)]
    exact hA
  · rw [kup_eq, pk_us]
theorem kz1 : nI 1 = 1 := rfl
/-- a letter is read -/
theorem R_isRead (h : kRM mi T A B) (ho : tOK T) (hi : i < T 0 4) (hw : T 9 i < 2) (hQ : ∀ mi', kRM mi' (tread T i) (A + (if T 9 i = 1 then 1 else 0)) (B + 1) → kFq mi mi' → Q none (mi', ml, MR, 95)) : kJ 142 0 [some (.ref 83), some (.int (nI i)), none, none, none, none] [] (mi, ml, MR, 95) Q := by
  obtain ⟨hR, hA, hB⟩ := id h
  have hi6 : i < 6 := Nat.lt_of_lt_of_le hi ho.2.1
  have hwl := twhom_lt ho hi
  obtain ⟨hk4, -, hm20⟩ := ho.2.2.2.2.2.1 _ hwl
  obtain ⟨-, -, -, ht18, -, -⟩ := ho.2.2.2.2.2.2.1 i hi
  have eL : ∀ (mi1 : Nat → Nat → Int32) (T1 : tT), kRR (mi1 85) T1 → tOK T1 → i < T1 0 4 → ∀ Q', kJ 134 0 [some (.ref 83), some (.int (nI i)), some (.int (nI 5))] [] (mi1, ml, MR, 95) Q' = Q' (some (.int (nI (T1 9 i)))) (mi1, ml, MR, 95) := fun mi1 T1 h1 o1 i1 Q' => R_ofL h1 o1 i1 (w := 5) (by decide)
  have e3 : ∀ Q', kJ 134 0 [some (.ref 83), some (.int (nI i)), some (.int (nI 3))] [] (mi, ml, MR, 95) Q' = Q' (some (.int (nI (T 7 i)))) (mi, ml, MR, 95) := fun Q' => R_ofL hR ho hi (w := 3) (by decide)
  have e0 : ∀ Q', kJ 132 0 [some (.ref 83), some (.int (nI (twhom T i))), some (.int (nI 0))] [] (mi, ml, MR, 95) Q' = Q' (some (.int (nI (T 1 (twhom T i))))) (mi, ml, MR, 95) := fun Q' => R_of hR ho hwl (w := 0) (by decide)
  have s5 : ∀ (mi1 : Nat → Nat → Int32) (v : Int32) Q', kJ 135 0 [some (.ref 83), some (.int (nI i)), some (.int (nI 5)), some (.int v)] [] (mi1, ml, MR, 95) Q' = Q' none (kup mi1 85 (16 + 6 * i + 5) v, ml, MR, 95) := fun mi1 v Q' => R_setL hi6 (by decide)
  have s3 : ∀ (mi1 : Nat → Nat → Int32) (v : Int32) Q', kJ 135 0 [some (.ref 83), some (.int (nI i)), some (.int (nI 3)), some (.int v)] [] (mi1, ml, MR, 95) Q' = Q' none (kup mi1 85 (16 + 6 * i + 3) v, ml, MR, 95) := fun mi1 v Q' => R_setL hi6 (by decide)
  have hn2 : ¬ nI 2 = 0 := by decide
  have hs := rsends_ok _ hk4 (T 7 i) (by omega)
  have ha := ralt_ok _ hk4 (T 7 i) (by omega)
  rcases (by omega : T 9 i = 0 ∨ T 9 i = 1) with hl | hl
  · simp only [↓s142_0, ↓s142_1, ↓s142_2, ↓s142_5, ↓s142_6, ↓s142_7, ↓s142_8, ↓s142_9, ↓s142_12, ↓s142_13, ↓s142_14, ↓s142_15, ↓s142_16, ↓s142_19, ↓s142_21, ↓s142_23, ↓s142_24, ↓s142_27, ↓s142_29, ↓s142_30, ↓s142_31, ↓s142_32, ↓s142_35, ↓s142_36, ↓s142_39, ↓s142_40, ↓s142_41, ↓s142_43, ↓s142_44, ↓s142_45, ↓s142_48, ↓s142_49, ↓s142_50, ↓s142_51, ↓s142_52, ↓s142_55, ↓s142_56, ↓s142_57, ↓s142_60, ↓s142_61, ↓s142_62, ↓s142_65, ↓s142_66, ↓s142_67, ↓s142_68, ↓s142_70, ↓s142_73, ↓s142_74, ↓s142_75, ↓s142_76, ↓s142_78, ↓s142_79, ↓s142_82, ↓s142_85, ↓s142_86, ↓s142_89, ↓s142_90, ↓s142_93, ↓s142_94, ↓s142_95, ↓s142_96, ↓s142_98, ↓s142_99, ↓s142_102, ↓s142_105, ↓s142_107, ↓s142_108, ↓s142_111, ↓s142_114, ↓s142_115, ↓s142_118, ↓R_whom hR ho hi, ↓e3, ↓e0, ↓eL mi T hR ho hi, ↓R_felt, kNLn, kNLi, kNLr, va_rf_s, kOl_n, kOl_s, kap_n, kap_c, kb0, kb1, kbif, ki_83, hl, n00, if_false, hn2, not_false_eq_true]
    refine R_moved h ho hwl (rfelt_ok _ (by omega) _ hk4 (T 7 i) (by omega)) (fun mi1 h1 f1 => ?_)
    obtain ⟨hR1, hA1, hB1⟩ := h1
    have o1 : tOK (tup T 3 (twhom T i) (clm ((T 3 (twhom T i) : Int) + feel (T 1 (twhom T i)) (T 7 i)))) := tOK_up3 ho (clm_le _)
    simp only [↓s142_0, ↓s142_1, ↓s142_2, ↓s142_5, ↓s142_6, ↓s142_7, ↓s142_8, ↓s142_9, ↓s142_12, ↓s142_13, ↓s142_14, ↓s142_15, ↓s142_16, ↓s142_19, ↓s142_21, ↓s142_23, ↓s142_24, ↓s142_27, ↓s142_29, ↓s142_30, ↓s142_31, ↓s142_32, ↓s142_35, ↓s142_36, ↓s142_39, ↓s142_40, ↓s142_41, ↓s142_43, ↓s142_44, ↓s142_45, ↓s142_48, ↓s142_49, ↓s142_50, ↓s142_51, ↓s142_52, ↓s142_55, ↓s142_56, ↓s142_57, ↓s142_60, ↓s142_61, ↓s142_62, ↓s142_65, ↓s142_66, ↓s142_67, ↓s142_68, ↓s142_70, ↓s142_73, ↓s142_74, ↓s142_75, ↓s142_76, ↓s142_78, ↓s142_79, ↓s142_82, ↓s142_85, ↓s142_86, ↓s142_89, ↓s142_90, ↓s142_93, ↓s142_94, ↓s142_95, ↓s142_96, ↓s142_98, ↓s142_99, ↓s142_102, ↓s142_105, ↓s142_107, ↓s142_108, ↓s142_111, ↓s142_114, ↓s142_115, ↓s142_118, ↓R_sends, ↓R_alt, ↓s5, ↓s3, kNLn, kNLi, kNLr, va_rf_s, kOl_n, kOl_s, kap_n, kap_c, kb0, kb1, kbif, ki_83, hs, ha, zif]
    unfold tread at hQ
    simp only [hl] at hQ
    by_cases hsd : sends (T 1 (twhom T i)) (T 7 i) = true
    · simp only [if_neg (not_not_intro hsd)]
      rw [if_neg (by decide), if_pos hsd, if_neg (by decide)] at hQ
      refine hQ _ ⟨?_, ?_, ?_⟩ (kFq_tr f1 (kFq_up (kFq_up kFq_rf)))
      · rw [kup_eq, kup_eq]
        have r1 := kRR_upL (v := 1) o1 hR1 (i := i) (w := 5) (by rw [tup_n (by omega)]; exact hi) (by decide)
        have r2 := kRR_upL (v := alt (T 1 (twhom T i)) (T 7 i)) (tOK_upL (r := 9) (k := i) (v := 1) o1 (by omega)) r1 (i := i) (w := 3) (by rw [tup_n (by omega), tup_n (by omega)]; exact hi) (by decide)
        refine kRR_eq (fun r k => ?_) r2
        exact tup_swap (by omega) r k
      · rw [kup_ne (by decide), kup_ne (by decide)]; exact hA1
      · rw [kup_ne (by decide), kup_ne (by decide)]; exact hB1
    · simp only [if_pos hsd]
      rw [if_neg (by decide), if_neg hsd, if_neg (by decide)] at hQ
      refine hQ _ ⟨?_, ?_, ?_⟩ (kFq_tr f1 (kFq_up (kFq_up kFq_rf)))
      · rw [kup_eq, kup_eq]
        have r1 := kRR_upL (v := 3) o1 hR1 (i := i) (w := 5) (by rw [tup_n (by omega)]; exact hi) (by decide)
        have r2 := kRR_upL (v := T 7 i) (tOK_upL (r := 9) (k := i) (v := 3) o1 (by omega)) r1 (i := i) (w := 3) (by rw [tup_n (by omega), tup_n (by omega)]; exact hi) (by decide)
        refine kRR_eq (fun r k => ?_) r2
        by_cases hrk : r = 7 ∧ k = i
        · obtain ⟨rfl, rfl⟩ := hrk
          rw [tup_s, tup_n (by omega), tup_n (by omega)]
        · rw [tup_n (r := 4 + 3) (by omega)]
      · rw [kup_ne (by decide), kup_ne (by decide)]; exact hA1
      · rw [kup_ne (by decide), kup_ne (by decide)]; exact hB1
  · simp only [↓s142_0, ↓s142_1, ↓s142_2, ↓s142_5, ↓s142_6, ↓s142_7, ↓s142_8, ↓s142_9, ↓s142_12, ↓s142_13, ↓s142_14, ↓s142_15, ↓s142_16, ↓s142_19, ↓s142_21, ↓s142_23, ↓s142_24, ↓s142_27, ↓s142_29, ↓s142_30, ↓s142_31, ↓s142_32, ↓s142_35, ↓s142_36, ↓s142_39, ↓s142_40, ↓s142_41, ↓s142_43, ↓s142_44, ↓s142_45, ↓s142_48, ↓s142_49, ↓s142_50, ↓s142_51, ↓s142_52, ↓s142_55, ↓s142_56, ↓s142_57, ↓s142_60, ↓s142_61, ↓s142_62, ↓s142_65, ↓s142_66, ↓s142_67, ↓s142_68, ↓s142_70, ↓s142_73, ↓s142_74, ↓s142_75, ↓s142_76, ↓s142_78, ↓s142_79, ↓s142_82, ↓s142_85, ↓s142_86, ↓s142_89, ↓s142_90, ↓s142_93, ↓s142_94, ↓s142_95, ↓s142_96, ↓s142_98, ↓s142_99, ↓s142_102, ↓s142_105, ↓s142_107, ↓s142_108, ↓s142_111, ↓s142_114, ↓s142_115, ↓s142_118, ↓R_whom hR ho hi, ↓e3, ↓e0, ↓eL mi T hR ho hi, ↓R_felt, kNLn, kNLi, kNLr, va_rf_s, kOl_n, kOl_s, kap_n, kap_c, kb0, kb1, kbif, ki_83, hl, if_true, hn2, not_false_eq_true]
    refine R_moved h ho hwl (rfelt_ok2 _ (by omega) _ hk4 (T 7 i) (by omega)) (fun mi1 h1 f1 => ?_)
    obtain ⟨hR1, hA1, hB1⟩ := h1
    have hA2 : kup mi1 85 (16 + 6 * i + 5) (nI 2) 83 14 = nI A := by rw [kup_ne (by decide)]; exact hA1
    simp only [↓s142_0, ↓s142_1, ↓s142_2, ↓s142_5, ↓s142_6, ↓s142_7, ↓s142_8, ↓s142_9, ↓s142_12, ↓s142_13, ↓s142_14, ↓s142_15, ↓s142_16, ↓s142_19, ↓s142_21, ↓s142_23, ↓s142_24, ↓s142_27, ↓s142_29, ↓s142_30, ↓s142_31, ↓s142_32, ↓s142_35, ↓s142_36, ↓s142_39, ↓s142_40, ↓s142_41, ↓s142_43, ↓s142_44, ↓s142_45, ↓s142_48, ↓s142_49, ↓s142_50, ↓s142_51, ↓s142_52, ↓s142_55, ↓s142_56, ↓s142_57, ↓s142_60, ↓s142_61, ↓s142_62, ↓s142_65, ↓s142_66, ↓s142_67, ↓s142_68, ↓s142_70, ↓s142_73, ↓s142_74, ↓s142_75, ↓s142_76, ↓s142_78, ↓s142_79, ↓s142_82, ↓s142_85, ↓s142_86, ↓s142_89, ↓s142_90, ↓s142_93, ↓s142_94, ↓s142_95, ↓s142_96, ↓s142_98, ↓s142_99, ↓s142_102, ↓s142_105, ↓s142_107, ↓s142_108, ↓s142_111, ↓s142_114, ↓s142_115, ↓s142_118, ↓s5, ↓s3, kNLn, kNLi, kNLr, va_rf_s, kOl_n, kOl_s, kap_n, kap_c, kb0, kb1, kbif, ki_83, hA2, nI_add]
    unfold tread at hQ
    simp only [hl, if_true] at hQ
    refine hQ _ ⟨?_, ?_, ?_⟩ (kFq_tr f1 (kFq_c (kFq_up kFq_rf) (Or.inl rfl)))
    · rw [kup_ne (by decide), kup_eq]
      exact kRR_upL (tOK_up3 ho (clm_le _)) hR1 (by rw [tup_n (by omega)]; exact hi) (by decide)
    · rw [kup_eq, pk_us]
    · rw [kup_eq, pk_un (by decide), kup_ne (by decide)]; exact hB1
end REF
