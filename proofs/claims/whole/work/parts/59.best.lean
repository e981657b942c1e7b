/-! what is best: say, about, kind, swap, stop, need -/
def jst (s : Int32 × Int32) (w v : Int32) : Int32 × Int32 := if v ≤ s.2 then s else (w, v)
def jF (s0 : Int32 × Int32) (w v : Nat → Int32) : Nat → Int32 × Int32
  | 0 => s0
  | k + 1 => jst (jF s0 w v k) (w k) (v k)
def jC (s0 : Int32 × Int32) (c : Nat → Bool) (w v : Nat → Int32) : Nat → Int32 × Int32
  | 0 => s0
  | k + 1 => if c k = true then jst (jC s0 c w v k) (w k) (v k) else jC s0 c w v k
def jA (s0 : Int32 × Int32) (N : Nat) (w v : Nat → Nat → Int32) : Nat → Int32 × Int32
  | 0 => s0
  | a + 1 => jF (jA s0 N w v a) (w a) (v a) (N - (a + 1))
def jtold (s : Int32 × Int32) (x : Int32) : Int32 := if s.1 = (-4) then (-4) else if x = 0 then s.1 else s.2
def cJ (s : Int32 × Int32) (f : Nat → Nat → Int32) : Prop := f 27 0 = s.1 ∧ f 27 1 = s.2
def rJ (s : Int32 × Int32) (f : Nat → Nat → Int32) : Prop := f 83 16 = s.1 ∧ f 83 17 = s.2
theorem tOK_upA {T : tT} {r k v : Nat} (h : tOK T) (hr : r = 4 ∨ r = 5 ∨ r = 6) (hv : v < T 0 0) : tOK (tup T r k v) := by
  obtain ⟨h1, h2, h3, h4, h5, h6, h7, h8⟩ := h
  have e : ∀ a j, a ≠ r → tup T r k v a j = T a j := fun a j ha => tup_n (fun z => ha z.1)
  refine ⟨by rw [e 0 0 (by omega)]; exact h1, by rw [e 0 4 (by omega)]; exact h2, by rw [e 0 13 (by omega)]; exact h3, by rw [e 0 11 (by omega)]; exact h4, by rw [e 0 12 (by omega)]; exact h5, fun p hp => ?_, fun i hi => ?_, fun j hj => ?_⟩
  · rw [e 0 0 (by omega)] at hp
    rw [e 1 p (by omega), e 2 p (by omega), e 3 p (by omega)]
    exact h6 p hp
  · rw [e 0 4 (by omega)] at hi
    obtain ⟨g1, g2, g3, g4, g5, g6⟩ := h7 i hi
    rw [e 0 0 (by omega), e 7 i (by omega), e 8 i (by omega), e 9 i (by omega)]
    refine ⟨?_, ?_, ?_, g4, g5, g6⟩
    · by_cases hq : 4 = r ∧ i = k
      · obtain ⟨rfl, rfl⟩ := hq; rw [tup_s]; exact hv
      · rw [tup_n hq]; exact g1
    · by_cases hq : 5 = r ∧ i = k
      · obtain ⟨rfl, rfl⟩ := hq; rw [tup_s]; exact hv
      · rw [tup_n hq]; exact g2
    · by_cases hq : 6 = r ∧ i = k
      · obtain ⟨rfl, rfl⟩ := hq; rw [tup_s]; exact hv
      · rw [tup_n hq]; exact g3
  · rw [e 0 13 (by omega)] at hj
    rw [e 0 0 (by omega), e 10 j (by omega), e 11 j (by omega), e 12 j (by omega)]
    exact h8 j hj
section BEST
variable {mi : Nat → Nat → Int32} {ml : Nat → Nat → Int64} {m : kMem} {Q : Option Value → kMem → Prop} {S : gS} {T : tT} {b p n f t a v d i : Nat} {s : Int32 × Int32}
theorem C_above {x : Int32} (hQ : ∀ mi', cJ ((-4), x) mi' → (∀ q, q ≠ 27 → mi' q = mi q) → Q none (mi', ml, MR, 95)) : kJ 1 0 [some (.ref 27), some (.int x)] [] (mi, ml, MR, 95) Q := by
  simp only [↓s1_0, ↓s1_1, ↓s1_3, ↓s1_6, ↓s1_7, ↓s1_8, ↓s1_11, kNLn, kNLi, kNLr, va_rf_s, kOl_n, kOl_s, kap_n, kap_c, kb0, kb1, kbif, ki_27]
  refine hQ _ ⟨?_, ?_⟩ (fun q hq => by rw [kup_ne hq, kup_ne hq])
  · rw [kup_eq, pk_un (by decide), kup_eq, pk_us]
  · rw [kup_eq, pk_us]
theorem C_weigh {w v : Int32} (h : cJ s mi) (hQ : ∀ mi', cJ (jst s w v) mi' → (∀ q, q ≠ 27 → mi' q = mi q) → Q none (mi', ml, MR, 95)) : kJ 2 0 [some (.ref 27), some (.int w), some (.int v)] [] (mi, ml, MR, 95) Q := by
  simp only [↓s2_0, ↓s2_1, ↓s2_2, ↓s2_5, ↓s2_8, ↓s2_9, ↓s2_10, ↓s2_13, ↓s2_14, ↓s2_15, ↓s2_18, kNLn, kNLi, kNLr, va_rf_s, kOl_n, kOl_s, kap_n, kap_c, kb0, kb1, kbif, ki_27, h.2]
  unfold jst at hQ
  by_cases c : v ≤ s.2
  · rw [if_pos c]
    rw [if_pos c] at hQ
    exact hQ mi h (fun _ _ => rfl)
  · rw [if_neg c]
    rw [if_neg c] at hQ
    refine hQ _ ⟨?_, ?_⟩ (fun q hq => by rw [kup_ne hq, kup_ne hq])
    · rw [kup_eq, pk_un (by decide), kup_eq, pk_us]
    · rw [kup_eq, pk_us]
theorem C_told {x : Int32} (h : cJ s mi) : kJ 3 0 [some (.ref 27), some (.int x)] [] (mi, ml, MR, 95) Q = Q (some (.int (jtold s x))) (mi, ml, MR, 95) := by
  simp only [↓s3_0, ↓s3_1, ↓s3_4, ↓s3_6, ↓s3_9, ↓s3_10, ↓s3_13, ↓s3_14, ↓s3_17, ↓s3_20, ↓s3_21, ↓s3_24, kNLn, kNLi, kNLr, va_rf_s, kOl_n, kOl_s, kap_n, kap_c, kb0, kb1, kbif, ki_27, h.1, h.2]
  unfold jtold
  by_cases c : s.1 = (-4)
  · rw [if_pos c, if_pos c, c]
  · rw [if_neg c, if_neg c]
    by_cases e : x = 0
    · rw [if_pos e, if_pos e]
    · rw [if_neg e, if_neg e]
theorem R_above {x : Int32} (hQ : ∀ mi', rJ ((-4), x) mi' → wR mi mi' → Q none (mi', ml, MR, 95)) : kJ 165 0 [some (.ref 83), some (.int x)] [] (mi, ml, MR, 95) Q := by
  simp only [↓s165_0, ↓s165_1, ↓s165_3, ↓s165_6, ↓s165_7, ↓s165_8, ↓s165_11, kNLn, kNLi, kNLr, va_rf_s, kOl_n, kOl_s, kap_n, kap_c, kb0, kb1, kbif, ki_83]
  refine hQ _ ⟨?_, ?_⟩ (wR_tr (wR_up (by omega)) (wR_up (by omega)))
  · rw [kup_eq, pk_un (by decide), kup_eq, pk_us]
  · rw [kup_eq, pk_us]
theorem R_judges {w v : Int32} (h : rJ s mi) (hQ : ∀ mi', rJ (jst s w v) mi' → wR mi mi' → Q none (mi', ml, MR, 95)) : kJ 166 0 [some (.ref 83), some (.int w), some (.int v)] [] (mi, ml, MR, 95) Q := by
  simp only [↓s166_0, ↓s166_1, ↓s166_2, ↓s166_5, ↓s166_8, ↓s166_9, ↓s166_10, ↓s166_13, ↓s166_14, ↓s166_15, ↓s166_18, kNLn, kNLi, kNLr, va_rf_s, kOl_n, kOl_s, kap_n, kap_c, kb0, kb1, kbif, ki_83, h.2]
  unfold jst at hQ
  by_cases c : v ≤ s.2
  · rw [if_pos c]
    rw [if_pos c] at hQ
    exact hQ mi h wR_rf
  · rw [if_neg c]
    rw [if_neg c] at hQ
    refine hQ _ ⟨?_, ?_⟩ (wR_tr (wR_up (by omega)) (wR_up (by omega)))
    · rw [kup_eq, pk_un (by decide), kup_eq, pk_us]
    · rw [kup_eq, pk_us]
theorem R_judged {x : Int32} (h : rJ s mi) : kJ 167 0 [some (.ref 83), some (.int x)] [] (mi, ml, MR, 95) Q = Q (some (.int (jtold s x))) (mi, ml, MR, 95) := by
  simp only [↓s167_0, ↓s167_1, ↓s167_4, ↓s167_6, ↓s167_9, ↓s167_11, ↓s167_14, ↓s167_15, ↓s167_18, ↓s167_19, ↓s167_22, ↓s167_25, ↓s167_26, ↓s167_29, kNLn, kNLi, kNLr, va_rf_s, kOl_n, kOl_s, kap_n, kap_c, kb0, kb1, kbif, ki_83, h.1, h.2]
  unfold jtold
  by_cases c : s.1 = (-4)
  · rw [if_pos c, if_pos c]
  · rw [if_neg c, if_neg c]
    by_cases e : x = 0
    · rw [if_pos e, if_pos e]
    · rw [if_neg e, if_neg e]
theorem cJ_14 {f g : Nat → Nat → Int32} (h : cJ s f) (e : kFr 14 f g) : cJ s g := by
  unfold cJ
  rw [e 27 (by omega)]
  exact h
theorem rJ_q {f g : Nat → Nat → Int32} (h : rJ s f) (e : kFq f g) : rJ s g := by
  unfold rJ
  rw [e.2 16 (by omega) (by omega), e.2 17 (by omega) (by omega)]
  exact h
theorem rJ_85 {f : Nat → Nat → Int32} {k : Nat} {x : Int32} (h : rJ s f) : rJ s (kup f 85 k x) := by
  unfold rJ
  rw [kup_ne (by decide)]
  exact h
theorem wC_27 {f g : Nat → Nat → Int32} (e : ∀ q, q ≠ 27 → g q = f q) : wC f g := fun q a _ _ => e q (by omega)
/-- the reference's mostBy -/
theorem R_most {cell many : Nat} {x : Int32} {F : Nat → tT} (h : kRR (mi 84) T) (ho : tOK T) (hc : cell < 74) (hm : many ≤ 30) (hn : n < 100) (hf : ∀ v, v < many → tOK (F v) ∧ F v 0 12 + n < 2000 ∧ ∀ a, kRR a T → kRR (upd a cell (nI v)) (F v)) (hQ : ∀ mi', wR mi mi' → Q (some (.int (jtold (jF ((-4), (-1)) (fun v => nI v) (fun v => nI (tmoods (tdays n (F v)))) many) x))) (mi', ml, MR, 95)) : kJ 168 0 [some (.ref 83), some (.int (nI cell)), some (.int (nI many)), some (.int (nI n)), some (.int x), none] [] (mi, ml, MR, 95) Q := by
  have hcc : (nI cell).toNatClampNeg = cell := nI_clamp (by omega)
  have hv : vp_in (nI cell) 74 := vp_in_nI hc (by decide)
  simp only [↓s168_0, ↓s168_1, ↓s168_2, ↓s168_5, ↓s168_6, ↓s168_10, ↓s168_11, ↓s168_14, ↓s168_15, ↓s168_18, ↓s168_19, ↓s168_22, ↓s168_23, ↓s168_25, ↓s168_26, ↓s168_27, ↓s168_29, ↓s168_30, ↓s168_31, ↓s168_34, ↓s168_37, ↓s168_40, ↓s168_43, ↓s168_44, ↓s168_46, ↓s168_49, kNLn, kNLi, kNLr, va_rf_s, kOl_n, kOl_s, kap_n, kap_c, kb0, kb1, kbif, ki_83]
  refine R_above (fun mi0 h0 f0 => ?_)
  simp only [↓s168_0, ↓s168_1, ↓s168_2, ↓s168_5, ↓s168_6, ↓s168_10, ↓s168_11, ↓s168_14, ↓s168_15, ↓s168_18, ↓s168_19, ↓s168_22, ↓s168_23, ↓s168_25, ↓s168_26, ↓s168_27, ↓s168_29, ↓s168_30, ↓s168_31, ↓s168_34, ↓s168_37, ↓s168_40, ↓s168_43, ↓s168_44, ↓s168_46, ↓s168_49, kNLn, kNLi, kNLr, va_rf_s, kOl_n, kOl_s, kap_n, kap_c, kb0, kb1, kbif, ki_83]
  refine nUp (n := many) (P := fun k => ∀ mi1, rJ (jF ((-4), (-1)) (fun v => nI v) (fun v => nI (tmoods (tdays n (F v)))) k) mi1 → wR mi mi1 → kJ 168 8 [some (.ref 83), some (.int (nI cell)), some (.int (nI many)), some (.int (nI n)), some (.int x), some (.int (nI k))] [] (mi1, ml, MR, 95) Q) ?_ (fun k hk ih => ?_) 0 (Nat.zero_le _) mi0 h0 f0
  · intro mi1 h1 f1
    rw [s168_8]
    simp only [↓s168_0, ↓s168_1, ↓s168_2, ↓s168_5, ↓s168_6, ↓s168_10, ↓s168_11, ↓s168_14, ↓s168_15, ↓s168_18, ↓s168_19, ↓s168_22, ↓s168_23, ↓s168_25, ↓s168_26, ↓s168_27, ↓s168_29, ↓s168_30, ↓s168_31, ↓s168_34, ↓s168_37, ↓s168_40, ↓s168_43, ↓s168_44, ↓s168_46, ↓s168_49, kNLn, kNLi, kNLr, va_rf_s, kOl_n, kOl_s, kap_n, kap_c, kb0, kb1, kbif, ki_83, ↓R_judged h1]
    rw [if_pos (Int32.le_refl _)]
    exact hQ mi1 f1
  · intro mi1 h1 f1
    have hlt : ¬ nI many ≤ nI k := nI_ge (by omega) (by omega)
    obtain ⟨oF, dF, rF⟩ := hf k hk
    rw [s168_8]
    simp only [↓s168_0, ↓s168_1, ↓s168_2, ↓s168_5, ↓s168_6, ↓s168_10, ↓s168_11, ↓s168_14, ↓s168_15, ↓s168_18, ↓s168_19, ↓s168_22, ↓s168_23, ↓s168_25, ↓s168_26, ↓s168_27, ↓s168_29, ↓s168_30, ↓s168_31, ↓s168_34, ↓s168_37, ↓s168_40, ↓s168_43, ↓s168_44, ↓s168_46, ↓s168_49, kNLn, kNLi, kNLr, va_rf_s, kOl_n, kOl_s, kap_n, kap_c, kb0, kb1, kbif, ki_83, hlt, if_false]
    refine R_startsT (kRR_w h f1) ho (fun mi2 h2 f2 => ?_)
    simp only [↓s168_0, ↓s168_1, ↓s168_2, ↓s168_5, ↓s168_6, ↓s168_10, ↓s168_11, ↓s168_14, ↓s168_15, ↓s168_18, ↓s168_19, ↓s168_22, ↓s168_23, ↓s168_25, ↓s168_26, ↓s168_27, ↓s168_29, ↓s168_30, ↓s168_31, ↓s168_34, ↓s168_37, ↓s168_40, ↓s168_43, ↓s168_44, ↓s168_46, ↓s168_49, kNLn, kNLi, kNLr, va_rf_s, kOl_n, kOl_s, kap_n, kap_c, kb0, kb1, kbif, ki_83, ki_85, kl_85, mr_83_1, hcc, hv, true_and]
    refine R_behind (T := F k) (A := 0) (B := 0) ⟨?_, ?_, ?_⟩ oF hn dF (fun mi3 h3 f3 => ?_)
    · rw [kup_eq]; exact rF _ h2.1
    · rw [kup_ne (by decide)]; exact h2.2.1
    · rw [kup_ne (by decide)]; exact h2.2.2
    · simp only [↓s168_0, ↓s168_1, ↓s168_2, ↓s168_5, ↓s168_6, ↓s168_10, ↓s168_11, ↓s168_14, ↓s168_15, ↓s168_18, ↓s168_19, ↓s168_22, ↓s168_23, ↓s168_25, ↓s168_26, ↓s168_27, ↓s168_29, ↓s168_30, ↓s168_31, ↓s168_34, ↓s168_37, ↓s168_40, ↓s168_43, ↓s168_44, ↓s168_46, ↓s168_49, kNLn, kNLi, kNLr, va_rf_s, kOl_n, kOl_s, kap_n, kap_c, kb0, kb1, kbif, ki_83]
      refine R_judges (rJ_q (rJ_85 (rJ_q h1 f2)) f3) (fun mi4 h4 f4 => ?_)
      simp only [↓s168_0, ↓s168_1, ↓s168_2, ↓s168_5, ↓s168_6, ↓s168_10, ↓s168_11, ↓s168_14, ↓s168_15, ↓s168_18, ↓s168_19, ↓s168_22, ↓s168_23, ↓s168_25, ↓s168_26, ↓s168_27, ↓s168_29, ↓s168_30, ↓s168_31, ↓s168_34, ↓s168_37, ↓s168_40, ↓s168_43, ↓s168_44, ↓s168_46, ↓s168_49, kNLn, kNLi, kNLr, va_rf_s, kOl_n, kOl_s, kap_n, kap_c, kb0, kb1, kbif, nI_add]
      exact ih mi4 h4 (wR_tr f1 (wR_tr (wR_q f2) (wR_tr (wR_up (by omega)) (wR_tr (wR_q f3) f4))))
/-- the loop of say() -/
theorem C_sayL {x : Int32} (h : CI S mi) (hg : gOK S) (hi : i < S.1 0 4) (hn : n < 61) (oF : ∀ v, v < 19 → tOK (tup S.1 7 i v)) (hQ : ∀ mi', wC mi mi' → Q (some (.int (jtold (jF ((-4), (-1)) (fun v => nI v) (fun v => nI (tmoods (tdays n (tup S.1 7 i v)))) 19) x))) (mi', ml, MR, 95)) : ∀ k, k ≤ 19 → ∀ mi1, cJ (jF ((-4), (-1)) (fun v => nI v) (fun v => nI (tmoods (tdays n (tup S.1 7 i v)))) k) mi1 → wC mi mi1 → kJ 69 46 [some (.ref 0), some (.int (nI i)), some (.int (nI n)), some (.int x), some (.int (nI k))] [] (mi1, ml, MR, 95) Q := by
  have ho := hg.1.1
  have o1 := ho.1
  have o2 := ho.2.1
  have hd12 := hg.1.2
  have hc : (nI i).toNatClampNeg = i := nI_clamp (by omega)
  have hv : vp_in (nI i) 6 := vp_in_nI (by omega) (by decide)
  refine nUp (n := 19) (P := fun k => ∀ mi1, cJ (jF ((-4), (-1)) (fun v => nI v) (fun v => nI (tmoods (tdays n (tup S.1 7 i v)))) k) mi1 → wC mi mi1 → kJ 69 46 [some (.ref 0), some (.int (nI i)), some (.int (nI n)), some (.int x), some (.int (nI k))] [] (mi1, ml, MR, 95) Q) ?_ (fun k hk ih => ?_)
  · intro mi1 h1 f1
    have hgt : nI 18 < nI 19 := by decide
    rw [s69_46]
    simp only [↓s69_0, ↓s69_1, ↓s69_4, ↓s69_5, ↓s69_8, ↓s69_11, ↓s69_12, ↓s69_13, ↓s69_16, ↓s69_19, ↓s69_20, ↓s69_21, ↓s69_22, ↓s69_25, ↓s69_26, ↓s69_29, ↓s69_32, ↓s69_34, ↓s69_35, ↓s69_36, ↓s69_39, ↓s69_40, ↓s69_43, ↓s69_44, ↓s69_48, ↓s69_50, ↓s69_53, ↓s69_54, ↓s69_57, ↓s69_58, ↓s69_61, ↓s69_64, ↓s69_65, ↓s69_68, ↓s69_71, ↓s69_72, ↓s69_74, ↓s69_75, ↓s69_76, ↓s69_79, ↓s69_81, ↓s69_82, ↓s69_85, ↓s69_86, ↓s69_89, ↓s69_92, ↓s69_95, ↓s69_98, ↓s69_99, ↓s69_102, ↓s69_103, ↓s69_106, kNLn, kNLi, kNLr, va_rf_s, kOl_n, kOl_s, kap_n, kap_c, kb0, kb1, kbif, zif, z0, z1, Bool.false_eq_true, eq_self, not_true_eq_false, not_false_eq_true, if_true, if_false, and_self, true_and, false_and, and_true, and_false, ki_0, ki_1, ki_27, mr_0_0, mr_0_2, hgt, ↓C_told h1]
    exact hQ mi1 f1
  · intro mi1 h1 f1
    have hgt : ¬ nI 18 < nI k := Int32.not_lt.mpr (nI_le (by omega) (by omega))
    rw [s69_46]
    simp only [↓s69_0, ↓s69_1, ↓s69_4, ↓s69_5, ↓s69_8, ↓s69_11, ↓s69_12, ↓s69_13, ↓s69_16, ↓s69_19, ↓s69_20, ↓s69_21, ↓s69_22, ↓s69_25, ↓s69_26, ↓s69_29, ↓s69_32, ↓s69_34, ↓s69_35, ↓s69_36, ↓s69_39, ↓s69_40, ↓s69_43, ↓s69_44, ↓s69_48, ↓s69_50, ↓s69_53, ↓s69_54, ↓s69_57, ↓s69_58, ↓s69_61, ↓s69_64, ↓s69_65, ↓s69_68, ↓s69_71, ↓s69_72, ↓s69_74, ↓s69_75, ↓s69_76, ↓s69_79, ↓s69_81, ↓s69_82, ↓s69_85, ↓s69_86, ↓s69_89, ↓s69_92, ↓s69_95, ↓s69_98, ↓s69_99, ↓s69_102, ↓s69_103, ↓s69_106, kNLn, kNLi, kNLr, va_rf_s, kOl_n, kOl_s, kap_n, kap_c, kb0, kb1, kbif, zif, z0, z1, Bool.false_eq_true, eq_self, not_true_eq_false, not_false_eq_true, if_true, if_false, and_self, true_and, false_and, and_true, and_false, ki_0, ki_1, ki_14, mr_0_0, mr_0_1, hgt]
    refine C_copy_14_1 (kCR1_w h.1 f1) ho (fun mi2 h2 f2 => ?_)
    simp only [↓s69_0, ↓s69_1, ↓s69_4, ↓s69_5, ↓s69_8, ↓s69_11, ↓s69_12, ↓s69_13, ↓s69_16, ↓s69_19, ↓s69_20, ↓s69_21, ↓s69_22, ↓s69_25, ↓s69_26, ↓s69_29, ↓s69_32, ↓s69_34, ↓s69_35, ↓s69_36, ↓s69_39, ↓s69_40, ↓s69_43, ↓s69_44, ↓s69_48, ↓s69_50, ↓s69_53, ↓s69_54, ↓s69_57, ↓s69_58, ↓s69_61, ↓s69_64, ↓s69_65, ↓s69_68, ↓s69_71, ↓s69_72, ↓s69_74, ↓s69_75, ↓s69_76, ↓s69_79, ↓s69_81, ↓s69_82, ↓s69_85, ↓s69_86, ↓s69_89, ↓s69_92, ↓s69_95, ↓s69_98, ↓s69_99, ↓s69_102, ↓s69_103, ↓s69_106, kNLn, kNLi, kNLr, va_rf_s, kOl_n, kOl_s, kap_n, kap_c, kb0, kb1, kbif, zif, z0, z1, Bool.false_eq_true, eq_self, not_true_eq_false, not_false_eq_true, if_true, if_false, and_self, true_and, false_and, and_true, and_false, ki_0, ki_14, ki_27, ki_21, kl_21, mr_0_1, mr_0_2, mr_14_8, hc, hv]
    have h3 : kCR 14 (tup S.1 7 i k) (kup mi2 21 i (nI k)) := kCR_up (r := 7) h2 (by omega)
    have f3 : kFr 14 mi2 (kup mi2 21 i (nI k)) := kFr_up (b := 14) (r := 7) kFr_rf (by omega)
    refine J_behind kPost_14 h3 (oF k hk) (by omega) (by rw [tup_n (by omega)]; omega) (fun mi4 h4 f4 => ?_)
    simp only [↓s69_0, ↓s69_1, ↓s69_4, ↓s69_5, ↓s69_8, ↓s69_11, ↓s69_12, ↓s69_13, ↓s69_16, ↓s69_19, ↓s69_20, ↓s69_21, ↓s69_22, ↓s69_25, ↓s69_26, ↓s69_29, ↓s69_32, ↓s69_34, ↓s69_35, ↓s69_36, ↓s69_39, ↓s69_40, ↓s69_43, ↓s69_44, ↓s69_48, ↓s69_50, ↓s69_53, ↓s69_54, ↓s69_57, ↓s69_58, ↓s69_61, ↓s69_64, ↓s69_65, ↓s69_68, ↓s69_71, ↓s69_72, ↓s69_74, ↓s69_75, ↓s69_76, ↓s69_79, ↓s69_81, ↓s69_82, ↓s69_85, ↓s69_86, ↓s69_89, ↓s69_92, ↓s69_95, ↓s69_98, ↓s69_99, ↓s69_102, ↓s69_103, ↓s69_106, kNLn, kNLi, kNLr, va_rf_s, kOl_n, kOl_s, kap_n, kap_c, kb0, kb1, kbif, ki_27]
    refine C_weigh (cJ_14 (cJ_14 (cJ_14 h1 f2) f3) f4) (fun mi5 h5 f5 => ?_)
    simp only [↓s69_0, ↓s69_1, ↓s69_4, ↓s69_5, ↓s69_8, ↓s69_11, ↓s69_12, ↓s69_13, ↓s69_16, ↓s69_19, ↓s69_20, ↓s69_21, ↓s69_22, ↓s69_25, ↓s69_26, ↓s69_29, ↓s69_32, ↓s69_34, ↓s69_35, ↓s69_36, ↓s69_39, ↓s69_40, ↓s69_43, ↓s69_44, ↓s69_48, ↓s69_50, ↓s69_53, ↓s69_54, ↓s69_57, ↓s69_58, ↓s69_61, ↓s69_64, ↓s69_65, ↓s69_68, ↓s69_71, ↓s69_72, ↓s69_74, ↓s69_75, ↓s69_76, ↓s69_79, ↓s69_81, ↓s69_82, ↓s69_85, ↓s69_86, ↓s69_89, ↓s69_92, ↓s69_95, ↓s69_98, ↓s69_99, ↓s69_102, ↓s69_103, ↓s69_106, kNLn, kNLi, kNLr, va_rf_s, kOl_n, kOl_s, kap_n, kap_c, kb0, kb1, kbif, nI_add]
    exact ih mi5 h5 (wC_tr f1 (wC_tr (wC_14 f2) (wC_tr (wC_14 f3) (wC_tr (wC_14 f4) (wC_27 f5)))))
/-- the loop of about() -/
theorem C_aboutL {x : Int32} (h : CI S mi) (hg : gOK S) (hi : i < S.1 0 4) (hn : n < 61) (oF : ∀ v, v < (S.1 0 0) → tOK (tup S.1 6 i v)) (hQ : ∀ mi', wC mi mi' → Q (some (.int (jtold (jF ((-4), (-1)) (fun v => nI v) (fun v => nI (tmoods (tdays n (tup S.1 6 i v)))) (S.1 0 0)) x))) (mi', ml, MR, 95)) : ∀ k, k ≤ (S.1 0 0) → ∀ mi1, cJ (jF ((-4), (-1)) (fun v => nI v) (fun v => nI (tmoods (tdays n (tup S.1 6 i v)))) k) mi1 → wC mi mi1 → kJ 71 47 [some (.ref 0), some (.int (nI i)), some (.int (nI n)), some (.int x), some (.int (nI k))] [] (mi1, ml, MR, 95) Q := by
  have ho := hg.1.1
  have o1 := ho.1
  have o2 := ho.2.1
  have hd12 := hg.1.2
  have hc : (nI i).toNatClampNeg = i := nI_clamp (by omega)
  have hv : vp_in (nI i) 6 := vp_in_nI (by omega) (by decide)
  refine nUp (n := (S.1 0 0)) (P := fun k => ∀ mi1, cJ (jF ((-4), (-1)) (fun v => nI v) (fun v => nI (tmoods (tdays n (tup S.1 6 i v)))) k) mi1 → wC mi mi1 → kJ 71 47 [some (.ref 0), some (.int (nI i)), some (.int (nI n)), some (.int x), some (.int (nI k))] [] (mi1, ml, MR, 95) Q) ?_ (fun k hk ih => ?_)
  · intro mi1 h1 f1
    have hpp : mi1 1 0 = nI (S.1 0 0) := (kCR1_w h.1 f1).1.1
    have hgt : nI (S.1 0 0) ≤ nI (S.1 0 0) := Int32.le_refl _
    rw [s71_47]
    simp only [↓s71_0, ↓s71_1, ↓s71_4, ↓s71_5, ↓s71_8, ↓s71_11, ↓s71_12, ↓s71_13, ↓s71_16, ↓s71_19, ↓s71_20, ↓s71_21, ↓s71_22, ↓s71_25, ↓s71_28, ↓s71_29, ↓s71_30, ↓s71_33, ↓s71_35, ↓s71_36, ↓s71_37, ↓s71_40, ↓s71_41, ↓s71_44, ↓s71_45, ↓s71_49, ↓s71_50, ↓s71_53, ↓s71_56, ↓s71_59, ↓s71_60, ↓s71_63, ↓s71_64, ↓s71_67, ↓s71_70, ↓s71_71, ↓s71_74, ↓s71_77, ↓s71_78, ↓s71_80, ↓s71_81, ↓s71_82, ↓s71_85, ↓s71_87, ↓s71_88, ↓s71_91, ↓s71_92, ↓s71_95, ↓s71_98, ↓s71_101, ↓s71_104, ↓s71_105, ↓s71_108, ↓s71_109, ↓s71_112, kNLn, kNLi, kNLr, va_rf_s, kOl_n, kOl_s, kap_n, kap_c, kb0, kb1, kbif, zif, z0, z1, Bool.false_eq_true, eq_self, not_true_eq_false, not_false_eq_true, if_true, if_false, and_self, true_and, false_and, and_true, and_false, ki_0, ki_1, ki_27, mr_0_0, mr_0_2, hgt, hpp, ↓C_told h1]
    exact hQ mi1 f1
  · intro mi1 h1 f1
    have hpp : mi1 1 0 = nI (S.1 0 0) := (kCR1_w h.1 f1).1.1
    have hgt : ¬ nI (S.1 0 0) ≤ nI k := nI_ge (by omega) (by omega)
    rw [s71_47]
    simp only [↓s71_0, ↓s71_1, ↓s71_4, ↓s71_5, ↓s71_8, ↓s71_11, ↓s71_12, ↓s71_13, ↓s71_16, ↓s71_19, ↓s71_20, ↓s71_21, ↓s71_22, ↓s71_25, ↓s71_28, ↓s71_29, ↓s71_30, ↓s71_33, ↓s71_35, ↓s71_36, ↓s71_37, ↓s71_40, ↓s71_41, ↓s71_44, ↓s71_45, ↓s71_49, ↓s71_50, ↓s71_53, ↓s71_56, ↓s71_59, ↓s71_60, ↓s71_63, ↓s71_64, ↓s71_67, ↓s71_70, ↓s71_71, ↓s71_74, ↓s71_77, ↓s71_78, ↓s71_80, ↓s71_81, ↓s71_82, ↓s71_85, ↓s71_87, ↓s71_88, ↓s71_91, ↓s71_92, ↓s71_95, ↓s71_98, ↓s71_101, ↓s71_104, ↓s71_105, ↓s71_108, ↓s71_109, ↓s71_112, kNLn, kNLi, kNLr, va_rf_s, kOl_n, kOl_s, kap_n, kap_c, kb0, kb1, kbif, zif, z0, z1, Bool.false_eq_true, eq_self, not_true_eq_false, not_false_eq_true, if_true, if_false, and_self, true_and, false_and, and_true, and_false, ki_0, ki_1, ki_14, mr_0_0, mr_0_1, hgt, hpp]
    refine C_copy_14_1 (kCR1_w h.1 f1) ho (fun mi2 h2 f2 => ?_)
    simp only [↓s71_0, ↓s71_1, ↓s71_4, ↓s71_5, ↓s71_8, ↓s71_11, ↓s71_12, ↓s71_13, ↓s71_16, ↓s71_19, ↓s71_20, ↓s71_21, ↓s71_22, ↓s71_25, ↓s71_28, ↓s71_29, ↓s71_30, ↓s71_33, ↓s71_35, ↓s71_36, ↓s71_37, ↓s71_40, ↓s71_41, ↓s71_44, ↓s71_45, ↓s71_49, ↓s71_50, ↓s71_53, ↓s71_56, ↓s71_59, ↓s71_60, ↓s71_63, ↓s71_64, ↓s71_67, ↓s71_70, ↓s71_71, ↓s71_74, ↓s71_77, ↓s71_78, ↓s71_80, ↓s71_81, ↓s71_82, ↓s71_85, ↓s71_87, ↓s71_88, ↓s71_91, ↓s71_92, ↓s71_95, ↓s71_98, ↓s71_101, ↓s71_104, ↓s71_105, ↓s71_108, ↓s71_109, ↓s71_112, kNLn, kNLi, kNLr, va_rf_s, kOl_n, kOl_s, kap_n, kap_c, kb0, kb1, kbif, zif, z0, z1, Bool.false_eq_true, eq_self, not_true_eq_false, not_false_eq_true, if_true, if_false, and_self, true_and, false_and, and_true, and_false, ki_0, ki_14, ki_27, ki_20, kl_20, mr_0_1, mr_0_2, mr_14_7, hc, hv]
    have h3 : kCR 14 (tup S.1 6 i k) (kup mi2 20 i (nI k)) := kCR_up (r := 6) h2 (by omega)
    have f3 : kFr 14 mi2 (kup mi2 20 i (nI k)) := kFr_up (b := 14) (r := 6) kFr_rf (by omega)
    refine J_behind kPost_14 h3 (oF k hk) (by omega) (by rw [tup_n (by omega)]; omega) (fun mi4 h4 f4 => ?_)
    simp only [↓s71_0, ↓s71_1, ↓s71_4, ↓s71_5, ↓s71_8, ↓s71_11, ↓s71_12, ↓s71_13, ↓s71_16, ↓s71_19, ↓s71_20, ↓s71_21, ↓s71_22, ↓s71_25, ↓s71_28, ↓s71_29, ↓s71_30, ↓s71_33, ↓s71_35, ↓s71_36, ↓s71_37, ↓s71_40, ↓s71_41, ↓s71_44, ↓s71_45, ↓s71_49, ↓s71_50, ↓s71_53, ↓s71_56, ↓s71_59, ↓s71_60, ↓s71_63, ↓s71_64, ↓s71_67, ↓s71_70, ↓s71_71, ↓s71_74, ↓s71_77, ↓s71_78, ↓s71_80, ↓s71_81, ↓s71_82, ↓s71_85, ↓s71_87, ↓s71_88, ↓s71_91, ↓s71_92, ↓s71_95, ↓s71_98, ↓s71_101, ↓s71_104, ↓s71_105, ↓s71_108, ↓s71_109, ↓s71_112, kNLn, kNLi, kNLr, va_rf_s, kOl_n, kOl_s, kap_n, kap_c, kb0, kb1, kbif, ki_27]
    refine C_weigh (cJ_14 (cJ_14 (cJ_14 h1 f2) f3) f4) (fun mi5 h5 f5 => ?_)
    simp only [↓s71_0, ↓s71_1, ↓s71_4, ↓s71_5, ↓s71_8, ↓s71_11, ↓s71_12, ↓s71_13, ↓s71_16, ↓s71_19, ↓s71_20, ↓s71_21, ↓s71_22, ↓s71_25, ↓s71_28, ↓s71_29, ↓s71_30, ↓s71_33, ↓s71_35, ↓s71_36, ↓s71_37, ↓s71_40, ↓s71_41, ↓s71_44, ↓s71_45, ↓s71_49, ↓s71_50, ↓s71_53, ↓s71_56, ↓s71_59, ↓s71_60, ↓s71_63, ↓s71_64, ↓s71_67, ↓s71_70, ↓s71_71, ↓s71_74, ↓s71_77, ↓s71_78, ↓s71_80, ↓s71_81, ↓s71_82, ↓s71_85, ↓s71_87, ↓s71_88, ↓s71_91, ↓s71_92, ↓s71_95, ↓s71_98, ↓s71_101, ↓s71_104, ↓s71_105, ↓s71_108, ↓s71_109, ↓s71_112, kNLn, kNLi, kNLr, va_rf_s, kOl_n, kOl_s, kap_n, kap_c, kb0, kb1, kbif, nI_add]
    exact ih mi5 h5 (wC_tr f1 (wC_tr (wC_14 f2) (wC_tr (wC_14 f3) (wC_tr (wC_14 f4) (wC_27 f5)))))
/-- the loop of kind() -/
theorem C_kindL {x : Int32} (h : CI S mi) (hg : gOK S) (hi : p < S.1 0 0) (hn : n < 61) (oF : ∀ v, v < 4 → tOK (tup S.1 1 p v)) (hQ : ∀ mi', wC mi mi' → Q (some (.int (jtold (jF ((-4), (-1)) (fun v => nI v) (fun v => nI (tmoods (tdays n (tup S.1 1 p v)))) 4) x))) (mi', ml, MR, 95)) : ∀ k, k ≤ 4 → ∀ mi1, cJ (jF ((-4), (-1)) (fun v => nI v) (fun v => nI (tmoods (tdays n (tup S.1 1 p v)))) k) mi1 → wC mi mi1 → kJ 74 32 [some (.ref 0), some (.int (nI p)), some (.int (nI n)), some (.int x), some (.int (nI k))] [] (mi1, ml, MR, 95) Q := by
  have ho := hg.1.1
  have o1 := ho.1
  have o2 := ho.2.1
  have hd12 := hg.1.2
  have hc : (nI p).toNatClampNeg = p := nI_clamp (by omega)
  have hv : vp_in (nI p) 5 := vp_in_nI (by omega) (by decide)
  refine nUp (n := 4) (P := fun k => ∀ mi1, cJ (jF ((-4), (-1)) (fun v => nI v) (fun v => nI (tmoods (tdays n (tup S.1 1 p v)))) k) mi1 → wC mi mi1 → kJ 74 32 [some (.ref 0), some (.int (nI p)), some (.int (nI n)), some (.int x), some (.int (nI k))] [] (mi1, ml, MR, 95) Q) ?_ (fun k hk ih => ?_)
  · intro mi1 h1 f1
    have hgt : nI 4 ≤ nI 4 := by decide
    rw [s74_32]
    simp only [↓s74_0, ↓s74_1, ↓s74_4, ↓s74_5, ↓s74_8, ↓s74_11, ↓s74_12, ↓s74_13, ↓s74_16, ↓s74_19, ↓s74_20, ↓s74_21, ↓s74_22, ↓s74_25, ↓s74_26, ↓s74_29, ↓s74_30, ↓s74_34, ↓s74_35, ↓s74_38, ↓s74_39, ↓s74_42, ↓s74_43, ↓s74_46, ↓s74_49, ↓s74_50, ↓s74_53, ↓s74_56, ↓s74_57, ↓s74_59, ↓s74_60, ↓s74_61, ↓s74_64, ↓s74_66, ↓s74_67, ↓s74_70, ↓s74_71, ↓s74_74, ↓s74_77, ↓s74_80, ↓s74_83, ↓s74_84, ↓s74_87, ↓s74_88, ↓s74_91, kNLn, kNLi, kNLr, va_rf_s, kOl_n, kOl_s, kap_n, kap_c, kb0, kb1, kbif, zif, z0, z1, Bool.false_eq_true, eq_self, not_true_eq_false, not_false_eq_true, if_true, if_false, and_self, true_and, false_and, and_true, and_false, ki_0, ki_1, ki_27, mr_0_0, mr_0_2, hgt, ↓C_told h1]
    exact hQ mi1 f1
  · intro mi1 h1 f1
    have hgt : ¬ nI 4 ≤ nI k := nI_ge (by omega) (by omega)
    rw [s74_32]
    simp only [↓s74_0, ↓s74_1, ↓s74_4, ↓s74_5, ↓s74_8, ↓s74_11, ↓s74_12, ↓s74_13, ↓s74_16, ↓s74_19, ↓s74_20, ↓s74_21, ↓s74_22, ↓s74_25, ↓s74_26, ↓s74_29, ↓s74_30, ↓s74_34, ↓s74_35, ↓s74_38, ↓s74_39, ↓s74_42, ↓s74_43, ↓s74_46, ↓s74_49, ↓s74_50, ↓s74_53, ↓s74_56, ↓s74_57, ↓s74_59, ↓s74_60, ↓s74_61, ↓s74_64, ↓s74_66, ↓s74_67, ↓s74_70, ↓s74_71, ↓s74_74, ↓s74_77, ↓s74_80, ↓s74_83, ↓s74_84, ↓s74_87, ↓s74_88, ↓s74_91, kNLn, kNLi, kNLr, va_rf_s, kOl_n, kOl_s, kap_n, kap_c, kb0, kb1, kbif, zif, z0, z1, Bool.false_eq_true, eq_self, not_true_eq_false, not_false_eq_true, if_true, if_false, and_self, true_and, false_and, and_true, and_false, ki_0, ki_1, ki_14, mr_0_0, mr_0_1, hgt]
    refine C_copy_14_1 (kCR1_w h.1 f1) ho (fun mi2 h2 f2 => ?_)
    simp only [↓s74_0, ↓s74_1, ↓s74_4, ↓s74_5, ↓s74_8, ↓s74_11, ↓s74_12, ↓s74_13, ↓s74_16, ↓s74_19, ↓s74_20, ↓s74_21, ↓s74_22, ↓s74_25, ↓s74_26, ↓s74_29, ↓s74_30, ↓s74_34, ↓s74_35, ↓s74_38, ↓s74_39, ↓s74_42, ↓s74_43, ↓s74_46, ↓s74_49, ↓s74_50, ↓s74_53, ↓s74_56, ↓s74_57, ↓s74_59, ↓s74_60, ↓s74_61, ↓s74_64, ↓s74_66, ↓s74_67, ↓s74_70, ↓s74_71, ↓s74_74, ↓s74_77, ↓s74_80, ↓s74_83, ↓s74_84, ↓s74_87, ↓s74_88, ↓s74_91, kNLn, kNLi, kNLr, va_rf_s, kOl_n, kOl_s, kap_n, kap_c, kb0, kb1, kbif, zif, z0, z1, Bool.false_eq_true, eq_self, not_true_eq_false, not_false_eq_true, if_true, if_false, and_self, true_and, false_and, and_true, and_false, ki_0, ki_14, ki_27, ki_15, kl_15, mr_0_1, mr_0_2, mr_14_1, hc, hv]
    have h3 : kCR 14 (tup S.1 1 p k) (kup mi2 15 p (nI k)) := kCR_up (r := 1) h2 (by omega)
    have f3 : kFr 14 mi2 (kup mi2 15 p (nI k)) := kFr_up (b := 14) (r := 1) kFr_rf (by omega)
    refine J_behind kPost_14 h3 (oF k hk) (by omega) (by rw [tup_n (by omega)]; omega) (fun mi4 h4 f4 => ?_)
    simp only [↓s74_0, ↓s74_1, ↓s74_4, ↓s74_5, ↓s74_8, ↓s74_11, ↓s74_12, ↓s74_13, ↓s74_16, ↓s74_19, ↓s74_20, ↓s74_21, ↓s74_22, ↓s74_25, ↓s74_26, ↓s74_29, ↓s74_30, ↓s74_34, ↓s74_35, ↓s74_38, ↓s74_39, ↓s74_42, ↓s74_43, ↓s74_46, ↓s74_49, ↓s74_50, ↓s74_53, ↓s74_56, ↓s74_57, ↓s74_59, ↓s74_60, ↓s74_61, ↓s74_64, ↓s74_66, ↓s74_67, ↓s74_70, ↓s74_71, ↓s74_74, ↓s74_77, ↓s74_80, ↓s74_83, ↓s74_84, ↓s74_87, ↓s74_88, ↓s74_91, kNLn, kNLi, kNLr, va_rf_s, kOl_n, kOl_s, kap_n, kap_c, kb0, kb1, kbif, ki_27]
    refine C_weigh (cJ_14 (cJ_14 (cJ_14 h1 f2) f3) f4) (fun mi5 h5 f5 => ?_)
    simp only [↓s74_0, ↓s74_1, ↓s74_4, ↓s74_5, ↓s74_8, ↓s74_11, ↓s74_12, ↓s74_13, ↓s74_16, ↓s74_19, ↓s74_20, ↓s74_21, ↓s74_22, ↓s74_25, ↓s74_26, ↓s74_29, ↓s74_30, ↓s74_34, ↓s74_35, ↓s74_38, ↓s74_39, ↓s74_42, ↓s74_43, ↓s74_46, ↓s74_49, ↓s74_50, ↓s74_53, ↓s74_56, ↓s74_57, ↓s74_59, ↓s74_60, ↓s74_61, ↓s74_64, ↓s74_66, ↓s74_67, ↓s74_70, ↓s74_71, ↓s74_74, ↓s74_77, ↓s74_80, ↓s74_83, ↓s74_84, ↓s74_87, ↓s74_88, ↓s74_91, kNLn, kNLi, kNLr, va_rf_s, kOl_n, kOl_s, kap_n, kap_c, kb0, kb1, kbif, nI_add]
    exact ih mi5 h5 (wC_tr f1 (wC_tr (wC_14 f2) (wC_tr (wC_14 f3) (wC_tr (wC_14 f4) (wC_27 f5)))))
theorem B_say {x y z : Int32} (hg : gOK S) : bB 69 [some (.ref 0), some (.int x), some (.int y), some (.int z), none] 169 [some (.ref 83), some (.int x), some (.int y), some (.int z)] S := by
  have ho := hg.1.1
  have o2 := ho.2.1
  have hd12 := hg.1.2
  by_cases c : gin x (S.1 0 4) = true
  · obtain ⟨i, hi, rfl⟩ := gin_of c (by omega)
    by_cases d : gin y 61 = true
    · obtain ⟨n, hn, rfl⟩ := gin_of d (by decide)
      by_cases e : gin z 2 = true
      · have hl3 := (ho.2.2.2.2.2.2.1 i hi).2.2.2.2.2
        by_cases w : tway S.1 i = true
        · have hl : ¬ nI 2 ≤ nI (S.1 9 i) := nI_ge (of_decide_eq_true w) (by decide)
          have oF : ∀ v, v < 19 → tOK (tup S.1 7 i v) := fun v hv => tOK_upL ho (Or.inl ⟨rfl, by omega⟩)
          refine bB_w hg (jtold (jF ((-4), (-1)) (fun v => nI v) (fun v => nI (tmoods (tdays n (tup S.1 7 i v)))) 19) z) (fun mi ml Q h hQ => ?_) (fun mi ml Q h hQ => ?_)
          · simp only [↓s69_0, ↓s69_1, ↓s69_4, ↓s69_5, ↓s69_8, ↓s69_11, ↓s69_12, ↓s69_13, ↓s69_16, ↓s69_19, ↓s69_20, ↓s69_21, ↓s69_22, ↓s69_25, ↓s69_26, ↓s69_29, ↓s69_32, ↓s69_34, ↓s69_35, ↓s69_36, ↓s69_39, ↓s69_40, ↓s69_43, ↓s69_44, ↓s69_48, ↓s69_50, ↓s69_53, ↓s69_54, ↓s69_57, ↓s69_58, ↓s69_61, ↓s69_64, ↓s69_65, ↓s69_68, ↓s69_71, ↓s69_72, ↓s69_74, ↓s69_75, ↓s69_76, ↓s69_79, ↓s69_81, ↓s69_82, ↓s69_85, ↓s69_86, ↓s69_89, ↓s69_92, ↓s69_95, ↓s69_98, ↓s69_99, ↓s69_102, ↓s69_103, ↓s69_106, ↓J_hasLetterG kPost_1 h.1 ho, ↓J_isQuestion, ↓J_wayT kPost_1 h.1 ho hi, kNLn, kNLi, kNLr, va_rf_s, kOl_n, kOl_s, kap_n, kap_c, kb0, kb1, kbif, zif, z0, z1, Bool.false_eq_true, eq_self, not_true_eq_false, not_false_eq_true, if_true, if_false, and_self, true_and, false_and, and_true, and_false, c, d, e, w, ki_0, ki_1, ki_27, mr_0_0, mr_0_2]
            refine C_above (fun mi0 h0 f0 => ?_)
            simp only [↓s69_0, ↓s69_1, ↓s69_4, ↓s69_5, ↓s69_8, ↓s69_11, ↓s69_12, ↓s69_13, ↓s69_16, ↓s69_19, ↓s69_20, ↓s69_21, ↓s69_22, ↓s69_25, ↓s69_26, ↓s69_29, ↓s69_32, ↓s69_34, ↓s69_35, ↓s69_36, ↓s69_39, ↓s69_40, ↓s69_43, ↓s69_44, ↓s69_48, ↓s69_50, ↓s69_53, ↓s69_54, ↓s69_57, ↓s69_58, ↓s69_61, ↓s69_64, ↓s69_65, ↓s69_68, ↓s69_71, ↓s69_72, ↓s69_74, ↓s69_75, ↓s69_76, ↓s69_79, ↓s69_81, ↓s69_82, ↓s69_85, ↓s69_86, ↓s69_89, ↓s69_92, ↓s69_95, ↓s69_98, ↓s69_99, ↓s69_102, ↓s69_103, ↓s69_106, kNLn, kNLi, kNLr, va_rf_s, kOl_n, kOl_s, kap_n, kap_c, kb0, kb1, kbif]
            exact C_sayL h hg hi hn oF hQ 0 (Nat.zero_le _) mi0 h0 (wC_27 f0)
          · simp only [↓s169_0, ↓s169_1, ↓s169_2, ↓s169_5, ↓s169_8, ↓s169_9, ↓s169_12, ↓s169_15, ↓s169_16, ↓s169_19, ↓s169_22, ↓s169_23, ↓s169_24, ↓s169_25, ↓s169_26, ↓s169_29, ↓s169_30, ↓s169_33, ↓s169_35, ↓s169_38, ↓s169_39, ↓s169_41, ↓s169_43, ↓s169_44, ↓s169_45, ↓s169_46, ↓s169_47, ↓s169_48, ↓s169_50, ↓s169_51, ↓s169_52, ↓s169_55, ↓R_isLetter h.1 ho, ↓R_isFar, ↓R_isPart, ↓R_legOf h.1 ho hi, kNLn, kNLi, kNLr, va_rf_s, kOl_n, kOl_s, kap_n, kap_c, kb0, kb1, kbif, zif, z0, z1, Bool.false_eq_true, eq_self, not_true_eq_false, not_false_eq_true, if_true, if_false, and_self, true_and, false_and, and_true, and_false, c, d, e, ki_83, Int32.not_le.mp hl, pk_mul, nI_add]
            refine R_most (cell := 16 + 6 * i + 3) (many := 19) (F := fun v => tup S.1 7 i v) h.1 ho (by omega) (by decide) (by omega) (fun v hv => ⟨oF v hv, by show tup S.1 7 i v 0 12 + n < 2000; rw [tup_n (by omega)]; omega, fun a ha => kRR_upL ho ha hi (by decide)⟩) (fun mi' f' => ?_)
            simp only [↓s169_0, ↓s169_1, ↓s169_2, ↓s169_5, ↓s169_8, ↓s169_9, ↓s169_12, ↓s169_15, ↓s169_16, ↓s169_19, ↓s169_22, ↓s169_23, ↓s169_24, ↓s169_25, ↓s169_26, ↓s169_29, ↓s169_30, ↓s169_33, ↓s169_35, ↓s169_38, ↓s169_39, ↓s169_41, ↓s169_43, ↓s169_44, ↓s169_45, ↓s169_46, ↓s169_47, ↓s169_48, ↓s169_50, ↓s169_51, ↓s169_52, ↓s169_55, kNLn, kNLi, kNLr, va_rf_s, kOl_n, kOl_s, kap_n, kap_c, kb0, kb1, kbif]
            exact hQ mi' f'
        · have h2 : ¬ S.1 9 i < 2 := fun z => w (decide_eq_true z)
          have hl : ¬ nI (S.1 9 i) < nI 2 := Int32.not_lt.mpr (nI_le (by omega) (by omega))
          refine bB_e hg (-2) (fun mi ml Q h => ?_) (fun mi ml Q h => ?_)
          · simp only [↓s69_0, ↓s69_1, ↓s69_4, ↓s69_5, ↓s69_8, ↓s69_11, ↓s69_12, ↓s69_13, ↓s69_16, ↓s69_19, ↓s69_20, ↓s69_21, ↓s69_22, ↓s69_25, ↓s69_26, ↓s69_29, ↓s69_32, ↓s69_34, ↓s69_35, ↓s69_36, ↓s69_39, ↓s69_40, ↓s69_43, ↓s69_44, ↓s69_48, ↓s69_50, ↓s69_53, ↓s69_54, ↓s69_57, ↓s69_58, ↓s69_61, ↓s69_64, ↓s69_65, ↓s69_68, ↓s69_71, ↓s69_72, ↓s69_74, ↓s69_75, ↓s69_76, ↓s69_79, ↓s69_81, ↓s69_82, ↓s69_85, ↓s69_86, ↓s69_89, ↓s69_92, ↓s69_95, ↓s69_98, ↓s69_99, ↓s69_102, ↓s69_103, ↓s69_106, ↓J_hasLetterG kPost_1 h.1 ho, ↓J_isQuestion, ↓J_wayT kPost_1 h.1 ho hi, kNLn, kNLi, kNLr, va_rf_s, kOl_n, kOl_s, kap_n, kap_c, kb0, kb1, kbif, zif, z0, z1, Bool.false_eq_true, eq_self, not_true_eq_false, not_false_eq_true, if_true, if_false, and_self, true_and, false_and, and_true, and_false, c, d, e, w, ki_0, ki_1, mr_0_0]
          · simp only [↓s169_0, ↓s169_1, ↓s169_2, ↓s169_5, ↓s169_8, ↓s169_9, ↓s169_12, ↓s169_15, ↓s169_16, ↓s169_19, ↓s169_22, ↓s169_23, ↓s169_24, ↓s169_25, ↓s169_26, ↓s169_29, ↓s169_30, ↓s169_33, ↓s169_35, ↓s169_38, ↓s169_39, ↓s169_41, ↓s169_43, ↓s169_44, ↓s169_45, ↓s169_46, ↓s169_47, ↓s169_48, ↓s169_50, ↓s169_51, ↓s169_52, ↓s169_55, ↓R_isLetter h.1 ho, ↓R_isFar, ↓R_isPart, ↓R_legOf h.1 ho hi, kNLn, kNLi, kNLr, va_rf_s, kOl_n, kOl_s, kap_n, kap_c, kb0, kb1, kbif, zif, z0, z1, Bool.false_eq_true, eq_self, not_true_eq_false, not_false_eq_true, if_true, if_false, and_self, true_and, false_and, and_true, and_false, c, d, e, ki_83, hl]
      · refine bB_e hg (-1) (fun mi ml Q h => ?_) (fun mi ml Q h => ?_)
        · simp only [↓s69_0, ↓s69_1, ↓s69_4, ↓s69_5, ↓s69_8, ↓s69_11, ↓s69_12, ↓s69_13, ↓s69_16, ↓s69_19, ↓s69_20, ↓s69_21, ↓s69_22, ↓s69_25, ↓s69_26, ↓s69_29, ↓s69_32, ↓s69_34, ↓s69_35, ↓s69_36, ↓s69_39, ↓s69_40, ↓s69_43, ↓s69_44, ↓s69_48, ↓s69_50, ↓s69_53, ↓s69_54, ↓s69_57, ↓s69_58, ↓s69_61, ↓s69_64, ↓s69_65, ↓s69_68, ↓s69_71, ↓s69_72, ↓s69_74, ↓s69_75, ↓s69_76, ↓s69_79, ↓s69_81, ↓s69_82, ↓s69_85, ↓s69_86, ↓s69_89, ↓s69_92, ↓s69_95, ↓s69_98, ↓s69_99, ↓s69_102, ↓s69_103, ↓s69_106, ↓J_hasLetterG kPost_1 h.1 ho, ↓J_isQuestion, kNLn, kNLi, kNLr, va_rf_s, kOl_n, kOl_s, kap_n, kap_c, kb0, kb1, kbif, zif, z0, z1, Bool.false_eq_true, eq_self, not_true_eq_false, not_false_eq_true, if_true, if_false, and_self, true_and, false_and, and_true, and_false, c, d, e, ki_0, ki_1, mr_0_0]
        · simp only [↓s169_0, ↓s169_1, ↓s169_2, ↓s169_5, ↓s169_8, ↓s169_9, ↓s169_12, ↓s169_15, ↓s169_16, ↓s169_19, ↓s169_22, ↓s169_23, ↓s169_24, ↓s169_25, ↓s169_26, ↓s169_29, ↓s169_30, ↓s169_33, ↓s169_35, ↓s169_38, ↓s169_39, ↓s169_41, ↓s169_43, ↓s169_44, ↓s169_45, ↓s169_46, ↓s169_47, ↓s169_48, ↓s169_50, ↓s169_51, ↓s169_52, ↓s169_55, ↓R_isLetter h.1 ho, ↓R_isFar, ↓R_isPart, kNLn, kNLi, kNLr, va_rf_s, kOl_n, kOl_s, kap_n, kap_c, kb0, kb1, kbif, zif, z0, z1, Bool.false_eq_true, eq_self, not_true_eq_false, not_false_eq_true, if_true, if_false, and_self, true_and, false_and, and_true, and_false, c, d, e, ki_83]
    · refine bB_e hg (-1) (fun mi ml Q h => ?_) (fun mi ml Q h => ?_)
      · simp only [↓s69_0, ↓s69_1, ↓s69_4, ↓s69_5, ↓s69_8, ↓s69_11, ↓s69_12, ↓s69_13, ↓s69_16, ↓s69_19, ↓s69_20, ↓s69_21, ↓s69_22, ↓s69_25, ↓s69_26, ↓s69_29, ↓s69_32, ↓s69_34, ↓s69_35, ↓s69_36, ↓s69_39, ↓s69_40, ↓s69_43, ↓s69_44, ↓s69_48, ↓s69_50, ↓s69_53, ↓s69_54, ↓s69_57, ↓s69_58, ↓s69_61, ↓s69_64, ↓s69_65, ↓s69_68, ↓s69_71, ↓s69_72, ↓s69_74, ↓s69_75, ↓s69_76, ↓s69_79, ↓s69_81, ↓s69_82, ↓s69_85, ↓s69_86, ↓s69_89, ↓s69_92, ↓s69_95, ↓s69_98, ↓s69_99, ↓s69_102, ↓s69_103, ↓s69_106, ↓J_hasLetterG kPost_1 h.1 ho, ↓J_isQuestion, kNLn, kNLi, kNLr, va_rf_s, kOl_n, kOl_s, kap_n, kap_c, kb0, kb1, kbif, zif, z0, z1, Bool.false_eq_true, eq_self, not_true_eq_false, not_false_eq_true, if_true, if_false, and_self, true_and, false_and, and_true, and_false, c, d, ki_0, ki_1, mr_0_0]
      · simp only [↓s169_0, ↓s169_1, ↓s169_2, ↓s169_5, ↓s169_8, ↓s169_9, ↓s169_12, ↓s169_15, ↓s169_16, ↓s169_19, ↓s169_22, ↓s169_23, ↓s169_24, ↓s169_25, ↓s169_26, ↓s169_29, ↓s169_30, ↓s169_33, ↓s169_35, ↓s169_38, ↓s169_39, ↓s169_41, ↓s169_43, ↓s169_44, ↓s169_45, ↓s169_46, ↓s169_47, ↓s169_48, ↓s169_50, ↓s169_51, ↓s169_52, ↓s169_55, ↓R_isLetter h.1 ho, ↓R_isFar, kNLn, kNLi, kNLr, va_rf_s, kOl_n, kOl_s, kap_n, kap_c, kb0, kb1, kbif, zif, z0, z1, Bool.false_eq_true, eq_self, not_true_eq_false, not_false_eq_true, if_true, if_false, and_self, true_and, false_and, and_true, and_false, c, d, ki_83]
  · refine bB_e hg (-1) (fun mi ml Q h => ?_) (fun mi ml Q h => ?_)
    · simp only [↓s69_0, ↓s69_1, ↓s69_4, ↓s69_5, ↓s69_8, ↓s69_11, ↓s69_12, ↓s69_13, ↓s69_16, ↓s69_19, ↓s69_20, ↓s69_21, ↓s69_22, ↓s69_25, ↓s69_26, ↓s69_29, ↓s69_32, ↓s69_34, ↓s69_35, ↓s69_36, ↓s69_39, ↓s69_40, ↓s69_43, ↓s69_44, ↓s69_48, ↓s69_50, ↓s69_53, ↓s69_54, ↓s69_57, ↓s69_58, ↓s69_61, ↓s69_64, ↓s69_65, ↓s69_68, ↓s69_71, ↓s69_72, ↓s69_74, ↓s69_75, ↓s69_76, ↓s69_79, ↓s69_81, ↓s69_82, ↓s69_85, ↓s69_86, ↓s69_89, ↓s69_92, ↓s69_95, ↓s69_98, ↓s69_99, ↓s69_102, ↓s69_103, ↓s69_106, ↓J_hasLetterG kPost_1 h.1 ho, kNLn, kNLi, kNLr, va_rf_s, kOl_n, kOl_s, kap_n, kap_c, kb0, kb1, kbif, zif, z0, z1, Bool.false_eq_true, eq_self, not_true_eq_false, not_false_eq_true, if_true, if_false, and_self, true_and, false_and, and_true, and_false, c, ki_0, ki_1, mr_0_0]
    · simp only [↓s169_0, ↓s169_1, ↓s169_2, ↓s169_5, ↓s169_8, ↓s169_9, ↓s169_12, ↓s169_15, ↓s169_16, ↓s169_19, ↓s169_22, ↓s169_23, ↓s169_24, ↓s169_25, ↓s169_26, ↓s169_29, ↓s169_30, ↓s169_33, ↓s169_35, ↓s169_38, ↓s169_39, ↓s169_41, ↓s169_43, ↓s169_44, ↓s169_45, ↓s169_46, ↓s169_47, ↓s169_48, ↓s169_50, ↓s169_51, ↓s169_52, ↓s169_55, ↓R_isLetter h.1 ho, kNLn, kNLi, kNLr, va_rf_s, kOl_n, kOl_s, kap_n, kap_c, kb0, kb1, kbif, zif, z0, z1, Bool.false_eq_true, eq_self, not_true_eq_false, not_false_eq_true, if_true, if_false, and_self, true_and, false_and, and_true, and_false, c, ki_83]
theorem B_about {x y z : Int32} (hg : gOK S) : bB 71 [some (.ref 0), some (.int x), some (.int y), some (.int z), none] 171 [some (.ref 83), some (.int x), some (.int y), some (.int z)] S := by
  have ho := hg.1.1
  have o1 := ho.1
  have o2 := ho.2.1
  have hd12 := hg.1.2
  by_cases c : gin x (S.1 0 4) = true
  · obtain ⟨i, hi, rfl⟩ := gin_of c (by omega)
    by_cases d : gin y 61 = true
    · obtain ⟨n, hn, rfl⟩ := gin_of d (by decide)
      by_cases e : gin z 2 = true
      · have hl3 := (ho.2.2.2.2.2.2.1 i hi).2.2.2.2.2
        have hc : (nI i).toNatClampNeg = i := nI_clamp (by omega)
        have hv : vp_in (nI i) 6 := vp_in_nI (by omega) (by decide)
        have hz := kz (by omega : S.1 9 i < 2 ^ 31)
        by_cases w : S.1 9 i = 0
        · have oF : ∀ v, v < S.1 0 0 → tOK (tup S.1 6 i v) := fun v hv => tOK_upA ho (by omega) hv
          refine bB_w hg (jtold (jF ((-4), (-1)) (fun v => nI v) (fun v => nI (tmoods (tdays n (tup S.1 6 i v)))) (S.1 0 0)) z) (fun mi ml Q h hQ => ?_) (fun mi ml Q h hQ => ?_)
          · have r9 : mi 10 i = _ := kCR_row h.1 (r := 9) (j := i) (by omega) (by omega) (by rw [tcnt_l (by omega) (by omega)]; exact hi)
            simp only [↓s71_0, ↓s71_1, ↓s71_4, ↓s71_5, ↓s71_8, ↓s71_11, ↓s71_12, ↓s71_13, ↓s71_16, ↓s71_19, ↓s71_20, ↓s71_21, ↓s71_22, ↓s71_25, ↓s71_28, ↓s71_29, ↓s71_30, ↓s71_33, ↓s71_35, ↓s71_36, ↓s71_37, ↓s71_40, ↓s71_41, ↓s71_44, ↓s71_45, ↓s71_49, ↓s71_50, ↓s71_53, ↓s71_56, ↓s71_59, ↓s71_60, ↓s71_63, ↓s71_64, ↓s71_67, ↓s71_70, ↓s71_71, ↓s71_74, ↓s71_77, ↓s71_78, ↓s71_80, ↓s71_81, ↓s71_82, ↓s71_85, ↓s71_87, ↓s71_88, ↓s71_91, ↓s71_92, ↓s71_95, ↓s71_98, ↓s71_101, ↓s71_104, ↓s71_105, ↓s71_108, ↓s71_109, ↓s71_112, ↓J_hasLetterG kPost_1 h.1 ho, ↓J_isQuestion, kNLn, kNLi, kNLr, va_rf_s, kOl_n, kOl_s, kap_n, kap_c, kb0, kb1, kbif, zif, z0, z1, Bool.false_eq_true, eq_self, not_true_eq_false, not_false_eq_true, if_true, if_false, and_self, true_and, false_and, and_true, and_false, c, d, e, ki_0, ki_1, ki_10, kl_10, ki_27, mr_0_0, mr_0_2, mr_1_10, hc, hv, r9, hz, w]
            refine C_above (fun mi0 h0 f0 => ?_)
            simp only [↓s71_0, ↓s71_1, ↓s71_4, ↓s71_5, ↓s71_8, ↓s71_11, ↓s71_12, ↓s71_13, ↓s71_16, ↓s71_19, ↓s71_20, ↓s71_21, ↓s71_22, ↓s71_25, ↓s71_28, ↓s71_29, ↓s71_30, ↓s71_33, ↓s71_35, ↓s71_36, ↓s71_37, ↓s71_40, ↓s71_41, ↓s71_44, ↓s71_45, ↓s71_49, ↓s71_50, ↓s71_53, ↓s71_56, ↓s71_59, ↓s71_60, ↓s71_63, ↓s71_64, ↓s71_67, ↓s71_70, ↓s71_71, ↓s71_74, ↓s71_77, ↓s71_78, ↓s71_80, ↓s71_81, ↓s71_82, ↓s71_85, ↓s71_87, ↓s71_88, ↓s71_91, ↓s71_92, ↓s71_95, ↓s71_98, ↓s71_101, ↓s71_104, ↓s71_105, ↓s71_108, ↓s71_109, ↓s71_112, kNLn, kNLi, kNLr, va_rf_s, kOl_n, kOl_s, kap_n, kap_c, kb0, kb1, kbif]
            exact C_aboutL h hg hi hn oF hQ 0 (Nat.zero_le _) mi0 h0 (wC_27 f0)
          · have hz2 := hz
            have c15 : (nI 15).toNatClampNeg = 15 := rfl
            have v15 : vp_in (nI 15) 222 := vp_in_nI (by decide) (by decide)
            simp only [↓s171_0, ↓s171_1, ↓s171_2, ↓s171_5, ↓s171_8, ↓s171_9, ↓s171_12, ↓s171_15, ↓s171_16, ↓s171_19, ↓s171_22, ↓s171_23, ↓s171_24, ↓s171_25, ↓s171_26, ↓s171_29, ↓s171_32, ↓s171_34, ↓s171_37, ↓s171_38, ↓s171_40, ↓s171_42, ↓s171_43, ↓s171_44, ↓s171_45, ↓s171_46, ↓s171_47, ↓s171_48, ↓s171_51, ↓s171_53, ↓s171_54, ↓s171_55, ↓s171_56, ↓s171_59, ↓R_isLetter h.1 ho, ↓R_isFar, ↓R_isPart, ↓R_legOf h.1 ho hi, kNLn, kNLi, kNLr, va_rf_s, kOl_n, kOl_s, kap_n, kap_c, kb0, kb1, kbif, zif, z0, z1, Bool.false_eq_true, eq_self, not_true_eq_false, not_false_eq_true, if_true, if_false, and_self, true_and, false_and, and_true, and_false, c, d, e, ki_83, ki_84, kl_84, mr_83_0, c15, v15, h.1.1.1, hz, w, pk_mul, nI_add]
            refine R_most (cell := 16 + 6 * i + 2) (many := S.1 0 0) (F := fun v => tup S.1 6 i v) h.1 ho (by omega) (by omega) (by omega) (fun v hv => ⟨oF v hv, by show tup S.1 6 i v 0 12 + n < 2000; rw [tup_n (by omega)]; omega, fun a ha => kRR_upL ho ha hi (by decide)⟩) (fun mi' f' => ?_)
            simp only [↓s171_0, ↓s171_1, ↓s171_2, ↓s171_5, ↓s171_8, ↓s171_9, ↓s171_12, ↓s171_15, ↓s171_16, ↓s171_19, ↓s171_22, ↓s171_23, ↓s171_24, ↓s171_25, ↓s171_26, ↓s171_29, ↓s171_32, ↓s171_34, ↓s171_37, ↓s171_38, ↓s171_40, ↓s171_42, ↓s171_43, ↓s171_44, ↓s171_45, ↓s171_46, ↓s171_47, ↓s171_48, ↓s171_51, ↓s171_53, ↓s171_54, ↓s171_55, ↓s171_56, ↓s171_59, kNLn, kNLi, kNLr, va_rf_s, kOl_n, kOl_s, kap_n, kap_c, kb0, kb1, kbif]
            exact hQ mi' f'
        · refine bB_e hg (-2) (fun mi ml Q h => ?_) (fun mi ml Q h => ?_)
          · have r9 : mi 10 i = _ := kCR_row h.1 (r := 9) (j := i) (by omega) (by omega) (by rw [tcnt_l (by omega) (by omega)]; exact hi)
            simp only [↓s71_0, ↓s71_1, ↓s71_4, ↓s71_5, ↓s71_8, ↓s71_11, ↓s71_12, ↓s71_13, ↓s71_16, ↓s71_19, ↓s71_20, ↓s71_21, ↓s71_22, ↓s71_25, ↓s71_28, ↓s71_29, ↓s71_30, ↓s71_33, ↓s71_35, ↓s71_36, ↓s71_37, ↓s71_40, ↓s71_41, ↓s71_44, ↓s71_45, ↓s71_49, ↓s71_50, ↓s71_53, ↓s71_56, ↓s71_59, ↓s71_60, ↓s71_63, ↓s71_64, ↓s71_67, ↓s71_70, ↓s71_71, ↓s71_74, ↓s71_77, ↓s71_78, ↓s71_80, ↓s71_81, ↓s71_82, ↓s71_85, ↓s71_87, ↓s71_88, ↓s71_91, ↓s71_92, ↓s71_95, ↓s71_98, ↓s71_101, ↓s71_104, ↓s71_105, ↓s71_108, ↓s71_109, ↓s71_112, ↓J_hasLetterG kPost_1 h.1 ho, ↓J_isQuestion, kNLn, kNLi, kNLr, va_rf_s, kOl_n, kOl_s, kap_n, kap_c, kb0, kb1, kbif, zif, z0, z1, Bool.false_eq_true, eq_self, not_true_eq_false, not_false_eq_true, if_true, if_false, and_self, true_and, false_and, and_true, and_false, c, d, e, ki_0, ki_1, ki_10, kl_10, mr_0_0, mr_1_10, hc, hv, r9, hz, w]
          · simp only [↓s171_0, ↓s171_1, ↓s171_2, ↓s171_5, ↓s171_8, ↓s171_9, ↓s171_12, ↓s171_15, ↓s171_16, ↓s171_19, ↓s171_22, ↓s171_23, ↓s171_24, ↓s171_25, ↓s171_26, ↓s171_29, ↓s171_32, ↓s171_34, ↓s171_37, ↓s171_38, ↓s171_40, ↓s171_42, ↓s171_43, ↓s171_44, ↓s171_45, ↓s171_46, ↓s171_47, ↓s171_48, ↓s171_51, ↓s171_53, ↓s171_54, ↓s171_55, ↓s171_56, ↓s171_59, ↓R_isLetter h.1 ho, ↓R_isFar, ↓R_isPart, ↓R_legOf h.1 ho hi, kNLn, kNLi, kNLr, va_rf_s, kOl_n, kOl_s, kap_n, kap_c, kb0, kb1, kbif, zif, z0, z1, Bool.false_eq_true, eq_self, not_true_eq_false, not_false_eq_true, if_true, if_false, and_self, true_and, false_and, and_true, and_false, c, d, e, ki_83, hz, w]
      · refine bB_e hg (-1) (fun mi ml Q h => ?_) (fun mi ml Q h => ?_)
        · simp only [↓s71_0, ↓s71_1, ↓s71_4, ↓s71_5, ↓s71_8, ↓s71_11, ↓s71_12, ↓s71_13, ↓s71_16, ↓s71_19, ↓s71_20, ↓s71_21, ↓s71_22, ↓s71_25, ↓s71_28, ↓s71_29, ↓s71_30, ↓s71_33, ↓s71_35, ↓s71_36, ↓s71_37, ↓s71_40, ↓s71_41, ↓s71_44, ↓s71_45, ↓s71_49, ↓s71_50, ↓s71_53, ↓s71_56, ↓s71_59, ↓s71_60, ↓s71_63, ↓s71_64, ↓s71_67, ↓s71_70, ↓s71_71, ↓s71_74, ↓s71_77, ↓s71_78, ↓s71_80, ↓s71_81, ↓s71_82, ↓s71_85, ↓s71_87, ↓s71_88, ↓s71_91, ↓s71_92, ↓s71_95, ↓s71_98, ↓s71_101, ↓s71_104, ↓s71_105, ↓s71_108, ↓s71_109, ↓s71_112, ↓J_hasLetterG kPost_1 h.1 ho, ↓J_isQuestion, kNLn, kNLi, kNLr, va_rf_s, kOl_n, kOl_s, kap_n, kap_c, kb0, kb1, kbif, zif, z0, z1, Bool.false_eq_true, eq_self, not_true_eq_false, not_false_eq_true, if_true, if_false, and_self, true_and, false_and, and_true, and_false, c, d, e, ki_0, ki_1, mr_0_0]
        · simp only [↓s171_0, ↓s171_1, ↓s171_2, ↓s171_5, ↓s171_8, ↓s171_9, ↓s171_12, ↓s171_15, ↓s171_16, ↓s171_19, ↓s171_22, ↓s171_23, ↓s171_24, ↓s171_25, ↓s171_26, ↓s171_29, ↓s171_32, ↓s171_34, ↓s171_37, ↓s171_38, ↓s171_40, ↓s171_42, ↓s171_43, ↓s171_44, ↓s171_45, ↓s171_46, ↓s171_47, ↓s171_48, ↓s171_51, ↓s171_53, ↓s171_54, ↓s171_55, ↓s171_56, ↓s171_59, ↓R_isLetter h.1 ho, ↓R_isFar, ↓R_isPart, kNLn, kNLi, kNLr, va_rf_s, kOl_n, kOl_s, kap_n, kap_c, kb0, kb1, kbif, zif, z0, z1, Bool.false_eq_true, eq_self, not_true_eq_false, not_false_eq_true, if_true, if_false, and_self, true_and, false_and, and_true, and_false, c, d, e, ki_83]
    · refine bB_e hg (-1) (fun mi ml Q h => ?_) (fun mi ml Q h => ?_)
      · simp only [↓s71_0, ↓s71_1, ↓s71_4, ↓s71_5, ↓s71_8, ↓s71_11, ↓s71_12, ↓s71_13, ↓s71_16, ↓s71_19, ↓s71_20, ↓s71_21, ↓s71_22, ↓s71_25, ↓s71_28, ↓s71_29, ↓s71_30, ↓s71_33, ↓s71_35, ↓s71_36, ↓s71_37, ↓s71_40, ↓s71_41, ↓s71_44, ↓s71_45, ↓s71_49, ↓s71_50, ↓s71_53, ↓s71_56, ↓s71_59, ↓s71_60, ↓s71_63, ↓s71_64, ↓s71_67, ↓s71_70, ↓s71_71, ↓s71_74, ↓s71_77, ↓s71_78, ↓s71_80, ↓s71_81, ↓s71_82, ↓s71_85, ↓s71_87, ↓s71_88, ↓s71_91, ↓s71_92, ↓s71_95, ↓s71_98, ↓s71_101, ↓s71_104, ↓s71_105, ↓s71_108, ↓s71_109, ↓s71_112, ↓J_hasLetterG kPost_1 h.1 ho, ↓J_isQuestion, kNLn, kNLi, kNLr, va_rf_s, kOl_n, kOl_s, kap_n, kap_c, kb0, kb1, kbif, zif, z0, z1, Bool.false_eq_true, eq_self, not_true_eq_false, not_false_eq_true, if_true, if_false, and_self, true_and, false_and, and_true, and_false, c, d, ki_0, ki_1, mr_0_0]
      · simp only [↓s171_0, ↓s171_1, ↓s171_2, ↓s171_5, ↓s171_8, ↓s171_9, ↓s171_12, ↓s171_15, ↓s171_16, ↓s171_19, ↓s171_22, ↓s171_23, ↓s171_24, ↓s171_25, ↓s171_26, ↓s171_29, ↓s171_32, ↓s171_34, ↓s171_37, ↓s171_38, ↓s171_40, ↓s171_42, ↓s171_43, ↓s171_44, ↓s171_45, ↓s171_46, ↓s171_47, ↓s171_48, ↓s171_51, ↓s171_53, ↓s171_54, ↓s171_55, ↓s171_56, ↓s171_59, ↓R_isLetter h.1 ho, ↓R_isFar, kNLn, kNLi, kNLr, va_rf_s, kOl_n, kOl_s, kap_n, kap_c, kb0, kb1, kbif, zif, z0, z1, Bool.false_eq_true, eq_self, not_true_eq_false, not_false_eq_true, if_true, if_false, and_self, true_and, false_and, and_true, and_false, c, d, ki_83]
  · refine bB_e hg (-1) (fun mi ml Q h => ?_) (fun mi ml Q h => ?_)
    · simp only [↓s71_0, ↓s71_1, ↓s71_4, ↓s71_5, ↓s71_8, ↓s71_11, ↓s71_12, ↓s71_13, ↓s71_16, ↓s71_19, ↓s71_20, ↓s71_21, ↓s71_22, ↓s71_25, ↓s71_28, ↓s71_29, ↓s71_30, ↓s71_33, ↓s71_35, ↓s71_36, ↓s71_37, ↓s71_40, ↓s71_41, ↓s71_44, ↓s71_45, ↓s71_49, ↓s71_50, ↓s71_53, ↓s71_56, ↓s71_59, ↓s71_60, ↓s71_63, ↓s71_64, ↓s71_67, ↓s71_70, ↓s71_71, ↓s71_74, ↓s71_77, ↓s71_78, ↓s71_80, ↓s71_81, ↓s71_82, ↓s71_85, ↓s71_87, ↓s71_88, ↓s71_91, ↓s71_92, ↓s71_95, ↓s71_98, ↓s71_101, ↓s71_104, ↓s71_105, ↓s71_108, ↓s71_109, ↓s71_112, ↓J_hasLetterG kPost_1 h.1 ho, kNLn, kNLi, kNLr, va_rf_s, kOl_n, kOl_s, kap_n, kap_c, kb0, kb1, kbif, zif, z0, z1, Bool.false_eq_true, eq_self, not_true_eq_false, not_false_eq_true, if_true, if_false, and_self, true_and, false_and, and_true, and_false, c, ki_0, ki_1, mr_0_0]
    · simp only [↓s171_0, ↓s171_1, ↓s171_2, ↓s171_5, ↓s171_8, ↓s171_9, ↓s171_12, ↓s171_15, ↓s171_16, ↓s171_19, ↓s171_22, ↓s171_23, ↓s171_24, ↓s171_25, ↓s171_26, ↓s171_29, ↓s171_32, ↓s171_34, ↓s171_37, ↓s171_38, ↓s171_40, ↓s171_42, ↓s171_43, ↓s171_44, ↓s171_45, ↓s171_46, ↓s171_47, ↓s171_48, ↓s171_51, ↓s171_53, ↓s171_54, ↓s171_55, ↓s171_56, ↓s171_59, ↓R_isLetter h.1 ho, kNLn, kNLi, kNLr, va_rf_s, kOl_n, kOl_s, kap_n, kap_c, kb0, kb1, kbif, zif, z0, z1, Bool.false_eq_true, eq_self, not_true_eq_false, not_false_eq_true, if_true, if_false, and_self, true_and, false_and, and_true, and_false, c, ki_83]
theorem B_kind {x y z : Int32} (hg : gOK S) : bB 74 [some (.ref 0), some (.int x), some (.int y), some (.int z), none] 174 [some (.ref 83), some (.int x), some (.int y), some (.int z)] S := by
  have ho := hg.1.1
  have o1 := ho.1
  have hd12 := hg.1.2
  by_cases c : gin x (S.1 0 0) = true
  · obtain ⟨p, hp, rfl⟩ := gin_of c (by omega)
    by_cases d : gin y 61 = true
    · obtain ⟨n, hn, rfl⟩ := gin_of d (by decide)
      by_cases e : gin z 2 = true
      · have oF : ∀ v, v < 4 → tOK (tup S.1 1 p v) := fun v hv => tOK_upP ho (Or.inl ⟨rfl, hv⟩)
        refine bB_w hg (jtold (jF ((-4), (-1)) (fun v => nI v) (fun v => nI (tmoods (tdays n (tup S.1 1 p v)))) 4) z) (fun mi ml Q h hQ => ?_) (fun mi ml Q h hQ => ?_)
        · simp only [↓s74_0, ↓s74_1, ↓s74_4, ↓s74_5, ↓s74_8, ↓s74_11, ↓s74_12, ↓s74_13, ↓s74_16, ↓s74_19, ↓s74_20, ↓s74_21, ↓s74_22, ↓s74_25, ↓s74_26, ↓s74_29, ↓s74_30, ↓s74_34, ↓s74_35, ↓s74_38, ↓s74_39, ↓s74_42, ↓s74_43, ↓s74_46, ↓s74_49, ↓s74_50, ↓s74_53, ↓s74_56, ↓s74_57, ↓s74_59, ↓s74_60, ↓s74_61, ↓s74_64, ↓s74_66, ↓s74_67, ↓s74_70, ↓s74_71, ↓s74_74, ↓s74_77, ↓s74_80, ↓s74_83, ↓s74_84, ↓s74_87, ↓s74_88, ↓s74_91, ↓J_hasOneG kPost_1 h.1 ho, ↓J_isQuestion, kNLn, kNLi, kNLr, va_rf_s, kOl_n, kOl_s, kap_n, kap_c, kb0, kb1, kbif, zif, z0, z1, Bool.false_eq_true, eq_self, not_true_eq_false, not_false_eq_true, if_true, if_false, and_self, true_and, false_and, and_true, and_false, c, d, e, ki_0, ki_1, ki_27, mr_0_0, mr_0_2]
          refine C_above (fun mi0 h0 f0 => ?_)
          simp only [↓s74_0, ↓s74_1, ↓s74_4, ↓s74_5, ↓s74_8, ↓s74_11, ↓s74_12, ↓s74_13, ↓s74_16, ↓s74_19, ↓s74_20, ↓s74_21, ↓s74_22, ↓s74_25, ↓s74_26, ↓s74_29, ↓s74_30, ↓s74_34, ↓s74_35, ↓s74_38, ↓s74_39, ↓s74_42, ↓s74_43, ↓s74_46, ↓s74_49, ↓s74_50, ↓s74_53, ↓s74_56, ↓s74_57, ↓s74_59, ↓s74_60, ↓s74_61, ↓s74_64, ↓s74_66, ↓s74_67, ↓s74_70, ↓s74_71, ↓s74_74, ↓s74_77, ↓s74_80, ↓s74_83, ↓s74_84, ↓s74_87, ↓s74_88, ↓s74_91, kNLn, kNLi, kNLr, va_rf_s, kOl_n, kOl_s, kap_n, kap_c, kb0, kb1, kbif]
          exact C_kindL h hg hp hn oF hQ 0 (Nat.zero_le _) mi0 h0 (wC_27 f0)
        · simp only [↓s174_0, ↓s174_1, ↓s174_2, ↓s174_5, ↓s174_8, ↓s174_9, ↓s174_12, ↓s174_15, ↓s174_16, ↓s174_19, ↓s174_22, ↓s174_23, ↓s174_24, ↓s174_25, ↓s174_26, ↓s174_27, ↓s174_28, ↓s174_29, ↓s174_30, ↓s174_31, ↓s174_37, ↓s174_38, ↓R_isOne h.1 ho, ↓R_isFar, ↓R_isPart, kNLn, kNLi, kNLr, va_rf_s, kOl_n, kOl_s, kap_n, kap_c, kb0, kb1, kbif, zif, z0, z1, Bool.false_eq_true, eq_self, not_true_eq_false, not_false_eq_true, if_true, if_false, and_self, true_and, false_and, and_true, and_false, c, d, e, ki_83, pk_mul, nI_add]
          refine R_most (cell := 3 * p + 0) (many := 4) (F := fun v => tup S.1 1 p v) h.1 ho (by omega) (by decide) (by omega) (fun v hv => ⟨oF v hv, by show tup S.1 1 p v 0 12 + n < 2000; rw [tup_n (by omega)]; omega, fun a ha => kRR_upP ho ha hp (by decide)⟩) (fun mi' f' => ?_)
          simp only [↓s174_0, ↓s174_1, ↓s174_2, ↓s174_5, ↓s174_8, ↓s174_9, ↓s174_12, ↓s174_15, ↓s174_16, ↓s174_19, ↓s174_22, ↓s174_23, ↓s174_24, ↓s174_25, ↓s174_26, ↓s174_27, ↓s174_28, ↓s174_29, ↓s174_30, ↓s174_31, ↓s174_34, ↓s174_37, ↓s174_38, kNLn, kNLi, kNLr, va_rf_s, kOl_n, kOl_s, kap_n, kap_c, kb0, kb1, kbif]
          exact hQ mi' f'
      · refine bB_e hg (-1) (fun mi ml Q h => ?_) (fun mi ml Q h => ?_)
        · simp only [↓s74_0, ↓s74_1, ↓s74_4, ↓s74_5, ↓s74_8, ↓s74_11, ↓s74_12, ↓s74_13, ↓s74_16, ↓s74_19, ↓s74_20, ↓s74_21, ↓s74_22, ↓s74_25, ↓s74_26, ↓s74_29, ↓s74_30, ↓s74_34, ↓s74_35, ↓s74_38, ↓s74_39, ↓s74_42, ↓s74_43, ↓s74_46, ↓s74_49, ↓s74_50, ↓s74_53, ↓s74_56, ↓s74_57, ↓s74_59, ↓s74_60, ↓s74_61, ↓s74_64, ↓s74_66, ↓s74_67, ↓s74_70, ↓s74_71, ↓s74_74, ↓s74_77, ↓s74_80, ↓s74_83, ↓s74_84, ↓s74_87, ↓s74_88, ↓s74_91, ↓J_hasOneG kPost_1 h.1 ho, ↓J_isQuestion, kNLn, kNLi, kNLr, va_rf_s, kOl_n, kOl_s, kap_n, kap_c, kb0, kb1, kbif, zif, z0, z1, Bool.false_eq_true, eq_self, not_true_eq_false, not_false_eq_true, if_true, if_false, and_self, true_and, false_and, and_true, and_false, c, d, e, ki_0, ki_1, mr_0_0]
        · simp only [↓s174_0, ↓s174_1, ↓s174_2, ↓s174_5, ↓s174_8, ↓s174_9, ↓s174_12, ↓s174_15, ↓s174_16, ↓s174_19, ↓s174_22, ↓s174_23, ↓s174_24, ↓s174_25, ↓s174_26, ↓s174_27, ↓s174_28, ↓s174_29, ↓s174_30, ↓s174_31, ↓s174_34, ↓s174_37, ↓s174_38, ↓R_isOne h.1 ho, ↓R_isFar, ↓R_isPart, kNLn, kNLi, kNLr, va_rf_s, kOl_n, kOl_s, kap_n, kap_c, kb0, kb1, kbif, zif, z0, z1, Bool.false_eq_true, eq_self, not_true_eq_false, not_false_eq_true, if_true, if_false, and_self, true_and, false_and, and_true, and_false, c, d, e, ki_83]
    · refine bB_e hg (-1) (fun mi ml Q h => ?_) (fun mi ml Q h => ?_)
      · simp only [↓s74_0, ↓s74_1, ↓s74_4, ↓s74_5, ↓s74_8, ↓s74_11, ↓s74_12, ↓s74_13, ↓s74_16, ↓s74_19, ↓s74_20, ↓s74_21, ↓s74_22, ↓s74_25, ↓s74_26, ↓s74_29, ↓s74_30, ↓s74_34, ↓s74_35, ↓s74_38, ↓s74_39, ↓s74_42, ↓s74_43, ↓s74_46, ↓s74_49, ↓s74_50, ↓s74_53, ↓s74_56, ↓s74_57, ↓s74_59, ↓s74_60, ↓s74_61, ↓s74_64, ↓s74_66, ↓s74_67, ↓s74_70, ↓s74_71, ↓s74_74, ↓s74_77, ↓s74_80, ↓s74_83, ↓s74_84, ↓s74_87, ↓s74_88, ↓s74_91, ↓J_hasOneG kPost_1 h.1 ho, ↓J_isQuestion, kNLn, kNLi, kNLr, va_rf_s, kOl_n, kOl_s, kap_n, kap_c, kb0, kb1, kbif, zif, z0, z1, Bool.false_eq_true, eq_self, not_true_eq_false, not_false_eq_true, if_true, if_false, and_self, true_and, false_and, and_true, and_false, c, d, ki_0, ki_1, mr_0_0]
      · simp only [↓s174_0, ↓s174_1, ↓s174_2, ↓s174_5, ↓s174_8, ↓s174_9, ↓s174_12, ↓s174_15, ↓s174_16, ↓s174_19, ↓s174_22, ↓s174_23, ↓s174_24, ↓s174_25, ↓s174_26, ↓s174_27, ↓s174_28, ↓s174_29, ↓s174_30, ↓s174_31, ↓s174_34, ↓s174_37, ↓s174_38, ↓R_isOne h.1 ho, ↓R_isFar, kNLn, kNLi, kNLr, va_rf_s, kOl_n, kOl_s, kap_n, kap_c, kb0, kb1, kbif, zif, z0, z1, Bool.false_eq_true, eq_self, not_true_eq_false, not_false_eq_true, if_true, if_false, and_self, true_and, false_and, and_true, and_false, c, d, ki_83]
  · refine bB_e hg (-1) (fun mi ml Q h => ?_) (fun mi ml Q h => ?_)
    · simp only [↓s74_0, ↓s74_1, ↓s74_4, ↓s74_5, ↓s74_8, ↓s74_11, ↓s74_12, ↓s74_13, ↓s74_16, ↓s74_19, ↓s74_20, ↓s74_21, ↓s74_22, ↓s74_25, ↓s74_26, ↓s74_29, ↓s74_30, ↓s74_34, ↓s74_35, ↓s74_38, ↓s74_39, ↓s74_42, ↓s74_43, ↓s74_46, ↓s74_49, ↓s74_50, ↓s74_53, ↓s74_56, ↓s74_57, ↓s74_59, ↓s74_60, ↓s74_61, ↓s74_64, ↓s74_66, ↓s74_67, ↓s74_70, ↓s74_71, ↓s74_74, ↓s74_77, ↓s74_80, ↓s74_83, ↓s74_84, ↓s74_87, ↓s74_88, ↓s74_91, ↓J_hasOneG kPost_1 h.1 ho, kNLn, kNLi, kNLr, va_rf_s, kOl_n, kOl_s, kap_n, kap_c, kb0, kb1, kbif, zif, z0, z1, Bool.false_eq_true, eq_self, not_true_eq_false, not_false_eq_true, if_true, if_false, and_self, true_and, false_and, and_true, and_false, c, ki_0, ki_1, mr_0_0]
    · simp only [↓s174_0, ↓s174_1, ↓s174_2, ↓s174_5, ↓s174_8, ↓s174_9, ↓s174_12, ↓s174_15, ↓s174_16, ↓s174_19, ↓s174_22, ↓s174_23, ↓s174_24, ↓s174_25, ↓s174_26, ↓s174_27, ↓s174_28, ↓s174_29, ↓s174_30, ↓s174_31, ↓s174_34, ↓s174_37, ↓s174_38, ↓R_isOne h.1 ho, kNLn, kNLi, kNLr, va_rf_s, kOl_n, kOl_s, kap_n, kap_c, kb0, kb1, kbif, zif, z0, z1, Bool.false_eq_true, eq_self, not_true_eq_false, not_false_eq_true, if_true, if_false, and_self, true_and, false_and, and_true, and_false, c, ki_83]
end BEST
