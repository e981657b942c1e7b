/-! the text: lines, the reference's side -/
def rTok (B : Nat → Nat) (n q : Nat) (f : Nat → Nat → Int32) : Prop := f 83 12 = nI 0 ∧ f 83 8 = nI (tE B n q) ∧ f 83 10 = nI (tK B n q) ∧ f 83 9 = nI (tB B n q) ∧ (tK B n q = 2 → f 83 11 = nI (tV B n q))
def rFlt (r : Nat × Nat) (f : Nat → Nat → Int32) : Prop := f 83 12 = nI r.1 ∧ f 83 13 = nI r.2 ∧ 0 < f 83 12
/-- the draft holds T -/
def dR (T : tT) (d : Nat → Int32) : Prop := (d 15 = nI (T 0 0) ∧ d 52 = nI (T 0 4) ∧ d 53 = nI (T 0 11) ∧ d 54 = nI 0 ∧ d 55 = nI 0) ∧ (∀ p w, p < T 0 0 → w < 3 → d (3 * p + w) = nI (T (1 + w) p)) ∧ (∀ i w, i < T 0 4 → w < 4 → d (16 + 6 * i + w) = nI (T (4 + w) i)) ∧ ∀ i, i < 6 → d (16 + 6 * i + 5) = nI 0
def hOK (T : tT) (hT : Nat) : Prop := hT ≤ 5 ∧ (∀ i, i < T 0 4 → T 4 i < hT ∧ T 5 i < hT ∧ T 6 i < hT) ∧ (hT = 0 ∨ ∃ i, i < T 0 4 ∧ (T 4 i + 1 = hT ∨ T 5 i + 1 = hT ∨ T 6 i + 1 = hT))
def rTold (T : tT) (hp : Bool) (hT : Nat) (f : Nat → Nat → Int32) : Prop := dR T (f 87) ∧ f 83 4 = nI (if hp = true then 1 else 0) ∧ f 83 5 = nI hT - nI 1 ∧ hOK T hT
/-- what a reading of the text may change -/
def fQ (f g : Nat → Nat → Int32) : Prop := (∀ q, q ≠ 83 → q ≠ 87 → g q = f q) ∧ ∀ k, k ∉ [4, 5, 8, 9, 10, 11, 12, 13] → g 83 k = f 83 k
theorem fQ_rf {f : Nat → Nat → Int32} : fQ f f := ⟨fun _ _ _ => rfl, fun _ _ => rfl⟩
theorem fQ_tr {f g h : Nat → Nat → Int32} (h1 : fQ f g) (h2 : fQ g h) : fQ f h := ⟨fun q a b => (h2.1 q a b).trans (h1.1 q a b), fun k hk => (h2.2 k hk).trans (h1.2 k hk)⟩
theorem fQ_fK {L : List Nat} {f g : Nat → Nat → Int32} (e : fK 83 L f g) (h : ∀ j, j ∈ L → j ∈ [4, 5, 8, 9, 10, 11, 12, 13]) : fQ f g := ⟨fun q a _ => e.1 q a, fun k hk => e.2 k (fun z => hk (h k z))⟩
theorem fQ_87 {f g : Nat → Nat → Int32} {k : Nat} {v : Int32} (h : fQ f g) : fQ f (kup g 87 k v) := ⟨fun q a b => (kup_ne b).trans (h.1 q a b), fun k hk => by rw [kup_ne (by decide)]; exact h.2 k hk⟩
theorem fQ_83 {f g : Nat → Nat → Int32} {k : Nat} {v : Int32} (h : fQ f g) (hk : k ∈ [4, 5, 8, 9, 10, 11, 12, 13]) : fQ f (kup g 83 k v) := ⟨fun q a b => (kup_ne a).trans (h.1 q a b), fun j hj => by rw [kup_eq, pk_un (fun e => hj (by rw [e]; exact hk))]; exact h.2 j hj⟩
theorem rT_fQ {n : Nat} {B : Nat → Nat} {f g : Nat → Nat → Int32} (h : rT n B f) (e : fQ f g) : rT n B g := ⟨h.1, (e.2 7 (by decide)).trans h.2.1, fun j hj => by rw [e.1 88 (by decide) (by decide)]; exact h.2.2 j hj⟩
theorem rTold_fK {T : tT} {hp : Bool} {hT : Nat} {L : List Nat} {f g : Nat → Nat → Int32} (h : rTold T hp hT f) (e : fK 83 L f g) (h1 : 4 ∉ L) (h2 : 5 ∉ L) : rTold T hp hT g := ⟨by rw [e.1 87 (by decide)]; exact h.1, (e.2 4 h1).trans h.2.1, (e.2 5 h2).trans h.2.2.1, h.2.2.2⟩
section RLINE
variable {mi : Nat → Nat → Int32} {ml : Nat → Nat → Int64} {m : kMem} {Q : Option Value → kMem → Prop} {B : Nat → Nat} {n lo hi q b e j i K ln hT : Nat} {T : tT} {hp : Bool} {vs : Nat → Nat}
theorem p_fl {x : Int32} (h : 0 < x) : ¬ x = 0 := fun z => by rw [z] at h; exact absurd h (by decide)
theorem p_nle {x : Int32} (h : 0 < x) : ¬ x ≤ 0 := Int32.not_le.mpr h
theorem R_inV {v l h : Nat} (hv : v < 2 ^ 31) (hl : l < 2 ^ 31) (hh : h < 2 ^ 31) : kJ 107 0 [some (.long (nI v).toInt64), none, some (.long (nI l).toInt64), none, some (.long (nI h).toInt64), none] [] m Q = Q (some (.int (if l ≤ v ∧ v ≤ h then nI 1 else nI 0))) m := by
  have e : ((nI l).toInt64 ≤ (nI v).toInt64 ∧ (nI v).toInt64 ≤ (nI h).toInt64) = (l ≤ v ∧ v ≤ h) := by
    rw [Int64.le_iff_toInt_le, Int64.le_iff_toInt_le, toI64, toI64, toI64, nI_toInt hv, nI_toInt hl, nI_toInt hh]
    apply propext
    omega
  rw [R_in]
  simp only [e]
theorem R_numE {x y : Int32} (h : 0 < mi 83 12) : kJ 120 0 [some (.ref 83), some (.int x), some (.int y), none] [] (mi, ml, MR, 95) Q = Q (some (.int (nI 0))) (mi, ml, MR, 95) := by
  have h1 := p_fl h
  simp only [↓s120_0, ↓s120_1, ↓s120_4, ↓s120_7, ↓s120_8, ↓s120_9, ↓s120_12, ↓s120_13, ↓s120_16, ↓s120_17, ↓s120_20, ↓s120_21, ↓s120_22, ↓s120_25, ↓s120_26, ↓s120_29, ↓s120_32, ↓s120_33, ↓s120_34, ↓s120_37, ↓s120_38, ↓s120_39, ↓s120_40, ↓s120_41, ↓s120_42, ↓s120_45, ↓s120_46, ↓s120_49, ↓s120_50, ↓s120_53, ↓s120_56, ↓s120_57, ↓s120_60, ↓s120_63, ↓s120_64, ↓s120_65, ↓s120_66, ↓s120_69, ↓s120_70, ↓R_reads0 h, kNLn, kNLi, kNLr, va_rf_s, kOl_n, kOl_s, kap_n, kap_c, kb0, kb1, kbif, zif, z0, z1, Bool.false_eq_true, eq_self, not_true_eq_false, not_false_eq_true, if_true, if_false, and_self, true_and, false_and, and_true, and_false, ki_83, h1]
theorem rFlt_12 {F p : Nat} (h1 : F ≠ 0) (h2 : F < 100) (e : mi 83 12 = nI F) (e2 : mi 83 13 = nI p) : rFlt (F, p) mi := ⟨e, e2, by
  rw [e]
  have : nI 0 < nI F := nI_lt (by omega) (by omega)
  exact this⟩
theorem R_num (h : rT n B mi) (hq : q ≤ n) (hT : rTok B n q mi) (hl : lo < 1000) (hh : hi < 1000)
    (hQ1 : tK B n q ≠ 2 → ∀ mi', fK 83 [8, 9, 10, 11, 12, 13] mi mi' → rFlt (2, tB B n q) mi' → Q (some (.int (nI 0))) (mi', ml, MR, 95))
    (hQ2 : tK B n q = 2 → ¬ (lo ≤ tV B n q ∧ tV B n q ≤ hi) → ∀ mi', fK 83 [8, 9, 10, 11, 12, 13] mi mi' → rFlt (3, tB B n q) mi' → Q (some (.int (nI 0))) (mi', ml, MR, 95))
    (hQ3 : tK B n q = 2 → lo ≤ tV B n q ∧ tV B n q ≤ hi → tK B n (tE B n q) ≠ 4 → ∀ mi', fK 83 [8, 9, 10, 11, 12, 13] mi mi' → rTok B n (tE B n q) mi' → Q (some (.int (nI (tV B n q)))) (mi', ml, MR, 95))
    (hQ4 : tK B n q = 2 → lo ≤ tV B n q ∧ tV B n q ≤ hi → tK B n (tE B n q) = 4 → ∀ mi', fK 83 [8, 9, 10, 11, 12, 13] mi mi' → rFlt (1, tB B n (tE B n q)) mi' → Q (some (.int (nI (tV B n q)))) (mi', ml, MR, 95)) :
    kJ 120 0 [some (.ref 83), some (.int (nI lo)), some (.int (nI hi)), none] [] (mi, ml, MR, 95) Q := by
  obtain ⟨g12, g8, g10, g9, g11⟩ := hT
  have hle := tK_le (B := B) (n := n) (q := q)
  have l2 := nI_lit (by omega : tK B n q < 2 ^ 31) (by decide : 2 < 2 ^ 31)
  by_cases c : tK B n q = 2
  · have v11 := g11 c
    have v100 := (tK_2 c).2.2.2.2
    by_cases d : lo ≤ tV B n q ∧ tV B n q ≤ hi
    · simp only [↓s120_0, ↓s120_1, ↓s120_4, ↓s120_7, ↓s120_8, ↓s120_9, ↓s120_12, ↓s120_13, ↓s120_16, ↓s120_17, ↓s120_20, ↓s120_21, ↓s120_22, ↓s120_25, ↓s120_26, ↓s120_29, ↓s120_32, ↓s120_33, ↓s120_34, ↓s120_37, ↓s120_38, ↓s120_39, ↓s120_40, ↓s120_41, ↓s120_42, ↓s120_45, ↓s120_46, ↓s120_49, ↓s120_50, ↓s120_53, ↓s120_56, ↓s120_57, ↓s120_60, ↓s120_63, ↓s120_64, ↓s120_65, ↓s120_66, ↓s120_69, ↓s120_70, ↓R_req1, ↓R_inV (by omega : tV B n q < 2 ^ 31) (by omega : lo < 2 ^ 31) (by omega : hi < 2 ^ 31), kNLn, kNLi, kNLr, va_rf_s, kOl_n, kOl_s, kap_n, kap_c, kb0, kb1, kbif, zif, z0, z1, Bool.false_eq_true, eq_self, not_true_eq_false, not_false_eq_true, if_true, if_false, and_self, true_and, false_and, and_true, and_false, ki_83, g12, g10, l2, eq_true c, v11, d]
      refine R_reads h (tE_le hq) g8 g12 (fun hk mi2 f2 b12 b8 b10 b9 b11 => ?_) (fun hk mi2 f2 b12 b13 => ?_)
      · simp only [↓s120_0, ↓s120_1, ↓s120_4, ↓s120_7, ↓s120_8, ↓s120_9, ↓s120_12, ↓s120_13, ↓s120_16, ↓s120_17, ↓s120_20, ↓s120_21, ↓s120_22, ↓s120_25, ↓s120_26, ↓s120_29, ↓s120_32, ↓s120_33, ↓s120_34, ↓s120_37, ↓s120_38, ↓s120_39, ↓s120_40, ↓s120_41, ↓s120_42, ↓s120_45, ↓s120_46, ↓s120_49, ↓s120_50, ↓s120_53, ↓s120_56, ↓s120_57, ↓s120_60, ↓s120_63, ↓s120_64, ↓s120_65, ↓s120_66, ↓s120_69, ↓s120_70, kNLn, kNLi, kNLr, va_rf_s, kOl_n, kOl_s, kap_n, kap_c, kb0, kb1, kbif]
        exact hQ3 c d hk mi2 f2 ⟨b12, b8, b10, b9, b11⟩
      · simp only [↓s120_0, ↓s120_1, ↓s120_4, ↓s120_7, ↓s120_8, ↓s120_9, ↓s120_12, ↓s120_13, ↓s120_16, ↓s120_17, ↓s120_20, ↓s120_21, ↓s120_22, ↓s120_25, ↓s120_26, ↓s120_29, ↓s120_32, ↓s120_33, ↓s120_34, ↓s120_37, ↓s120_38, ↓s120_39, ↓s120_40, ↓s120_41, ↓s120_42, ↓s120_45, ↓s120_46, ↓s120_49, ↓s120_50, ↓s120_53, ↓s120_56, ↓s120_57, ↓s120_60, ↓s120_63, ↓s120_64, ↓s120_65, ↓s120_66, ↓s120_69, ↓s120_70, kNLn, kNLi, kNLr, va_rf_s, kOl_n, kOl_s, kap_n, kap_c, kb0, kb1, kbif]
        exact hQ4 c d hk mi2 f2 (rFlt_12 (by decide) (by decide) b12 b13)
    · have k12 : kup (kup mi 83 12 (nI 3)) 83 13 (nI (tB B n q)) 83 12 = nI 3 := by rw [kup_eq, pk_un (by decide), kup_eq, pk_us]
      have n3 : ¬ nI 3 = 0 := by decide
      have p3 : 0 < kup (kup mi 83 12 (nI 3)) 83 13 (nI (tB B n q)) 83 12 := by rw [k12]; decide
      simp only [↓s120_0, ↓s120_1, ↓s120_4, ↓s120_7, ↓s120_8, ↓s120_9, ↓s120_12, ↓s120_13, ↓s120_16, ↓s120_17, ↓s120_20, ↓s120_21, ↓s120_22, ↓s120_25, ↓s120_26, ↓s120_29, ↓s120_32, ↓s120_33, ↓s120_34, ↓s120_37, ↓s120_38, ↓s120_39, ↓s120_40, ↓s120_41, ↓s120_42, ↓s120_45, ↓s120_46, ↓s120_49, ↓s120_50, ↓s120_53, ↓s120_56, ↓s120_57, ↓s120_60, ↓s120_63, ↓s120_64, ↓s120_65, ↓s120_66, ↓s120_69, ↓s120_70, ↓R_req1, ↓R_req0 g12, ↓R_reads0 p3, ↓R_inV (by omega : tV B n q < 2 ^ 31) (by omega : lo < 2 ^ 31) (by omega : hi < 2 ^ 31), kNLn, kNLi, kNLr, va_rf_s, kOl_n, kOl_s, kap_n, kap_c, kb0, kb1, kbif, zif, z0, z1, Bool.false_eq_true, eq_self, not_true_eq_false, not_false_eq_true, if_true, if_false, and_self, true_and, false_and, and_true, and_false, ki_83, g12, g10, g9, l2, eq_true c, v11, d, k12, n3]
      exact hQ2 c d _ (fK_up (fK_up fK_rf (by decide)) (by decide)) ⟨k12, by rw [kup_eq, pk_us], p3⟩
  · have k12 : kup (kup mi 83 12 (nI 2)) 83 13 (nI (tB B n q)) 83 12 = nI 2 := by rw [kup_eq, pk_un (by decide), kup_eq, pk_us]
    have n3 : ¬ nI 2 = 0 := by decide
    have p3 : 0 < kup (kup mi 83 12 (nI 2)) 83 13 (nI (tB B n q)) 83 12 := by rw [k12]; decide
    simp only [↓s120_0, ↓s120_1, ↓s120_4, ↓s120_7, ↓s120_8, ↓s120_9, ↓s120_12, ↓s120_13, ↓s120_16, ↓s120_17, ↓s120_20, ↓s120_21, ↓s120_22, ↓s120_25, ↓s120_26, ↓s120_29, ↓s120_32, ↓s120_33, ↓s120_34, ↓s120_37, ↓s120_38, ↓s120_39, ↓s120_40, ↓s120_41, ↓s120_42, ↓s120_45, ↓s120_46, ↓s120_49, ↓s120_50, ↓s120_53, ↓s120_56, ↓s120_57, ↓s120_60, ↓s120_63, ↓s120_64, ↓s120_65, ↓s120_66, ↓s120_69, ↓s120_70, ↓R_req0 g12, ↓R_reads0 p3, kNLn, kNLi, kNLr, va_rf_s, kOl_n, kOl_s, kap_n, kap_c, kb0, kb1, kbif, zif, z0, z1, Bool.false_eq_true, eq_self, not_true_eq_false, not_false_eq_true, if_true, if_false, and_self, true_and, false_and, and_true, and_false, ki_83, g12, g10, g9, l2, c, k12, n3]
    exact hQ1 c _ (fK_up (fK_up fK_rf (by decide)) (by decide)) ⟨k12, by rw [kup_eq, pk_us], p3⟩
/-- what is read behind a fault -/
theorem rFlt_up {F : Nat × Nat} {a k : Nat} {v : Int32} (h : rFlt F mi) (hk : ¬ (a = 83 ∧ (k = 12 ∨ k = 13))) : rFlt F (kup mi a k v) := by
  have e : ∀ j, j = 12 ∨ j = 13 → kup mi a k v 83 j = mi 83 j := fun j hj => by
    by_cases ea : a = 83
    · subst ea; rw [kup_eq, pk_un (by omega)]
    · rw [kup_ne (by omega)]
  unfold rFlt
  rw [e 12 (Or.inl rfl), e 13 (Or.inr rfl)]
  exact h
theorem R_letF {F : Nat × Nat} {c : Nat} (hc : c ≤ 46) (h : rFlt F mi) (hQ : ∀ mi', fQ mi mi' → rFlt F mi' → Q none (mi', ml, MR, 95)) : kJ 121 90 [some (.ref 83), some (.int (nI c)), some (.int (nI 3))] [] (mi, ml, MR, 95) Q := by
  have c52 : (nI 52).toNatClampNeg = 52 := rfl
  have v52 : vp_in (nI 52) 74 := vp_in_nI (by decide) (by decide)
  simp only [↓s121_0, ↓s121_2, ↓s121_4, ↓s121_5, ↓s121_8, ↓s121_10, ↓s121_11, ↓s121_12, ↓s121_13, ↓s121_14, ↓s121_15, ↓s121_17, ↓s121_18, ↓s121_21, ↓s121_22, ↓s121_25, ↓s121_26, ↓s121_27, ↓s121_28, ↓s121_29, ↓s121_30, ↓s121_31, ↓s121_34, ↓s121_35, ↓s121_36, ↓s121_37, ↓s121_40, ↓s121_41, ↓s121_42, ↓s121_43, ↓s121_44, ↓s121_45, ↓s121_48, ↓s121_51, ↓s121_52, ↓s121_55, ↓s121_56, ↓s121_57, ↓s121_58, ↓s121_59, ↓s121_62, ↓s121_63, ↓s121_66, ↓s121_69, ↓s121_72, ↓s121_75, ↓s121_76, ↓s121_79, ↓s121_80, ↓s121_81, ↓s121_82, ↓s121_83, ↓s121_84, ↓s121_86, ↓s121_89, ↓s121_90, ↓s121_91, ↓s121_94, ↓s121_96, ↓s121_97, ↓s121_98, ↓s121_99, ↓s121_100, ↓s121_101, kNLn, kNLi, kNLr, va_rf_s, kOl_n, kOl_s, kap_n, kap_c, kb0, kb1, kbif, ki_83, ki_87, kl_87, mr_83_3, c52, v52, true_and]
  exact hQ _ (fQ_87 fQ_rf) (rFlt_up h (by omega))
theorem R_letE {F : Nat × Nat} {c : Nat} (hc : c ≤ 46) (h : rFlt F mi) (hQ : ∀ mi', fQ mi mi' → rFlt F mi' → Q none (mi', ml, MR, 95)) : ∀ k, k ≤ 3 → ∀ mi1, fQ mi mi1 → rFlt F mi1 → kJ 121 16 [some (.ref 83), some (.int (nI c)), some (.int (nI k))] [] (mi1, ml, MR, 95) Q := by
  refine nUp (n := 3) (P := fun k => ∀ mi1, fQ mi mi1 → rFlt F mi1 → kJ 121 16 [some (.ref 83), some (.int (nI c)), some (.int (nI k))] [] (mi1, ml, MR, 95) Q) ?_ (fun k hk ih => ?_)
  · intro mi1 f1 h1
    have hlt : nI 2 < nI 3 := by decide
    have hcc : (nI (c + 3)).toNatClampNeg = c + 3 := nI_clamp (by omega)
    have hvv : vp_in (nI (c + 3)) 74 := vp_in_nI (by omega) (by decide)
    rw [s121_16]
    simp only [↓s121_0, ↓s121_2, ↓s121_4, ↓s121_5, ↓s121_8, ↓s121_10, ↓s121_11, ↓s121_12, ↓s121_13, ↓s121_14, ↓s121_15, ↓s121_17, ↓s121_18, ↓s121_21, ↓s121_22, ↓s121_25, ↓s121_26, ↓s121_27, ↓s121_28, ↓s121_29, ↓s121_30, ↓s121_31, ↓s121_34, ↓s121_35, ↓s121_36, ↓s121_37, ↓s121_40, ↓s121_41, ↓s121_42, ↓s121_43, ↓s121_44, ↓s121_45, ↓s121_48, ↓s121_51, ↓s121_52, ↓s121_55, ↓s121_56, ↓s121_57, ↓s121_58, ↓s121_59, ↓s121_62, ↓s121_63, ↓s121_66, ↓s121_69, ↓s121_72, ↓s121_75, ↓s121_76, ↓s121_79, ↓s121_80, ↓s121_81, ↓s121_82, ↓s121_83, ↓s121_84, ↓s121_86, ↓s121_89, ↓s121_91, ↓s121_94, ↓s121_96, ↓s121_97, ↓s121_98, ↓s121_99, ↓s121_100, ↓s121_101, ↓R_numE h1.2.2, kNLn, kNLi, kNLr, va_rf_s, kOl_n, kOl_s, kap_n, kap_c, kb0, kb1, kbif, zif, z0, z1, Bool.false_eq_true, eq_self, not_true_eq_false, not_false_eq_true, if_true, if_false, and_self, true_and, false_and, and_true, and_false, ki_83, ki_87, kl_87, mr_83_3, hlt, nI_add, hcc, hvv]
    exact R_letF hc (rFlt_up h1 (by omega)) (fun mi' a b => hQ mi' (fQ_tr (fQ_87 f1) a) b)
  · intro mi1 f1 h1
    have hlt : ¬ nI 2 < nI k := nI_nlt (by omega) (by omega)
    have hcc : (nI (c + k)).toNatClampNeg = c + k := nI_clamp (by omega)
    have hvv : vp_in (nI (c + k)) 74 := vp_in_nI (by omega) (by decide)
    have k5 : kup mi1 87 (c + k) (nI 0) 83 5 = mi1 83 5 := by rw [kup_ne (by decide)]
    have k87 : kup mi1 87 (c + k) (nI 0) 87 (c + k) = nI 0 := by rw [kup_eq, pk_us]
    rw [s121_16]
    by_cases d : nI 0 ≤ mi1 83 5
    · simp only [↓s121_0, ↓s121_2, ↓s121_4, ↓s121_5, ↓s121_8, ↓s121_10, ↓s121_11, ↓s121_12, ↓s121_13, ↓s121_14, ↓s121_15, ↓s121_17, ↓s121_18, ↓s121_21, ↓s121_22, ↓s121_25, ↓s121_26, ↓s121_27, ↓s121_28, ↓s121_29, ↓s121_30, ↓s121_31, ↓s121_34, ↓s121_35, ↓s121_36, ↓s121_37, ↓s121_40, ↓s121_41, ↓s121_42, ↓s121_43, ↓s121_44, ↓s121_45, ↓s121_48, ↓s121_51, ↓s121_52, ↓s121_55, ↓s121_56, ↓s121_57, ↓s121_58, ↓s121_59, ↓s121_62, ↓s121_63, ↓s121_66, ↓s121_69, ↓s121_72, ↓s121_75, ↓s121_76, ↓s121_79, ↓s121_80, ↓s121_81, ↓s121_82, ↓s121_83, ↓s121_84, ↓s121_86, ↓s121_89, ↓s121_91, ↓s121_94, ↓s121_96, ↓s121_97, ↓s121_98, ↓s121_99, ↓s121_100, ↓s121_101, ↓R_numE h1.2.2, kNLn, kNLi, kNLr, va_rf_s, kOl_n, kOl_s, kap_n, kap_c, kb0, kb1, kbif, zif, z0, z1, Bool.false_eq_true, eq_self, not_true_eq_false, not_false_eq_true, if_true, if_false, and_self, true_and, false_and, and_true, and_false, ki_83, ki_87, kl_87, mr_83_3, hlt, nI_add, hcc, hvv, k5, k87, d]
      exact ih _ (fQ_83 (fQ_87 f1) (by decide)) (rFlt_up (rFlt_up h1 (by omega)) (by omega))
    · simp only [↓s121_0, ↓s121_2, ↓s121_4, ↓s121_5, ↓s121_8, ↓s121_10, ↓s121_11, ↓s121_12, ↓s121_13, ↓s121_14, ↓s121_15, ↓s121_17, ↓s121_18, ↓s121_21, ↓s121_22, ↓s121_25, ↓s121_26, ↓s121_27, ↓s121_28, ↓s121_29, ↓s121_30, ↓s121_31, ↓s121_34, ↓s121_35, ↓s121_36, ↓s121_37, ↓s121_40, ↓s121_41, ↓s121_42, ↓s121_43, ↓s121_44, ↓s121_45, ↓s121_48, ↓s121_51, ↓s121_52, ↓s121_55, ↓s121_56, ↓s121_57, ↓s121_58, ↓s121_59, ↓s121_62, ↓s121_63, ↓s121_66, ↓s121_69, ↓s121_72, ↓s121_75, ↓s121_76, ↓s121_79, ↓s121_80, ↓s121_81, ↓s121_82, ↓s121_83, ↓s121_84, ↓s121_86, ↓s121_89, ↓s121_91, ↓s121_94, ↓s121_96, ↓s121_97, ↓s121_98, ↓s121_99, ↓s121_100, ↓s121_101, ↓R_numE h1.2.2, kNLn, kNLi, kNLr, va_rf_s, kOl_n, kOl_s, kap_n, kap_c, kb0, kb1, kbif, zif, z0, z1, Bool.false_eq_true, eq_self, not_true_eq_false, not_false_eq_true, if_true, if_false, and_self, true_and, false_and, and_true, and_false, ki_83, ki_87, kl_87, mr_83_3, hlt, nI_add, hcc, hvv, k5, k87, d]
      exact ih _ (fQ_83 (fQ_87 f1) (by decide)) (rFlt_up (rFlt_up h1 (by omega)) (by omega))
/-- highest, with the numbers of the letter under way -/
def hP (T : tT) (hT : Nat) (vs : Nat → Nat) (j : Nat) : Prop := hT ≤ 5 ∧ (∀ i, i < T 0 4 → T 4 i < hT ∧ T 5 i < hT ∧ T 6 i < hT) ∧ (∀ w, w < j → vs w < hT) ∧ (hT = 0 ∨ (∃ i, i < T 0 4 ∧ (T 4 i + 1 = hT ∨ T 5 i + 1 = hT ∨ T 6 i + 1 = hT)) ∨ ∃ w, w < j ∧ vs w + 1 = hT)
theorem hP_s {v : Nat} (h : hP T hT vs j) (hv : v ≤ 4) : hP T (if v + 1 ≤ hT then hT else v + 1) (nput vs j v) (j + 1) := by
  obtain ⟨h1, h2, h3, h4⟩ := h
  by_cases c : v + 1 ≤ hT
  · rw [if_pos c]
    refine ⟨h1, h2, fun w hw => ?_, ?_⟩
    · by_cases ew : w = j
      · rw [ew, nput_s]; omega
      · rw [nput_n ew]; exact h3 w (by omega)
    · rcases h4 with h4 | h4 | ⟨w, h4, h5⟩
      · exact Or.inl h4
      · exact Or.inr (Or.inl h4)
      · exact Or.inr (Or.inr ⟨w, by omega, by rw [nput_n (by omega)]; exact h5⟩)
  · rw [if_neg c]
    refine ⟨by omega, fun i hi => ?_, fun w hw => ?_, Or.inr (Or.inr ⟨j, by omega, by rw [nput_s]⟩)⟩
    · have := h2 i hi
      omega
    · by_cases ew : w = j
      · rw [ew, nput_s]; omega
      · rw [nput_n ew]; have := h3 w (by omega); omega
theorem hi_le {v : Nat} (hv : v < 1000) (hh : hT < 1000) : (nI v ≤ nI hT - nI 1) = (v + 1 ≤ hT) := by
  rw [Int32.le_iff_toInt_le, nI_toInt (by omega), pk_sub_toInt (by omega) (by decide)]
  apply propext
  omega
theorem dR_put {d : Nat → Int32} {w : Nat} {x : Int32} (h : dR T d) (hp : T 0 0 ≤ 5) (hl : T 0 4 < 6) (hw : w < 5) : dR T (upd d (16 + 6 * T 0 4 + w) x) := by
  obtain ⟨⟨h1, h2, h3, h4, h5⟩, hP, hL, hZ⟩ := h
  refine ⟨⟨?_, ?_, ?_, ?_, ?_⟩, fun p u a b => ?_, fun i u a b => ?_, fun i a => ?_⟩
  · rw [pk_un (by omega)]; exact h1
  · rw [pk_un (by omega)]; exact h2
  · rw [pk_un (by omega)]; exact h3
  · rw [pk_un (by omega)]; exact h4
  · rw [pk_un (by omega)]; exact h5
  · rw [pk_un (by omega)]; exact hP p u a b
  · rw [pk_un (by omega)]; exact hL i u a b
  · rw [pk_un (by omega)]; exact hZ i a
theorem dR_addL {d : Nat → Int32} (h : dR T d) (hp : T 0 0 ≤ 5) (hl : T 0 4 < 6) (hv : ∀ w, w < 4 → d (16 + 6 * T 0 4 + w) = nI (vs w)) : dR (paddL T vs) (upd d 52 (nI (T 0 4 + 1))) := by
  obtain ⟨⟨h1, h2, h3, h4, h5⟩, hP, hL, hZ⟩ := h
  have e : ∀ r k, paddL T vs r k = if r = 0 ∧ k = 4 then T 0 4 + 1 else if r = 7 ∧ k = T 0 4 then vs 3 else if r = 6 ∧ k = T 0 4 then vs 2 else if r = 5 ∧ k = T 0 4 then vs 1 else if r = 4 ∧ k = T 0 4 then vs 0 else T r k := fun r k => rfl
  have e4 : paddL T vs 0 4 = T 0 4 + 1 := rfl
  have e0 : paddL T vs 0 0 = T 0 0 := rfl
  refine ⟨⟨?_, ?_, ?_, ?_, ?_⟩, fun p u a b => ?_, fun i u a b => ?_, fun i a => ?_⟩
  · rw [pk_un (by omega)]; exact h1
  · rw [pk_us, e4]
  · rw [pk_un (by omega)]; exact h3
  · rw [pk_un (by omega)]; exact h4
  · rw [pk_un (by omega)]; exact h5
  · rw [e0] at a
    rw [pk_un (by omega), e (1 + u) p, if_neg (by omega), if_neg (by omega), if_neg (by omega), if_neg (by omega), if_neg (by omega)]; exact hP p u a b
  · rw [e4] at a
    rw [pk_un (by omega), e (4 + u) i, if_neg (by omega)]
    by_cases ei : i = T 0 4
    · subst ei
      rw [hv u b]
      rcases (by omega : u = 0 ∨ u = 1 ∨ u = 2 ∨ u = 3) with rfl | rfl | rfl | rfl
      · rw [if_neg (by omega), if_neg (by omega), if_neg (by omega), if_pos ⟨rfl, rfl⟩]
      · rw [if_neg (by omega), if_neg (by omega), if_pos ⟨rfl, rfl⟩]
      · rw [if_neg (by omega), if_pos ⟨rfl, rfl⟩]
      · rw [if_pos ⟨rfl, rfl⟩]
    · rw [if_neg (by omega), if_neg (by omega), if_neg (by omega), if_neg (by omega)]; exact hL i u (by omega) b
  · rw [pk_un (by omega)]; exact hZ i a
theorem hOK_addL (h : hP T hT vs 3) : hOK (paddL T vs) hT := by
  obtain ⟨h1, h2, h3, h4⟩ := h
  have e : ∀ r k, paddL T vs r k = if r = 0 ∧ k = 4 then T 0 4 + 1 else if r = 7 ∧ k = T 0 4 then vs 3 else if r = 6 ∧ k = T 0 4 then vs 2 else if r = 5 ∧ k = T 0 4 then vs 1 else if r = 4 ∧ k = T 0 4 then vs 0 else T r k := fun r k => rfl
  have e4 : paddL T vs 0 4 = T 0 4 + 1 := rfl
  have a4 : paddL T vs 4 (T 0 4) = vs 0 := by rw [e, if_neg (by omega), if_neg (by omega), if_neg (by omega), if_neg (by omega), if_pos ⟨rfl, rfl⟩]
  have a5 : paddL T vs 5 (T 0 4) = vs 1 := by rw [e, if_neg (by omega), if_neg (by omega), if_neg (by omega), if_pos ⟨rfl, rfl⟩]
  have a6 : paddL T vs 6 (T 0 4) = vs 2 := by rw [e, if_neg (by omega), if_neg (by omega), if_pos ⟨rfl, rfl⟩]
  have o : ∀ r i, 1 ≤ r → i ≠ T 0 4 → paddL T vs r i = T r i := fun r i hr hi => by rw [e, if_neg (by omega), if_neg (by omega), if_neg (by omega), if_neg (by omega), if_neg (by omega)]
  refine ⟨h1, fun i hi => ?_, ?_⟩
  · rw [e4] at hi
    by_cases ei : i = T 0 4
    · rw [ei, a4, a5, a6]; exact ⟨h3 0 (by omega), h3 1 (by omega), h3 2 (by omega)⟩
    · rw [o 4 i (by omega) ei, o 5 i (by omega) ei, o 6 i (by omega) ei]; exact h2 i (by omega)
  · rcases h4 with h4 | ⟨i, hi, h4⟩ | ⟨w, hw, h4⟩
    · exact Or.inl h4
    · refine Or.inr ⟨i, by rw [e4]; omega, ?_⟩
      rw [o 4 i (by omega) (by omega), o 5 i (by omega) (by omega), o 6 i (by omega) (by omega)]; exact h4
    · refine Or.inr ⟨T 0 4, by rw [e4]; omega, ?_⟩
      rw [a4, a5, a6]
      rcases (by omega : w = 0 ∨ w = 1 ∨ w = 2) with rfl | rfl | rfl
      · exact Or.inl h4
      · exact Or.inr (Or.inl h4)
      · exact Or.inr (Or.inr h4)
theorem nms_s {k : Nat} (hk : tK B n q ≠ 4) : nmsF B n K (k + 1) j vs q = if tK B n q = 2 then (if (bdF K j).1 ≤ tV B n q ∧ tV B n q ≤ (bdF K j).2 then nmsF B n K k (j + 1) (nput vs j (tV B n q)) (tE B n q) else .inl (3, tB B n q)) else .inl (2, tB B n q) := if_neg hk
theorem nms_4 {k : Nat} (hk : tK B n q = 4) : nmsF B n K (k + 1) j vs q = .inl (1, tB B n q) := if_pos hk
end RLINE
