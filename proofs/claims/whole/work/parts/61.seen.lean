/-! from moods: kinds, tones -/
theorem tdays_s : ∀ (n : Nat) (T : tT), tday (tdays n T) = tdays (n + 1) T := by
  intro n
  induction n with
  | zero => intro T; rfl
  | succ n ih => intro T; exact ih (tday T)
theorem tD_pass {T : tT} {n : Nat} : tD (tpass n T) = tpass (n + 1) T := by
  unfold tD tpass
  rw [tday_date, tup_tup, tup_s, tdays_s]
  rfl
theorem tpass_3 {T : tT} {n r p : Nat} (h : 1 ≤ r) : tpass n T r p = tdays n T r p := tup_n (by omega)
/-- all is as seen, among the first -/
def tsoF (U : tT) : Nat → Bool
  | 0 => true
  | i + 1 => tsoF U i && decide (tdays (U 10 i) U 3 (U 11 i) = U 12 i)
def tso (U : tT) : Bool := tsoF U (U 0 13)
theorem tso_iff {U : tT} : ∀ n, tsoF U n = true ↔ ∀ j, j < n → tdays (U 10 j) U 3 (U 11 j) = U 12 j := by
  intro n
  induction n with
  | zero => exact ⟨fun _ j hj => absurd hj (Nat.not_lt_zero _), fun _ => rfl⟩
  | succ n ih =>
    show (tsoF U n && decide (tdays (U 10 n) U 3 (U 11 n) = U 12 n)) = true ↔ _
    rw [Bool.and_eq_true, ih, decide_eq_true_iff]
    constructor
    · intro ⟨h1, h2⟩ j hj
      by_cases e : j = n
      · rw [e]; exact h2
      · exact h1 j (by omega)
    · intro h
      exact ⟨fun j hj => h j (by omega), h n (by omega)⟩
/-- the last day of what was seen, and 1 -/
def tlaF (U : tT) : Nat → Nat
  | 0 => 0
  | i + 1 => if tlaF U i ≤ U 10 i then U 10 i + 1 else tlaF U i
theorem tla_ge {U : tT} : ∀ n j, j < n → U 10 j < tlaF U n := by
  intro n
  induction n with
  | zero => intro j hj; omega
  | succ n ih =>
    intro j hj
    unfold tlaF
    by_cases e : j = n
    · subst e; split <;> omega
    · have := ih j (by omega)
      split <;> omega
theorem tla_le {U : tT} (h : tOK U) : ∀ n, n ≤ U 0 13 → tlaF U n ≤ 21 := by
  intro n
  induction n with
  | zero => intro _; exact Nat.zero_le _
  | succ n ih =>
    intro hn
    have h1 := ih (by omega)
    have h2 := (h.2.2.2.2.2.2.2 n (by omega)).1
    unfold tlaF
    split <;> omega
theorem last_lt {t d : Nat} (ht : t < 2 ^ 20) (hd : d < 2 ^ 20) : (nI t - nI 1 < nI d) = (t ≤ d) := by
  rw [Int32.lt_iff_toInt_lt, pk_sub_toInt (by omega) (by decide), nI_toInt (by omega)]
  apply propext
  omega
section SEEN
variable {mi : Nat → Nat → Int32} {ml : Nat → Nat → Int64} {m : kMem} {Q : Option Value → kMem → Prop} {S : gS} {T U : tT} {b p n f t a v d i : Nat}
theorem J_last (hp : kPost b) (h : kCR b T mi) (ho : tOK T) : kJ 28 0 [some (.ref b), none, none] [] (mi, ml, MR, 95) Q = Q (some (.int (nI (tlaF T (T 0 13)) - nI 1))) (mi, ml, MR, 95) := by
  have o3 := ho.2.2.1
  obtain ⟨pis, ⟨r1, r2, r3, r4, r5, r6, r7, r8, r9, r10, r11, r12⟩, ⟨a1, a2, a3, a4, a5, a6, a7, a8, a9, a10, a11, a12⟩, e1, e2, e3, e4, e5, e6, e7, e8, e9, e10, e11, e12⟩ := hp
  have em : ((-1) : Int32) = nI (tlaF T 0) - nI 1 := by show ((-1) : Int32) = nI 0 - nI 1; decide
  simp only [↓s28_0, ↓s28_1, ↓s28_2, ↓s28_3, ↓s28_5, ↓s28_6, ↓s28_9, ↓s28_12, ↓s28_13, ↓s28_14, ↓s28_17, ↓s28_18, ↓s28_19, ↓s28_22, ↓s28_23, ↓s28_26, ↓s28_29, ↓s28_30, kNLn, kNLi, kNLr, va_rf_s, kOl_n, kOl_s, kap_n, kap_c, kb0, kb1, kbif]
  rw [em]
  refine nUp (n := T 0 13) (P := fun i => kJ 28 4 [some (.ref b), some (.int (nI (tlaF T i) - nI 1)), some (.int (nI i))] [] (mi, ml, MR, 95) Q = Q (some (.int (nI (tlaF T (T 0 13)) - nI 1))) (mi, ml, MR, 95)) ?_ (fun i hi ih => ?_) 0 (Nat.zero_le _)
  · rw [s28_4]
    simp only [↓s28_0, ↓s28_1, ↓s28_2, ↓s28_3, ↓s28_5, ↓s28_6, ↓s28_9, ↓s28_12, ↓s28_13, ↓s28_14, ↓s28_17, ↓s28_18, ↓s28_19, ↓s28_22, ↓s28_23, ↓s28_26, ↓s28_29, ↓s28_30, kNLn, kNLi, kNLr, va_rf_s, kOl_n, kOl_s, kap_n, kap_c, kb0, kb1, kbif, pis, r1, r2, r3, r4, r5, r6, r7, r8, r9, r10, r11, r12, a1, a2, a3, a4, a5, a6, a7, a8, a9, a10, a11, a12, e1, e2, e3, e4, e5, e6, e7, e8, e9, e10, e11, e12, h.1.2.2.2.2]
    rw [if_pos (Int32.le_refl _)]
  · have hlt : ¬ nI (T 0 13) ≤ nI i := nI_ge (by omega) (by omega)
    have hc : (nI i).toNatClampNeg = i := nI_clamp (by omega)
    have hv : vp_in (nI i) 6 := vp_in_nI (by omega) (by decide)
    have w10 := kCR_row h (r := 10) (j := i) (by omega) (by omega) (by rw [tcnt_s (by omega)]; exact hi)
    have l20 := (ho.2.2.2.2.2.2.2 i hi).1
    have l21 := tla_le ho i (by omega)
    rw [s28_4]
    simp only [↓s28_0, ↓s28_1, ↓s28_2, ↓s28_3, ↓s28_5, ↓s28_6, ↓s28_9, ↓s28_12, ↓s28_13, ↓s28_14, ↓s28_17, ↓s28_18, ↓s28_19, ↓s28_22, ↓s28_23, ↓s28_26, ↓s28_29, ↓s28_30, kNLn, kNLi, kNLr, va_rf_s, kOl_n, kOl_s, kap_n, kap_c, kb0, kb1, kbif, pis, r1, r2, r3, r4, r5, r6, r7, r8, r9, r10, r11, r12, a1, a2, a3, a4, a5, a6, a7, a8, a9, a10, a11, a12, e1, e2, e3, e4, e5, e6, e7, e8, e9, e10, e11, e12, h.1.2.2.2.2, hlt, if_false, hc, hv, true_and, w10, nI_add, last_lt (by omega : tlaF T i < 2 ^ 20) (by omega : T 10 i < 2 ^ 20)]
    have eT : tlaF T (i + 1) = if tlaF T i ≤ T 10 i then T 10 i + 1 else tlaF T i := rfl
    by_cases c : tlaF T i ≤ T 10 i
    · rw [if_pos c]
      rw [if_pos c] at eT
      rw [eT, nI_sub1] at ih
      exact ih
    · rw [if_neg c]
      rw [if_neg c] at eT
      rw [eT] at ih
      exact ih
/-- the class: all is as seen -/
theorem J_seen (hp : kPost b) (h : kCR b U mi) (ho : tOK U) (hd : U 0 12 + 30 < 2000) (hQ : ∀ mi', kFr b mi mi' → Q (some (.int (if tso U = true then nI 1 else nI 0))) (mi', ml, MR, 95)) : kJ 27 0 [some (.ref b), none, none, none] [] (mi, ml, MR, 95) Q := by
  have hp0 := hp
  have o1 := ho.1
  have o3 := ho.2.2.1
  have l21 := tla_le ho (U 0 13) (Nat.le_refl _)
  obtain ⟨pis, ⟨r1, r2, r3, r4, r5, r6, r7, r8, r9, r10, r11, r12⟩, ⟨a1, a2, a3, a4, a5, a6, a7, a8, a9, a10, a11, a12⟩, e1, e2, e3, e4, e5, e6, e7, e8, e9, e10, e11, e12⟩ := hp
  simp only [↓s27_0, ↓s27_1, ↓s27_4, ↓s27_5, ↓s27_6, ↓s27_8, ↓s27_9, ↓s27_12, ↓s27_13, ↓s27_15, ↓s27_16, ↓s27_19, ↓s27_22, ↓s27_23, ↓s27_26, ↓s27_27, ↓s27_28, ↓s27_29, ↓s27_32, ↓s27_33, ↓s27_36, ↓s27_37, ↓s27_40, ↓s27_41, ↓s27_42, ↓s27_43, ↓s27_44, ↓s27_47, ↓s27_48, ↓s27_49, ↓s27_52, ↓s27_53, ↓s27_54, ↓s27_57, ↓s27_60, ↓s27_61, ↓s27_62, ↓s27_65, ↓s27_68, ↓s27_71, ↓s27_72, ↓J_last hp0 h ho, kNLn, kNLi, kNLr, va_rf_s, kOl_n, kOl_s, kap_n, kap_c, kb0, kb1, kbif, pis, r1, r2, r3, r4, r5, r6, r7, r8, r9, r10, r11, r12, a1, a2, a3, a4, a5, a6, a7, a8, a9, a10, a11, a12, e1, e2, e3, e4, e5, e6, e7, e8, e9, e10, e11, e12]
  have e0 : tpass 0 U = U := tpass_0
  have loop : ∀ (k d : Nat) (mi1 : Nat → Nat → Int32) (l3 : Option Value), d + k = 22 → (∀ j, j < U 0 13 → U 10 j < d → tdays (U 10 j) U 3 (U 11 j) = U 12 j) → kCR b (tpass d U) mi1 → kFr b mi mi1 → kJ 27 7 [some (.ref b), some (.int (nI (tlaF U (U 0 13)) - nI 1)), some (.int (nI d)), l3] [] (mi1, ml, MR, 95) Q := by
    intro k
    induction k with
    | zero =>
      intro d mi1 l3 hk hall h1 f1
      rw [s27_7]
      simp only [↓s27_0, ↓s27_1, ↓s27_4, ↓s27_5, ↓s27_6, ↓s27_8, ↓s27_9, ↓s27_12, ↓s27_13, ↓s27_15, ↓s27_16, ↓s27_19, ↓s27_22, ↓s27_23, ↓s27_26, ↓s27_27, ↓s27_28, ↓s27_29, ↓s27_32, ↓s27_33, ↓s27_36, ↓s27_37, ↓s27_40, ↓s27_41, ↓s27_42, ↓s27_43, ↓s27_44, ↓s27_47, ↓s27_48, ↓s27_49, ↓s27_52, ↓s27_53, ↓s27_54, ↓s27_57, ↓s27_60, ↓s27_61, ↓s27_62, ↓s27_65, ↓s27_68, ↓s27_71, ↓s27_72, kNLn, kNLi, kNLr, va_rf_s, kOl_n, kOl_s, kap_n, kap_c, kb0, kb1, kbif, last_lt (by omega : tlaF U (U 0 13) < 2 ^ 20) (by omega : d < 2 ^ 20)]
      rw [if_pos (by omega)]
      have ht : tso U = true := (tso_iff _).mpr (fun j hj => hall j hj (by have := tla_ge (U := U) (U 0 13) j hj; omega))
      have h9 := hQ mi1 f1
      rw [if_pos ht] at h9
      exact h9
    | succ k ih =>
      intro d mi1 l3 hk hall h1 f1
      have okd : tOK (tpass d U) := tpass_ok ho (by omega)
      rw [s27_7]
      simp only [↓s27_0, ↓s27_1, ↓s27_4, ↓s27_5, ↓s27_6, ↓s27_8, ↓s27_9, ↓s27_12, ↓s27_13, ↓s27_15, ↓s27_16, ↓s27_19, ↓s27_22, ↓s27_23, ↓s27_26, ↓s27_27, ↓s27_28, ↓s27_29, ↓s27_32, ↓s27_33, ↓s27_36, ↓s27_37, ↓s27_40, ↓s27_41, ↓s27_42, ↓s27_43, ↓s27_44, ↓s27_47, ↓s27_48, ↓s27_49, ↓s27_52, ↓s27_53, ↓s27_54, ↓s27_57, ↓s27_60, ↓s27_61, ↓s27_62, ↓s27_65, ↓s27_68, ↓s27_71, ↓s27_72, kNLn, kNLi, kNLr, va_rf_s, kOl_n, kOl_s, kap_n, kap_c, kb0, kb1, kbif, last_lt (by omega : tlaF U (U 0 13) < 2 ^ 20) (by omega : d < 2 ^ 20)]
      by_cases c : tlaF U (U 0 13) ≤ d
      · rw [if_pos c]
        have ht : tso U = true := (tso_iff _).mpr (fun j hj => hall j hj (by have := tla_ge (U := U) (U 0 13) j hj; omega))
        have h9 := hQ mi1 f1
        rw [if_pos ht] at h9
        exact h9
      · rw [if_neg c]
        have e13 : tpass d U 0 13 = U 0 13 := tpass_n ho (by omega) (by omega)
        have e00 : tpass d U 0 0 = U 0 0 := tpass_n ho (by omega) (by omega)
        have hcnt : mi1 b 13 = nI (U 0 13) := by rw [h1.1.2.2.2.2, e13]
        have inner : ∀ j, j ≤ U 0 13 → (∀ x, x < j → U 10 x = d → tdays (U 10 x) U 3 (U 11 x) = U 12 x) → kJ 27 14 [some (.ref b), some (.int (nI (tlaF U (U 0 13)) - nI 1)), some (.int (nI d)), some (.int (nI j))] [] (mi1, ml, MR, 95) Q := by
          refine nUp (n := U 0 13) (P := fun j => (∀ x, x < j → U 10 x = d → tdays (U 10 x) U 3 (U 11 x) = U 12 x) → kJ 27 14 [some (.ref b), some (.int (nI (tlaF U (U 0 13)) - nI 1)), some (.int (nI d)), some (.int (nI j))] [] (mi1, ml, MR, 95) Q) ?_ (fun j hj ih2 => ?_)
          · intro hx
            rw [s27_14]
            simp only [↓s27_0, ↓s27_1, ↓s27_4, ↓s27_5, ↓s27_6, ↓s27_8, ↓s27_9, ↓s27_12, ↓s27_13, ↓s27_15, ↓s27_16, ↓s27_19, ↓s27_22, ↓s27_23, ↓s27_26, ↓s27_27, ↓s27_28, ↓s27_29, ↓s27_32, ↓s27_33, ↓s27_36, ↓s27_37, ↓s27_40, ↓s27_41, ↓s27_42, ↓s27_43, ↓s27_44, ↓s27_47, ↓s27_48, ↓s27_49, ↓s27_52, ↓s27_53, ↓s27_54, ↓s27_57, ↓s27_60, ↓s27_61, ↓s27_62, ↓s27_65, ↓s27_68, ↓s27_71, ↓s27_72, kNLn, kNLi, kNLr, va_rf_s, kOl_n, kOl_s, kap_n, kap_c, kb0, kb1, kbif, pis, r1, r2, r3, r4, r5, r6, r7, r8, r9, r10, r11, r12, a1, a2, a3, a4, a5, a6, a7, a8, a9, a10, a11, a12, e1, e2, e3, e4, e5, e6, e7, e8, e9, e10, e11, e12, hcnt]
            rw [if_pos (Int32.le_refl _)]
            refine J_pass hp0 h1 okd (by decide) (fun mi2 h2 f2 => ?_)
            simp only [↓s27_0, ↓s27_1, ↓s27_4, ↓s27_5, ↓s27_6, ↓s27_8, ↓s27_9, ↓s27_12, ↓s27_13, ↓s27_15, ↓s27_16, ↓s27_19, ↓s27_22, ↓s27_23, ↓s27_26, ↓s27_27, ↓s27_28, ↓s27_29, ↓s27_32, ↓s27_33, ↓s27_36, ↓s27_37, ↓s27_40, ↓s27_41, ↓s27_42, ↓s27_43, ↓s27_44, ↓s27_47, ↓s27_48, ↓s27_49, ↓s27_52, ↓s27_53, ↓s27_54, ↓s27_57, ↓s27_60, ↓s27_61, ↓s27_62, ↓s27_65, ↓s27_68, ↓s27_71, ↓s27_72, kNLn, kNLi, kNLr, va_rf_s, kOl_n, kOl_s, kap_n, kap_c, kb0, kb1, kbif, nI_add]
            refine ih (d + 1) mi2 _ (by omega) (fun x hx1 hx2 => ?_) ?_ (kFr_tr f1 f2)
            · by_cases e : U 10 x = d
              · exact hx x hx1 e
              · exact hall x hx1 (by omega)
            · have h3 : kCR b (tD (tpass d U)) mi2 := h2
              rw [tD_pass] at h3
              exact h3
          · intro hx
            have hlt : ¬ nI (U 0 13) ≤ nI j := nI_ge (by omega) (by omega)
            have hc : (nI j).toNatClampNeg = j := nI_clamp (by omega)
            have hv : vp_in (nI j) 6 := vp_in_nI (by omega) (by decide)
            obtain ⟨l20, lp, lm⟩ := ho.2.2.2.2.2.2.2 j hj
            have w10 : mi1 (b + 10) j = nI (U 10 j) := by rw [kCR_row h1 (r := 10) (j := j) (by omega) (by omega) (by rw [tcnt_s (by omega), e13]; exact hj), tpass_n ho (by omega) (by omega)]
            have w11 : mi1 (b + 11) j = nI (U 11 j) := by rw [kCR_row h1 (r := 11) (j := j) (by omega) (by omega) (by rw [tcnt_s (by omega), e13]; exact hj), tpass_n ho (by omega) (by omega)]
            have w12 : mi1 (b + 12) j = nI (U 12 j) := by rw [kCR_row h1 (r := 12) (j := j) (by omega) (by omega) (by rw [tcnt_s (by omega), e13]; exact hj), tpass_n ho (by omega) (by omega)]
            have w3 : mi1 (b + 3) (U 11 j) = nI (tdays d U 3 (U 11 j)) := by rw [kCR_row h1 (r := 3) (j := U 11 j) (by omega) (by omega) (by rw [tcnt_p (by omega), e00]; exact lp), tpass_3 (by omega)]
            have lm3 : tdays d U 3 (U 11 j) ≤ 20 := ((tdays_ok ho d).1.2.2.2.2.2.1 _ (by rw [(tdays_ok ho d).2 0 0 (by omega) (by omega) (by omega) (by omega)]; exact lp)).2.2
            have hc2 : (nI (U 11 j)).toNatClampNeg = U 11 j := nI_clamp (by omega)
            have hv2 : vp_in (nI (U 11 j)) 5 := vp_in_nI (by omega) (by decide)
            rw [s27_14]
            simp only [↓s27_0, ↓s27_1, ↓s27_4, ↓s27_5, ↓s27_6, ↓s27_8, ↓s27_9, ↓s27_12, ↓s27_13, ↓s27_15, ↓s27_16, ↓s27_19, ↓s27_22, ↓s27_23, ↓s27_26, ↓s27_27, ↓s27_28, ↓s27_29, ↓s27_32, ↓s27_33, ↓s27_36, ↓s27_37, ↓s27_40, ↓s27_41, ↓s27_42, ↓s27_43, ↓s27_44, ↓s27_47, ↓s27_48, ↓s27_49, ↓s27_52, ↓s27_53, ↓s27_54, ↓s27_57, ↓s27_60, ↓s27_61, ↓s27_62, ↓s27_65, ↓s27_68, ↓s27_71, ↓s27_72, kNLn, kNLi, kNLr, va_rf_s, kOl_n, kOl_s, kap_n, kap_c, kb0, kb1, kbif, pis, r1, r2, r3, r4, r5, r6, r7, r8, r9, r10, r11, r12, a1, a2, a3, a4, a5, a6, a7, a8, a9, a10, a11, a12, e1, e2, e3, e4, e5, e6, e7, e8, e9, e10, e11, e12, zif, z0, z1, Bool.false_eq_true, eq_self, not_true_eq_false, not_false_eq_true, if_true, if_false, and_self, true_and, false_and, and_true, and_false, hcnt, hlt, hc, hv, hc2, hv2, w10, w11, w12, w3, nI_add, nI_lit (by omega : U 10 j < 2 ^ 31) (by omega : d < 2 ^ 31), nI_lit (by omega : tdays d U 3 (U 11 j) < 2 ^ 31) (by omega : U 12 j < 2 ^ 31)]
            by_cases e : U 10 j = d
            · rw [if_pos e]
              by_cases g : tdays d U 3 (U 11 j) = U 12 j
              · rw [if_pos g]
                refine ih2 (fun x hx1 hx2 => ?_)
                by_cases ex : x = j
                · subst ex; rw [e]; exact g
                · exact hx x (by omega) hx2
              · rw [if_neg g]
                have ht : ¬ tso U = true := fun z => g (by have := (tso_iff _).mp z j hj; rw [e] at this; exact this)
                have h9 := hQ mi1 f1
                rw [if_neg ht] at h9
                simp only [↓s27_0, ↓s27_1, ↓s27_4, ↓s27_5, ↓s27_6, ↓s27_8, ↓s27_9, ↓s27_12, ↓s27_13, ↓s27_15, ↓s27_16, ↓s27_19, ↓s27_22, ↓s27_23, ↓s27_26, ↓s27_27, ↓s27_28, ↓s27_29, ↓s27_32, ↓s27_33, ↓s27_36, ↓s27_37, ↓s27_40, ↓s27_41, ↓s27_42, ↓s27_43, ↓s27_44, ↓s27_47, ↓s27_48, ↓s27_49, ↓s27_52, ↓s27_53, ↓s27_54, ↓s27_57, ↓s27_60, ↓s27_61, ↓s27_62, ↓s27_65, ↓s27_68, ↓s27_71, ↓s27_72, kNLn, kNLi, kNLr, va_rf_s, kOl_n, kOl_s, kap_n, kap_c, kb0, kb1, kbif]
                exact h9
            · rw [if_neg e]
              refine ih2 (fun x hx1 hx2 => ?_)
              by_cases ex : x = j
              · subst ex; exact absurd hx2 e
              · exact hx x (by omega) hx2
        exact inner 0 (Nat.zero_le _) (fun x hx => absurd hx (Nat.not_lt_zero _))
  exact loop 22 0 mi none (by omega) (fun j _ hj => absurd hj (Nat.not_lt_zero _)) (by rw [e0]; exact h) kFr_rf
/-- bits of those by which all is as seen -/
def gwF (F : Nat → tT) : Nat → Nat
  | 0 => 0
  | k + 1 => gwF F k + (if tso (F k) = true then 2 ^ k else 0)
theorem gw_lt (F : Nat → tT) : ∀ n, gwF F n < 2 ^ n := by
  intro n
  induction n with
  | zero => exact Nat.one_pos
  | succ n ih =>
    show gwF F n + _ < 2 ^ (n + 1)
    rw [Nat.pow_succ]
    split <;> omega
/-- what isSoWith leaves -/
def fS (f g : Nat → Nat → Int32) : Prop := (∀ q, q ≠ 83 → q ≠ 85 → q ≠ 89 → g q = f q) ∧ ∀ k, k ≠ 14 → k ≠ 15 → g 83 k = f 83 k
theorem fS_rf {f : Nat → Nat → Int32} : fS f f := ⟨fun _ _ _ _ => rfl, fun _ _ _ => rfl⟩
theorem fS_tr {f g h : Nat → Nat → Int32} (h1 : fS f g) (h2 : fS g h) : fS f h := ⟨fun q a b c => (h2.1 q a b c).trans (h1.1 q a b c), fun k a b => (h2.2 k a b).trans (h1.2 k a b)⟩
theorem fS_q {f g : Nat → Nat → Int32} (h : kFq f g) : fS f g := ⟨fun q a b _ => h.1 q a b, h.2⟩
theorem fS_85 {f : Nat → Nat → Int32} {k : Nat} {x : Int32} : fS f (kup f 85 k x) := ⟨fun q _ b _ => kup_ne b, fun k _ _ => by rw [kup_ne (by decide)]⟩
theorem fS_89 {f : Nat → Nat → Int32} {k : Nat} {x : Int32} : fS f (kup f 89 k x) := ⟨fun q _ _ c => kup_ne c, fun k _ _ => by rw [kup_ne (by decide)]⟩
theorem wR_S {f g : Nat → Nat → Int32} (h : fS f g) : wR f g := ⟨fun q a b c _ => h.1 q a b c, fun k hk => h.2 k (by omega) (by omega)⟩
theorem kRM_89 {f : Nat → Nat → Int32} {k A B : Nat} {x : Int32} (h : kRM f T A B) : kRM (kup f 89 k x) T A B := by
  unfold kRM
  rw [kup_ne (by decide), kup_ne (by decide)]
  exact h
theorem R_isSo {cell : Nat} (h : kRR (mi 84) T) (ho : tOK T) (hc : cell < 74) (oU : tOK U) (dU : U 0 12 + 30 < 2000) (hU : ∀ a, kRR a T → kRR (upd a cell (nI v)) U) (e0 : U 0 0 = T 0 0) (e13 : U 0 13 = T 0 13) (eS : ∀ r j, 10 ≤ r → U r j = T r j)
    (hQ : ∀ mi', fS mi mi' → (∀ d p, d < 21 → p < U 0 0 → mi' 89 (5 * d + p) = nI (tdays d U 3 p)) → Q (some (.int (if tso U = true then nI 1 else nI 0))) (mi', ml, MR, 95)) : kJ 182 0 [some (.ref 83), some (.int (nI cell)), some (.int (nI v)), none, none, none] [] (mi, ml, MR, 95) Q := by
  have o1 := oU.1
  have o3 := oU.2.2.1
  have hcc : (nI cell).toNatClampNeg = cell := nI_clamp (by omega)
  have hvc : vp_in (nI cell) 74 := vp_in_nI hc (by decide)
  have c15 : (nI 15).toNatClampNeg = 15 := rfl
  have v15 : vp_in (nI 15) 74 := vp_in_nI (by decide) (by decide)
  have c55 : (nI 55).toNatClampNeg = 55 := rfl
  have v55 : vp_in (nI 55) 222 := vp_in_nI (by decide) (by decide)
  simp only [↓s182_0, ↓s182_1, ↓s182_4, ↓s182_5, ↓s182_8, ↓s182_9, ↓s182_10, ↓s182_11, ↓s182_12, ↓s182_14, ↓s182_16, ↓s182_19, ↓s182_20, ↓s182_24, ↓s182_25, ↓s182_28, ↓s182_30, ↓s182_31, ↓s182_34, ↓s182_35, ↓s182_38, ↓s182_39, ↓s182_40, ↓s182_41, ↓s182_43, ↓s182_44, ↓s182_45, ↓s182_47, ↓s182_48, ↓s182_51, ↓s182_52, ↓s182_55, ↓s182_58, ↓s182_59, ↓s182_60, ↓s182_63, ↓s182_66, ↓s182_69, ↓s182_70, ↓s182_71, ↓s182_72, ↓s182_76, ↓s182_77, ↓s182_80, ↓s182_82, ↓s182_83, ↓s182_86, ↓s182_88, ↓s182_89, ↓s182_91, ↓s182_92, ↓s182_93, ↓s182_95, ↓s182_96, ↓s182_99, ↓s182_100, ↓s182_103, ↓s182_104, ↓s182_105, ↓s182_108, ↓s182_110, ↓s182_111, ↓s182_112, ↓s182_113, ↓s182_116, ↓s182_118, ↓s182_119, ↓s182_120, ↓s182_121, ↓s182_122, ↓s182_123, ↓s182_124, ↓s182_127, ↓s182_129, ↓s182_130, ↓s182_131, ↓s182_132, ↓s182_135, ↓s182_136, ↓s182_139, ↓s182_140, ↓s182_141, ↓s182_144, ↓s182_147, ↓s182_148, kNLn, kNLi, kNLr, va_rf_s, kOl_n, kOl_s, kap_n, kap_c, kb0, kb1, kbif, ki_83]
  refine R_startsT h ho (fun mi0 h0 f0 => ?_)
  simp only [↓s182_0, ↓s182_1, ↓s182_4, ↓s182_5, ↓s182_8, ↓s182_9, ↓s182_10, ↓s182_11, ↓s182_12, ↓s182_14, ↓s182_16, ↓s182_19, ↓s182_20, ↓s182_24, ↓s182_25, ↓s182_28, ↓s182_30, ↓s182_31, ↓s182_34, ↓s182_35, ↓s182_38, ↓s182_39, ↓s182_40, ↓s182_41, ↓s182_43, ↓s182_44, ↓s182_45, ↓s182_47, ↓s182_48, ↓s182_51, ↓s182_52, ↓s182_55, ↓s182_58, ↓s182_59, ↓s182_60, ↓s182_63, ↓s182_66, ↓s182_69, ↓s182_70, ↓s182_71, ↓s182_72, ↓s182_76, ↓s182_77, ↓s182_80, ↓s182_82, ↓s182_83, ↓s182_86, ↓s182_88, ↓s182_89, ↓s182_91, ↓s182_92, ↓s182_93, ↓s182_95, ↓s182_96, ↓s182_99, ↓s182_100, ↓s182_103, ↓s182_104, ↓s182_105, ↓s182_108, ↓s182_110, ↓s182_111, ↓s182_112, ↓s182_113, ↓s182_116, ↓s182_118, ↓s182_119, ↓s182_120, ↓s182_121, ↓s182_122, ↓s182_123, ↓s182_124, ↓s182_127, ↓s182_129, ↓s182_130, ↓s182_131, ↓s182_132, ↓s182_135, ↓s182_136, ↓s182_139, ↓s182_140, ↓s182_141, ↓s182_144, ↓s182_147, ↓s182_148, kNLn, kNLi, kNLr, va_rf_s, kOl_n, kOl_s, kap_n, kap_c, kb0, kb1, kbif, ki_83, ki_85, kl_85, mr_83_1, hcc, hvc, true_and]
  have hU0 : kRM (kup mi0 85 cell (nI v)) U 0 0 := ⟨by rw [kup_eq]; exact hU _ h0.1, by rw [kup_ne (by decide)]; exact h0.2.1, by rw [kup_ne (by decide)]; exact h0.2.2⟩
  have ep0 : tpass 0 U = U := tpass_0
  refine nUp (n := 21) (P := fun d => ∀ (mi1 : Nat → Nat → Int32) (l4 : Option Value) (A B : Nat), kRM mi1 (tpass d U) A B → fS mi mi1 → (∀ d' p, d' < d → p < U 0 0 → mi1 89 (5 * d' + p) = nI (tdays d' U 3 p)) → kJ 182 13 [some (.ref 83), some (.int (nI cell)), some (.int (nI v)), some (.int (nI d)), l4, none] [] (mi1, ml, MR, 95) Q) ?_ (fun d hd ih => ?_) 0 (Nat.zero_le _) _ none 0 0 (by rw [ep0]; exact hU0) (fS_tr (fS_q f0) fS_85) (fun d' p hd' => absurd hd' (Nat.not_lt_zero _))
  · intro mi1 l4 A B h1 f1 hf
    have hgt : nI 20 < nI 21 := by decide
    have h84 : kRR (mi1 84) T := by rw [f1.1 84 (by omega) (by omega) (by omega)]; exact h
    have h55 : mi1 84 55 = nI (U 0 13) := by rw [h84.1.2.2.2.2, e13]
    rw [s182_13]
    simp only [↓s182_0, ↓s182_1, ↓s182_4, ↓s182_5, ↓s182_8, ↓s182_9, ↓s182_10, ↓s182_11, ↓s182_12, ↓s182_14, ↓s182_16, ↓s182_19, ↓s182_20, ↓s182_24, ↓s182_25, ↓s182_28, ↓s182_30, ↓s182_31, ↓s182_34, ↓s182_35, ↓s182_38, ↓s182_39, ↓s182_40, ↓s182_41, ↓s182_43, ↓s182_44, ↓s182_45, ↓s182_47, ↓s182_48, ↓s182_51, ↓s182_52, ↓s182_55, ↓s182_58, ↓s182_59, ↓s182_60, ↓s182_63, ↓s182_66, ↓s182_69, ↓s182_70, ↓s182_71, ↓s182_72, ↓s182_76, ↓s182_77, ↓s182_80, ↓s182_82, ↓s182_83, ↓s182_86, ↓s182_88, ↓s182_89, ↓s182_91, ↓s182_92, ↓s182_93, ↓s182_95, ↓s182_96, ↓s182_99, ↓s182_100, ↓s182_103, ↓s182_104, ↓s182_105, ↓s182_108, ↓s182_110, ↓s182_111, ↓s182_112, ↓s182_113, ↓s182_116, ↓s182_118, ↓s182_119, ↓s182_120, ↓s182_121, ↓s182_122, ↓s182_123, ↓s182_124, ↓s182_127, ↓s182_129, ↓s182_130, ↓s182_131, ↓s182_132, ↓s182_135, ↓s182_136, ↓s182_139, ↓s182_140, ↓s182_141, ↓s182_144, ↓s182_147, ↓s182_148, kNLn, kNLi, kNLr, va_rf_s, kOl_n, kOl_s, kap_n, kap_c, kb0, kb1, kbif, zif, z0, z1, Bool.false_eq_true, eq_self, not_true_eq_false, not_false_eq_true, if_true, if_false, and_self, true_and, false_and, and_true, and_false, hgt]
    have e1 : nI 1 = (if tsoF U 0 = true then nI 1 else nI 0) := (if_pos rfl).symm
    have fin : ∀ j, j ≤ U 0 13 → ∀ l5, kJ 182 74 [some (.ref 83), some (.int (nI cell)), some (.int (nI v)), some (.int (if tsoF U j = true then nI 1 else nI 0)), some (.int (nI j)), l5] [] (mi1, ml, MR, 95) Q := by
      refine nUp (n := U 0 13) (P := fun j => ∀ l5, kJ 182 74 [some (.ref 83), some (.int (nI cell)), some (.int (nI v)), some (.int (if tsoF U j = true then nI 1 else nI 0)), some (.int (nI j)), l5] [] (mi1, ml, MR, 95) Q) ?_ (fun j hj ih2 => ?_)
      · intro l5
        have hge : nI (U 0 13) ≤ nI (U 0 13) := Int32.le_refl _
        rw [s182_74]
        simp only [↓s182_0, ↓s182_1, ↓s182_4, ↓s182_5, ↓s182_8, ↓s182_9, ↓s182_10, ↓s182_11, ↓s182_12, ↓s182_14, ↓s182_16, ↓s182_19, ↓s182_20, ↓s182_24, ↓s182_25, ↓s182_28, ↓s182_30, ↓s182_31, ↓s182_34, ↓s182_35, ↓s182_38, ↓s182_39, ↓s182_40, ↓s182_41, ↓s182_43, ↓s182_44, ↓s182_45, ↓s182_47, ↓s182_48, ↓s182_51, ↓s182_52, ↓s182_55, ↓s182_58, ↓s182_59, ↓s182_60, ↓s182_63, ↓s182_66, ↓s182_69, ↓s182_70, ↓s182_71, ↓s182_72, ↓s182_76, ↓s182_77, ↓s182_80, ↓s182_82, ↓s182_83, ↓s182_86, ↓s182_88, ↓s182_89, ↓s182_91, ↓s182_92, ↓s182_93, ↓s182_95, ↓s182_96, ↓s182_99, ↓s182_100, ↓s182_103, ↓s182_104, ↓s182_105, ↓s182_108, ↓s182_110, ↓s182_111, ↓s182_112, ↓s182_113, ↓s182_116, ↓s182_118, ↓s182_119, ↓s182_120, ↓s182_121, ↓s182_122, ↓s182_123, ↓s182_124, ↓s182_127, ↓s182_129, ↓s182_130, ↓s182_131, ↓s182_132, ↓s182_135, ↓s182_136, ↓s182_139, ↓s182_140, ↓s182_141, ↓s182_144, ↓s182_147, ↓s182_148, kNLn, kNLi, kNLr, va_rf_s, kOl_n, kOl_s, kap_n, kap_c, kb0, kb1, kbif, if_true, true_and, ki_83, ki_84, kl_84, mr_83_0, c55, v55, h55, hge]
        exact hQ mi1 f1 hf
      · intro l5
        have hlt : ¬ nI (U 0 13) ≤ nI j := nI_ge (by omega) (by omega)
        obtain ⟨l20, lp, lm⟩ := oU.2.2.2.2.2.2.2 j hj
        have k0 : (nI (56 + 3 * j)).toNatClampNeg = 56 + 3 * j := nI_clamp (by omega)
        have p0 : vp_in (nI (56 + 3 * j)) 222 := vp_in_nI (by omega) (by decide)
        have k1 : (nI (56 + 3 * j + 1)).toNatClampNeg = 56 + 3 * j + 1 := nI_clamp (by omega)
        have p1 : vp_in (nI (56 + 3 * j + 1)) 222 := vp_in_nI (by omega) (by decide)
        have k2 : (nI (56 + 3 * j + 2)).toNatClampNeg = 56 + 3 * j + 2 := nI_clamp (by omega)
        have p2 : vp_in (nI (56 + 3 * j + 2)) 222 := vp_in_nI (by omega) (by decide)
        have q0 : mi1 84 (56 + 3 * j) = nI (U 10 j) := by rw [eS 10 j (by omega)]; exact h84.2.2.2 j 0 (by omega) (by decide)
        have q1 : mi1 84 (56 + 3 * j + 1) = nI (U 11 j) := by rw [eS 11 j (by omega)]; exact h84.2.2.2 j 1 (by omega) (by decide)
        have q2 : mi1 84 (56 + 3 * j + 2) = nI (U 12 j) := by rw [eS 12 j (by omega)]; exact h84.2.2.2 j 2 (by omega) (by decide)
        have kf : (nI (5 * U 10 j + U 11 j)).toNatClampNeg = 5 * U 10 j + U 11 j := nI_clamp (by omega)
        have pf : vp_in (nI (5 * U 10 j + U 11 j)) 105 := vp_in_nI (by omega) (by decide)
        have qf := hf (U 10 j) (U 11 j) (by omega) lp
        have lm3 : tdays (U 10 j) U 3 (U 11 j) ≤ 20 := ((tdays_ok oU _).1.2.2.2.2.2.1 _ (by rw [(tdays_ok oU _).2 0 0 (by omega) (by omega) (by omega) (by omega)]; exact lp)).2.2
        have eT : tsoF U (j + 1) = (tsoF U j && decide (tdays (U 10 j) U 3 (U 11 j) = U 12 j)) := rfl
        rw [s182_74]
        simp only [↓s182_0, ↓s182_1, ↓s182_4, ↓s182_5, ↓s182_8, ↓s182_9, ↓s182_10, ↓s182_11, ↓s182_12, ↓s182_14, ↓s182_16, ↓s182_19, ↓s182_20, ↓s182_24, ↓s182_25, ↓s182_28, ↓s182_30, ↓s182_31, ↓s182_34, ↓s182_35, ↓s182_38, ↓s182_39, ↓s182_40, ↓s182_41, ↓s182_43, ↓s182_44, ↓s182_45, ↓s182_47, ↓s182_48, ↓s182_51, ↓s182_52, ↓s182_55, ↓s182_58, ↓s182_59, ↓s182_60, ↓s182_63, ↓s182_66, ↓s182_69, ↓s182_70, ↓s182_71, ↓s182_72, ↓s182_76, ↓s182_77, ↓s182_80, ↓s182_82, ↓s182_83, ↓s182_86, ↓s182_88, ↓s182_89, ↓s182_91, ↓s182_92, ↓s182_93, ↓s182_95, ↓s182_96, ↓s182_99, ↓s182_100, ↓s182_103, ↓s182_104, ↓s182_105, ↓s182_108, ↓s182_110, ↓s182_111, ↓s182_112, ↓s182_113, ↓s182_116, ↓s182_118, ↓s182_119, ↓s182_120, ↓s182_121, ↓s182_122, ↓s182_123, ↓s182_124, ↓s182_127, ↓s182_129, ↓s182_130, ↓s182_131, ↓s182_132, ↓s182_135, ↓s182_136, ↓s182_139, ↓s182_140, ↓s182_141, ↓s182_144, ↓s182_147, ↓s182_148, kNLn, kNLi, kNLr, va_rf_s, kOl_n, kOl_s, kap_n, kap_c, kb0, kb1, kbif, zif, z0, z1, Bool.false_eq_true, eq_self, not_true_eq_false, not_false_eq_true, if_true, if_false, and_self, true_and, false_and, and_true, and_false, ki_83, ki_84, kl_84, ki_89, kl_89, mr_83_0, mr_83_21, c55, v55, h55, hlt, pk_mul, nI_add, k0, p0, k1, p1, k2, p2, q0, q1, q2, kf, pf, qf, nI_lit (by omega : tdays (U 10 j) U 3 (U 11 j) < 2 ^ 31) (by omega : U 12 j < 2 ^ 31)]
        by_cases c1 : tsoF U j = true
        · by_cases c2 : tdays (U 10 j) U 3 (U 11 j) = U 12 j
          · have e9 : tsoF U (j + 1) = true := by rw [eT, c1, decide_eq_true c2]; rfl
            have := ih2 (some (.int (nI (56 + 3 * j))))
            rw [if_pos e9] at this
            rw [if_neg (not_not_intro c1), if_pos c2]
            exact this
          · have e9 : ¬ tsoF U (j + 1) = true := by rw [eT, c1, decide_eq_false c2]; decide
            have := ih2 (some (.int (nI (56 + 3 * j))))
            rw [if_neg e9] at this
            rw [if_neg (not_not_intro c1), if_neg c2]
            exact this
        · have e9 : ¬ tsoF U (j + 1) = true := by rw [eT, Bool.eq_false_iff.mpr c1, Bool.false_and]; decide
          have := ih2 (some (.int (nI (56 + 3 * j))))
          rw [if_neg e9] at this
          rw [if_pos c1]
          exact this
    have := fin 0 (Nat.zero_le _) none
    rw [← e1] at this
    exact this
  · intro mi1 l4 A B h1 f1 hf
    have hgt : ¬ nI 20 < nI d := Int32.not_lt.mpr (nI_le (by omega) (by omega))
    have okd : tOK (tpass d U) := tpass_ok oU (by omega)
    have e00 : tpass d U 0 0 = U 0 0 := tpass_n oU (by omega) (by omega)
    rw [s182_13]
    simp only [↓s182_0, ↓s182_1, ↓s182_4, ↓s182_5, ↓s182_8, ↓s182_9, ↓s182_10, ↓s182_11, ↓s182_12, ↓s182_14, ↓s182_16, ↓s182_19, ↓s182_20, ↓s182_24, ↓s182_25, ↓s182_28, ↓s182_30, ↓s182_31, ↓s182_34, ↓s182_35, ↓s182_38, ↓s182_39, ↓s182_40, ↓s182_41, ↓s182_43, ↓s182_44, ↓s182_45, ↓s182_47, ↓s182_48, ↓s182_51, ↓s182_52, ↓s182_55, ↓s182_58, ↓s182_59, ↓s182_60, ↓s182_63, ↓s182_66, ↓s182_69, ↓s182_70, ↓s182_71, ↓s182_72, ↓s182_76, ↓s182_77, ↓s182_80, ↓s182_82, ↓s182_83, ↓s182_86, ↓s182_88, ↓s182_89, ↓s182_91, ↓s182_92, ↓s182_93, ↓s182_95, ↓s182_96, ↓s182_99, ↓s182_100, ↓s182_103, ↓s182_104, ↓s182_105, ↓s182_108, ↓s182_110, ↓s182_111, ↓s182_112, ↓s182_113, ↓s182_116, ↓s182_118, ↓s182_119, ↓s182_120, ↓s182_121, ↓s182_122, ↓s182_123, ↓s182_124, ↓s182_127, ↓s182_129, ↓s182_130, ↓s182_131, ↓s182_132, ↓s182_135, ↓s182_136, ↓s182_139, ↓s182_140, ↓s182_141, ↓s182_144, ↓s182_147, ↓s182_148, kNLn, kNLi, kNLr, va_rf_s, kOl_n, kOl_s, kap_n, kap_c, kb0, kb1, kbif, zif, z0, z1, Bool.false_eq_true, eq_self, not_true_eq_false, not_false_eq_true, if_true, if_false, and_self, true_and, false_and, and_true, and_false, hgt]
    refine nUp (n := U 0 0) (P := fun p => ∀ (mi1 : Nat → Nat → Int32), kRM mi1 (tpass d U) A B → fS mi mi1 → (∀ d' p', (d' < d ∧ p' < U 0 0) ∨ (d' = d ∧ p' < p) → mi1 89 (5 * d' + p') = nI (tdays d' U 3 p')) → kJ 182 22 [some (.ref 83), some (.int (nI cell)), some (.int (nI v)), some (.int (nI d)), some (.int (nI p)), none] [] (mi1, ml, MR, 95) Q) ?_ (fun p hp ih2 => ?_) 0 (Nat.zero_le _) mi1 h1 f1 (fun d' p' hx => hf d' p' (by omega) (by omega))
    · intro mi1 h1 f1 hf
      have hpp : mi1 85 15 = nI (U 0 0) := by rw [h1.1.1.1, e00]
      have hge : nI (U 0 0) ≤ nI (U 0 0) := Int32.le_refl _
      rw [s182_22]
      simp only [↓s182_0, ↓s182_1, ↓s182_4, ↓s182_5, ↓s182_8, ↓s182_9, ↓s182_10, ↓s182_11, ↓s182_12, ↓s182_14, ↓s182_16, ↓s182_19, ↓s182_20, ↓s182_24, ↓s182_25, ↓s182_28, ↓s182_30, ↓s182_31, ↓s182_34, ↓s182_35, ↓s182_38, ↓s182_39, ↓s182_40, ↓s182_41, ↓s182_43, ↓s182_44, ↓s182_45, ↓s182_47, ↓s182_48, ↓s182_51, ↓s182_52, ↓s182_55, ↓s182_58, ↓s182_59, ↓s182_60, ↓s182_63, ↓s182_66, ↓s182_69, ↓s182_70, ↓s182_71, ↓s182_72, ↓s182_76, ↓s182_77, ↓s182_80, ↓s182_82, ↓s182_83, ↓s182_86, ↓s182_88, ↓s182_89, ↓s182_91, ↓s182_92, ↓s182_93, ↓s182_95, ↓s182_96, ↓s182_99, ↓s182_100, ↓s182_103, ↓s182_104, ↓s182_105, ↓s182_108, ↓s182_110, ↓s182_111, ↓s182_112, ↓s182_113, ↓s182_116, ↓s182_118, ↓s182_119, ↓s182_120, ↓s182_121, ↓s182_122, ↓s182_123, ↓s182_124, ↓s182_127, ↓s182_129, ↓s182_130, ↓s182_131, ↓s182_132, ↓s182_135, ↓s182_136, ↓s182_139, ↓s182_140, ↓s182_141, ↓s182_144, ↓s182_147, ↓s182_148, kNLn, kNLi, kNLr, va_rf_s, kOl_n, kOl_s, kap_n, kap_c, kb0, kb1, kbif, zif, z0, z1, Bool.false_eq_true, eq_self, not_true_eq_false, not_false_eq_true, if_true, if_false, and_self, true_and, false_and, and_true, and_false, ki_83, ki_85, kl_85, mr_83_1, c15, v15, hpp, hge]
      refine R_day h1 okd (by unfold tpass; rw [tup_s]; omega) (fun mi2 h2 f2 => ?_)
      simp only [↓s182_0, ↓s182_1, ↓s182_4, ↓s182_5, ↓s182_8, ↓s182_9, ↓s182_10, ↓s182_11, ↓s182_12, ↓s182_14, ↓s182_16, ↓s182_19, ↓s182_20, ↓s182_24, ↓s182_25, ↓s182_28, ↓s182_30, ↓s182_31, ↓s182_34, ↓s182_35, ↓s182_38, ↓s182_39, ↓s182_40, ↓s182_41, ↓s182_43, ↓s182_44, ↓s182_45, ↓s182_47, ↓s182_48, ↓s182_51, ↓s182_52, ↓s182_55, ↓s182_58, ↓s182_59, ↓s182_60, ↓s182_63, ↓s182_66, ↓s182_69, ↓s182_70, ↓s182_71, ↓s182_72, ↓s182_76, ↓s182_77, ↓s182_80, ↓s182_82, ↓s182_83, ↓s182_86, ↓s182_88, ↓s182_89, ↓s182_91, ↓s182_92, ↓s182_93, ↓s182_95, ↓s182_96, ↓s182_99, ↓s182_100, ↓s182_103, ↓s182_104, ↓s182_105, ↓s182_108, ↓s182_110, ↓s182_111, ↓s182_112, ↓s182_113, ↓s182_116, ↓s182_118, ↓s182_119, ↓s182_120, ↓s182_121, ↓s182_122, ↓s182_123, ↓s182_124, ↓s182_127, ↓s182_129, ↓s182_130, ↓s182_131, ↓s182_132, ↓s182_135, ↓s182_136, ↓s182_139, ↓s182_140, ↓s182_141, ↓s182_144, ↓s182_147, ↓s182_148, kNLn, kNLi, kNLr, va_rf_s, kOl_n, kOl_s, kap_n, kap_c, kb0, kb1, kbif, nI_add]
      have h3 : kRM mi2 (tD (tpass d U)) _ _ := h2
      rw [tD_pass] at h3
      refine ih mi2 _ _ _ h3 (fS_tr f1 (fS_q f2)) (fun d' p' a1 a2 => ?_)
      rw [f2.1 89 (by omega) (by omega)]
      exact hf d' p' (by omega)
    · intro mi1 h1 f1 hf
      have hpp : mi1 85 15 = nI (U 0 0) := by rw [h1.1.1.1, e00]
      have hlt : ¬ nI (U 0 0) ≤ nI p := nI_ge (by omega) (by omega)
      have kf : (nI (5 * d + p)).toNatClampNeg = 5 * d + p := nI_clamp (by omega)
      have pf : vp_in (nI (5 * d + p)) 105 := vp_in_nI (by omega) (by decide)
      have e2 : ∀ Q', kJ 132 0 [some (.ref 83), some (.int (nI p)), some (.int (nI 2))] [] (mi1, ml, MR, 95) Q' = Q' (some (.int (nI (tpass d U 3 p)))) (mi1, ml, MR, 95) := fun Q' => R_of h1.1 okd (by rw [e00]; exact hp) (w := 2) (by decide)
      rw [s182_22]
      simp only [↓s182_0, ↓s182_1, ↓s182_4, ↓s182_5, ↓s182_8, ↓s182_9, ↓s182_10, ↓s182_11, ↓s182_12, ↓s182_14, ↓s182_16, ↓s182_19, ↓s182_20, ↓s182_24, ↓s182_25, ↓s182_28, ↓s182_30, ↓s182_31, ↓s182_34, ↓s182_35, ↓s182_38, ↓s182_39, ↓s182_40, ↓s182_41, ↓s182_43, ↓s182_44, ↓s182_45, ↓s182_47, ↓s182_48, ↓s182_51, ↓s182_52, ↓s182_55, ↓s182_58, ↓s182_59, ↓s182_60, ↓s182_63, ↓s182_66, ↓s182_69, ↓s182_70, ↓s182_71, ↓s182_72, ↓s182_76, ↓s182_77, ↓s182_80, ↓s182_82, ↓s182_83, ↓s182_86, ↓s182_88, ↓s182_89, ↓s182_91, ↓s182_92, ↓s182_93, ↓s182_95, ↓s182_96, ↓s182_99, ↓s182_100, ↓s182_103, ↓s182_104, ↓s182_105, ↓s182_108, ↓s182_110, ↓s182_111, ↓s182_112, ↓s182_113, ↓s182_116, ↓s182_118, ↓s182_119, ↓s182_120, ↓s182_121, ↓s182_122, ↓s182_123, ↓s182_124, ↓s182_127, ↓s182_129, ↓s182_130, ↓s182_131, ↓s182_132, ↓s182_135, ↓s182_136, ↓s182_139, ↓s182_140, ↓s182_141, ↓s182_144, ↓s182_147, ↓s182_148, ↓e2, kNLn, kNLi, kNLr, va_rf_s, kOl_n, kOl_s, kap_n, kap_c, kb0, kb1, kbif, zif, z0, z1, Bool.false_eq_true, eq_self, not_true_eq_false, not_false_eq_true, if_true, if_false, and_self, true_and, false_and, and_true, and_false, ki_83, ki_85, kl_85, ki_89, kl_89, mr_83_1, mr_83_21, c15, v15, hpp, hlt, pk_mul, nI_add, kf, pf]
      refine ih2 _ (kRM_89 h1) (fS_tr f1 fS_89) (fun d' p' hx => ?_)
      rw [kup_eq]
      by_cases e : d' = d ∧ p' = p
      · obtain ⟨rfl, rfl⟩ := e
        rw [pk_us, tpass_3 (by omega)]
      · rw [pk_un (by omega)]
        exact hf d' p' (by omega)
theorem R_which {cell many : Nat} {F : Nat → tT} (h : kRR (mi 84) T) (ho : tOK T) (hc : cell < 74) (hm : many ≤ 19) (hF : ∀ v, v < many → tOK (F v) ∧ F v 0 12 + 30 < 2000 ∧ (∀ a, kRR a T → kRR (upd a cell (nI v)) (F v)) ∧ F v 0 0 = T 0 0 ∧ F v 0 13 = T 0 13 ∧ ∀ r j, 10 ≤ r → F v r j = T r j) (hQ : ∀ mi', wR mi mi' → Q (some (.int (nI (gwF F many)))) (mi', ml, MR, 95)) : kJ 183 0 [some (.ref 83), some (.int (nI cell)), some (.int (nI many)), none, none] [] (mi, ml, MR, 95) Q := by
  simp only [↓s183_0, ↓s183_1, ↓s183_2, ↓s183_3, ↓s183_7, ↓s183_8, ↓s183_11, ↓s183_12, ↓s183_13, ↓s183_14, ↓s183_16, ↓s183_19, ↓s183_22, ↓s183_24, ↓s183_25, ↓s183_26, ↓s183_27, ↓s183_30, ↓s183_33, ↓s183_34, kNLn, kNLi, kNLr, va_rf_s, kOl_n, kOl_s, kap_n, kap_c, kb0, kb1, kbif]
  refine nUp (n := many) (P := fun k => ∀ mi1, wR mi mi1 → kJ 183 5 [some (.ref 83), some (.int (nI cell)), some (.int (nI many)), some (.int (nI (gwF F k))), some (.int (nI k))] [] (mi1, ml, MR, 95) Q) ?_ (fun k hk ih => ?_) 0 (Nat.zero_le _) mi wR_rf
  · intro mi1 f1
    rw [s183_5]
    simp only [↓s183_0, ↓s183_1, ↓s183_2, ↓s183_3, ↓s183_7, ↓s183_8, ↓s183_11, ↓s183_12, ↓s183_13, ↓s183_14, ↓s183_16, ↓s183_19, ↓s183_22, ↓s183_24, ↓s183_25, ↓s183_26, ↓s183_27, ↓s183_30, ↓s183_33, ↓s183_34, kNLn, kNLi, kNLr, va_rf_s, kOl_n, kOl_s, kap_n, kap_c, kb0, kb1, kbif]
    rw [if_pos (Int32.le_refl _)]
    exact hQ mi1 f1
  · intro mi1 f1
    have hlt : ¬ nI many ≤ nI k := nI_ge (by omega) (by omega)
    obtain ⟨g1, g2, g3, g4, g5, g6⟩ := hF k hk
    rw [s183_5]
    simp only [↓s183_0, ↓s183_1, ↓s183_2, ↓s183_3, ↓s183_7, ↓s183_8, ↓s183_11, ↓s183_12, ↓s183_13, ↓s183_14, ↓s183_16, ↓s183_19, ↓s183_22, ↓s183_24, ↓s183_25, ↓s183_26, ↓s183_27, ↓s183_30, ↓s183_33, ↓s183_34, kNLn, kNLi, kNLr, va_rf_s, kOl_n, kOl_s, kap_n, kap_c, kb0, kb1, kbif, ki_83, hlt, if_false]
    refine R_isSo (kRR_w h f1) ho hc g1 g2 g3 g4 g5 g6 (fun mi2 f2 _ => ?_)
    have eT : gwF F (k + 1) = gwF F k + (if tso (F k) = true then 2 ^ k else 0) := rfl
    have ih2 := ih mi2 (wR_tr f1 (wR_S f2))
    by_cases c : tso (F k) = true
    · rw [if_pos c] at eT ⊢
      simp only [↓s183_0, ↓s183_1, ↓s183_2, ↓s183_3, ↓s183_7, ↓s183_8, ↓s183_11, ↓s183_12, ↓s183_13, ↓s183_14, ↓s183_16, ↓s183_19, ↓s183_22, ↓s183_24, ↓s183_25, ↓s183_26, ↓s183_27, ↓s183_30, ↓s183_33, ↓s183_34, ↓R_flag, kNLn, kNLi, kNLr, va_rf_s, kOl_n, kOl_s, kap_n, kap_c, kb0, kb1, kbif, zif, z0, z1, Bool.false_eq_true, eq_self, not_true_eq_false, not_false_eq_true, if_true, if_false, and_self, true_and, false_and, and_true, and_false, or_bit (gw_lt F k) (by omega : k < 31), nI_add]
      rw [eT] at ih2
      exact ih2
    · rw [if_neg c] at eT ⊢
      simp only [↓s183_0, ↓s183_1, ↓s183_2, ↓s183_3, ↓s183_7, ↓s183_8, ↓s183_11, ↓s183_12, ↓s183_13, ↓s183_14, ↓s183_16, ↓s183_19, ↓s183_22, ↓s183_24, ↓s183_25, ↓s183_26, ↓s183_27, ↓s183_30, ↓s183_33, ↓s183_34, ↓R_flag, kNLn, kNLi, kNLr, va_rf_s, kOl_n, kOl_s, kap_n, kap_c, kb0, kb1, kbif, zif, z0, z1, Bool.false_eq_true, eq_self, not_true_eq_false, not_false_eq_true, if_true, if_false, and_self, true_and, false_and, and_true, and_false, or_0 _ k (by omega : k < 31), nI_add]
      rw [eT] at ih2
      exact ih2
theorem C_kindsL (h : CI S mi) (hg : gOK S) (hi : p < S.1 0 0) (hQ : ∀ mi', wC mi mi' → Q (some (.int (nI (gwF (fun v => tup S.1 1 p v) 4)))) (mi', ml, MR, 95)) : kJ 79 17 [some (.ref 0), some (.int (nI p)), some (.int (nI 0)), some (.int (nI 0))] [] (mi, ml, MR, 95) Q := by
  have ho := hg.1.1
  have o1 := ho.1
  have o2 := ho.2.1
  have hd12 := hg.1.2
  have hc : (nI p).toNatClampNeg = p := nI_clamp (by omega)
  have hv : vp_in (nI p) 5 := vp_in_nI (by omega) (by decide)
  refine nUp (n := 4) (P := fun k => ∀ mi1, wC mi mi1 → kJ 79 17 [some (.ref 0), some (.int (nI p)), some (.int (nI (gwF (fun v => tup S.1 1 p v) k))), some (.int (nI k))] [] (mi1, ml, MR, 95) Q) ?_ (fun k hk ih => ?_) 0 (Nat.zero_le _) mi wC_rf
  · intro mi1 f1
    have hgt : nI 4 ≤ nI 4 := by decide
    rw [s79_17]
    simp only [↓s79_0, ↓s79_1, ↓s79_4, ↓s79_5, ↓s79_8, ↓s79_11, ↓s79_12, ↓s79_13, ↓s79_14, ↓s79_15, ↓s79_16, ↓s79_18, ↓s79_19, ↓s79_22, ↓s79_23, ↓s79_26, ↓s79_27, ↓s79_30, ↓s79_33, ↓s79_34, ↓s79_37, ↓s79_40, ↓s79_41, ↓s79_42, ↓s79_43, ↓s79_44, ↓s79_47, ↓s79_50, ↓s79_53, ↓s79_54, ↓s79_55, ↓s79_56, ↓s79_57, ↓s79_58, ↓s79_59, ↓s79_62, ↓s79_65, ↓s79_66, kNLn, kNLi, kNLr, va_rf_s, kOl_n, kOl_s, kap_n, kap_c, kb0, kb1, kbif, zif, z0, z1, Bool.false_eq_true, eq_self, not_true_eq_false, not_false_eq_true, if_true, if_false, and_self, true_and, false_and, and_true, and_false, hgt]
    exact hQ mi1 f1
  · intro mi1 f1
    have hgt : ¬ nI 4 ≤ nI k := nI_ge (by omega) (by omega)
    rw [s79_17]
    simp only [↓s79_0, ↓s79_1, ↓s79_4, ↓s79_5, ↓s79_8, ↓s79_11, ↓s79_12, ↓s79_13, ↓s79_14, ↓s79_15, ↓s79_16, ↓s79_18, ↓s79_19, ↓s79_22, ↓s79_23, ↓s79_26, ↓s79_27, ↓s79_30, ↓s79_33, ↓s79_34, ↓s79_37, ↓s79_40, ↓s79_41, ↓s79_42, ↓s79_43, ↓s79_44, ↓s79_47, ↓s79_50, ↓s79_53, ↓s79_54, ↓s79_55, ↓s79_56, ↓s79_57, ↓s79_58, ↓s79_59, ↓s79_62, ↓s79_65, ↓s79_66, kNLn, kNLi, kNLr, va_rf_s, kOl_n, kOl_s, kap_n, kap_c, kb0, kb1, kbif, zif, z0, z1, Bool.false_eq_true, eq_self, not_true_eq_false, not_false_eq_true, if_true, if_false, and_self, true_and, false_and, and_true, and_false, ki_0, ki_1, ki_14, mr_0_0, mr_0_1, hgt]
    refine C_copy_14_1 (kCR1_w h.1 f1) ho (fun mi2 h2 f2 => ?_)
    simp only [↓s79_0, ↓s79_1, ↓s79_4, ↓s79_5, ↓s79_8, ↓s79_11, ↓s79_12, ↓s79_13, ↓s79_14, ↓s79_15, ↓s79_16, ↓s79_18, ↓s79_19, ↓s79_22, ↓s79_23, ↓s79_26, ↓s79_27, ↓s79_30, ↓s79_33, ↓s79_34, ↓s79_37, ↓s79_40, ↓s79_41, ↓s79_42, ↓s79_43, ↓s79_44, ↓s79_47, ↓s79_50, ↓s79_53, ↓s79_54, ↓s79_55, ↓s79_56, ↓s79_57, ↓s79_58, ↓s79_59, ↓s79_62, ↓s79_65, ↓s79_66, kNLn, kNLi, kNLr, va_rf_s, kOl_n, kOl_s, kap_n, kap_c, kb0, kb1, kbif, zif, z0, z1, Bool.false_eq_true, eq_self, not_true_eq_false, not_false_eq_true, if_true, if_false, and_self, true_and, false_and, and_true, and_false, ki_0, ki_14, ki_15, kl_15, mr_0_1, mr_14_1, hc, hv]
    have h3 : kCR 14 (tup S.1 1 p k) (kup mi2 15 p (nI k)) := kCR_up (r := 1) h2 (by omega)
    have f3 : kFr 14 mi2 (kup mi2 15 p (nI k)) := kFr_up (b := 14) (r := 1) kFr_rf (by omega)
    refine J_seen kPost_14 h3 (tOK_upP ho (Or.inl ⟨rfl, hk⟩)) (by rw [tup_n (by omega)]; omega) (fun mi4 f4 => ?_)
    have eT : gwF (fun v => tup S.1 1 p v) (k + 1) = gwF (fun v => tup S.1 1 p v) k + (if tso (tup S.1 1 p k) = true then 2 ^ k else 0) := rfl
    have ih2 := ih mi4 (wC_tr f1 (wC_tr (wC_14 f2) (wC_tr (wC_14 f3) (wC_14 f4))))
    by_cases c : tso (tup S.1 1 p k) = true
    · rw [if_pos c] at eT ⊢
      simp only [↓s79_0, ↓s79_1, ↓s79_4, ↓s79_5, ↓s79_8, ↓s79_11, ↓s79_12, ↓s79_13, ↓s79_14, ↓s79_15, ↓s79_16, ↓s79_18, ↓s79_19, ↓s79_22, ↓s79_23, ↓s79_26, ↓s79_27, ↓s79_30, ↓s79_33, ↓s79_34, ↓s79_37, ↓s79_40, ↓s79_41, ↓s79_42, ↓s79_43, ↓s79_44, ↓s79_47, ↓s79_50, ↓s79_53, ↓s79_54, ↓s79_55, ↓s79_56, ↓s79_57, ↓s79_58, ↓s79_59, ↓s79_62, ↓s79_65, ↓s79_66, kNLn, kNLi, kNLr, va_rf_s, kOl_n, kOl_s, kap_n, kap_c, kb0, kb1, kbif, zif, z0, z1, Bool.false_eq_true, eq_self, not_true_eq_false, not_false_eq_true, if_true, if_false, and_self, true_and, false_and, and_true, and_false, or_bit (gw_lt (fun v => tup S.1 1 p v) k) (by omega : k < 31), nI_add]
      rw [eT] at ih2
      exact ih2
    · rw [if_neg c] at eT ⊢
      simp only [↓s79_0, ↓s79_1, ↓s79_4, ↓s79_5, ↓s79_8, ↓s79_11, ↓s79_12, ↓s79_13, ↓s79_14, ↓s79_15, ↓s79_16, ↓s79_18, ↓s79_19, ↓s79_22, ↓s79_23, ↓s79_26, ↓s79_27, ↓s79_30, ↓s79_33, ↓s79_34, ↓s79_37, ↓s79_40, ↓s79_41, ↓s79_42, ↓s79_43, ↓s79_44, ↓s79_47, ↓s79_50, ↓s79_53, ↓s79_54, ↓s79_55, ↓s79_56, ↓s79_57, ↓s79_58, ↓s79_59, ↓s79_62, ↓s79_65, ↓s79_66, kNLn, kNLi, kNLr, va_rf_s, kOl_n, kOl_s, kap_n, kap_c, kb0, kb1, kbif, zif, z0, z1, Bool.false_eq_true, eq_self, not_true_eq_false, not_false_eq_true, if_true, if_false, and_self, true_and, false_and, and_true, and_false, nI_add]
      rw [eT] at ih2
      exact ih2
theorem C_tonesL (h : CI S mi) (hg : gOK S) (hi : i < S.1 0 4) (hQ : ∀ mi', wC mi mi' → Q (some (.int (nI (gwF (fun v => tup S.1 7 i v) 19)))) (mi', ml, MR, 95)) : kJ 80 31 [some (.ref 0), some (.int (nI i)), some (.int (nI 0)), some (.int (nI 0))] [] (mi, ml, MR, 95) Q := by
  have ho := hg.1.1
  have o1 := ho.1
  have o2 := ho.2.1
  have hd12 := hg.1.2
  have hc : (nI i).toNatClampNeg = i := nI_clamp (by omega)
  have hv : vp_in (nI i) 6 := vp_in_nI (by omega) (by decide)
  refine nUp (n := 19) (P := fun k => ∀ mi1, wC mi mi1 → kJ 80 31 [some (.ref 0), some (.int (nI i)), some (.int (nI (gwF (fun v => tup S.1 7 i v) k))), some (.int (nI k))] [] (mi1, ml, MR, 95) Q) ?_ (fun k hk ih => ?_) 0 (Nat.zero_le _) mi wC_rf
  · intro mi1 f1
    have hgt : nI 18 < nI 19 := by decide
    rw [s80_31]
    simp only [↓s80_0, ↓s80_1, ↓s80_4, ↓s80_5, ↓s80_8, ↓s80_11, ↓s80_12, ↓s80_13, ↓s80_14, ↓s80_17, ↓s80_18, ↓s80_21, ↓s80_24, ↓s80_26, ↓s80_27, ↓s80_28, ↓s80_29, ↓s80_30, ↓s80_32, ↓s80_34, ↓s80_37, ↓s80_38, ↓s80_41, ↓s80_42, ↓s80_45, ↓s80_48, ↓s80_49, ↓s80_52, ↓s80_55, ↓s80_56, ↓s80_57, ↓s80_58, ↓s80_59, ↓s80_62, ↓s80_65, ↓s80_68, ↓s80_69, ↓s80_70, ↓s80_71, ↓s80_72, ↓s80_73, ↓s80_74, ↓s80_77, ↓s80_80, ↓s80_81, kNLn, kNLi, kNLr, va_rf_s, kOl_n, kOl_s, kap_n, kap_c, kb0, kb1, kbif, zif, z0, z1, Bool.false_eq_true, eq_self, not_true_eq_false, not_false_eq_true, if_true, if_false, and_self, true_and, false_and, and_true, and_false, hgt]
    exact hQ mi1 f1
  · intro mi1 f1
    have hgt : ¬ nI 18 < nI k := Int32.not_lt.mpr (nI_le (by omega) (by omega))
    rw [s80_31]
    simp only [↓s80_0, ↓s80_1, ↓s80_4, ↓s80_5, ↓s80_8, ↓s80_11, ↓s80_12, ↓s80_13, ↓s80_14, ↓s80_17, ↓s80_18, ↓s80_21, ↓s80_24, ↓s80_26, ↓s80_27, ↓s80_28, ↓s80_29, ↓s80_30, ↓s80_32, ↓s80_34, ↓s80_37, ↓s80_38, ↓s80_41, ↓s80_42, ↓s80_45, ↓s80_48, ↓s80_49, ↓s80_52, ↓s80_55, ↓s80_56, ↓s80_57, ↓s80_58, ↓s80_59, ↓s80_62, ↓s80_65, ↓s80_68, ↓s80_69, ↓s80_70, ↓s80_71, ↓s80_72, ↓s80_73, ↓s80_74, ↓s80_77, ↓s80_80, ↓s80_81, kNLn, kNLi, kNLr, va_rf_s, kOl_n, kOl_s, kap_n, kap_c, kb0, kb1, kbif, zif, z0, z1, Bool.false_eq_true, eq_self, not_true_eq_false, not_false_eq_true, if_true, if_false, and_self, true_and, false_and, and_true, and_false, ki_0, ki_1, ki_14, mr_0_0, mr_0_1, hgt]
    refine C_copy_14_1 (kCR1_w h.1 f1) ho (fun mi2 h2 f2 => ?_)
    simp only [↓s80_0, ↓s80_1, ↓s80_4, ↓s80_5, ↓s80_8, ↓s80_11, ↓s80_12, ↓s80_13, ↓s80_14, ↓s80_17, ↓s80_18, ↓s80_21, ↓s80_24, ↓s80_26, ↓s80_27, ↓s80_28, ↓s80_29, ↓s80_30, ↓s80_32, ↓s80_34, ↓s80_37, ↓s80_38, ↓s80_41, ↓s80_42, ↓s80_45, ↓s80_48, ↓s80_49, ↓s80_52, ↓s80_55, ↓s80_56, ↓s80_57, ↓s80_58, ↓s80_59, ↓s80_62, ↓s80_65, ↓s80_68, ↓s80_69, ↓s80_70, ↓s80_71, ↓s80_72, ↓s80_73, ↓s80_74, ↓s80_77, ↓s80_80, ↓s80_81, kNLn, kNLi, kNLr, va_rf_s, kOl_n, kOl_s, kap_n, kap_c, kb0, kb1, kbif, zif, z0, z1, Bool.false_eq_true, eq_self, not_true_eq_false, not_false_eq_true, if_true, if_false, and_self, true_and, false_and, and_true, and_false, ki_0, ki_14, ki_21, kl_21, mr_0_1, mr_14_8, hc, hv]
    have h3 : kCR 14 (tup S.1 7 i k) (kup mi2 21 i (nI k)) := kCR_up (r := 7) h2 (by omega)
    have f3 : kFr 14 mi2 (kup mi2 21 i (nI k)) := kFr_up (b := 14) (r := 7) kFr_rf (by omega)
    refine J_seen kPost_14 h3 (tOK_upL ho (Or.inl ⟨rfl, by omega⟩)) (by rw [tup_n (by omega)]; omega) (fun mi4 f4 => ?_)
    have eT : gwF (fun v => tup S.1 7 i v) (k + 1) = gwF (fun v => tup S.1 7 i v) k + (if tso (tup S.1 7 i k) = true then 2 ^ k else 0) := rfl
    have ih2 := ih mi4 (wC_tr f1 (wC_tr (wC_14 f2) (wC_tr (wC_14 f3) (wC_14 f4))))
    by_cases c : tso (tup S.1 7 i k) = true
    · rw [if_pos c] at eT ⊢
      simp only [↓s80_0, ↓s80_1, ↓s80_4, ↓s80_5, ↓s80_8, ↓s80_11, ↓s80_12, ↓s80_13, ↓s80_14, ↓s80_17, ↓s80_18, ↓s80_21, ↓s80_24, ↓s80_26, ↓s80_27, ↓s80_28, ↓s80_29, ↓s80_30, ↓s80_32, ↓s80_34, ↓s80_37, ↓s80_38, ↓s80_41, ↓s80_42, ↓s80_45, ↓s80_48, ↓s80_49, ↓s80_52, ↓s80_55, ↓s80_56, ↓s80_57, ↓s80_58, ↓s80_59, ↓s80_62, ↓s80_65, ↓s80_68, ↓s80_69, ↓s80_70, ↓s80_71, ↓s80_72, ↓s80_73, ↓s80_74, ↓s80_77, ↓s80_80, ↓s80_81, kNLn, kNLi, kNLr, va_rf_s, kOl_n, kOl_s, kap_n, kap_c, kb0, kb1, kbif, zif, z0, z1, Bool.false_eq_true, eq_self, not_true_eq_false, not_false_eq_true, if_true, if_false, and_self, true_and, false_and, and_true, and_false, or_bit (gw_lt (fun v => tup S.1 7 i v) k) (by omega : k < 31), nI_add]
      rw [eT] at ih2
      exact ih2
    · rw [if_neg c] at eT ⊢
      simp only [↓s80_0, ↓s80_1, ↓s80_4, ↓s80_5, ↓s80_8, ↓s80_11, ↓s80_12, ↓s80_13, ↓s80_14, ↓s80_17, ↓s80_18, ↓s80_21, ↓s80_24, ↓s80_26, ↓s80_27, ↓s80_28, ↓s80_29, ↓s80_30, ↓s80_32, ↓s80_34, ↓s80_37, ↓s80_38, ↓s80_41, ↓s80_42, ↓s80_45, ↓s80_48, ↓s80_49, ↓s80_52, ↓s80_55, ↓s80_56, ↓s80_57, ↓s80_58, ↓s80_59, ↓s80_62, ↓s80_65, ↓s80_68, ↓s80_69, ↓s80_70, ↓s80_71, ↓s80_72, ↓s80_73, ↓s80_74, ↓s80_77, ↓s80_80, ↓s80_81, kNLn, kNLi, kNLr, va_rf_s, kOl_n, kOl_s, kap_n, kap_c, kb0, kb1, kbif, zif, z0, z1, Bool.false_eq_true, eq_self, not_true_eq_false, not_false_eq_true, if_true, if_false, and_self, true_and, false_and, and_true, and_false, nI_add]
      rw [eT] at ih2
      exact ih2
theorem hF_tone (hg : gOK S) (hi : i < S.1 0 4) : ∀ v, v < 19 → tOK (tup S.1 7 i v) ∧ tup S.1 7 i v 0 12 + 30 < 2000 ∧ (∀ a, kRR a S.1 → kRR (upd a (16 + 6 * i + 3) (nI v)) (tup S.1 7 i v)) ∧ tup S.1 7 i v 0 0 = S.1 0 0 ∧ tup S.1 7 i v 0 13 = S.1 0 13 ∧ ∀ r j, 10 ≤ r → tup S.1 7 i v r j = S.1 r j := fun v hv => ⟨tOK_upL hg.1.1 (Or.inl ⟨rfl, by omega⟩), by rw [tup_n (by omega)]; have := hg.1.2; omega, fun a ha => kRR_upL hg.1.1 ha hi (by decide), tup_n (by omega), tup_n (by omega), fun r j hr => tup_n (by omega)⟩
theorem hF_kind (hg : gOK S) (hp : p < S.1 0 0) : ∀ v, v < 4 → tOK (tup S.1 1 p v) ∧ tup S.1 1 p v 0 12 + 30 < 2000 ∧ (∀ a, kRR a S.1 → kRR (upd a (3 * p + 0) (nI v)) (tup S.1 1 p v)) ∧ tup S.1 1 p v 0 0 = S.1 0 0 ∧ tup S.1 1 p v 0 13 = S.1 0 13 ∧ ∀ r j, 10 ≤ r → tup S.1 1 p v r j = S.1 r j := fun v hv => ⟨tOK_upP hg.1.1 (Or.inl ⟨rfl, hv⟩), by rw [tup_n (by omega)]; have := hg.1.2; omega, fun a ha => kRR_upP hg.1.1 ha hp (by decide), tup_n (by omega), tup_n (by omega), fun r j hr => tup_n (by omega)⟩
theorem B_kinds {x : Int32} (hg : gOK S) : bB 79 [some (.ref 0), some (.int x), none, none] 184 [some (.ref 83), some (.int x)] S := by
  have ho := hg.1.1
  have o1 := ho.1
  by_cases c : gin x (S.1 0 0) = true
  · obtain ⟨p, hp, rfl⟩ := gin_of c (by omega)
    refine bB_w hg (nI (gwF (fun v => tup S.1 1 p v) 4)) (fun mi ml Q h hQ => ?_) (fun mi ml Q h hQ => ?_)
    · simp only [↓s79_0, ↓s79_1, ↓s79_4, ↓s79_5, ↓s79_8, ↓s79_11, ↓s79_12, ↓s79_13, ↓s79_14, ↓s79_15, ↓s79_16, ↓s79_18, ↓s79_19, ↓s79_22, ↓s79_23, ↓s79_26, ↓s79_27, ↓s79_30, ↓s79_33, ↓s79_34, ↓s79_37, ↓s79_40, ↓s79_41, ↓s79_42, ↓s79_43, ↓s79_44, ↓s79_47, ↓s79_50, ↓s79_53, ↓s79_54, ↓s79_55, ↓s79_56, ↓s79_57, ↓s79_58, ↓s79_59, ↓s79_62, ↓s79_65, ↓s79_66, ↓J_hasOneG kPost_1 h.1 ho, kNLn, kNLi, kNLr, va_rf_s, kOl_n, kOl_s, kap_n, kap_c, kb0, kb1, kbif, zif, z0, z1, Bool.false_eq_true, eq_self, not_true_eq_false, not_false_eq_true, if_true, if_false, and_self, true_and, false_and, and_true, and_false, c, ki_0, ki_1, mr_0_0]
      exact C_kindsL h hg hp hQ
    · simp only [↓s184_0, ↓s184_1, ↓s184_2, ↓s184_5, ↓s184_8, ↓s184_9, ↓s184_10, ↓s184_11, ↓s184_12, ↓s184_13, ↓s184_14, ↓s184_15, ↓s184_21, ↓s184_22, ↓R_isOne h.1 ho, kNLn, kNLi, kNLr, va_rf_s, kOl_n, kOl_s, kap_n, kap_c, kb0, kb1, kbif, zif, z0, z1, Bool.false_eq_true, eq_self, not_true_eq_false, not_false_eq_true, if_true, if_false, and_self, true_and, false_and, and_true, and_false, c, ki_83, pk_mul, nI_add]
      refine R_which (cell := 3 * p + 0) (many := 4) h.1 ho (by omega) (by decide) (hF_kind hg hp) (fun mi' f' => ?_)
      simp only [↓s184_0, ↓s184_1, ↓s184_2, ↓s184_5, ↓s184_8, ↓s184_9, ↓s184_10, ↓s184_11, ↓s184_12, ↓s184_13, ↓s184_14, ↓s184_15, ↓s184_18, ↓s184_21, ↓s184_22, kNLn, kNLi, kNLr, va_rf_s, kOl_n, kOl_s, kap_n, kap_c, kb0, kb1, kbif]
      exact hQ mi' f'
  · refine bB_e hg (-1) (fun mi ml Q h => ?_) (fun mi ml Q h => ?_)
    · simp only [↓s79_0, ↓s79_1, ↓s79_4, ↓s79_5, ↓s79_8, ↓s79_11, ↓s79_12, ↓s79_13, ↓s79_14, ↓s79_15, ↓s79_16, ↓s79_18, ↓s79_19, ↓s79_22, ↓s79_23, ↓s79_26, ↓s79_27, ↓s79_30, ↓s79_33, ↓s79_34, ↓s79_37, ↓s79_40, ↓s79_41, ↓s79_42, ↓s79_43, ↓s79_44, ↓s79_47, ↓s79_50, ↓s79_53, ↓s79_54, ↓s79_55, ↓s79_56, ↓s79_57, ↓s79_58, ↓s79_59, ↓s79_62, ↓s79_65, ↓s79_66, ↓J_hasOneG kPost_1 h.1 ho, kNLn, kNLi, kNLr, va_rf_s, kOl_n, kOl_s, kap_n, kap_c, kb0, kb1, kbif, zif, z0, z1, Bool.false_eq_true, eq_self, not_true_eq_false, not_false_eq_true, if_true, if_false, and_self, true_and, false_and, and_true, and_false, c, ki_0, ki_1, mr_0_0]
    · simp only [↓s184_0, ↓s184_1, ↓s184_2, ↓s184_5, ↓s184_8, ↓s184_9, ↓s184_10, ↓s184_11, ↓s184_12, ↓s184_13, ↓s184_14, ↓s184_15, ↓s184_18, ↓s184_21, ↓s184_22, ↓R_isOne h.1 ho, kNLn, kNLi, kNLr, va_rf_s, kOl_n, kOl_s, kap_n, kap_c, kb0, kb1, kbif, zif, z0, z1, Bool.false_eq_true, eq_self, not_true_eq_false, not_false_eq_true, if_true, if_false, and_self, true_and, false_and, and_true, and_false, c, ki_83]
theorem C_tones_y (h : CI S mi) (hg : gOK S) (hi : i < S.1 0 4) (w : tway S.1 i = true) (hQ : ∀ mi', wC mi mi' → Q (some (.int (nI (gwF (fun v => tup S.1 7 i v) 19)))) (mi', ml, MR, 95)) : kJ 80 0 [some (.ref 0), some (.int (nI i)), none, none] [] (mi, ml, MR, 95) Q := by
  have ho := hg.1.1
  have o2 := ho.2.1
  have c : gin (nI i) (S.1 0 4) = true := gin_nI hi (by omega)
  simp only [↓s80_0, ↓s80_1, ↓s80_4, ↓s80_5, ↓s80_8, ↓s80_11, ↓s80_12, ↓s80_13, ↓s80_14, ↓s80_17, ↓s80_18, ↓s80_21, ↓s80_24, ↓s80_26, ↓s80_27, ↓s80_28, ↓s80_29, ↓s80_30, ↓s80_32, ↓s80_34, ↓s80_37, ↓s80_38, ↓s80_41, ↓s80_42, ↓s80_45, ↓s80_48, ↓s80_49, ↓s80_52, ↓s80_55, ↓s80_56, ↓s80_57, ↓s80_58, ↓s80_59, ↓s80_62, ↓s80_65, ↓s80_68, ↓s80_69, ↓s80_70, ↓s80_71, ↓s80_72, ↓s80_73, ↓s80_74, ↓s80_77, ↓s80_80, ↓s80_81, ↓J_hasLetterG kPost_1 h.1 ho, ↓J_wayT kPost_1 h.1 ho hi, kNLn, kNLi, kNLr, va_rf_s, kOl_n, kOl_s, kap_n, kap_c, kb0, kb1, kbif, zif, z0, z1, Bool.false_eq_true, eq_self, not_true_eq_false, not_false_eq_true, if_true, if_false, and_self, true_and, false_and, and_true, and_false, c, w, ki_0, ki_1, mr_0_0]
  exact C_tonesL h hg hi hQ
theorem B_tones {x : Int32} (hg : gOK S) : bB 80 [some (.ref 0), some (.int x), none, none] 185 [some (.ref 83), some (.int x)] S := by
  have ho := hg.1.1
  have o2 := ho.2.1
  by_cases c : gin x (S.1 0 4) = true
  · obtain ⟨i, hi, rfl⟩ := gin_of c (by omega)
    have hl3 := (ho.2.2.2.2.2.2.1 i hi).2.2.2.2.2
    by_cases w : tway S.1 i = true
    · have hl : ¬ nI 2 ≤ nI (S.1 9 i) := nI_ge (of_decide_eq_true w) (by decide)
      refine bB_w hg (nI (gwF (fun v => tup S.1 7 i v) 19)) (fun mi ml Q h hQ => C_tones_y h hg hi w hQ) (fun mi ml Q h hQ => ?_)
      simp only [↓s185_0, ↓s185_1, ↓s185_2, ↓s185_5, ↓s185_8, ↓s185_9, ↓s185_10, ↓s185_11, ↓s185_12, ↓s185_15, ↓s185_16, ↓s185_19, ↓s185_21, ↓s185_24, ↓s185_25, ↓s185_27, ↓s185_29, ↓s185_30, ↓s185_31, ↓s185_32, ↓s185_33, ↓s185_34, ↓s185_36, ↓s185_39, ↓R_isLetter h.1 ho, ↓R_legOf h.1 ho hi, kNLn, kNLi, kNLr, va_rf_s, kOl_n, kOl_s, kap_n, kap_c, kb0, kb1, kbif, zif, z0, z1, Bool.false_eq_true, eq_self, not_true_eq_false, not_false_eq_true, if_true, if_false, and_self, true_and, false_and, and_true, and_false, c, ki_83, Int32.not_le.mp hl, pk_mul, nI_add]
      refine R_which (cell := 16 + 6 * i + 3) (many := 19) h.1 ho (by omega) (by decide) (hF_tone hg hi) (fun mi' f' => ?_)
      simp only [↓s185_0, ↓s185_1, ↓s185_2, ↓s185_5, ↓s185_8, ↓s185_9, ↓s185_10, ↓s185_11, ↓s185_12, ↓s185_15, ↓s185_16, ↓s185_19, ↓s185_21, ↓s185_24, ↓s185_25, ↓s185_27, ↓s185_29, ↓s185_30, ↓s185_31, ↓s185_32, ↓s185_33, ↓s185_34, ↓s185_36, ↓s185_39, kNLn, kNLi, kNLr, va_rf_s, kOl_n, kOl_s, kap_n, kap_c, kb0, kb1, kbif]
      exact hQ mi' f'
    · have h2 : ¬ S.1 9 i < 2 := fun z => w (decide_eq_true z)
      have hl : ¬ nI (S.1 9 i) < nI 2 := Int32.not_lt.mpr (nI_le (by omega) (by omega))
      refine bB_e hg (-2) (fun mi ml Q h => ?_) (fun mi ml Q h => ?_)
      · simp only [↓s80_0, ↓s80_1, ↓s80_4, ↓s80_5, ↓s80_8, ↓s80_11, ↓s80_12, ↓s80_13, ↓s80_14, ↓s80_17, ↓s80_18, ↓s80_21, ↓s80_24, ↓s80_26, ↓s80_27, ↓s80_28, ↓s80_29, ↓s80_30, ↓s80_32, ↓s80_34, ↓s80_37, ↓s80_38, ↓s80_41, ↓s80_42, ↓s80_45, ↓s80_48, ↓s80_49, ↓s80_52, ↓s80_55, ↓s80_56, ↓s80_57, ↓s80_58, ↓s80_59, ↓s80_62, ↓s80_65, ↓s80_68, ↓s80_69, ↓s80_70, ↓s80_71, ↓s80_72, ↓s80_73, ↓s80_74, ↓s80_77, ↓s80_80, ↓s80_81, ↓J_hasLetterG kPost_1 h.1 ho, ↓J_wayT kPost_1 h.1 ho hi, kNLn, kNLi, kNLr, va_rf_s, kOl_n, kOl_s, kap_n, kap_c, kb0, kb1, kbif, zif, z0, z1, Bool.false_eq_true, eq_self, not_true_eq_false, not_false_eq_true, if_true, if_false, and_self, true_and, false_and, and_true, and_false, c, w, ki_0, ki_1, mr_0_0]
      · simp only [↓s185_0, ↓s185_1, ↓s185_2, ↓s185_5, ↓s185_8, ↓s185_9, ↓s185_10, ↓s185_11, ↓s185_12, ↓s185_15, ↓s185_16, ↓s185_19, ↓s185_21, ↓s185_24, ↓s185_25, ↓s185_27, ↓s185_29, ↓s185_30, ↓s185_31, ↓s185_32, ↓s185_33, ↓s185_34, ↓s185_36, ↓s185_39, ↓R_isLetter h.1 ho, ↓R_legOf h.1 ho hi, kNLn, kNLi, kNLr, va_rf_s, kOl_n, kOl_s, kap_n, kap_c, kb0, kb1, kbif, zif, z0, z1, Bool.false_eq_true, eq_self, not_true_eq_false, not_false_eq_true, if_true, if_false, and_self, true_and, false_and, and_true, and_false, c, ki_83, hl]
  · refine bB_e hg (-1) (fun mi ml Q h => ?_) (fun mi ml Q h => ?_)
    · simp only [↓s80_0, ↓s80_1, ↓s80_4, ↓s80_5, ↓s80_8, ↓s80_11, ↓s80_12, ↓s80_13, ↓s80_14, ↓s80_17, ↓s80_18, ↓s80_21, ↓s80_24, ↓s80_26, ↓s80_27, ↓s80_28, ↓s80_29, ↓s80_30, ↓s80_32, ↓s80_34, ↓s80_37, ↓s80_38, ↓s80_41, ↓s80_42, ↓s80_45, ↓s80_48, ↓s80_49, ↓s80_52, ↓s80_55, ↓s80_56, ↓s80_57, ↓s80_58, ↓s80_59, ↓s80_62, ↓s80_65, ↓s80_68, ↓s80_69, ↓s80_70, ↓s80_71, ↓s80_72, ↓s80_73, ↓s80_74, ↓s80_77, ↓s80_80, ↓s80_81, ↓J_hasLetterG kPost_1 h.1 ho, kNLn, kNLi, kNLr, va_rf_s, kOl_n, kOl_s, kap_n, kap_c, kb0, kb1, kbif, zif, z0, z1, Bool.false_eq_true, eq_self, not_true_eq_false, not_false_eq_true, if_true, if_false, and_self, true_and, false_and, and_true, and_false, c, ki_0, ki_1, mr_0_0]
    · simp only [↓s185_0, ↓s185_1, ↓s185_2, ↓s185_5, ↓s185_8, ↓s185_9, ↓s185_10, ↓s185_11, ↓s185_12, ↓s185_15, ↓s185_16, ↓s185_19, ↓s185_21, ↓s185_24, ↓s185_25, ↓s185_27, ↓s185_29, ↓s185_30, ↓s185_31, ↓s185_32, ↓s185_33, ↓s185_34, ↓s185_36, ↓s185_39, ↓R_isLetter h.1 ho, kNLn, kNLi, kNLr, va_rf_s, kOl_n, kOl_s, kap_n, kap_c, kb0, kb1, kbif, zif, z0, z1, Bool.false_eq_true, eq_self, not_true_eq_false, not_false_eq_true, if_true, if_false, and_self, true_and, false_and, and_true, and_false, c, ki_83]
end SEEN
