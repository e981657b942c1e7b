/-! the text: tokens -/
def skF (B : Nat → Nat) (n : Nat) : Nat → Nat → Nat
  | 0, q => q
  | k + 1, q => if q < n ∧ B q = 32 then skF B n k (q + 1) else q
def rnF (B : Nat → Nat) (n lo hi : Nat) : Nat → Nat → Nat
  | 0, q => q
  | k + 1, q => if q < n ∧ (lo ≤ B q ∧ B q ≤ hi) then rnF B n lo hi k (q + 1) else q
def nvF (B : Nat → Nat) (b : Nat) : Nat → Nat
  | 0 => 0
  | j + 1 => 10 * nvF B b j + (B (b + j) - 48)
def tB (B : Nat → Nat) (n q : Nat) : Nat := skF B n n q
def tK (B : Nat → Nat) (n q : Nat) : Nat := if n ≤ tB B n q then 0 else if 97 ≤ B (tB B n q) ∧ B (tB B n q) ≤ 122 then 1 else if 48 ≤ B (tB B n q) ∧ B (tB B n q) ≤ 57 then (if rnF B n 48 57 n (tB B n q) - tB B n q ≤ 2 then 2 else 4) else if B (tB B n q) = 59 then 3 else 4
def tE (B : Nat → Nat) (n q : Nat) : Nat := if n ≤ tB B n q then tB B n q else if 97 ≤ B (tB B n q) ∧ B (tB B n q) ≤ 122 then rnF B n 97 122 n (tB B n q) else if 48 ≤ B (tB B n q) ∧ B (tB B n q) ≤ 57 then rnF B n 48 57 n (tB B n q) else tB B n q + 1
def tV (B : Nat → Nat) (n q : Nat) : Nat := nvF B (tB B n q) (tE B n q - tB B n q)
section TOKP
variable {B : Nat → Nat} {n lo hi : Nat}
theorem sk_le : ∀ k q, q ≤ n → skF B n k q ≤ n := by
  intro k
  induction k with
  | zero => intro q h; exact h
  | succ k ih =>
    intro q h
    unfold skF
    split
    · next c => exact ih (q + 1) (by omega)
    · exact h
theorem sk_ge : ∀ k q, q ≤ skF B n k q := by
  intro k
  induction k with
  | zero => intro q; exact Nat.le_refl _
  | succ k ih =>
    intro q
    unfold skF
    split
    · have := ih (q + 1); omega
    · exact Nat.le_refl _
theorem rn_le : ∀ k q, q ≤ n → rnF B n lo hi k q ≤ n := by
  intro k
  induction k with
  | zero => intro q h; exact h
  | succ k ih =>
    intro q h
    unfold rnF
    split
    · next c => exact ih (q + 1) (by omega)
    · exact h
theorem rn_ge : ∀ k q, q ≤ rnF B n lo hi k q := by
  intro k
  induction k with
  | zero => intro q; exact Nat.le_refl _
  | succ k ih =>
    intro q
    unfold rnF
    split
    · have := ih (q + 1); omega
    · exact Nat.le_refl _
theorem rn_gt {q : Nat} (h : q < n) (hb : lo ≤ B q ∧ B q ≤ hi) : q < rnF B n lo hi n q := by
  obtain ⟨m, rfl⟩ : ∃ m, n = m + 1 := ⟨n - 1, by omega⟩
  show q < if q < m + 1 ∧ (lo ≤ B q ∧ B q ≤ hi) then rnF B (m + 1) lo hi m (q + 1) else q
  rw [if_pos ⟨h, hb⟩]
  have := rn_ge (B := B) (n := m + 1) (lo := lo) (hi := hi) m (q + 1)
  omega
theorem rn_in : ∀ k q j, q ≤ j → j < rnF B n lo hi k q → lo ≤ B j ∧ B j ≤ hi := by
  intro k
  induction k with
  | zero => intro q j h1 h2; have : j < q := h2; omega
  | succ k ih =>
    intro q j h1 h2
    unfold rnF at h2
    split at h2
    · next c =>
      by_cases e : j = q
      · rw [e]; exact c.2
      · exact ih (q + 1) j (by omega) h2
    · omega
theorem tB_le {q : Nat} (h : q ≤ n) : tB B n q ≤ n := sk_le n q h
theorem tB_ge {q : Nat} : q ≤ tB B n q := sk_ge n q
theorem tE_le {q : Nat} (h : q ≤ n) : tE B n q ≤ n := by
  have h1 := tB_le (B := B) h
  unfold tE
  split
  · exact h1
  · split
    · exact rn_le n _ h1
    · split
      · exact rn_le n _ h1
      · omega
theorem tE_ge {q : Nat} : tB B n q ≤ tE B n q := by
  unfold tE
  split
  · exact Nat.le_refl _
  · split
    · exact rn_ge n _
    · split
      · exact rn_ge n _
      · omega
theorem tE_gt {q : Nat} (h : tK B n q ≠ 0) : tB B n q < tE B n q := by
  unfold tK at h
  unfold tE
  split
  · next c => rw [if_pos c] at h; exact absurd rfl h
  · next c =>
    split
    · next d => exact rn_gt (by omega) d
    · split
      · next d => exact rn_gt (by omega) d
      · omega
theorem tK_le {q : Nat} : tK B n q ≤ 4 := by
  unfold tK
  split
  · omega
  · split
    · omega
    · split
      · split <;> omega
      · split <;> omega
theorem nv_le {b : Nat} : ∀ k, k ≤ 2 → (∀ j, j < k → B (b + j) ≤ 57) → nvF B b k < 100 := by
  intro k hk h
  rcases (by omega : k = 0 ∨ k = 1 ∨ k = 2) with rfl | rfl | rfl
  · show 0 < 100; omega
  · have := h 0 (by omega)
    show 10 * 0 + (B (b + 0) - 48) < 100
    omega
  · have h0 := h 0 (by omega)
    have h1 := h 1 (by omega)
    show 10 * (10 * 0 + (B (b + 0) - 48)) + (B (b + 1) - 48) < 100
    omega
/-- a number token -/
theorem tK_2 {q : Nat} (h : tK B n q = 2) : tB B n q < n ∧ (48 ≤ B (tB B n q) ∧ B (tB B n q) ≤ 57) ∧ tE B n q = rnF B n 48 57 n (tB B n q) ∧ tE B n q - tB B n q ≤ 2 ∧ tV B n q < 100 := by
  unfold tK at h
  split at h
  · cases h
  · next c =>
    split at h
    · cases h
    · next d =>
      split at h
      · next e =>
        split at h
        · next g =>
          have eE : tE B n q = rnF B n 48 57 n (tB B n q) := by
            unfold tE
            rw [if_neg c, if_neg d, if_pos e]
          refine ⟨by omega, e, eE, by rw [eE]; exact g, ?_⟩
          unfold tV
          rw [eE]
          refine nv_le _ g (fun j hj => ?_)
          exact (rn_in (n := n) (lo := 48) (hi := 57) n (tB B n q) (tB B n q + j) (by omega) (by omega)).2
        · cases h
      · split at h <;> cases h
end TOKP
/-- nothing changed but these registers of the cell c -/
def fK (c : Nat) (L : List Nat) (f g : Nat → Nat → Int32) : Prop := (∀ a, a ≠ c → g a = f a) ∧ ∀ j, j ∉ L → g c j = f c j
theorem fK_rf {c : Nat} {L : List Nat} {f : Nat → Nat → Int32} : fK c L f f := ⟨fun _ _ => rfl, fun _ _ => rfl⟩
theorem fK_tr {c : Nat} {L : List Nat} {f g h : Nat → Nat → Int32} (h1 : fK c L f g) (h2 : fK c L g h) : fK c L f h := ⟨fun a ha => (h2.1 a ha).trans (h1.1 a ha), fun j hj => (h2.2 j hj).trans (h1.2 j hj)⟩
theorem fK_up {c : Nat} {L : List Nat} {f g : Nat → Nat → Int32} {k : Nat} {v : Int32} (h : fK c L f g) (hk : k ∈ L) : fK c L f (kup g c k v) := ⟨fun a ha => (kup_ne ha).trans (h.1 a ha), fun j hj => by rw [kup_eq, pk_un (fun e => hj (by rw [e]; exact hk))]; exact h.2 j hj⟩
theorem fK_mo {c : Nat} {L M : List Nat} {f g : Nat → Nat → Int32} (h : fK c L f g) (hs : ∀ j, j ∈ L → j ∈ M) : fK c M f g := ⟨h.1, fun j hj => h.2 j (fun z => hj (hs j z))⟩
def tR (n : Nat) (B : Nat → Nat) (f : Nat → Nat → Int32) : Prop := (n ≤ 160 ∧ ∀ j, j < n → B j < 128) ∧ f 28 1 = nI n ∧ ∀ j, j < n → f 29 j = nI (B j)
theorem tR_fK {n : Nat} {B : Nat → Nat} {L : List Nat} {f g : Nat → Nat → Int32} (h : tR n B f) (e : fK 28 L f g) (h1 : 1 ∉ L) : tR n B g := ⟨h.1, (e.2 1 h1).trans h.2.1, fun j hj => by rw [e.1 29 (by decide)]; exact h.2.2 j hj⟩
section TOKC
variable {mi : Nat → Nat → Int32} {ml : Nat → Nat → Int64} {m : kMem} {Q : Option Value → kMem → Prop} {B : Nat → Nat} {n lo hi q b e j : Nat}
theorem nI_rg {x lo hi : Nat} (hx : x < 2 ^ 31) (hl : lo < 2 ^ 31) (hh : hi < 2 ^ 31) : (nI lo ≤ nI x ∧ nI x ≤ nI hi) = (lo ≤ x ∧ x ≤ hi) := by rw [nI_litle hl hx, nI_litle hx hh]
theorem J_among (h : tR n B mi) (hj : j < n) (hl : lo < 1000) (hh : hi < 1000) : kJ 45 0 [some (.ref 28), some (.int (nI j)), some (.int (nI lo)), some (.int (nI hi))] [] (mi, ml, MR, 95) Q = Q (some (.int (if lo ≤ B j ∧ B j ≤ hi then nI 1 else nI 0))) (mi, ml, MR, 95) := by
  have h160 := h.1.1
  have hb := h.1.2 j hj
  have hc : (nI j).toNatClampNeg = j := nI_clamp (by omega)
  have hv : vp_in (nI j) 160 := vp_in_nI (by omega) (by decide)
  have hr := h.2.2 j hj
  simp only [↓s45_0, ↓s45_1, ↓s45_4, ↓s45_5, ↓s45_6, ↓s45_7, ↓s45_8, ↓s45_11, ↓J_within, kNLn, kNLi, kNLr, va_rf_s, kOl_n, kOl_s, kap_n, kap_c, kb0, kb1, kbif, ki_28, ki_29, kl_29, mr_28_0, hc, hv, hr, true_and, nI_rg (by omega : B j < 2 ^ 31) (by omega : lo < 2 ^ 31) (by omega : hi < 2 ^ 31)]
theorem J_skip (h : tR n B mi) (hl : lo < 1000) (hh : hi < 1000) (hq : q ≤ n) (h6 : mi 28 6 = nI q) (hQ : ∀ mi', mi' 28 6 = nI (rnF B n lo hi n q) → fK 28 [6] mi mi' → Q none (mi', ml, MR, 95)) : kJ 46 0 [some (.ref 28), some (.int (nI lo)), some (.int (nI hi))] [] (mi, ml, MR, 95) Q := by
  have h160 := h.1.1
  have loop : ∀ (k q : Nat) (mi1 : Nat → Nat → Int32), q ≤ n → n ≤ q + k → mi1 28 6 = nI q → fK 28 [6] mi mi1 → (∀ mi', mi' 28 6 = nI (rnF B n lo hi k q) → fK 28 [6] mi mi' → Q none (mi', ml, MR, 95)) → kJ 46 0 [some (.ref 28), some (.int (nI lo)), some (.int (nI hi))] [] (mi1, ml, MR, 95) Q := by
    intro k
    induction k with
    | zero =>
      intro q mi1 hq hk h6 f1 hQ
      have h1 := tR_fK h f1 (by decide)
      have hge : nI n ≤ nI q := nI_le (by omega) (by omega)
      rw [s46_0]
      simp only [↓s46_1, ↓s46_4, ↓s46_5, ↓s46_8, ↓s46_11, ↓s46_12, ↓s46_13, ↓s46_16, ↓s46_17, ↓s46_18, ↓s46_21, ↓s46_24, ↓s46_25, ↓s46_26, ↓s46_29, ↓s46_30, ↓s46_31, ↓s46_34, ↓s46_37, kNLn, kNLi, kNLr, va_rf_s, kOl_n, kOl_s, kap_n, kap_c, kb0, kb1, kbif, zif, z0, z1, Bool.false_eq_true, eq_self, not_true_eq_false, not_false_eq_true, if_true, if_false, and_self, true_and, false_and, and_true, and_false, ki_28, h6, h1.2.1, hge]
      exact hQ mi1 h6 f1
    | succ k ih =>
      intro q mi1 hq hk h6 f1 hQ
      have h1 := tR_fK h f1 (by decide)
      have eR : rnF B n lo hi (k + 1) q = if q < n ∧ (lo ≤ B q ∧ B q ≤ hi) then rnF B n lo hi k (q + 1) else q := rfl
      rw [s46_0]
      by_cases c : q < n
      · have hlt : ¬ nI n ≤ nI q := nI_ge c (by omega)
        by_cases d : lo ≤ B q ∧ B q ≤ hi
        · rw [if_pos ⟨c, d⟩] at eR
          rw [eR] at hQ
          simp only [↓s46_1, ↓s46_4, ↓s46_5, ↓s46_8, ↓s46_11, ↓s46_12, ↓s46_13, ↓s46_16, ↓s46_17, ↓s46_18, ↓s46_21, ↓s46_24, ↓s46_25, ↓s46_26, ↓s46_29, ↓s46_30, ↓s46_31, ↓s46_34, ↓s46_37, ↓J_among h1 c hl hh, kNLn, kNLi, kNLr, va_rf_s, kOl_n, kOl_s, kap_n, kap_c, kb0, kb1, kbif, zif, z0, z1, Bool.false_eq_true, eq_self, not_true_eq_false, not_false_eq_true, if_true, if_false, and_self, true_and, false_and, and_true, and_false, ki_28, h6, h1.2.1, hlt, d, nI_add]
          exact ih (q + 1) _ (by omega) (by omega) (by rw [kup_eq, pk_us]) (fK_up f1 (by decide)) hQ
        · rw [if_neg (fun z => d z.2)] at eR
          rw [eR] at hQ
          simp only [↓s46_1, ↓s46_4, ↓s46_5, ↓s46_8, ↓s46_11, ↓s46_12, ↓s46_13, ↓s46_16, ↓s46_17, ↓s46_18, ↓s46_21, ↓s46_24, ↓s46_25, ↓s46_26, ↓s46_29, ↓s46_30, ↓s46_31, ↓s46_34, ↓s46_37, ↓J_among h1 c hl hh, kNLn, kNLi, kNLr, va_rf_s, kOl_n, kOl_s, kap_n, kap_c, kb0, kb1, kbif, zif, z0, z1, Bool.false_eq_true, eq_self, not_true_eq_false, not_false_eq_true, if_true, if_false, and_self, true_and, false_and, and_true, and_false, ki_28, h6, h1.2.1, hlt, d]
          exact hQ mi1 h6 f1
      · have hge : nI n ≤ nI q := nI_le (by omega) (by omega)
        rw [if_neg (fun z => c z.1)] at eR
        rw [eR] at hQ
        simp only [↓s46_1, ↓s46_4, ↓s46_5, ↓s46_8, ↓s46_11, ↓s46_12, ↓s46_13, ↓s46_16, ↓s46_17, ↓s46_18, ↓s46_21, ↓s46_24, ↓s46_25, ↓s46_26, ↓s46_29, ↓s46_30, ↓s46_31, ↓s46_34, ↓s46_37, kNLn, kNLi, kNLr, va_rf_s, kOl_n, kOl_s, kap_n, kap_c, kb0, kb1, kbif, zif, z0, z1, Bool.false_eq_true, eq_self, not_true_eq_false, not_false_eq_true, if_true, if_false, and_self, true_and, false_and, and_true, and_false, ki_28, h6, h1.2.1, hge]
        exact hQ mi1 h6 f1
  exact loop n q mi hq (by omega) h6 fK_rf hQ
theorem J_fail {x y : Int32} : kJ 37 0 [some (.ref 28), some (.int x), some (.int y)] [] (mi, ml, MR, 95) Q = Q none (kup (kup mi 28 4 x) 28 5 y, ml, MR, 95) := by
  simp only [↓s37_0, ↓s37_1, ↓s37_2, ↓s37_5, ↓s37_6, ↓s37_7, ↓s37_10, kNLn, kNLi, kNLr, va_rf_s, kOl_n, kOl_s, kap_n, kap_c, kb0, kb1, kbif, ki_28]
theorem J_figs (h : tR n B mi) (h6 : mi 28 6 = nI e) (h8 : mi 28 8 = nI b) (hbe : b ≤ e) (hen : e ≤ n) (hd : ∀ j, b ≤ j → j < e → 48 ≤ B j) (hQ1 : e - b ≤ 2 → ∀ mi', mi' 28 9 = nI (nvF B b (e - b)) → fK 28 [9] mi mi' → Q none (mi', ml, MR, 95)) (hQ2 : ¬ e - b ≤ 2 → Q none (kup (kup mi 28 4 (nI 1)) 28 5 (nI b), ml, MR, 95)) : kJ 47 0 [some (.ref 28), none] [] (mi, ml, MR, 95) Q := by
  have h160 := h.1.1
  have es : nI e - nI b = nI (e - b) := pk_sub hbe
  by_cases c : e - b ≤ 2
  · have c2 : nI (e - b) ≤ nI 2 := nI_le c (by decide)
    simp only [↓s47_0, ↓s47_1, ↓s47_4, ↓s47_5, ↓s47_8, ↓s47_9, ↓s47_10, ↓s47_13, ↓s47_14, ↓s47_15, ↓s47_16, ↓s47_19, ↓s47_22, ↓s47_23, ↓s47_24, ↓s47_25, ↓s47_28, ↓s47_29, ↓s47_32, ↓s47_34, ↓s47_35, ↓s47_38, ↓s47_41, ↓s47_42, ↓s47_44, ↓s47_45, ↓s47_48, ↓s47_49, ↓s47_50, ↓s47_53, ↓s47_54, ↓s47_55, ↓s47_56, ↓s47_58, ↓s47_59, ↓s47_62, ↓s47_65, ↓s47_68, kNLn, kNLi, kNLr, va_rf_s, kOl_n, kOl_s, kap_n, kap_c, kb0, kb1, kbif, zif, z0, z1, Bool.false_eq_true, eq_self, not_true_eq_false, not_false_eq_true, if_true, if_false, and_self, true_and, false_and, and_true, and_false, ki_28, h6, h8, es, c2, kup_ap, upd_ap, if_true, if_false, Nat.reduceEqDiff]
    have loop : ∀ (k j : Nat) (mi1 : Nat → Nat → Int32), j + k = e - b → mi1 28 9 = nI (nvF B b j) → fK 28 [9] mi mi1 → kJ 47 33 [some (.ref 28), some (.int (nI (b + j)))] [] (mi1, ml, MR, 95) Q := by
      intro k
      induction k with
      | zero =>
        intro j mi1 hk g9 f1
        have e1 : mi1 28 6 = nI e := (f1.2 6 (by decide)).trans h6
        have hge : nI e ≤ nI (b + j) := nI_le (by omega) (by omega)
        have ej : j = e - b := by omega
        rw [ej] at g9
        rw [s47_33]
        simp only [↓s47_0, ↓s47_1, ↓s47_4, ↓s47_5, ↓s47_8, ↓s47_9, ↓s47_10, ↓s47_13, ↓s47_14, ↓s47_15, ↓s47_16, ↓s47_19, ↓s47_22, ↓s47_23, ↓s47_24, ↓s47_25, ↓s47_28, ↓s47_29, ↓s47_32, ↓s47_34, ↓s47_35, ↓s47_38, ↓s47_41, ↓s47_42, ↓s47_44, ↓s47_45, ↓s47_48, ↓s47_49, ↓s47_50, ↓s47_53, ↓s47_54, ↓s47_55, ↓s47_56, ↓s47_58, ↓s47_59, ↓s47_62, ↓s47_65, ↓s47_68, kNLn, kNLi, kNLr, va_rf_s, kOl_n, kOl_s, kap_n, kap_c, kb0, kb1, kbif, zif, z0, z1, Bool.false_eq_true, eq_self, not_true_eq_false, not_false_eq_true, if_true, if_false, and_self, true_and, false_and, and_true, and_false, ki_28, e1, hge]
        exact hQ1 c mi1 g9 f1
      | succ k ih =>
        intro j mi1 hk g9 f1
        have e1 : mi1 28 6 = nI e := (f1.2 6 (by decide)).trans h6
        have hlt : ¬ nI e ≤ nI (b + j) := nI_ge (by omega) (by omega)
        have hc : (nI (b + j)).toNatClampNeg = b + j := nI_clamp (by omega)
        have hv : vp_in (nI (b + j)) 160 := vp_in_nI (by omega) (by decide)
        have hr : mi1 29 (b + j) = nI (B (b + j)) := by rw [f1.1 29 (by decide)]; exact h.2.2 _ (by omega)
        have h48 := hd (b + j) (by omega) (by omega)
        have ev : nI (10 * nvF B b j + B (b + j)) - nI 48 = nI (nvF B b (j + 1)) := by
          rw [pk_sub (by omega)]
          show nI (10 * nvF B b j + B (b + j) - 48) = nI (10 * nvF B b j + (B (b + j) - 48))
          rw [Nat.add_sub_assoc h48]
        rw [s47_33]
        simp only [↓s47_0, ↓s47_1, ↓s47_4, ↓s47_5, ↓s47_8, ↓s47_9, ↓s47_10, ↓s47_13, ↓s47_14, ↓s47_15, ↓s47_16, ↓s47_19, ↓s47_22, ↓s47_23, ↓s47_24, ↓s47_25, ↓s47_28, ↓s47_29, ↓s47_32, ↓s47_34, ↓s47_35, ↓s47_38, ↓s47_41, ↓s47_42, ↓s47_44, ↓s47_45, ↓s47_48, ↓s47_49, ↓s47_50, ↓s47_53, ↓s47_54, ↓s47_55, ↓s47_56, ↓s47_58, ↓s47_59, ↓s47_62, ↓s47_65, ↓s47_68, kNLn, kNLi, kNLr, va_rf_s, kOl_n, kOl_s, kap_n, kap_c, kb0, kb1, kbif, zif, z0, z1, Bool.false_eq_true, eq_self, not_true_eq_false, not_false_eq_true, if_true, if_false, and_self, true_and, false_and, and_true, and_false, ki_28, ki_29, kl_29, mr_28_0, e1, g9, hlt, hc, hv, hr, pk_mul, nI_add, ev]
        exact ih (j + 1) _ (by omega) (by rw [kup_eq, pk_us]) (fK_up f1 (by decide))
    exact loop (e - b) 0 _ (by omega) (by rw [kup_eq, pk_us]; rfl) (fK_up fK_rf (by decide))
  · have c2 : ¬ nI (e - b) ≤ nI 2 := nI_ge (by omega) (by omega)
    simp only [↓s47_0, ↓s47_1, ↓s47_4, ↓s47_5, ↓s47_8, ↓s47_9, ↓s47_10, ↓s47_13, ↓s47_14, ↓s47_15, ↓s47_16, ↓s47_19, ↓s47_22, ↓s47_23, ↓s47_24, ↓s47_25, ↓s47_28, ↓s47_29, ↓s47_32, ↓s47_34, ↓s47_35, ↓s47_38, ↓s47_41, ↓s47_42, ↓s47_44, ↓s47_45, ↓s47_48, ↓s47_49, ↓s47_50, ↓s47_53, ↓s47_54, ↓s47_55, ↓s47_56, ↓s47_58, ↓s47_59, ↓s47_62, ↓s47_65, ↓s47_68, ↓J_fail, kNLn, kNLi, kNLr, va_rf_s, kOl_n, kOl_s, kap_n, kap_c, kb0, kb1, kbif, zif, z0, z1, Bool.false_eq_true, eq_self, not_true_eq_false, not_false_eq_true, if_true, if_false, and_self, true_and, false_and, and_true, and_false, ki_28, h6, h8, es, c2]
    exact hQ2 c
theorem J_tok (h : tR n B mi) (hq : q ≤ n) (h6 : mi 28 6 = nI q)
    (hQ1 : tK B n q ≠ 4 → ∀ mi', fK 28 [4, 5, 6, 7, 8, 9] mi mi' → mi' 28 4 = mi 28 4 → mi' 28 6 = nI (tE B n q) → mi' 28 7 = nI (tK B n q) → mi' 28 8 = nI (tB B n q) → (tK B n q = 2 → mi' 28 9 = nI (tV B n q)) → Q none (mi', ml, MR, 95))
    (hQ2 : tK B n q = 4 → ∀ mi', fK 28 [4, 5, 6, 7, 8, 9] mi mi' → mi' 28 4 = nI 1 → mi' 28 5 = nI (tB B n q) → Q none (mi', ml, MR, 95)) :
    kJ 44 0 [some (.ref 28)] [] (mi, ml, MR, 95) Q := by
  have h160 := h.1.1
  have hbn := tB_le (B := B) hq
  have fin : ∀ mi1, mi1 28 6 = nI (tB B n q) → fK 28 [6] mi mi1 → kJ 44 38 [some (.ref 28)] [] (mi1, ml, MR, 95) Q := by
    intro mi1 g6 f1
    have g1 := tR_fK h f1 (by decide)
    have f2 : fK 28 [4, 5, 6, 7, 8, 9] mi (kup mi1 28 8 (nI (tB B n q))) := fK_up (fK_mo f1 (by decide)) (by decide)
    have g2 := tR_fK h f2 (by decide)
    have k6 : kup mi1 28 8 (nI (tB B n q)) 28 6 = nI (tB B n q) := by rw [kup_eq, pk_un (by decide)]; exact g6
    have e4 : mi1 28 4 = mi 28 4 := f1.2 4 (by decide)
    by_cases c0 : n ≤ tB B n q
    · have eK : tK B n q = 0 := if_pos c0
      have eE : tE B n q = tB B n q := if_pos c0
      have hlt : ¬ nI (tB B n q) < nI n := nI_nlt c0 (by omega)
      simp only [↓s44_1, ↓s44_4, ↓s44_5, ↓s44_8, ↓s44_11, ↓s44_12, ↓s44_15, ↓s44_16, ↓s44_19, ↓s44_20, ↓s44_22, ↓s44_25, ↓s44_26, ↓s44_27, ↓s44_30, ↓s44_31, ↓s44_32, ↓s44_35, ↓s44_38, ↓s44_39, ↓s44_40, ↓s44_43, ↓s44_46, ↓s44_47, ↓s44_50, ↓s44_51, ↓s44_54, ↓s44_57, ↓s44_58, ↓s44_59, ↓s44_62, ↓s44_65, ↓s44_66, ↓s44_67, ↓s44_70, ↓s44_72, ↓s44_74, ↓s44_77, ↓s44_80, ↓s44_81, ↓s44_82, ↓s44_85, ↓s44_86, ↓s44_88, ↓s44_90, ↓s44_93, ↓s44_96, ↓s44_97, ↓s44_98, ↓s44_101, ↓s44_103, ↓s44_105, ↓s44_108, ↓s44_111, ↓s44_112, ↓s44_113, ↓s44_116, ↓s44_117, ↓s44_119, ↓s44_121, ↓s44_124, ↓s44_125, ↓s44_128, ↓s44_131, ↓s44_132, ↓s44_135, ↓s44_136, ↓s44_139, ↓s44_140, ↓s44_142, ↓s44_145, ↓s44_146, ↓s44_147, ↓s44_150, ↓s44_151, ↓s44_152, ↓s44_155, ↓s44_156, ↓s44_157, ↓s44_160, ↓s44_163, ↓s44_164, ↓s44_165, ↓s44_166, ↓s44_169, ↓s44_172, kNLn, kNLi, kNLr, va_rf_s, kOl_n, kOl_s, kap_n, kap_c, kb0, kb1, kbif, zif, z0, z1, Bool.false_eq_true, eq_self, not_true_eq_false, not_false_eq_true, if_true, if_false, and_self, true_and, false_and, and_true, and_false, ki_28, g6, k6, g2.2.1, hlt]
      refine hQ1 (by omega) _ (fK_up f2 (by decide)) ?_ ?_ ?_ ?_ (fun z => by omega)
      · rw [kup_eq, pk_un (by decide), kup_eq, pk_un (by decide)]; exact e4
      · rw [kup_eq, pk_un (by decide), k6, eE]
      · rw [kup_eq, pk_us, eK]
      · rw [kup_eq, pk_un (by decide), kup_eq, pk_us]
    · have hlt : nI (tB B n q) < nI n := nI_lt (by omega) (by omega)
      by_cases c1 : 97 ≤ B (tB B n q) ∧ B (tB B n q) ≤ 122
      · have eK : tK B n q = 1 := (if_neg c0).trans (if_pos c1)
        have eE : tE B n q = rnF B n 97 122 n (tB B n q) := (if_neg c0).trans (if_pos c1)
        simp only [↓s44_1, ↓s44_4, ↓s44_5, ↓s44_8, ↓s44_11, ↓s44_12, ↓s44_15, ↓s44_16, ↓s44_19, ↓s44_20, ↓s44_22, ↓s44_25, ↓s44_26, ↓s44_27, ↓s44_30, ↓s44_31, ↓s44_32, ↓s44_35, ↓s44_38, ↓s44_39, ↓s44_40, ↓s44_43, ↓s44_46, ↓s44_47, ↓s44_50, ↓s44_51, ↓s44_54, ↓s44_57, ↓s44_58, ↓s44_59, ↓s44_62, ↓s44_65, ↓s44_66, ↓s44_67, ↓s44_70, ↓s44_72, ↓s44_74, ↓s44_77, ↓s44_80, ↓s44_81, ↓s44_82, ↓s44_85, ↓s44_86, ↓s44_88, ↓s44_90, ↓s44_93, ↓s44_96, ↓s44_97, ↓s44_98, ↓s44_101, ↓s44_103, ↓s44_105, ↓s44_108, ↓s44_111, ↓s44_112, ↓s44_113, ↓s44_116, ↓s44_117, ↓s44_119, ↓s44_121, ↓s44_124, ↓s44_125, ↓s44_128, ↓s44_131, ↓s44_132, ↓s44_135, ↓s44_136, ↓s44_139, ↓s44_140, ↓s44_142, ↓s44_145, ↓s44_146, ↓s44_147, ↓s44_150, ↓s44_151, ↓s44_152, ↓s44_155, ↓s44_156, ↓s44_157, ↓s44_160, ↓s44_163, ↓s44_164, ↓s44_165, ↓s44_166, ↓s44_169, ↓s44_172, ↓J_among g2 (by omega : tB B n q < n) (by decide : 97 < 1000) (by decide : 122 < 1000), kNLn, kNLi, kNLr, va_rf_s, kOl_n, kOl_s, kap_n, kap_c, kb0, kb1, kbif, zif, z0, z1, Bool.false_eq_true, eq_self, not_true_eq_false, not_false_eq_true, if_true, if_false, and_self, true_and, false_and, and_true, and_false, ki_28, g6, k6, g2.2.1, hlt, c1]
        have f3 : fK 28 [4, 5, 6, 7, 8, 9] mi (kup (kup mi1 28 8 (nI (tB B n q))) 28 7 (nI 1)) := fK_up f2 (by decide)
        refine J_skip (tR_fK h f3 (by decide)) (by decide) (by decide) hbn (by rw [kup_eq, pk_un (by decide)]; exact k6) (fun mi4 h4 f4 => ?_)
        simp only [↓s44_1, ↓s44_4, ↓s44_5, ↓s44_8, ↓s44_11, ↓s44_12, ↓s44_15, ↓s44_16, ↓s44_19, ↓s44_20, ↓s44_22, ↓s44_25, ↓s44_26, ↓s44_27, ↓s44_30, ↓s44_31, ↓s44_32, ↓s44_35, ↓s44_38, ↓s44_39, ↓s44_40, ↓s44_43, ↓s44_46, ↓s44_47, ↓s44_50, ↓s44_51, ↓s44_54, ↓s44_57, ↓s44_58, ↓s44_59, ↓s44_62, ↓s44_65, ↓s44_66, ↓s44_67, ↓s44_70, ↓s44_72, ↓s44_74, ↓s44_77, ↓s44_80, ↓s44_81, ↓s44_82, ↓s44_85, ↓s44_86, ↓s44_88, ↓s44_90, ↓s44_93, ↓s44_96, ↓s44_97, ↓s44_98, ↓s44_101, ↓s44_103, ↓s44_105, ↓s44_108, ↓s44_111, ↓s44_112, ↓s44_113, ↓s44_116, ↓s44_117, ↓s44_119, ↓s44_121, ↓s44_124, ↓s44_125, ↓s44_128, ↓s44_131, ↓s44_132, ↓s44_135, ↓s44_136, ↓s44_139, ↓s44_140, ↓s44_142, ↓s44_145, ↓s44_146, ↓s44_147, ↓s44_150, ↓s44_151, ↓s44_152, ↓s44_155, ↓s44_156, ↓s44_157, ↓s44_160, ↓s44_163, ↓s44_164, ↓s44_165, ↓s44_166, ↓s44_169, ↓s44_172, kNLn, kNLi, kNLr, va_rf_s, kOl_n, kOl_s, kap_n, kap_c, kb0, kb1, kbif]
        refine hQ1 (by omega) _ (fK_tr f3 (fK_mo f4 (by decide))) ?_ ?_ ?_ ?_ (fun z => by omega)
        · rw [f4.2 4 (by decide), kup_eq, pk_un (by decide), kup_eq, pk_un (by decide)]; exact e4
        · rw [h4, eE]
        · rw [f4.2 7 (by decide), kup_eq, pk_us, eK]
        · rw [f4.2 8 (by decide), kup_eq, pk_un (by decide), kup_eq, pk_us]
      · by_cases c2 : 48 ≤ B (tB B n q) ∧ B (tB B n q) ≤ 57
        · have eE : tE B n q = rnF B n 48 57 n (tB B n q) := (if_neg c0).trans ((if_neg c1).trans (if_pos c2))
          have eK : tK B n q = if rnF B n 48 57 n (tB B n q) - tB B n q ≤ 2 then 2 else 4 := (if_neg c0).trans ((if_neg c1).trans (if_pos c2))
          simp only [↓s44_1, ↓s44_4, ↓s44_5, ↓s44_8, ↓s44_11, ↓s44_12, ↓s44_15, ↓s44_16, ↓s44_19, ↓s44_20, ↓s44_22, ↓s44_25, ↓s44_26, ↓s44_27, ↓s44_30, ↓s44_31, ↓s44_32, ↓s44_35, ↓s44_38, ↓s44_39, ↓s44_40, ↓s44_43, ↓s44_46, ↓s44_47, ↓s44_50, ↓s44_51, ↓s44_54, ↓s44_57, ↓s44_58, ↓s44_59, ↓s44_62, ↓s44_65, ↓s44_66, ↓s44_67, ↓s44_70, ↓s44_72, ↓s44_74, ↓s44_77, ↓s44_80, ↓s44_81, ↓s44_82, ↓s44_85, ↓s44_86, ↓s44_88, ↓s44_90, ↓s44_93, ↓s44_96, ↓s44_97, ↓s44_98, ↓s44_101, ↓s44_103, ↓s44_105, ↓s44_108, ↓s44_111, ↓s44_112, ↓s44_113, ↓s44_116, ↓s44_117, ↓s44_119, ↓s44_121, ↓s44_124, ↓s44_125, ↓s44_128, ↓s44_131, ↓s44_132, ↓s44_135, ↓s44_136, ↓s44_139, ↓s44_140, ↓s44_142, ↓s44_145, ↓s44_146, ↓s44_147, ↓s44_150, ↓s44_151, ↓s44_152, ↓s44_155, ↓s44_156, ↓s44_157, ↓s44_160, ↓s44_163, ↓s44_164, ↓s44_165, ↓s44_166, ↓s44_169, ↓s44_172, ↓J_among g2 (by omega : tB B n q < n) (by decide : 97 < 1000) (by decide : 122 < 1000), ↓J_among g2 (by omega : tB B n q < n) (by decide : 48 < 1000) (by decide : 57 < 1000), kNLn, kNLi, kNLr, va_rf_s, kOl_n, kOl_s, kap_n, kap_c, kb0, kb1, kbif, zif, z0, z1, Bool.false_eq_true, eq_self, not_true_eq_false, not_false_eq_true, if_true, if_false, and_self, true_and, false_and, and_true, and_false, ki_28, g6, k6, g2.2.1, hlt, c1, c2]
          have f3 : fK 28 [4, 5, 6, 7, 8, 9] mi (kup (kup mi1 28 8 (nI (tB B n q))) 28 7 (nI 2)) := fK_up f2 (by decide)
          refine J_skip (tR_fK h f3 (by decide)) (by decide) (by decide) hbn (by rw [kup_eq, pk_un (by decide)]; exact k6) (fun mi4 h4 f4 => ?_)
          have f34 := fK_tr f3 (fK_mo f4 (by decide : ∀ j, j ∈ [6] → j ∈ [4, 5, 6, 7, 8, 9]))
          have b8 : mi4 28 8 = nI (tB B n q) := by rw [f4.2 8 (by decide), kup_eq, pk_un (by decide), kup_eq, pk_us]
          have b7 : mi4 28 7 = nI 2 := by rw [f4.2 7 (by decide), kup_eq, pk_us]
          have b4 : mi4 28 4 = mi 28 4 := by rw [f4.2 4 (by decide), kup_eq, pk_un (by decide), kup_eq, pk_un (by decide)]; exact e4
          simp only [↓s44_1, ↓s44_4, ↓s44_5, ↓s44_8, ↓s44_11, ↓s44_12, ↓s44_15, ↓s44_16, ↓s44_19, ↓s44_20, ↓s44_22, ↓s44_25, ↓s44_26, ↓s44_27, ↓s44_30, ↓s44_31, ↓s44_32, ↓s44_35, ↓s44_38, ↓s44_39, ↓s44_40, ↓s44_43, ↓s44_46, ↓s44_47, ↓s44_50, ↓s44_51, ↓s44_54, ↓s44_57, ↓s44_58, ↓s44_59, ↓s44_62, ↓s44_65, ↓s44_66, ↓s44_67, ↓s44_70, ↓s44_72, ↓s44_74, ↓s44_77, ↓s44_80, ↓s44_81, ↓s44_82, ↓s44_85, ↓s44_86, ↓s44_88, ↓s44_90, ↓s44_93, ↓s44_96, ↓s44_97, ↓s44_98, ↓s44_101, ↓s44_103, ↓s44_105, ↓s44_108, ↓s44_111, ↓s44_112, ↓s44_113, ↓s44_116, ↓s44_117, ↓s44_119, ↓s44_121, ↓s44_124, ↓s44_125, ↓s44_128, ↓s44_131, ↓s44_132, ↓s44_135, ↓s44_136, ↓s44_139, ↓s44_140, ↓s44_142, ↓s44_145, ↓s44_146, ↓s44_147, ↓s44_150, ↓s44_151, ↓s44_152, ↓s44_155, ↓s44_156, ↓s44_157, ↓s44_160, ↓s44_163, ↓s44_164, ↓s44_165, ↓s44_166, ↓s44_169, ↓s44_172, kNLn, kNLi, kNLr, va_rf_s, kOl_n, kOl_s, kap_n, kap_c, kb0, kb1, kbif, ki_28]
          refine J_figs (tR_fK h f34 (by decide)) h4 b8 (rn_ge n _) (rn_le n _ hbn) (fun j a1 a2 => (rn_in n _ j a1 a2).1) (fun cc mi5 h5 f5 => ?_) (fun cc => ?_)
          · rw [if_pos cc] at eK
            simp only [↓s44_1, ↓s44_4, ↓s44_5, ↓s44_8, ↓s44_11, ↓s44_12, ↓s44_15, ↓s44_16, ↓s44_19, ↓s44_20, ↓s44_22, ↓s44_25, ↓s44_26, ↓s44_27, ↓s44_30, ↓s44_31, ↓s44_32, ↓s44_35, ↓s44_38, ↓s44_39, ↓s44_40, ↓s44_43, ↓s44_46, ↓s44_47, ↓s44_50, ↓s44_51, ↓s44_54, ↓s44_57, ↓s44_58, ↓s44_59, ↓s44_62, ↓s44_65, ↓s44_66, ↓s44_67, ↓s44_70, ↓s44_72, ↓s44_74, ↓s44_77, ↓s44_80, ↓s44_81, ↓s44_82, ↓s44_85, ↓s44_86, ↓s44_88, ↓s44_90, ↓s44_93, ↓s44_96, ↓s44_97, ↓s44_98, ↓s44_101, ↓s44_103, ↓s44_105, ↓s44_108, ↓s44_111, ↓s44_112, ↓s44_113, ↓s44_116, ↓s44_117, ↓s44_119, ↓s44_121, ↓s44_124, ↓s44_125, ↓s44_128, ↓s44_131, ↓s44_132, ↓s44_135, ↓s44_136, ↓s44_139, ↓s44_140, ↓s44_142, ↓s44_145, ↓s44_146, ↓s44_147, ↓s44_150, ↓s44_151, ↓s44_152, ↓s44_155, ↓s44_156, ↓s44_157, ↓s44_160, ↓s44_163, ↓s44_164, ↓s44_165, ↓s44_166, ↓s44_169, ↓s44_172, kNLn, kNLi, kNLr, va_rf_s, kOl_n, kOl_s, kap_n, kap_c, kb0, kb1, kbif]
            refine hQ1 (by omega) _ (fK_tr f34 (fK_mo f5 (by decide))) ?_ ?_ ?_ ?_ (fun _ => ?_)
            · rw [f5.2 4 (by decide)]; exact b4
            · rw [f5.2 6 (by decide), h4, eE]
            · rw [f5.2 7 (by decide), b7, eK]
            · rw [f5.2 8 (by decide)]; exact b8
            · rw [h5]; unfold tV; rw [eE]
          · rw [if_neg cc] at eK
            simp only [↓s44_1, ↓s44_4, ↓s44_5, ↓s44_8, ↓s44_11, ↓s44_12, ↓s44_15, ↓s44_16, ↓s44_19, ↓s44_20, ↓s44_22, ↓s44_25, ↓s44_26, ↓s44_27, ↓s44_30, ↓s44_31, ↓s44_32, ↓s44_35, ↓s44_38, ↓s44_39, ↓s44_40, ↓s44_43, ↓s44_46, ↓s44_47, ↓s44_50, ↓s44_51, ↓s44_54, ↓s44_57, ↓s44_58, ↓s44_59, ↓s44_62, ↓s44_65, ↓s44_66, ↓s44_67, ↓s44_70, ↓s44_72, ↓s44_74, ↓s44_77, ↓s44_80, ↓s44_81, ↓s44_82, ↓s44_85, ↓s44_86, ↓s44_88, ↓s44_90, ↓s44_93, ↓s44_96, ↓s44_97, ↓s44_98, ↓s44_101, ↓s44_103, ↓s44_105, ↓s44_108, ↓s44_111, ↓s44_112, ↓s44_113, ↓s44_116, ↓s44_117, ↓s44_119, ↓s44_121, ↓s44_124, ↓s44_125, ↓s44_128, ↓s44_131, ↓s44_132, ↓s44_135, ↓s44_136, ↓s44_139, ↓s44_140, ↓s44_142, ↓s44_145, ↓s44_146, ↓s44_147, ↓s44_150, ↓s44_151, ↓s44_152, ↓s44_155, ↓s44_156, ↓s44_157, ↓s44_160, ↓s44_163, ↓s44_164, ↓s44_165, ↓s44_166, ↓s44_169, ↓s44_172, kNLn, kNLi, kNLr, va_rf_s, kOl_n, kOl_s, kap_n, kap_c, kb0, kb1, kbif]
            exact hQ2 eK _ (fK_up (fK_up f34 (by decide)) (by decide)) (by rw [kup_eq, pk_un (by decide), kup_eq, pk_us]) (by rw [kup_eq, pk_us])
        · have hbt := g1.2.2 (tB B n q) (by omega)
          have hbt2 : kup mi1 28 8 (nI (tB B n q)) 29 (tB B n q) = nI (B (tB B n q)) := by rw [kup_ne (by decide)]; exact hbt
          have hc : (nI (tB B n q)).toNatClampNeg = tB B n q := nI_clamp (by omega)
          have hv : vp_in (nI (tB B n q)) 160 := vp_in_nI (by omega) (by decide)
          have b128 := h.1.2 (tB B n q) (by omega)
          have e59 := nI_lit (by omega : B (tB B n q) < 2 ^ 31) (by decide : 59 < 2 ^ 31)
          by_cases c3 : B (tB B n q) = 59
          · have eK : tK B n q = 3 := (if_neg c0).trans ((if_neg c1).trans ((if_neg c2).trans (if_pos c3)))
            have eE : tE B n q = tB B n q + 1 := (if_neg c0).trans ((if_neg c1).trans (if_neg c2))
            have k66 : kup (kup mi1 28 8 (nI (tB B n q))) 28 7 (nI 3) 28 6 = nI (tB B n q) := by rw [kup_eq, pk_un (by decide)]; exact k6
            simp only [↓s44_1, ↓s44_4, ↓s44_5, ↓s44_8, ↓s44_11, ↓s44_12, ↓s44_15, ↓s44_16, ↓s44_19, ↓s44_20, ↓s44_22, ↓s44_25, ↓s44_26, ↓s44_27, ↓s44_30, ↓s44_31, ↓s44_32, ↓s44_35, ↓s44_38, ↓s44_39, ↓s44_40, ↓s44_43, ↓s44_46, ↓s44_47, ↓s44_50, ↓s44_51, ↓s44_54, ↓s44_57, ↓s44_58, ↓s44_59, ↓s44_62, ↓s44_65, ↓s44_66, ↓s44_67, ↓s44_70, ↓s44_72, ↓s44_74, ↓s44_77, ↓s44_80, ↓s44_81, ↓s44_82, ↓s44_85, ↓s44_86, ↓s44_88, ↓s44_90, ↓s44_93, ↓s44_96, ↓s44_97, ↓s44_98, ↓s44_101, ↓s44_103, ↓s44_105, ↓s44_108, ↓s44_111, ↓s44_112, ↓s44_113, ↓s44_116, ↓s44_117, ↓s44_119, ↓s44_121, ↓s44_124, ↓s44_125, ↓s44_128, ↓s44_131, ↓s44_132, ↓s44_135, ↓s44_136, ↓s44_139, ↓s44_140, ↓s44_142, ↓s44_145, ↓s44_146, ↓s44_147, ↓s44_150, ↓s44_151, ↓s44_152, ↓s44_155, ↓s44_156, ↓s44_157, ↓s44_160, ↓s44_163, ↓s44_164, ↓s44_165, ↓s44_166, ↓s44_169, ↓s44_172, ↓J_among g2 (by omega : tB B n q < n) (by decide : 97 < 1000) (by decide : 122 < 1000), ↓J_among g2 (by omega : tB B n q < n) (by decide : 48 < 1000) (by decide : 57 < 1000), kNLn, kNLi, kNLr, va_rf_s, kOl_n, kOl_s, kap_n, kap_c, kb0, kb1, kbif, zif, z0, z1, Bool.false_eq_true, eq_self, not_true_eq_false, not_false_eq_true, if_true, if_false, and_self, true_and, false_and, and_true, and_false, ki_28, ki_29, kl_29, mr_28_0, g6, k6, g2.2.1, hlt, c1, c2, hc, hv, hbt2, e59, c3, k66, nI_add]
            refine hQ1 (by omega) _ (fK_up (fK_up f2 (by decide)) (by decide)) ?_ ?_ ?_ ?_ (fun z => by omega)
            · rw [kup_eq, pk_un (by decide), kup_eq, pk_un (by decide), kup_eq, pk_un (by decide)]; exact e4
            · rw [kup_eq, pk_us, eE]
            · rw [kup_eq, pk_un (by decide), kup_eq, pk_us, eK]
            · rw [kup_eq, pk_un (by decide), kup_eq, pk_un (by decide), kup_eq, pk_us]
          · have eK : tK B n q = 4 := (if_neg c0).trans ((if_neg c1).trans ((if_neg c2).trans (if_neg c3)))
            have k8 : kup mi1 28 8 (nI (tB B n q)) 28 8 = nI (tB B n q) := by rw [kup_eq, pk_us]
            simp only [↓s44_1, ↓s44_4, ↓s44_5, ↓s44_8, ↓s44_11, ↓s44_12, ↓s44_15, ↓s44_16, ↓s44_19, ↓s44_20, ↓s44_22, ↓s44_25, ↓s44_26, ↓s44_27, ↓s44_30, ↓s44_31, ↓s44_32, ↓s44_35, ↓s44_38, ↓s44_39, ↓s44_40, ↓s44_43, ↓s44_46, ↓s44_47, ↓s44_50, ↓s44_51, ↓s44_54, ↓s44_57, ↓s44_58, ↓s44_59, ↓s44_62, ↓s44_65, ↓s44_66, ↓s44_67, ↓s44_70, ↓s44_72, ↓s44_74, ↓s44_77, ↓s44_80, ↓s44_81, ↓s44_82, ↓s44_85, ↓s44_86, ↓s44_88, ↓s44_90, ↓s44_93, ↓s44_96, ↓s44_97, ↓s44_98, ↓s44_101, ↓s44_103, ↓s44_105, ↓s44_108, ↓s44_111, ↓s44_112, ↓s44_113, ↓s44_116, ↓s44_117, ↓s44_119, ↓s44_121, ↓s44_124, ↓s44_125, ↓s44_128, ↓s44_131, ↓s44_132, ↓s44_135, ↓s44_136, ↓s44_139, ↓s44_140, ↓s44_142, ↓s44_145, ↓s44_146, ↓s44_147, ↓s44_150, ↓s44_151, ↓s44_152, ↓s44_155, ↓s44_156, ↓s44_157, ↓s44_160, ↓s44_163, ↓s44_164, ↓s44_165, ↓s44_166, ↓s44_169, ↓s44_172, ↓J_among g2 (by omega : tB B n q < n) (by decide : 97 < 1000) (by decide : 122 < 1000), ↓J_among g2 (by omega : tB B n q < n) (by decide : 48 < 1000) (by decide : 57 < 1000), ↓J_fail, kNLn, kNLi, kNLr, va_rf_s, kOl_n, kOl_s, kap_n, kap_c, kb0, kb1, kbif, zif, z0, z1, Bool.false_eq_true, eq_self, not_true_eq_false, not_false_eq_true, if_true, if_false, and_self, true_and, false_and, and_true, and_false, ki_28, ki_29, kl_29, mr_28_0, g6, k6, g2.2.1, hlt, c1, c2, hc, hv, hbt2, e59, c3, k8]
            exact hQ2 eK _ (fK_up (fK_up f2 (by decide)) (by decide)) (by rw [kup_eq, pk_un (by decide), kup_eq, pk_us]) (by rw [kup_eq, pk_us])
  have loop : ∀ (k q' : Nat) (mi1 : Nat → Nat → Int32), q' ≤ n → n ≤ q' + k → mi1 28 6 = nI q' → fK 28 [6] mi mi1 → skF B n k q' = tB B n q → kJ 44 0 [some (.ref 28)] [] (mi1, ml, MR, 95) Q := by
    intro k
    induction k with
    | zero =>
      intro q' mi1 hq' hk g6 f1 eS
      have g1 := tR_fK h f1 (by decide)
      have hge : nI n ≤ nI q' := nI_le (by omega) (by omega)
      have eS2 : q' = tB B n q := eS
      rw [s44_0]
      simp only [↓s44_1, ↓s44_4, ↓s44_5, ↓s44_8, ↓s44_11, ↓s44_12, ↓s44_15, ↓s44_16, ↓s44_19, ↓s44_20, ↓s44_22, ↓s44_25, ↓s44_26, ↓s44_27, ↓s44_30, ↓s44_31, ↓s44_32, ↓s44_35, ↓s44_39, ↓s44_40, ↓s44_43, ↓s44_46, ↓s44_47, ↓s44_50, ↓s44_51, ↓s44_54, ↓s44_57, ↓s44_58, ↓s44_59, ↓s44_62, ↓s44_65, ↓s44_66, ↓s44_67, ↓s44_70, ↓s44_72, ↓s44_74, ↓s44_77, ↓s44_80, ↓s44_81, ↓s44_82, ↓s44_85, ↓s44_86, ↓s44_88, ↓s44_90, ↓s44_93, ↓s44_96, ↓s44_97, ↓s44_98, ↓s44_101, ↓s44_103, ↓s44_105, ↓s44_108, ↓s44_111, ↓s44_112, ↓s44_113, ↓s44_116, ↓s44_117, ↓s44_119, ↓s44_121, ↓s44_124, ↓s44_125, ↓s44_128, ↓s44_131, ↓s44_132, ↓s44_135, ↓s44_136, ↓s44_139, ↓s44_140, ↓s44_142, ↓s44_145, ↓s44_146, ↓s44_147, ↓s44_150, ↓s44_151, ↓s44_152, ↓s44_155, ↓s44_156, ↓s44_157, ↓s44_160, ↓s44_163, ↓s44_164, ↓s44_165, ↓s44_166, ↓s44_169, ↓s44_172, kNLn, kNLi, kNLr, va_rf_s, kOl_n, kOl_s, kap_n, kap_c, kb0, kb1, kbif, zif, z0, z1, Bool.false_eq_true, eq_self, not_true_eq_false, not_false_eq_true, if_true, if_false, and_self, true_and, false_and, and_true, and_false, ki_28, g6, g1.2.1, hge]
      exact fin mi1 (by rw [← eS2]; exact g6) f1
    | succ k ih =>
      intro q' mi1 hq' hk g6 f1 eS
      have g1 := tR_fK h f1 (by decide)
      have eR : skF B n (k + 1) q' = if q' < n ∧ B q' = 32 then skF B n k (q' + 1) else q' := rfl
      rw [s44_0]
      by_cases c : q' < n
      · have hlt : ¬ nI n ≤ nI q' := nI_ge c (by omega)
        have hc : (nI q').toNatClampNeg = q' := nI_clamp (by omega)
        have hv : vp_in (nI q') 160 := vp_in_nI (by omega) (by decide)
        have hr := g1.2.2 q' c
        have b128 := h.1.2 q' c
        have e32 := nI_lit (by omega : B q' < 2 ^ 31) (by decide : 32 < 2 ^ 31)
        by_cases d : B q' = 32
        · rw [if_pos ⟨c, d⟩] at eR
          simp only [↓s44_1, ↓s44_4, ↓s44_5, ↓s44_8, ↓s44_11, ↓s44_12, ↓s44_15, ↓s44_16, ↓s44_19, ↓s44_20, ↓s44_22, ↓s44_25, ↓s44_26, ↓s44_27, ↓s44_30, ↓s44_31, ↓s44_32, ↓s44_35, ↓s44_39, ↓s44_40, ↓s44_43, ↓s44_46, ↓s44_47, ↓s44_50, ↓s44_51, ↓s44_54, ↓s44_57, ↓s44_58, ↓s44_59, ↓s44_62, ↓s44_65, ↓s44_66, ↓s44_67, ↓s44_70, ↓s44_72, ↓s44_74, ↓s44_77, ↓s44_80, ↓s44_81, ↓s44_82, ↓s44_85, ↓s44_86, ↓s44_88, ↓s44_90, ↓s44_93, ↓s44_96, ↓s44_97, ↓s44_98, ↓s44_101, ↓s44_103, ↓s44_105, ↓s44_108, ↓s44_111, ↓s44_112, ↓s44_113, ↓s44_116, ↓s44_117, ↓s44_119, ↓s44_121, ↓s44_124, ↓s44_125, ↓s44_128, ↓s44_131, ↓s44_132, ↓s44_135, ↓s44_136, ↓s44_139, ↓s44_140, ↓s44_142, ↓s44_145, ↓s44_146, ↓s44_147, ↓s44_150, ↓s44_151, ↓s44_152, ↓s44_155, ↓s44_156, ↓s44_157, ↓s44_160, ↓s44_163, ↓s44_164, ↓s44_165, ↓s44_166, ↓s44_169, ↓s44_172, kNLn, kNLi, kNLr, va_rf_s, kOl_n, kOl_s, kap_n, kap_c, kb0, kb1, kbif, zif, z0, z1, Bool.false_eq_true, eq_self, not_true_eq_false, not_false_eq_true, if_true, if_false, and_self, true_and, false_and, and_true, and_false, ki_28, ki_29, kl_29, mr_28_0, g6, g1.2.1, hlt, hc, hv, hr, e32, d, nI_add]
          exact ih (q' + 1) _ (by omega) (by omega) (by rw [kup_eq, pk_us]) (fK_up f1 (by decide)) (eR.symm.trans eS)
        · rw [if_neg (fun z => d z.2)] at eR
          simp only [↓s44_1, ↓s44_4, ↓s44_5, ↓s44_8, ↓s44_11, ↓s44_12, ↓s44_15, ↓s44_16, ↓s44_19, ↓s44_20, ↓s44_22, ↓s44_25, ↓s44_26, ↓s44_27, ↓s44_30, ↓s44_31, ↓s44_32, ↓s44_35, ↓s44_39, ↓s44_40, ↓s44_43, ↓s44_46, ↓s44_47, ↓s44_50, ↓s44_51, ↓s44_54, ↓s44_57, ↓s44_58, ↓s44_59, ↓s44_62, ↓s44_65, ↓s44_66, ↓s44_67, ↓s44_70, ↓s44_72, ↓s44_74, ↓s44_77, ↓s44_80, ↓s44_81, ↓s44_82, ↓s44_85, ↓s44_86, ↓s44_88, ↓s44_90, ↓s44_93, ↓s44_96, ↓s44_97, ↓s44_98, ↓s44_101, ↓s44_103, ↓s44_105, ↓s44_108, ↓s44_111, ↓s44_112, ↓s44_113, ↓s44_116, ↓s44_117, ↓s44_119, ↓s44_121, ↓s44_124, ↓s44_125, ↓s44_128, ↓s44_131, ↓s44_132, ↓s44_135, ↓s44_136, ↓s44_139, ↓s44_140, ↓s44_142, ↓s44_145, ↓s44_146, ↓s44_147, ↓s44_150, ↓s44_151, ↓s44_152, ↓s44_155, ↓s44_156, ↓s44_157, ↓s44_160, ↓s44_163, ↓s44_164, ↓s44_165, ↓s44_166, ↓s44_169, ↓s44_172, kNLn, kNLi, kNLr, va_rf_s, kOl_n, kOl_s, kap_n, kap_c, kb0, kb1, kbif, zif, z0, z1, Bool.false_eq_true, eq_self, not_true_eq_false, not_false_eq_true, if_true, if_false, and_self, true_and, false_and, and_true, and_false, ki_28, ki_29, kl_29, mr_28_0, g6, g1.2.1, hlt, hc, hv, hr, e32, d]
          exact fin mi1 (by rw [← eS, eR]; exact g6) f1
      · have hge : nI n ≤ nI q' := nI_le (by omega) (by omega)
        rw [if_neg (fun z => c z.1)] at eR
        simp only [↓s44_1, ↓s44_4, ↓s44_5, ↓s44_8, ↓s44_11, ↓s44_12, ↓s44_15, ↓s44_16, ↓s44_19, ↓s44_20, ↓s44_22, ↓s44_25, ↓s44_26, ↓s44_27, ↓s44_30, ↓s44_31, ↓s44_32, ↓s44_35, ↓s44_39, ↓s44_40, ↓s44_43, ↓s44_46, ↓s44_47, ↓s44_50, ↓s44_51, ↓s44_54, ↓s44_57, ↓s44_58, ↓s44_59, ↓s44_62, ↓s44_65, ↓s44_66, ↓s44_67, ↓s44_70, ↓s44_72, ↓s44_74, ↓s44_77, ↓s44_80, ↓s44_81, ↓s44_82, ↓s44_85, ↓s44_86, ↓s44_88, ↓s44_90, ↓s44_93, ↓s44_96, ↓s44_97, ↓s44_98, ↓s44_101, ↓s44_103, ↓s44_105, ↓s44_108, ↓s44_111, ↓s44_112, ↓s44_113, ↓s44_116, ↓s44_117, ↓s44_119, ↓s44_121, ↓s44_124, ↓s44_125, ↓s44_128, ↓s44_131, ↓s44_132, ↓s44_135, ↓s44_136, ↓s44_139, ↓s44_140, ↓s44_142, ↓s44_145, ↓s44_146, ↓s44_147, ↓s44_150, ↓s44_151, ↓s44_152, ↓s44_155, ↓s44_156, ↓s44_157, ↓s44_160, ↓s44_163, ↓s44_164, ↓s44_165, ↓s44_166, ↓s44_169, ↓s44_172, kNLn, kNLi, kNLr, va_rf_s, kOl_n, kOl_s, kap_n, kap_c, kb0, kb1, kbif, zif, z0, z1, Bool.false_eq_true, eq_self, not_true_eq_false, not_false_eq_true, if_true, if_false, and_self, true_and, false_and, and_true, and_false, ki_28, g6, g1.2.1, hge]
        exact fin mi1 (by rw [← eS, eR]; exact g6) f1
  exact loop n q mi hq (by omega) h6 fK_rf rfl
end TOKC
