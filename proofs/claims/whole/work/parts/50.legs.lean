/-! letters of a leg, both sides; the global state -/
theorem tleg_lt (T : tT) (leg : Nat) : ∀ n, tlegF T leg n < 2 ^ n := by
  intro n
  induction n with
  | zero => exact Nat.one_pos
  | succ n ih =>
    show tlegF T leg n + _ < 2 ^ (n + 1)
    rw [Nat.pow_succ]
    split <;> omega
theorem or_0 (a : Nat) (i : Nat) (hi : i < 31) : nI a ||| (nI 0 <<< (nI i &&& 31)) = nI a := by
  have h : ∀ i, i < 31 → nI 0 <<< (nI i &&& 31) = nI 0 := by decide +kernel
  rw [h i hi]
  apply Int32.toBitVec_inj.mp
  show (BitVec.ofNat 32 a) ||| (BitVec.ofNat 32 0) = BitVec.ofNat 32 a
  rw [← BitVec.ofNat_or, Nat.or_zero]
section LEGS
variable {mi : Nat → Nat → Int32} {ml : Nat → Nat → Int64} {m : kMem} {Q : Option Value → kMem → Prop} {T : tT} {b i n leg : Nat}
theorem J_legs (hp : kPost b) (h : kCR b T mi) (ho : tOK T) (hl : leg < 4) : kJ 16 0 [some (.ref b), some (.int (nI leg)), none, none] [] (mi, ml, MR, 95) Q = Q (some (.int (nI (tlegF T leg (T 0 4))))) (mi, ml, MR, 95) := by
  have o2 := ho.2.1
  obtain ⟨pis, ⟨r1, r2, r3, r4, r5, r6, r7, r8, r9, r10, r11, r12⟩, ⟨a1, a2, a3, a4, a5, a6, a7, a8, a9, a10, a11, a12⟩, e1, e2, e3, e4, e5, e6, e7, e8, e9, e10, e11, e12⟩ := hp
  simp only [↓s16_0, ↓s16_1, ↓s16_2, ↓s16_3, ↓s16_5, ↓s16_6, ↓s16_9, ↓s16_12, ↓s16_13, ↓s16_16, ↓s16_17, ↓s16_18, ↓s16_19, ↓s16_22, ↓s16_23, ↓s16_24, ↓s16_25, ↓s16_26, ↓s16_27, ↓s16_28, ↓s16_31, ↓s16_34, ↓s16_35, kNLn, kNLi, kNLr, va_rf_s, kOl_n, kOl_s, kap_n, kap_c, kb0, kb1, kbif]
  have loop : ∀ (k i : Nat), i + k = T 0 4 → kJ 16 4 [some (.ref b), some (.int (nI leg)), some (.int (nI (tlegF T leg i))), some (.int (nI i))] [] (mi, ml, MR, 95) Q = Q (some (.int (nI (tlegF T leg (T 0 4))))) (mi, ml, MR, 95) := by
    intro k
    induction k with
    | zero =>
      intro i hk
      have e : i = T 0 4 := by omega
      rw [s16_4]
      simp only [↓s16_0, ↓s16_1, ↓s16_2, ↓s16_3, ↓s16_5, ↓s16_6, ↓s16_9, ↓s16_12, ↓s16_13, ↓s16_16, ↓s16_17, ↓s16_18, ↓s16_19, ↓s16_22, ↓s16_23, ↓s16_24, ↓s16_25, ↓s16_26, ↓s16_27, ↓s16_28, ↓s16_31, ↓s16_34, ↓s16_35, kNLn, kNLi, kNLr, va_rf_s, kOl_n, kOl_s, kap_n, kap_c, kb0, kb1, kbif, pis, r1, r2, r3, r4, r5, r6, r7, r8, r9, r10, r11, r12, a1, a2, a3, a4, a5, a6, a7, a8, a9, a10, a11, a12, e1, e2, e3, e4, e5, e6, e7, e8, e9, e10, e11, e12, h.1.2.1]
      rw [if_pos (by rw [e]; exact Int32.le_refl _), e]
    | succ k ih =>
      intro i hk
      have hlt : ¬ nI (T 0 4) ≤ nI i := nI_ge (by omega) (by omega)
      have hc : (nI i).toNatClampNeg = i := nI_clamp (by omega)
      have hv : vp_in (nI i) 6 := vp_in_nI (by omega) (by decide)
      have hleg := kCR_row h (r := 9) (j := i) (by omega) (by omega) (by rw [tcnt_l (by omega) (by omega)]; omega)
      have hl3 := (ho.2.2.2.2.2.2.1 i (by omega)).2.2.2.2.2
      rw [s16_4]
      simp only [↓s16_0, ↓s16_1, ↓s16_2, ↓s16_3, ↓s16_5, ↓s16_6, ↓s16_9, ↓s16_12, ↓s16_13, ↓s16_16, ↓s16_17, ↓s16_18, ↓s16_19, ↓s16_22, ↓s16_23, ↓s16_24, ↓s16_25, ↓s16_26, ↓s16_27, ↓s16_28, ↓s16_31, ↓s16_34, ↓s16_35, kNLn, kNLi, kNLr, va_rf_s, kOl_n, kOl_s, kap_n, kap_c, kb0, kb1, kbif, pis, r1, r2, r3, r4, r5, r6, r7, r8, r9, r10, r11, r12, a1, a2, a3, a4, a5, a6, a7, a8, a9, a10, a11, a12, e1, e2, e3, e4, e5, e6, e7, e8, e9, e10, e11, e12, h.1.2.1, hlt, if_false, hc, hv, true_and, hleg, or_bit (tleg_lt T leg i) (by omega : i < 31), nI_add]
      have eT : tlegF T leg (i + 1) = tlegF T leg i + (if T 9 i = leg then 2 ^ i else 0) := rfl
      by_cases c : T 9 i = leg
      · rw [if_pos (by rw [c])]
        rw [if_pos c] at eT
        rw [← eT]
        exact ih (i + 1) (by omega)
      · rw [if_neg (fun z => c ((nI_eq (by omega) (by omega)).mp z))]
        rw [if_neg c] at eT
        have := ih (i + 1) (by omega)
        rw [eT] at this
        exact this
  exact loop (T 0 4) 0 (by omega)
theorem R_those (h : kRR (mi 85) T) (ho : tOK T) (hl : leg < 4) : kJ 148 0 [some (.ref 83), some (.int (nI leg)), none, none] [] (mi, ml, MR, 95) Q = Q (some (.int (nI (tlegF T leg (T 0 4))))) (mi, ml, MR, 95) := by
  have o2 := ho.2.1
  have c52 : (nI 52).toNatClampNeg = 52 := rfl
  have v52 : vp_in (nI 52) 74 := vp_in_nI (by decide) (by decide)
  simp only [↓s148_0, ↓s148_1, ↓s148_2, ↓s148_3, ↓s148_5, ↓s148_6, ↓s148_9, ↓s148_11, ↓s148_12, ↓s148_15, ↓s148_16, ↓s148_17, ↓s148_18, ↓s148_19, ↓s148_22, ↓s148_23, ↓s148_26, ↓s148_27, ↓s148_30, ↓s148_31, ↓s148_34, ↓s148_35, ↓s148_36, ↓s148_37, ↓s148_38, ↓s148_41, ↓s148_44, ↓s148_45, kNLn, kNLi, kNLr, va_rf_s, kOl_n, kOl_s, kap_n, kap_c, kb0, kb1, kbif]
  have loop : ∀ (k i : Nat), i + k = T 0 4 → kJ 148 4 [some (.ref 83), some (.int (nI leg)), some (.int (nI (tlegF T leg i))), some (.int (nI i))] [] (mi, ml, MR, 95) Q = Q (some (.int (nI (tlegF T leg (T 0 4))))) (mi, ml, MR, 95) := by
    intro k
    induction k with
    | zero =>
      intro i hk
      have e : i = T 0 4 := by omega
      rw [s148_4]
      simp only [↓s148_0, ↓s148_1, ↓s148_2, ↓s148_3, ↓s148_5, ↓s148_6, ↓s148_9, ↓s148_11, ↓s148_12, ↓s148_15, ↓s148_16, ↓s148_17, ↓s148_18, ↓s148_19, ↓s148_22, ↓s148_23, ↓s148_26, ↓s148_27, ↓s148_30, ↓s148_31, ↓s148_34, ↓s148_35, ↓s148_36, ↓s148_37, ↓s148_38, ↓s148_41, ↓s148_44, ↓s148_45, kNLn, kNLi, kNLr, va_rf_s, kOl_n, kOl_s, kap_n, kap_c, kb0, kb1, kbif, ki_83, ki_85, kl_85, mr_83_1, c52, v52, true_and, h.1.2.1]
      rw [if_pos (by rw [e]; exact Int32.le_refl _), e]
    | succ k ih =>
      intro i hk
      have hlt : ¬ nI (T 0 4) ≤ nI i := nI_ge (by omega) (by omega)
      have hl3 := (ho.2.2.2.2.2.2.1 i (by omega)).2.2.2.2.2
      have e5 : ∀ Q', kJ 134 0 [some (.ref 83), some (.int (nI i)), some (.int (nI 5))] [] (mi, ml, MR, 95) Q' = Q' (some (.int (nI (T 9 i)))) (mi, ml, MR, 95) := fun Q' => R_ofL h ho (by omega) (w := 5) (by decide)
      rw [s148_4]
      simp only [↓s148_0, ↓s148_1, ↓s148_2, ↓s148_3, ↓s148_5, ↓s148_6, ↓s148_9, ↓s148_11, ↓s148_12, ↓s148_15, ↓s148_16, ↓s148_17, ↓s148_18, ↓s148_19, ↓s148_22, ↓s148_23, ↓s148_26, ↓s148_27, ↓s148_30, ↓s148_31, ↓s148_34, ↓s148_35, ↓s148_36, ↓s148_37, ↓s148_38, ↓s148_41, ↓s148_44, ↓s148_45, ↓e5, ↓R_flag, kNLn, kNLi, kNLr, va_rf_s, kOl_n, kOl_s, kap_n, kap_c, kb0, kb1, kbif, ki_83, ki_85, kl_85, mr_83_1, c52, v52, true_and, h.1.2.1, hlt, if_false, z0, z1, if_true, or_bit (tleg_lt T leg i) (by omega : i < 31), or_0 _ i (by omega), nI_add]
      have eT : tlegF T leg (i + 1) = tlegF T leg i + (if T 9 i = leg then 2 ^ i else 0) := rfl
      by_cases c : T 9 i = leg
      · rw [if_pos (by rw [c])]
        rw [if_pos c] at eT
        rw [← eT]
        exact ih (i + 1) (by omega)
      · rw [if_neg (fun z => c ((nI_eq (by omega) (by omega)).mp z))]
        rw [if_neg c] at eT
        have := ih (i + 1) (by omega)
        rw [eT] at this
        exact this
  exact loop (T 0 4) 0 (by omega)
end LEGS
/-! THE GLOBAL STATE: the post; two images; the tape; the text's fault; four sheets; the reading's fault -/
abbrev gS : Type := tT × (Nat → Option tT) × (Nat × (Nat → Nat)) × Nat × (Nat → Option (Nat × Nat × (Nat → Int32))) × Nat
def cImg (o : Option tT) (k : Nat) (f : Nat → Nat → Int32) : Prop := match o with
  | none => f 45 k = nI 0
  | some U => f 45 k = nI 1 ∧ kCR (49 + 13 * k) U f
def cSh (o : Option (Nat × Nat × (Nat → Int32))) (k : Nat) (f : Nat → Nat → Int32) : Prop := match o with
  | none => f (75 + 2 * k) 0 = (-1)
  | some (l, n, c) => f (75 + 2 * k) 0 = nI n ∧ f (75 + 2 * k) 2 = nI l ∧ ∀ j, j < n → f (76 + 2 * k) j = c j
def rImg (o : Option tT) (k : Nat) (f : Nat → Nat → Int32) : Prop := match o with
  | none => f 86 k = nI 0
  | some U => f 86 k = nI 1 ∧ kRR (fun j => f 84 (74 * (k + 1) + j)) U
def rSh (o : Option (Nat × Nat × (Nat → Int32))) (k : Nat) (f : Nat → Nat → Int32) : Prop := match o with
  | none => f 91 k = (-4)
  | some (l, n, c) => f 91 k = nI l ∧ f 92 k = nI n ∧ ∀ j, j < n → f 93 (40 * k + j) = c j
/-- the class's side -/
def CI (S : gS) (f : Nat → Nat → Int32) : Prop := kCR 1 S.1 f ∧ (∀ k, k < 2 → cImg (S.2.1 k) k f) ∧ (f 28 1 = nI S.2.2.1.1 ∧ ∀ j, j < S.2.2.1.1 → f 29 j = nI (S.2.2.1.2 j)) ∧ f 0 9 = nI S.2.2.2.1 ∧ (∀ k, k < 4 → cSh (S.2.2.2.2.1 k) k f) ∧ f 0 10 = nI S.2.2.2.2.2
/-- the reference's side -/
def RI (S : gS) (f : Nat → Nat → Int32) : Prop := kRR (f 84) S.1 ∧ (∀ k, k < 2 → rImg (S.2.1 k) k f) ∧ (f 83 7 = nI S.2.2.1.1 ∧ ∀ j, j < S.2.2.1.1 → f 88 j = nI (S.2.2.1.2 j)) ∧ f 83 12 = nI S.2.2.2.1 ∧ (∀ k, k < 4 → rSh (S.2.2.2.2.1 k) k f) ∧ f 83 26 = nI S.2.2.2.2.2
def tGood (T : tT) : Prop := tOK T ∧ T 0 12 < 1000
def gOK (S : gS) : Prop := tGood S.1 ∧ (∀ k, k < 2 → ∀ U, S.2.1 k = some U → tGood U) ∧ (S.2.2.1.1 ≤ 160 ∧ ∀ j, j < S.2.2.1.1 → S.2.2.1.2 j < 128) ∧ S.2.2.2.1 ≤ 6 ∧ (∀ k, k < 4 → ∀ l n c, S.2.2.2.2.1 k = some (l, n, c) → l < 3 ∧ n ≤ 40) ∧ S.2.2.2.2.2 ≤ 3
/-- the class has written in its own cells alone -/
def fC (f g : Nat → Nat → Int32) : Prop := ∀ q, 83 ≤ q → g q = f q
def fR (f g : Nat → Nat → Int32) : Prop := ∀ q, (q < 83 ∨ 95 ≤ q) → g q = f q
/-- only the post, its trial and what is worked with has changed -/
def sC (f g : Nat → Nat → Int32) : Prop := ∀ q, (q = 0 ∨ (28 ≤ q ∧ q < 83 ∧ q ≠ 47 ∧ q ≠ 48)) → g q = f q
def sR (f g : Nat → Nat → Int32) : Prop := (∀ q, q = 86 ∨ q = 88 ∨ q = 91 ∨ q = 92 ∨ q = 93 → g q = f q) ∧ (∀ k, k = 7 ∨ k = 12 ∨ k = 26 → g 83 k = f 83 k) ∧ ∀ j, 74 ≤ j → g 84 j = f 84 j
theorem kCR_eq {b : Nat} {U : tT} {f g : Nat → Nat → Int32} (e : ∀ q, b ≤ q → q ≤ b + 12 → g q = f q) (h : kCR b U f) : kCR b U g := by
  refine ⟨?_, fun r k h1 h2 h3 => ?_⟩
  · rw [e b (by omega) (by omega)]; exact h.1
  · rw [e (b + r) (by omega) (by omega)]; exact h.2 r k h1 h2 h3
theorem CI_T {S : gS} {T : tT} {f g : Nat → Nat → Int32} (h : CI S f) (hT : kCR 1 T g) (e : sC f g) : CI (T, S.2) g := by
  obtain ⟨-, h2, h3, h4, h5, h6⟩ := h
  refine ⟨hT, fun k hk => ?_, ?_, ?_, fun k hk => ?_, ?_⟩
  · have := h2 k hk
    show cImg (S.2.1 k) k g
    cases hn : S.2.1 k with
    | none =>
      rw [hn] at this
      have t : f 45 k = nI 0 := this
      show g 45 k = nI 0
      rw [e 45 (by omega)]; exact t
    | some U =>
      rw [hn] at this
      have t : f 45 k = nI 1 ∧ kCR (49 + 13 * k) U f := this
      exact ⟨by rw [e 45 (by omega)]; exact t.1, kCR_eq (fun q a b => e q (by omega)) t.2⟩
  · exact ⟨by rw [e 28 (by omega)]; exact h3.1, fun j hj => by rw [e 29 (by omega)]; exact h3.2 j hj⟩
  · rw [e 0 (by omega)]; exact h4
  · have := h5 k hk
    show cSh (S.2.2.2.2.1 k) k g
    cases hn : S.2.2.2.2.1 k with
    | none =>
      rw [hn] at this
      have t : f (75 + 2 * k) 0 = (-1) := this
      show g (75 + 2 * k) 0 = (-1)
      rw [e (75 + 2 * k) (by omega)]; exact t
    | some x =>
      obtain ⟨l, n, c⟩ := x
      rw [hn] at this
      have t : f (75 + 2 * k) 0 = nI n ∧ f (75 + 2 * k) 2 = nI l ∧ ∀ j, j < n → f (76 + 2 * k) j = c j := this
      show g (75 + 2 * k) 0 = nI n ∧ g (75 + 2 * k) 2 = nI l ∧ ∀ j, j < n → g (76 + 2 * k) j = c j
      rw [e (75 + 2 * k) (by omega), e (76 + 2 * k) (by omega)]
      exact t
  · rw [e 0 (by omega)]; exact h6
theorem RI_T {S : gS} {T : tT} {f g : Nat → Nat → Int32} (h : RI S f) (hT : kRR (g 84) T) (e : sR f g) : RI (T, S.2) g := by
  obtain ⟨-, h2, h3, h4, h5, h6⟩ := h
  obtain ⟨e1, e2, e3⟩ := e
  refine ⟨hT, fun k hk => ?_, ?_, ?_, fun k hk => ?_, ?_⟩
  · have := h2 k hk
    show rImg (S.2.1 k) k g
    cases hn : S.2.1 k with
    | none =>
      rw [hn] at this
      have t : f 86 k = nI 0 := this
      show g 86 k = nI 0
      rw [e1 86 (by omega)]; exact t
    | some U =>
      rw [hn] at this
      have t : f 86 k = nI 1 ∧ kRR (fun j => f 84 (74 * (k + 1) + j)) U := this
      refine ⟨by rw [e1 86 (by omega)]; exact t.1, ?_⟩
      have e9 : (fun j => g 84 (74 * (k + 1) + j)) = fun j => f 84 (74 * (k + 1) + j) := funext (fun j => e3 _ (by omega))
      rw [e9]
      exact t.2
  · exact ⟨by rw [e2 7 (by omega)]; exact h3.1, fun j hj => by rw [e1 88 (by omega)]; exact h3.2 j hj⟩
  · rw [e2 12 (by omega)]; exact h4
  · have := h5 k hk
    show rSh (S.2.2.2.2.1 k) k g
    cases hn : S.2.2.2.2.1 k with
    | none =>
      rw [hn] at this
      have t : f 91 k = (-4) := this
      show g 91 k = (-4)
      rw [e1 91 (by omega)]; exact t
    | some x =>
      obtain ⟨l, n, c⟩ := x
      rw [hn] at this
      have t : f 91 k = nI l ∧ f 92 k = nI n ∧ ∀ j, j < n → f 93 (40 * k + j) = c j := this
      show g 91 k = nI l ∧ g 92 k = nI n ∧ ∀ j, j < n → g 93 (40 * k + j) = c j
      rw [e1 91 (by omega), e1 92 (by omega), e1 93 (by omega)]
      exact t
  · rw [e2 26 (by omega)]; exact h6
theorem sC_rf {f : Nat → Nat → Int32} : sC f f := fun _ _ => rfl
theorem sR_rf {f : Nat → Nat → Int32} : sR f f := ⟨fun _ _ => rfl, fun _ _ => rfl, fun _ _ => rfl⟩
theorem sC_now {f g : Nat → Nat → Int32} (h : kFr 1 f g) : sC f g := fun q hq => h q (by omega)
theorem sC_trial {f g : Nat → Nat → Int32} (h : kFr 14 f g) : sC f g := fun q hq => h q (by omega)
theorem sC_tr {f g h : Nat → Nat → Int32} (h1 : sC f g) (h2 : sC g h) : sC f h := fun q hq => (h2 q hq).trans (h1 q hq)
theorem sR_tr {f g h : Nat → Nat → Int32} (h1 : sR f g) (h2 : sR g h) : sR f h := ⟨fun q a => (h2.1 q a).trans (h1.1 q a), fun k hk => (h2.2.1 k hk).trans (h1.2.1 k hk), fun j hj => (h2.2.2 j hj).trans (h1.2.2 j hj)⟩
theorem sR_q {f g : Nat → Nat → Int32} (h : kFq f g) : sR f g := ⟨fun q a => h.1 q (by omega) (by omega), fun k hk => h.2 k (by omega) (by omega), fun j hj => by rw [h.1 84 (by omega) (by omega)]⟩
theorem fC_now {f g : Nat → Nat → Int32} (h : kFr 1 f g) : fC f g := fun q hq => h q (by omega)
theorem fC_trial {f g : Nat → Nat → Int32} (h : kFr 14 f g) : fC f g := fun q hq => h q (by omega)
theorem fC_tr {f g h : Nat → Nat → Int32} (h1 : fC f g) (h2 : fC g h) : fC f h := fun q hq => (h2 q hq).trans (h1 q hq)
theorem fC_rf {f : Nat → Nat → Int32} : fC f f := fun _ _ => rfl
theorem fR_rf {f : Nat → Nat → Int32} : fR f f := fun _ _ => rfl
theorem fR_tr {f g h : Nat → Nat → Int32} (h1 : fR f g) (h2 : fR g h) : fR f h := fun q hq => (h2 q hq).trans (h1 q hq)
theorem fR_q {f g : Nat → Nat → Int32} (h : kFq f g) : fR f g := fun q hq => h.1 q (by omega) (by omega)
theorem CI_R {S : gS} {f g : Nat → Nat → Int32} (h : CI S f) (e : fR f g) : CI S g := CI_T (T := S.1) h (kCR_eq (fun q a b => e q (by omega)) h.1) (fun q hq => e q (by omega))
theorem RI_C {S : gS} {f g : Nat → Nat → Int32} (h : RI S f) (e : fC f g) : RI S g := RI_T (T := S.1) h (by rw [e 84 (by omega)]; exact h.1) ⟨fun q hq => e q (by omega), fun k hk => by rw [e 83 (by omega)], fun j hj => by rw [e 84 (by omega)]⟩
