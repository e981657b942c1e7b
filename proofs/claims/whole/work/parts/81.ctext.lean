/-! text(), the class's side -/
def tT0 : tT := fun r k => if r = 0 ∧ k = 11 then 2 else 0
def gtx (B : Nat → Nat) (n : Nat) : (Nat × Nat) ⊕ (tT × Nat) := match textF B n 161 tT0 false 0 0 with
  | .inl F => .inl F
  | .inr (T, ln) => if ok6 T then .inr (pfin T, ln) else .inl (6, n)
theorem tT0_ok : pOK tT0 := ⟨by decide, by decide, by decide, fun p hp => absurd hp (Nat.not_lt_zero p), fun i hi => absurd hi (Nat.not_lt_zero i)⟩
theorem nms_f {B : Nat → Nat} {n K : Nat} : ∀ (k j : Nat) (vs : Nat → Nat) (q : Nat) (F : Nat × Nat), nmsF B n K k j vs q = .inl F → F.1 ≠ 0 ∧ F.1 ≤ 5 := by
  intro k
  induction k with
  | zero => intro j vs q F h; cases h
  | succ k ih =>
    intro j vs q F h
    unfold nmsF at h
    split at h
    · cases h; exact ⟨by show (1 : Nat) ≠ 0; omega, by show (1 : Nat) ≤ 5; omega⟩
    · split at h
      · split at h
        · exact ih _ _ _ F h
        · cases h; exact ⟨by show (3 : Nat) ≠ 0; omega, by show (3 : Nat) ≤ 5; omega⟩
      · cases h; exact ⟨by show (2 : Nat) ≠ 0; omega, by show (2 : Nat) ≤ 5; omega⟩
theorem line_f {B : Nat → Nat} {n : Nat} {T : tT} {hp : Bool} {q : Nat} {F : Nat × Nat} (h : lineS B n T hp q = .inl F) : F.1 ≠ 0 ∧ F.1 ≤ 5 := by
  unfold lineS at h
  split at h
  · revert h
    cases hr : nmsF B n (lnK B n q) (wtF (lnK B n q)) 0 (fun _ => 0) (tE B n q) with
    | inl f => intro h; cases h; exact nms_f _ _ _ _ _ hr
    | inr v =>
      obtain ⟨vs, q1⟩ := v
      intro h
      unfold semF at h
      simp only at h
      split at h
      · cases h; exact ⟨by show (1 : Nat) ≠ 0; omega, by show (1 : Nat) ≤ 5; omega⟩
      · split at h
        · cases h
        · cases h; exact ⟨by show (2 : Nat) ≠ 0; omega, by show (2 : Nat) ≤ 5; omega⟩
  · next c => cases h; exact ⟨c, chk_le⟩
theorem text_f {B : Nat → Nat} {n : Nat} : ∀ (k : Nat) (T : tT) (hp : Bool) (ln q : Nat) (F : Nat × Nat), textF B n k T hp ln q = .inl F → F.1 ≠ 0 ∧ F.1 ≤ 5 := by
  intro k
  induction k with
  | zero => intro T hp ln q F h; cases h
  | succ k ih =>
    intro T hp ln q F h
    unfold textF at h
    split at h
    · cases h; exact ⟨by show (1 : Nat) ≠ 0; omega, by show (1 : Nat) ≤ 5; omega⟩
    · split at h
      · cases h
      · revert h
        cases hl : lineS B n T hp q with
        | inl f => intro h; cases h; exact line_f hl
        | inr v =>
          obtain ⟨T', hp', q'⟩ := v
          intro h
          exact ih _ _ _ _ F h
theorem gtx_f {B : Nat → Nat} {n : Nat} {F : Nat × Nat} (h : gtx B n = .inl F) : F.1 ≠ 0 ∧ F.1 ≤ 6 := by
  unfold gtx at h
  revert h
  cases hl : textF B n 161 tT0 false 0 0 with
  | inl f => intro h; cases h; have := text_f _ _ _ _ _ _ hl; exact ⟨this.1, by omega⟩
  | inr v =>
    obtain ⟨T, ln⟩ := v
    intro h
    simp only at h
    split at h
    · cases h
    · cases h; exact ⟨by show (6 : Nat) ≠ 0; omega, by show (6 : Nat) ≤ 6; omega⟩
theorem text_ok {B : Nat → Nat} {n : Nat} : ∀ (k : Nat) (T : tT) (hp : Bool) (ln q : Nat), pOK T → q ≤ n → ∀ T' ln', textF B n k T hp ln q = .inr (T', ln') → pOK T' := by
  intro k
  induction k with
  | zero => intro T hp ln q h hq T' ln' e; cases e; exact h
  | succ k ih =>
    intro T hp ln q h hq T' ln' e
    unfold textF at e
    split at e
    · cases e
    · split at e
      · cases e; exact h
      · next c =>
        revert e
        cases hl : lineS B n T hp q with
        | inl f => intro e; cases e
        | inr v =>
          obtain ⟨T1, hp1, q1⟩ := v
          intro e
          have h1 := line_ok h hq c hl
          exact ih T1 hp1 _ q1 h1.1 h1.2.2 T' ln' e
theorem gtx_good {B : Nat → Nat} {n : Nat} {T : tT} {ln : Nat} (h : gtx B n = .inr (T, ln)) : tGood T := by
  unfold gtx at h
  revert h
  cases hl : textF B n 161 tT0 false 0 0 with
  | inl f => intro h; cases h
  | inr v =>
    obtain ⟨T1, ln1⟩ := v
    intro h
    simp only at h
    split at h
    · next c => cases h; exact pfin_good (text_ok 161 tT0 false 0 0 tT0_ok (Nat.zero_le _) _ _ hl) c
    · cases h
section CTEXT
variable {mi : Nat → Nat → Int32} {ml : Nat → Nat → Int64} {m : kMem} {Q : Option Value → kMem → Prop} {B : Nat → Nat} {n lo hi q b e j i K ln : Nat} {T : tT} {hp : Bool} {vs : Nat → Nat} {S : gS}
theorem J_has30 {a : Nat} (ha : a < 100) (hp : T 0 0 ≤ 5) (h0 : mi 30 0 = nI (T 0 0)) : kJ 7 0 [some (.ref 30), some (.int (nI a))] [] (mi, ml, MR, 95) Q = Q (some (.int (if a < T 0 0 then nI 1 else nI 0))) (mi, ml, MR, 95) := by
  have e : (0 ≤ nI a ∧ nI a < nI (T 0 0)) = (a < T 0 0) := by
    rw [nI_litlt (by omega) (by omega)]
    exact propext ⟨fun z => z.2, fun z => ⟨nI_pos' (by omega), z⟩⟩
  rw [J_hasOne kPost_30, h0]
  simp only [e]
theorem J_places (h : tR n B mi) (hpo : pOK T) (ht : kCT T mi)
    (hQ1 : ok6 T → ∀ mi', (∀ a, ¬ (30 ≤ a ∧ a ≤ 43) → mi' a = mi a) → kCR 30 (pfin T) mi' → Q none (mi', ml, MR, 95))
    (hQ2 : ¬ ok6 T → ∀ mi', fP mi mi' → cFlt (6, n) mi' → Q none (mi', ml, MR, 95)) :
    kJ 43 0 [some (.ref 28), none] [] (mi, ml, MR, 95) Q := by
  have o1 := hpo.1
  have o2 := hpo.2.1
  simp only [↓s43_0, ↓s43_1, ↓s43_3, ↓s43_4, ↓s43_7, ↓s43_10, ↓s43_13, ↓s43_14, ↓s43_17, ↓s43_18, ↓s43_21, ↓s43_24, ↓s43_25, ↓s43_26, ↓s43_29, ↓s43_32, ↓s43_33, ↓s43_36, ↓s43_37, ↓s43_40, ↓s43_43, ↓s43_44, ↓s43_45, ↓s43_48, ↓s43_51, ↓s43_52, ↓s43_55, ↓s43_56, ↓s43_59, ↓s43_62, ↓s43_63, ↓s43_64, ↓s43_67, ↓s43_70, ↓s43_71, ↓s43_73, ↓s43_74, ↓s43_77, ↓s43_80, ↓s43_81, ↓s43_82, ↓s43_85, ↓s43_86, ↓s43_87, ↓s43_90, ↓s43_93, ↓s43_94, ↓s43_95, ↓s43_98, ↓s43_101, ↓s43_104, kNLn, kNLi, kNLr, va_rf_s, kOl_n, kOl_s, kap_n, kap_c, kb0, kb1, kbif]
  have loop : ∀ (k i : Nat) (mi1 : Nat → Nat → Int32), i + k = T 0 4 → kCT T mi1 → (∀ a, ¬ (30 ≤ a ∧ a ≤ 43) → mi1 a = mi a) → (∀ i', i' < i → mi1 38 i' = nI (T 2 (T 4 i')) ∧ mi1 39 i' = nI 0 ∧ (T 4 i' < T 0 0 ∧ T 5 i' < T 0 0 ∧ T 6 i' < T 0 0)) → kJ 43 2 [some (.ref 28), some (.int (nI i))] [] (mi1, ml, MR, 95) Q := by
    intro k
    induction k with
    | zero =>
      intro i mi1 hk t1 f1 g1
      have ei : i = T 0 4 := by omega
      subst ei
      have t4 := t1.1.2.1
      rw [s43_2]
      simp only [↓s43_0, ↓s43_1, ↓s43_3, ↓s43_4, ↓s43_7, ↓s43_10, ↓s43_13, ↓s43_14, ↓s43_17, ↓s43_18, ↓s43_21, ↓s43_24, ↓s43_25, ↓s43_26, ↓s43_29, ↓s43_32, ↓s43_33, ↓s43_36, ↓s43_37, ↓s43_40, ↓s43_43, ↓s43_44, ↓s43_45, ↓s43_48, ↓s43_51, ↓s43_52, ↓s43_55, ↓s43_56, ↓s43_59, ↓s43_62, ↓s43_63, ↓s43_64, ↓s43_67, ↓s43_70, ↓s43_71, ↓s43_73, ↓s43_74, ↓s43_77, ↓s43_80, ↓s43_81, ↓s43_82, ↓s43_85, ↓s43_86, ↓s43_87, ↓s43_90, ↓s43_93, ↓s43_94, ↓s43_95, ↓s43_98, ↓s43_101, ↓s43_104, kNLn, kNLi, kNLr, va_rf_s, kOl_n, kOl_s, kap_n, kap_c, kb0, kb1, kbif, zif, z0, z1, Bool.false_eq_true, eq_self, not_true_eq_false, not_false_eq_true, if_true, if_false, and_self, true_and, false_and, and_true, and_false, ki_28, ki_30, mr_28_2, t4, Int32.le_refl]
      refine hQ1 (fun i hi => (g1 i hi).2.2) mi1 f1 ?_
      obtain ⟨⟨h1, h2, h3, h4, h5⟩, hr, hl⟩ := t1
      refine ⟨⟨h1, h2, h3, h4, h5⟩, fun r k a b c => ?_⟩
      by_cases r3 : r ≤ 3
      · have hk : k < T 0 0 := by
          have : tcnt (pfin T) r = T 0 0 := if_pos r3
          omega
        have e : pfin T r k = T r k := by
          unfold pfin
          rw [if_neg (by omega), if_neg (by omega), if_neg (by omega), if_neg (by omega)]
        rw [e]
        exact hr r k a r3 hk
      · by_cases r9 : r ≤ 9
        · have hk : k < T 0 4 := by
            have : tcnt (pfin T) r = T 0 4 := (if_neg r3).trans (if_pos r9)
            omega
          rcases (by omega : r = 8 ∨ r = 9 ∨ (4 ≤ r ∧ r ≤ 7)) with rfl | rfl | ⟨r4, r7⟩
          · exact (g1 k hk).1
          · exact (g1 k hk).2.1
          · have e : pfin T r k = T r k := by
              unfold pfin
              rw [if_neg (by omega), if_neg (by omega), if_neg (by omega), if_neg (by omega)]
            rw [e]
            exact hl r k r4 r7 hk
        · have : tcnt (pfin T) r = 0 := (if_neg r3).trans (if_neg r9)
          omega
    | succ k ih =>
      intro i mi1 hk t1 f1 g1
      have t4 := t1.1.2.1
      have t0 := t1.1.1
      have hlt : ¬ nI (T 0 4) ≤ nI i := nI_ge (by omega) (by omega)
      have hc : (nI i).toNatClampNeg = i := nI_clamp (by omega)
      have hv : vp_in (nI i) 6 := vp_in_nI (by omega) (by decide)
      obtain ⟨p4, p5, p6, p7⟩ := hpo.2.2.2.2 i (by omega)
      have r4 : mi1 34 i = nI (T 4 i) := t1.2.2 4 i (by omega) (by omega) (by omega)
      have r5 : mi1 35 i = nI (T 5 i) := t1.2.2 5 i (by omega) (by omega) (by omega)
      have r6 : mi1 36 i = nI (T 6 i) := t1.2.2 6 i (by omega) (by omega) (by omega)
      have r7 : mi1 37 i = nI (T 7 i) := t1.2.2 7 i (by omega) (by omega) (by omega)
      have h1n : mi1 28 1 = nI n := by rw [f1 28 (by omega)]; exact h.2.1
      have bad : ¬ (T 4 i < T 0 0 ∧ T 5 i < T 0 0 ∧ T 6 i < T 0 0) → Q none (kup (kup mi1 28 4 (nI 6)) 28 5 (nI n), ml, MR, 95) := fun z => by
        refine hQ2 (fun w => z (w i (by omega))) _ ⟨fun a ha => ?_, ?_⟩ ⟨by rw [kup_eq, pk_un (by decide), kup_eq, pk_us], by rw [kup_eq, pk_us]⟩
        · rw [kup_ne (by omega), kup_ne (by omega)]; exact f1 a (by omega)
        · rw [kup_eq, pk_un (by decide), kup_eq, pk_un (by decide), f1 28 (by omega)]
      have hJ4 : ∀ Q', kJ 7 0 [some (.ref 30), some (.int (nI (T 4 i)))] [] (mi1, ml, MR, 95) Q' = Q' (some (.int (if T 4 i < T 0 0 then nI 1 else nI 0))) (mi1, ml, MR, 95) := fun Q' => J_has30 (by omega) o1 t0
      have hJ5 : ∀ Q', kJ 7 0 [some (.ref 30), some (.int (nI (T 5 i)))] [] (mi1, ml, MR, 95) Q' = Q' (some (.int (if T 5 i < T 0 0 then nI 1 else nI 0))) (mi1, ml, MR, 95) := fun Q' => J_has30 (by omega) o1 t0
      have hJ6 : ∀ Q', kJ 7 0 [some (.ref 30), some (.int (nI (T 6 i)))] [] (mi1, ml, MR, 95) Q' = Q' (some (.int (if T 6 i < T 0 0 then nI 1 else nI 0))) (mi1, ml, MR, 95) := fun Q' => J_has30 (by omega) o1 t0
      rw [s43_2]
      by_cases c4 : T 4 i < T 0 0
      · by_cases c5 : T 5 i < T 0 0
        · by_cases c6 : T 6 i < T 0 0
          · have hJa : ∀ Q', kJ 13 0 [some (.ref 30), some (.int (nI i)), some (.int (nI (T 7 i)))] [] (mi1, ml, MR, 95) Q' = Q' none (kWA 30 i (T 4 i) (nI (T 7 i)) mi1, ml, MR, 95) := fun Q' => J_again kPost_30 (by omega) (by omega) r4
            simp only [↓s43_0, ↓s43_1, ↓s43_3, ↓s43_4, ↓s43_7, ↓s43_10, ↓s43_13, ↓s43_14, ↓s43_17, ↓s43_18, ↓s43_21, ↓s43_24, ↓s43_25, ↓s43_26, ↓s43_29, ↓s43_32, ↓s43_33, ↓s43_36, ↓s43_37, ↓s43_40, ↓s43_43, ↓s43_44, ↓s43_45, ↓s43_48, ↓s43_51, ↓s43_52, ↓s43_55, ↓s43_56, ↓s43_59, ↓s43_62, ↓s43_63, ↓s43_64, ↓s43_67, ↓s43_70, ↓s43_71, ↓s43_73, ↓s43_74, ↓s43_77, ↓s43_80, ↓s43_81, ↓s43_82, ↓s43_85, ↓s43_86, ↓s43_87, ↓s43_90, ↓s43_93, ↓s43_94, ↓s43_95, ↓s43_98, ↓s43_101, ↓s43_104, ↓hJ4, ↓hJ5, ↓hJ6, ↓hJa, kNLn, kNLi, kNLr, va_rf_s, kOl_n, kOl_s, kap_n, kap_c, kb0, kb1, kbif, zif, z0, z1, Bool.false_eq_true, eq_self, not_true_eq_false, not_false_eq_true, if_true, if_false, and_self, true_and, false_and, and_true, and_false, ki_28, ki_30, ki_34, kl_34, ki_35, kl_35, ki_36, kl_36, ki_37, kl_37, mr_28_2, mr_30_5, mr_30_6, mr_30_7, mr_30_8, t4, hlt, hc, hv, r4, r5, r6, r7, c4, c5, c6, nI_add]
            have d2 : mi1 32 (T 4 i) = nI (T 2 (T 4 i)) := t1.2.1 2 _ (by omega) (by omega) c4
            refine ih (i + 1) _ (by omega) ?_ (fun a ha => ?_) (fun i' hi' => ?_)
            · obtain ⟨hs, hr, hl⟩ := t1
              refine ⟨?_, fun r k a b c => ?_, fun r k a b c => ?_⟩
              · unfold kWA
                rw [kup_ne (by omega), kup_ne (by omega), kup_ne (by omega)]; exact hs
              · unfold kWA
                rw [kup_ne (by omega), kup_ne (by omega), kup_ne (by omega)]; exact hr r k a b c
              · unfold kWA
                rw [kup_ne (by omega), kup_ne (by omega)]
                by_cases er : r = 7
                · subst er
                  rw [kup_eq]
                  by_cases ek : k = i
                  · rw [ek, pk_us]
                  · rw [pk_un ek]; exact hl 7 k a b c
                · rw [kup_ne (by omega)]; exact hl r k a b c
            · unfold kWA
              rw [kup_ne (by omega), kup_ne (by omega), kup_ne (by omega)]; exact f1 a ha
            · by_cases ei : i' = i
              · subst ei
                refine ⟨?_, ?_, c4, c5, c6⟩
                · show kWA 30 i' (T 4 i') (nI (T 7 i')) mi1 38 i' = _
                  unfold kWA
                  rw [kup_ne (by omega), kup_eq, pk_us]; exact d2
                · show kWA 30 i' (T 4 i') (nI (T 7 i')) mi1 39 i' = _
                  unfold kWA
                  rw [kup_eq, pk_us]
              · obtain ⟨z1, z2, z3⟩ := g1 i' (by omega)
                refine ⟨?_, ?_, z3⟩
                · show kWA 30 i (T 4 i) (nI (T 7 i)) mi1 38 i' = _
                  unfold kWA
                  rw [kup_ne (by omega), kup_eq, pk_un ei, kup_ne (by omega)]; exact z1
                · show kWA 30 i (T 4 i) (nI (T 7 i)) mi1 39 i' = _
                  unfold kWA
                  rw [kup_eq, pk_un ei, kup_ne (by omega), kup_ne (by omega)]; exact z2
          · simp only [↓s43_0, ↓s43_1, ↓s43_3, ↓s43_4, ↓s43_7, ↓s43_10, ↓s43_13, ↓s43_14, ↓s43_17, ↓s43_18, ↓s43_21, ↓s43_24, ↓s43_25, ↓s43_26, ↓s43_29, ↓s43_32, ↓s43_33, ↓s43_36, ↓s43_37, ↓s43_40, ↓s43_43, ↓s43_44, ↓s43_45, ↓s43_48, ↓s43_51, ↓s43_52, ↓s43_55, ↓s43_56, ↓s43_59, ↓s43_62, ↓s43_63, ↓s43_64, ↓s43_67, ↓s43_70, ↓s43_71, ↓s43_73, ↓s43_74, ↓s43_77, ↓s43_80, ↓s43_81, ↓s43_82, ↓s43_85, ↓s43_86, ↓s43_87, ↓s43_90, ↓s43_93, ↓s43_94, ↓s43_95, ↓s43_98, ↓s43_101, ↓s43_104, ↓hJ4, ↓hJ5, ↓hJ6, ↓J_fail, kNLn, kNLi, kNLr, va_rf_s, kOl_n, kOl_s, kap_n, kap_c, kb0, kb1, kbif, zif, z0, z1, Bool.false_eq_true, eq_self, not_true_eq_false, not_false_eq_true, if_true, if_false, and_self, true_and, false_and, and_true, and_false, ki_28, ki_30, ki_34, kl_34, ki_35, kl_35, ki_36, kl_36, mr_28_2, mr_30_5, mr_30_6, mr_30_7, t4, hlt, hc, hv, r4, r5, r6, c4, c5, c6, h1n]
            exact bad (fun z => c6 z.2.2)
        · simp only [↓s43_0, ↓s43_1, ↓s43_3, ↓s43_4, ↓s43_7, ↓s43_10, ↓s43_13, ↓s43_14, ↓s43_17, ↓s43_18, ↓s43_21, ↓s43_24, ↓s43_25, ↓s43_26, ↓s43_29, ↓s43_32, ↓s43_33, ↓s43_36, ↓s43_37, ↓s43_40, ↓s43_43, ↓s43_44, ↓s43_45, ↓s43_48, ↓s43_51, ↓s43_52, ↓s43_55, ↓s43_56, ↓s43_59, ↓s43_62, ↓s43_63, ↓s43_64, ↓s43_67, ↓s43_70, ↓s43_71, ↓s43_73, ↓s43_74, ↓s43_77, ↓s43_80, ↓s43_81, ↓s43_82, ↓s43_85, ↓s43_86, ↓s43_87, ↓s43_90, ↓s43_93, ↓s43_94, ↓s43_95, ↓s43_98, ↓s43_101, ↓s43_104, ↓hJ4, ↓hJ5, ↓J_fail, kNLn, kNLi, kNLr, va_rf_s, kOl_n, kOl_s, kap_n, kap_c, kb0, kb1, kbif, zif, z0, z1, Bool.false_eq_true, eq_self, not_true_eq_false, not_false_eq_true, if_true, if_false, and_self, true_and, false_and, and_true, and_false, ki_28, ki_30, ki_34, kl_34, ki_35, kl_35, mr_28_2, mr_30_5, mr_30_6, t4, hlt, hc, hv, r4, r5, c4, c5, h1n]
          exact bad (fun z => c5 z.2.1)
      · simp only [↓s43_0, ↓s43_1, ↓s43_3, ↓s43_4, ↓s43_7, ↓s43_10, ↓s43_13, ↓s43_14, ↓s43_17, ↓s43_18, ↓s43_21, ↓s43_24, ↓s43_25, ↓s43_26, ↓s43_29, ↓s43_32, ↓s43_33, ↓s43_36, ↓s43_37, ↓s43_40, ↓s43_43, ↓s43_44, ↓s43_45, ↓s43_48, ↓s43_51, ↓s43_52, ↓s43_55, ↓s43_56, ↓s43_59, ↓s43_62, ↓s43_63, ↓s43_64, ↓s43_67, ↓s43_70, ↓s43_71, ↓s43_73, ↓s43_74, ↓s43_77, ↓s43_80, ↓s43_81, ↓s43_82, ↓s43_85, ↓s43_86, ↓s43_87, ↓s43_90, ↓s43_93, ↓s43_94, ↓s43_95, ↓s43_98, ↓s43_101, ↓s43_104, ↓hJ4, ↓J_fail, kNLn, kNLi, kNLr, va_rf_s, kOl_n, kOl_s, kap_n, kap_c, kb0, kb1, kbif, zif, z0, z1, Bool.false_eq_true, eq_self, not_true_eq_false, not_false_eq_true, if_true, if_false, and_self, true_and, false_and, and_true, and_false, ki_28, ki_30, ki_34, kl_34, mr_28_2, mr_30_5, t4, hlt, hc, hv, r4, c4, h1n]
        exact bad (fun z => c4 z.1)
  exact loop (T 0 4) 0 mi (by omega) ht (fun _ _ => rfl) (fun i' hi' => absurd hi' (Nat.not_lt_zero i'))
theorem J_allE {x : Int32} (h : ¬ mi 28 4 = 0) : kJ 36 38 [some (.ref 28), some (.int x)] [] (mi, ml, MR, 95) Q = Q none (mi, ml, MR, 95) := by
  rw [s36_38]
  by_cases c : nI 160 < x
  · simp only [↓s36_0, ↓s36_1, ↓s36_4, ↓s36_7, ↓s36_8, ↓s36_9, ↓s36_12, ↓s36_13, ↓s36_14, ↓s36_17, ↓s36_18, ↓s36_19, ↓s36_22, ↓s36_23, ↓s36_24, ↓s36_27, ↓s36_28, ↓s36_29, ↓s36_32, ↓s36_33, ↓s36_36, ↓s36_37, ↓s36_39, ↓s36_42, ↓s36_45, ↓s36_46, ↓s36_49, ↓s36_52, ↓s36_53, ↓s36_56, ↓s36_59, ↓s36_60, ↓s36_63, ↓s36_66, ↓s36_69, ↓s36_70, ↓s36_73, ↓s36_76, ↓s36_77, ↓s36_80, kNLn, kNLi, kNLr, va_rf_s, kOl_n, kOl_s, kap_n, kap_c, kb0, kb1, kbif, zif, z0, z1, Bool.false_eq_true, eq_self, not_true_eq_false, not_false_eq_true, if_true, if_false, and_self, true_and, false_and, and_true, and_false, ki_28, h, c]
  · simp only [↓s36_0, ↓s36_1, ↓s36_4, ↓s36_7, ↓s36_8, ↓s36_9, ↓s36_12, ↓s36_13, ↓s36_14, ↓s36_17, ↓s36_18, ↓s36_19, ↓s36_22, ↓s36_23, ↓s36_24, ↓s36_27, ↓s36_28, ↓s36_29, ↓s36_32, ↓s36_33, ↓s36_36, ↓s36_37, ↓s36_39, ↓s36_42, ↓s36_45, ↓s36_46, ↓s36_49, ↓s36_52, ↓s36_53, ↓s36_56, ↓s36_59, ↓s36_60, ↓s36_63, ↓s36_66, ↓s36_69, ↓s36_70, ↓s36_73, ↓s36_76, ↓s36_77, ↓s36_80, kNLn, kNLi, kNLr, va_rf_s, kOl_n, kOl_s, kap_n, kap_c, kb0, kb1, kbif, zif, z0, z1, Bool.false_eq_true, eq_self, not_true_eq_false, not_false_eq_true, if_true, if_false, and_self, true_and, false_and, and_true, and_false, ki_28, h, c]
theorem J_clear : kJ 5 0 [some (.ref 30)] [] (mi, ml, MR, 95) Q = Q none (kup (kup (kup (kup (kup mi 30 0 (nI 0)) 30 4 (nI 0)) 30 11 (nI 2)) 30 12 (nI 0)) 30 13 (nI 0), ml, MR, 95) := by
  simp only [↓s5_0, ↓s5_1, ↓s5_2, ↓s5_5, ↓s5_6, ↓s5_7, ↓s5_10, ↓s5_11, ↓s5_12, ↓s5_15, ↓s5_16, ↓s5_17, ↓s5_20, ↓s5_21, ↓s5_22, ↓s5_25, kNLn, kNLi, kNLr, va_rf_s, kOl_n, kOl_s, kap_n, kap_c, kb0, kb1, kbif, ki_30]
theorem J_tellAll (h : tR n B mi)
    (hQ1 : ∀ F, gtx B n = .inl F → ∀ mi', fP mi mi' → cFlt F mi' → Q none (mi', ml, MR, 95))
    (hQ2 : ∀ T ln, gtx B n = .inr (T, ln) → ∀ mi', fP mi mi' → mi' 28 4 = nI 0 → mi' 28 3 = nI ln → kCR 30 T mi' → Q none (mi', ml, MR, 95)) :
    kJ 36 0 [some (.ref 28), none] [] (mi, ml, MR, 95) Q := by
  have h160 := h.1.1
  have z0' : ¬ (nI 0 : Int32) = 1 := by decide
  simp only [↓s36_0, ↓s36_1, ↓s36_4, ↓s36_7, ↓s36_8, ↓s36_9, ↓s36_12, ↓s36_13, ↓s36_14, ↓s36_17, ↓s36_18, ↓s36_19, ↓s36_22, ↓s36_23, ↓s36_24, ↓s36_27, ↓s36_28, ↓s36_29, ↓s36_32, ↓s36_33, ↓s36_36, ↓s36_37, ↓s36_39, ↓s36_42, ↓s36_45, ↓s36_46, ↓s36_49, ↓s36_52, ↓s36_53, ↓s36_56, ↓s36_59, ↓s36_60, ↓s36_63, ↓s36_66, ↓s36_69, ↓s36_70, ↓s36_73, ↓s36_76, ↓s36_77, ↓s36_80, ↓kb0, ↓J_clear, kNLn, kNLi, kNLr, va_rf_s, kOl_n, kOl_s, kap_n, kap_c, kb0, kb1, kbif, ki_28, ki_30, mr_28_2]
  have loop : ∀ (k c : Nat) (T : tT) (hp : Bool) (ln q : Nat) (mi1 : Nat → Nat → Int32), c + k = 161 → c ≤ q → q ≤ n → pOK T → fP mi mi1 → tK B n q ≠ 4 → cTok B n q mi1 → cTold T hp ln mi1 → textF B n k T hp ln q = textF B n 161 tT0 false 0 0 → kJ 36 38 [some (.ref 28), some (.int (nI c))] [] (mi1, ml, MR, 95) Q := by
    intro k
    induction k with
    | zero => intro c T hp ln q mi1 hc hcq hqn; omega
    | succ k ih =>
      intro c T hp ln q mi1 hc hcq hqn hpo f1 hk4 hT ht eT
      have hlt : ¬ nI 160 < nI c := nI_nlt (by omega) (by omega)
      have hle := tK_le (B := B) (n := n) (q := q)
      have eS : textF B n (k + 1) T hp ln q = if tK B n q = 4 then .inl (1, tB B n q) else if tK B n q = 0 then .inr (T, ln) else (match lineS B n T hp q with
        | .inl f => .inl f
        | .inr (T', hp', q') => textF B n k T' hp' (ln + 1) q') := rfl
      rw [if_neg hk4] at eS
      have l0 := nI_litz (by omega : tK B n q < 2 ^ 31)
      have a4 := hT.1
      have a7 := hT.2.2.1
      rw [s36_38]
      by_cases c0 : tK B n q = 0
      · rw [if_pos c0] at eS
        have eG : textF B n 161 tT0 false 0 0 = .inr (T, ln) := eT.symm.trans eS
        simp only [↓s36_0, ↓s36_1, ↓s36_4, ↓s36_7, ↓s36_8, ↓s36_9, ↓s36_12, ↓s36_13, ↓s36_14, ↓s36_17, ↓s36_18, ↓s36_19, ↓s36_22, ↓s36_23, ↓s36_24, ↓s36_27, ↓s36_28, ↓s36_29, ↓s36_32, ↓s36_33, ↓s36_36, ↓s36_37, ↓s36_39, ↓s36_42, ↓s36_45, ↓s36_46, ↓s36_49, ↓s36_52, ↓s36_53, ↓s36_56, ↓s36_59, ↓s36_60, ↓s36_63, ↓s36_66, ↓s36_69, ↓s36_70, ↓s36_73, ↓s36_76, ↓s36_77, ↓s36_80, kNLn, kNLi, kNLr, va_rf_s, kOl_n, kOl_s, kap_n, kap_c, kb0, kb1, kbif, zif, z0, z1, Bool.false_eq_true, eq_self, not_true_eq_false, not_false_eq_true, if_true, if_false, and_self, true_and, false_and, and_true, and_false, ki_28, hlt, a4, a7, l0, eq_true c0]
        refine J_places (tR_fP h f1) hpo ht.1 (fun h6 mi2 f2 t2 => ?_) (fun h6 mi2 f2 b => ?_)
        · have eg : gtx B n = .inr (pfin T, ln) := by
            unfold gtx
            rw [eG]
            exact if_pos h6
          simp only [↓s36_0, ↓s36_1, ↓s36_4, ↓s36_7, ↓s36_8, ↓s36_9, ↓s36_12, ↓s36_13, ↓s36_14, ↓s36_17, ↓s36_18, ↓s36_19, ↓s36_22, ↓s36_23, ↓s36_24, ↓s36_27, ↓s36_28, ↓s36_29, ↓s36_32, ↓s36_33, ↓s36_36, ↓s36_37, ↓s36_39, ↓s36_42, ↓s36_45, ↓s36_46, ↓s36_49, ↓s36_52, ↓s36_53, ↓s36_56, ↓s36_59, ↓s36_60, ↓s36_63, ↓s36_66, ↓s36_69, ↓s36_70, ↓s36_73, ↓s36_76, ↓s36_77, ↓s36_80, kNLn, kNLi, kNLr, va_rf_s, kOl_n, kOl_s, kap_n, kap_c, kb0, kb1, kbif]
          have f12 : fP mi mi2 := ⟨fun q hq => (f2 q (by omega)).trans (f1.1 q hq), by rw [f2 28 (by omega)]; exact f1.2⟩
          exact hQ2 _ _ eg mi2 f12 (by rw [f2 28 (by omega)]; exact a4) (by rw [f2 28 (by omega)]; exact ht.2.2) t2
        · have eg : gtx B n = .inl (6, n) := by
            unfold gtx
            rw [eG]
            exact if_neg h6
          simp only [↓s36_0, ↓s36_1, ↓s36_4, ↓s36_7, ↓s36_8, ↓s36_9, ↓s36_12, ↓s36_13, ↓s36_14, ↓s36_17, ↓s36_18, ↓s36_19, ↓s36_22, ↓s36_23, ↓s36_24, ↓s36_27, ↓s36_28, ↓s36_29, ↓s36_32, ↓s36_33, ↓s36_36, ↓s36_37, ↓s36_39, ↓s36_42, ↓s36_45, ↓s36_46, ↓s36_49, ↓s36_52, ↓s36_53, ↓s36_56, ↓s36_59, ↓s36_60, ↓s36_63, ↓s36_66, ↓s36_69, ↓s36_70, ↓s36_73, ↓s36_76, ↓s36_77, ↓s36_80, kNLn, kNLi, kNLr, va_rf_s, kOl_n, kOl_s, kap_n, kap_c, kb0, kb1, kbif]
          exact hQ1 _ eg mi2 (fP_tr f1 f2) b
      · rw [if_neg c0] at eS
        simp only [↓s36_0, ↓s36_1, ↓s36_4, ↓s36_7, ↓s36_8, ↓s36_9, ↓s36_12, ↓s36_13, ↓s36_14, ↓s36_17, ↓s36_18, ↓s36_19, ↓s36_22, ↓s36_23, ↓s36_24, ↓s36_27, ↓s36_28, ↓s36_29, ↓s36_32, ↓s36_33, ↓s36_36, ↓s36_37, ↓s36_39, ↓s36_42, ↓s36_45, ↓s36_46, ↓s36_49, ↓s36_52, ↓s36_53, ↓s36_56, ↓s36_59, ↓s36_60, ↓s36_63, ↓s36_66, ↓s36_69, ↓s36_70, ↓s36_73, ↓s36_76, ↓s36_77, ↓s36_80, kNLn, kNLi, kNLr, va_rf_s, kOl_n, kOl_s, kap_n, kap_c, kb0, kb1, kbif, zif, z0, z1, Bool.false_eq_true, eq_self, not_true_eq_false, not_false_eq_true, if_true, if_false, and_self, true_and, false_and, and_true, and_false, ki_28, hlt, a4, a7, l0, c0]
        refine J_line (tR_fP h f1) hqn c0 hpo hT ht (fun F eF mi2 f2 b nb => ?_) (fun T' hp' q' eF hk mi2 f2 t2 d2 => ?_) (fun T' hp' q' eF hk mi2 f2 b => ?_)
        · rw [eF] at eS
          have eG : textF B n 161 tT0 false 0 0 = .inl F := eT.symm.trans eS
          have eg : gtx B n = .inl F := by
            unfold gtx
            rw [eG]
          simp only [↓s36_0, ↓s36_1, ↓s36_4, ↓s36_7, ↓s36_8, ↓s36_9, ↓s36_12, ↓s36_13, ↓s36_14, ↓s36_17, ↓s36_18, ↓s36_19, ↓s36_22, ↓s36_23, ↓s36_24, ↓s36_27, ↓s36_28, ↓s36_29, ↓s36_32, ↓s36_33, ↓s36_36, ↓s36_37, ↓s36_39, ↓s36_42, ↓s36_45, ↓s36_46, ↓s36_49, ↓s36_52, ↓s36_53, ↓s36_56, ↓s36_59, ↓s36_60, ↓s36_63, ↓s36_66, ↓s36_69, ↓s36_70, ↓s36_73, ↓s36_76, ↓s36_77, ↓s36_80, ↓J_allE nb, kNLn, kNLi, kNLr, va_rf_s, kOl_n, kOl_s, kap_n, kap_c, kb0, kb1, kbif, nI_add]
          exact hQ1 _ eg mi2 (fP_tr f1 f2) b
        · rw [eF] at eS
          have hok := line_ok hpo hqn c0 eF
          simp only [↓s36_0, ↓s36_1, ↓s36_4, ↓s36_7, ↓s36_8, ↓s36_9, ↓s36_12, ↓s36_13, ↓s36_14, ↓s36_17, ↓s36_18, ↓s36_19, ↓s36_22, ↓s36_23, ↓s36_24, ↓s36_27, ↓s36_28, ↓s36_29, ↓s36_32, ↓s36_33, ↓s36_36, ↓s36_37, ↓s36_39, ↓s36_42, ↓s36_45, ↓s36_46, ↓s36_49, ↓s36_52, ↓s36_53, ↓s36_56, ↓s36_59, ↓s36_60, ↓s36_63, ↓s36_66, ↓s36_69, ↓s36_70, ↓s36_73, ↓s36_76, ↓s36_77, ↓s36_80, kNLn, kNLi, kNLr, va_rf_s, kOl_n, kOl_s, kap_n, kap_c, kb0, kb1, kbif, nI_add]
          exact ih (c + 1) T' hp' (ln + 1) q' mi2 (by omega) (by omega) hok.2.2 hok.1 (fP_tr f1 f2) hk t2 d2 (eS.symm.trans eT)
        · rw [eF] at eS
          have hok := line_ok hpo hqn c0 eF
          obtain ⟨k', rfl⟩ : ∃ k', k = k' + 1 := ⟨k - 1, by omega⟩
          have e2 : textF B n (k' + 1) T' hp' (ln + 1) q' = .inl (1, tB B n q') := if_pos hk
          have eG : textF B n 161 tT0 false 0 0 = .inl (1, tB B n q') := eT.symm.trans (eS.trans e2)
          have eg : gtx B n = .inl (1, tB B n q') := by
            unfold gtx
            rw [eG]
          have nb : ¬ mi2 28 4 = 0 := cFlt_n b (by decide) (by decide)
          simp only [↓s36_0, ↓s36_1, ↓s36_4, ↓s36_7, ↓s36_8, ↓s36_9, ↓s36_12, ↓s36_13, ↓s36_14, ↓s36_17, ↓s36_18, ↓s36_19, ↓s36_22, ↓s36_23, ↓s36_24, ↓s36_27, ↓s36_28, ↓s36_29, ↓s36_32, ↓s36_33, ↓s36_36, ↓s36_37, ↓s36_39, ↓s36_42, ↓s36_45, ↓s36_46, ↓s36_49, ↓s36_52, ↓s36_53, ↓s36_56, ↓s36_59, ↓s36_60, ↓s36_63, ↓s36_66, ↓s36_69, ↓s36_70, ↓s36_73, ↓s36_76, ↓s36_77, ↓s36_80, ↓J_allE nb, kNLn, kNLi, kNLr, va_rf_s, kOl_n, kOl_s, kap_n, kap_c, kb0, kb1, kbif, nI_add]
          exact hQ1 _ eg mi2 (fP_tr f1 f2) b
  have fI : fP mi (kup (kup (kup (kup (kup (kup (kup (kup (kup (kup mi 30 0 (nI 0)) 30 4 (nI 0)) 30 11 (nI 2)) 30 12 (nI 0)) 30 13 (nI 0)) 28 3 (nI 0)) 28 4 (nI 0)) 28 5 (nI 0)) 28 6 (nI 0)) 28 10 (nI 0)) := fP_up (fP_up (fP_up (fP_up (fP_up (fP_up (fP_up (fP_up (fP_up (fP_up fP_rf (by omega)) (by omega)) (by omega)) (by omega)) (by omega)) (by omega)) (by omega)) (by omega)) (by omega)) (by omega)
  have tI : cTold tT0 false 0 (kup (kup (kup (kup (kup (kup (kup (kup (kup (kup mi 30 0 (nI 0)) 30 4 (nI 0)) 30 11 (nI 2)) 30 12 (nI 0)) 30 13 (nI 0)) 28 3 (nI 0)) 28 4 (nI 0)) 28 5 (nI 0)) 28 6 (nI 0)) 28 10 (nI 0)) := by
    refine ⟨⟨⟨?_, ?_, ?_, ?_, ?_⟩, fun r k a b c => absurd c (by show ¬ k < 0; omega), fun r k a b c => absurd c (by show ¬ k < 0; omega)⟩, ?_, ?_⟩
    · simp [kup_ap, upd_ap]; rfl
    · simp [kup_ap, upd_ap]; rfl
    · simp [kup_ap, upd_ap]; rfl
    · simp [kup_ap, upd_ap]
    · simp [kup_ap, upd_ap]
    · simp [kup_ap, upd_ap]
    · simp [kup_ap, upd_ap]
  have p6 : kup (kup (kup (kup (kup (kup (kup (kup (kup (kup mi 30 0 (nI 0)) 30 4 (nI 0)) 30 11 (nI 2)) 30 12 (nI 0)) 30 13 (nI 0)) 28 3 (nI 0)) 28 4 (nI 0)) 28 5 (nI 0)) 28 6 (nI 0)) 28 10 (nI 0) 28 6 = nI 0 := by simp [kup_ap, upd_ap]
  have p4 : kup (kup (kup (kup (kup (kup (kup (kup (kup (kup mi 30 0 (nI 0)) 30 4 (nI 0)) 30 11 (nI 2)) 30 12 (nI 0)) 30 13 (nI 0)) 28 3 (nI 0)) 28 4 (nI 0)) 28 5 (nI 0)) 28 6 (nI 0)) 28 10 (nI 0) 28 4 = nI 0 := by simp [kup_ap, upd_ap]
  revert fI tI p6 p4
  generalize (kup (kup (kup (kup (kup (kup (kup (kup (kup (kup mi 30 0 (nI 0)) 30 4 (nI 0)) 30 11 (nI 2)) 30 12 (nI 0)) 30 13 (nI 0)) 28 3 (nI 0)) 28 4 (nI 0)) 28 5 (nI 0)) 28 6 (nI 0)) 28 10 (nI 0)) = mi0
  intro fI tI p6 p4
  refine J_tok (tR_fP h fI) (Nat.zero_le _) p6 (fun hk mi2 f2 b4 b6 b7 b8 b9 => ?_) (fun hk mi2 f2 b4 b5 => ?_)
  · rw [p4] at b4
    simp only [↓s36_0, ↓s36_1, ↓s36_4, ↓s36_7, ↓s36_8, ↓s36_9, ↓s36_12, ↓s36_13, ↓s36_14, ↓s36_17, ↓s36_18, ↓s36_19, ↓s36_22, ↓s36_23, ↓s36_24, ↓s36_27, ↓s36_28, ↓s36_29, ↓s36_32, ↓s36_33, ↓s36_36, ↓s36_37, ↓s36_39, ↓s36_42, ↓s36_45, ↓s36_46, ↓s36_49, ↓s36_52, ↓s36_53, ↓s36_56, ↓s36_59, ↓s36_60, ↓s36_63, ↓s36_66, ↓s36_69, ↓s36_70, ↓s36_73, ↓s36_76, ↓s36_77, ↓s36_80, kNLn, kNLi, kNLr, va_rf_s, kOl_n, kOl_s, kap_n, kap_c, kb0, kb1, kbif]
    exact loop 161 0 tT0 false 0 0 mi2 rfl (Nat.le_refl _) (Nat.zero_le _) tT0_ok (fP_tr fI (fP_fK f2 (by decide))) hk ⟨b4, b6, b7, b8, b9⟩ (cTold_fK tI f2 (by decide) (by decide)) rfl
  · have eG : textF B n 161 tT0 false 0 0 = .inl (1, tB B n 0) := if_pos hk
    have eg : gtx B n = .inl (1, tB B n 0) := by
      unfold gtx
      rw [eG]
    have nb : ¬ mi2 28 4 = 0 := by rw [b4]; decide
    simp only [↓s36_0, ↓s36_1, ↓s36_4, ↓s36_7, ↓s36_8, ↓s36_9, ↓s36_12, ↓s36_13, ↓s36_14, ↓s36_17, ↓s36_18, ↓s36_19, ↓s36_22, ↓s36_23, ↓s36_24, ↓s36_27, ↓s36_28, ↓s36_29, ↓s36_32, ↓s36_33, ↓s36_36, ↓s36_37, ↓s36_39, ↓s36_42, ↓s36_45, ↓s36_46, ↓s36_49, ↓s36_52, ↓s36_53, ↓s36_56, ↓s36_59, ↓s36_60, ↓s36_63, ↓s36_66, ↓s36_69, ↓s36_70, ↓s36_73, ↓s36_76, ↓s36_77, ↓s36_80, ↓J_allE nb, kNLn, kNLi, kNLr, va_rf_s, kOl_n, kOl_s, kap_n, kap_c, kb0, kb1, kbif]
    exact hQ1 _ eg mi2 (fP_tr fI (fP_fK f2 (by decide))) ⟨b4, b5⟩
/-- behind a text with a fault -/
theorem CI_bad {mi mi' : Nat → Nat → Int32} {F : Nat} (h : CI S mi) (f : fP mi mi') : CI (S.1, S.2.1, (0, S.2.2.1.2), F, S.2.2.2.2) (kup (kup mi' 28 1 (nI 0)) 0 9 (nI F)) := by
  have e : ∀ q, ¬ (q = 28 ∨ (30 ≤ q ∧ q ≤ 43)) → q ≠ 0 → kup (kup mi' 28 1 (nI 0)) 0 9 (nI F) q = mi q := fun q hq h0 => by rw [kup_ne h0, kup_ne (by omega)]; exact f.1 q hq
  refine ⟨kCR_eq (fun q a b => e q (by omega) (by omega)) h.1, fun k hk => cImg_eq (e 45 (by omega) (by omega)) (fun q a b => e q (by omega) (by omega)) (h.2.1 k hk), ⟨?_, fun j hj => absurd hj (Nat.not_lt_zero j)⟩, ?_, fun k hk => cSh_eq (e _ (by omega) (by omega)) (e _ (by omega) (by omega)) (h.2.2.2.2.1 k hk), ?_⟩
  · rw [kup_ne (by decide), kup_eq, pk_us]
  · rw [kup_eq, pk_us]
  · rw [kup_eq, pk_un (by decide), kup_ne (by decide), f.1 0 (by omega)]; exact h.2.2.2.2.2
def gtS (S : gS) (T : tT) : gS := (T, fun _ => none, (0, S.2.2.1.2), 0, S.2.2.2.2)
theorem C_text (h : CI S mi) (hg : gOK S)
    (hQ1 : ∀ F, gtx S.2.2.1.2 S.2.2.1.1 = .inl F → ∀ mi', CI (S.1, S.2.1, (0, S.2.2.1.2), F.1, S.2.2.2.2) mi' → fC mi mi' → Q (some (.int ((-10) - nI F.2))) (mi', ml, MR, 95))
    (hQ2 : ∀ T ln, gtx S.2.2.1.2 S.2.2.1.1 = .inr (T, ln) → ∀ mi', CI (gtS S T) mi' → fC mi mi' → Q (some (.int (nI ln))) (mi', ml, MR, 95)) :
    kJ 54 0 [some (.ref 0), none] [] (mi, ml, MR, 95) Q := by
  have hR : tR S.2.2.1.1 S.2.2.1.2 mi := ⟨hg.2.2.1, h.2.2.1.1, h.2.2.1.2⟩
  simp only [↓s54_0, ↓s54_1, ↓s54_4, ↓s54_7, ↓s54_8, ↓s54_11, ↓s54_12, ↓s54_15, ↓s54_16, ↓s54_17, ↓s54_20, ↓s54_23, ↓s54_26, ↓s54_27, ↓s54_30, ↓s54_33, ↓s54_35, ↓s54_36, ↓s54_39, ↓s54_42, ↓s54_43, ↓s54_44, ↓s54_45, ↓s54_48, ↓s54_49, ↓s54_52, ↓s54_55, ↓s54_58, ↓s54_59, ↓s54_61, ↓s54_62, ↓s54_65, ↓s54_66, ↓s54_69, ↓s54_70, ↓s54_71, ↓s54_72, ↓s54_75, ↓s54_78, ↓s54_79, ↓s54_82, ↓s54_85, kNLn, kNLi, kNLr, va_rf_s, kOl_n, kOl_s, kap_n, kap_c, kb0, kb1, kbif, ki_0, ki_28, mr_0_3]
  refine J_tellAll hR (fun F eF mi2 f2 b => ?_) (fun T ln eF mi2 f2 b4 b3 t2 => ?_)
  · obtain ⟨F0, F6⟩ := gtx_f eF
    have k4 : kup mi2 28 1 (nI 0) 28 4 = nI F.1 := by rw [kup_eq, pk_un (by decide)]; exact b.1
    have k9 : kup (kup mi2 28 1 (nI 0)) 0 9 (nI F.1) 0 9 = nI F.1 := by rw [kup_eq, pk_us]
    have k5 : kup (kup mi2 28 1 (nI 0)) 0 9 (nI F.1) 28 5 = nI F.2 := by rw [kup_ne (by decide), kup_eq, pk_un (by decide)]; exact b.2
    have nz : ¬ nI F.1 = 0 := nI_ne0 (by omega) (by omega)
    simp only [↓s54_0, ↓s54_1, ↓s54_4, ↓s54_7, ↓s54_8, ↓s54_11, ↓s54_12, ↓s54_15, ↓s54_16, ↓s54_17, ↓s54_20, ↓s54_23, ↓s54_26, ↓s54_27, ↓s54_30, ↓s54_33, ↓s54_35, ↓s54_36, ↓s54_39, ↓s54_42, ↓s54_43, ↓s54_44, ↓s54_45, ↓s54_48, ↓s54_49, ↓s54_52, ↓s54_55, ↓s54_58, ↓s54_59, ↓s54_61, ↓s54_62, ↓s54_65, ↓s54_66, ↓s54_69, ↓s54_70, ↓s54_71, ↓s54_72, ↓s54_75, ↓s54_78, ↓s54_79, ↓s54_82, ↓s54_85, kNLn, kNLi, kNLr, va_rf_s, kOl_n, kOl_s, kap_n, kap_c, kb0, kb1, kbif, zif, z0, z1, Bool.false_eq_true, eq_self, not_true_eq_false, not_false_eq_true, if_true, if_false, and_self, true_and, false_and, and_true, and_false, ki_0, ki_28, mr_0_3, k4, k9, k5, nz]
    exact hQ1 F eF _ (CI_bad h f2) (fun q hq => by rw [kup_ne (by omega), kup_ne (by omega)]; exact f2.1 q (by omega))
  · have hT := gtx_good eF
    have k4 : kup mi2 28 1 (nI 0) 28 4 = nI 0 := by rw [kup_eq, pk_un (by decide)]; exact b4
    have k9 : kup (kup mi2 28 1 (nI 0)) 0 9 (nI 0) 0 9 = nI 0 := by rw [kup_eq, pk_us]
    simp only [↓s54_0, ↓s54_1, ↓s54_4, ↓s54_7, ↓s54_8, ↓s54_11, ↓s54_12, ↓s54_15, ↓s54_16, ↓s54_17, ↓s54_20, ↓s54_23, ↓s54_26, ↓s54_27, ↓s54_30, ↓s54_33, ↓s54_35, ↓s54_36, ↓s54_39, ↓s54_42, ↓s54_43, ↓s54_44, ↓s54_45, ↓s54_48, ↓s54_49, ↓s54_52, ↓s54_55, ↓s54_58, ↓s54_59, ↓s54_61, ↓s54_62, ↓s54_65, ↓s54_66, ↓s54_69, ↓s54_70, ↓s54_71, ↓s54_72, ↓s54_75, ↓s54_78, ↓s54_79, ↓s54_82, ↓s54_85, kNLn, kNLi, kNLr, va_rf_s, kOl_n, kOl_s, kap_n, kap_c, kb0, kb1, kbif, zif, z0, z1, Bool.false_eq_true, eq_self, not_true_eq_false, not_false_eq_true, if_true, if_false, and_self, true_and, false_and, and_true, and_false, ki_0, ki_1, ki_28, ki_30, mr_0_0, mr_0_3, mr_28_2, k4, k9]
    have t3 : kCR 30 T (kup (kup mi2 28 1 (nI 0)) 0 9 (nI 0)) := kCR_eq (fun q a b => by rw [kup_ne (by omega), kup_ne (by omega)]) t2
    refine C_copy_1_30 t3 hT.1 (fun mi4 h4 f4 => ?_)
    have nle2 : ¬ nI 2 ≤ nI 0 := by decide
    have nle3 : ¬ nI 2 ≤ nI 1 := by decide
    have le2 : nI 2 ≤ nI 2 := by decide
    have c0 : (nI 0).toNatClampNeg = 0 := rfl
    have v0 : vp_in (nI 0) 2 := vp_in_nI (by decide) (by decide)
    have c1 : (nI 1).toNatClampNeg = 1 := rfl
    have v1 : vp_in (nI 1) 2 := vp_in_nI (by decide) (by decide)
    have za : nI 0 &&& 1 = nI 0 := by decide
    have e01 : nI 0 + nI 1 = nI 1 := by decide
    have e12 : nI 1 + nI 1 = nI 2 := by decide
    simp only [↓s54_0, ↓s54_1, ↓s54_4, ↓s54_7, ↓s54_8, ↓s54_11, ↓s54_12, ↓s54_15, ↓s54_16, ↓s54_17, ↓s54_20, ↓s54_23, ↓s54_26, ↓s54_27, ↓s54_30, ↓s54_33, ↓s54_35, ↓s54_36, ↓s54_39, ↓s54_42, ↓s54_43, ↓s54_44, ↓s54_45, ↓s54_48, ↓s54_49, ↓s54_52, ↓s54_55, ↓s54_58, ↓s54_59, ↓s54_61, ↓s54_62, ↓s54_65, ↓s54_66, ↓s54_69, ↓s54_70, ↓s54_71, ↓s54_72, ↓s54_75, ↓s54_78, ↓s54_79, ↓s54_82, ↓s54_85, kNLn, kNLi, kNLr, va_rf_s, kOl_n, kOl_s, kap_n, kap_c, kb0, kb1, kbif]
    rw [s54_60]
    simp only [↓s54_0, ↓s54_1, ↓s54_4, ↓s54_7, ↓s54_8, ↓s54_11, ↓s54_12, ↓s54_15, ↓s54_16, ↓s54_17, ↓s54_20, ↓s54_23, ↓s54_26, ↓s54_27, ↓s54_30, ↓s54_33, ↓s54_35, ↓s54_36, ↓s54_39, ↓s54_42, ↓s54_43, ↓s54_44, ↓s54_45, ↓s54_48, ↓s54_49, ↓s54_52, ↓s54_55, ↓s54_58, ↓s54_59, ↓s54_61, ↓s54_62, ↓s54_65, ↓s54_66, ↓s54_69, ↓s54_70, ↓s54_71, ↓s54_72, ↓s54_75, ↓s54_78, ↓s54_79, ↓s54_82, ↓s54_85, kNLn, kNLi, kNLr, va_rf_s, kOl_n, kOl_s, kap_n, kap_c, kb0, kb1, kbif, zif, z0, z1, Bool.false_eq_true, eq_self, not_true_eq_false, not_false_eq_true, if_true, if_false, and_self, true_and, false_and, and_true, and_false, nle2, ki_0, ki_45, kl_45, mr_0_5, c0, v0, za, e01]
    rw [s54_60]
    simp only [↓s54_0, ↓s54_1, ↓s54_4, ↓s54_7, ↓s54_8, ↓s54_11, ↓s54_12, ↓s54_15, ↓s54_16, ↓s54_17, ↓s54_20, ↓s54_23, ↓s54_26, ↓s54_27, ↓s54_30, ↓s54_33, ↓s54_35, ↓s54_36, ↓s54_39, ↓s54_42, ↓s54_43, ↓s54_44, ↓s54_45, ↓s54_48, ↓s54_49, ↓s54_52, ↓s54_55, ↓s54_58, ↓s54_59, ↓s54_61, ↓s54_62, ↓s54_65, ↓s54_66, ↓s54_69, ↓s54_70, ↓s54_71, ↓s54_72, ↓s54_75, ↓s54_78, ↓s54_79, ↓s54_82, ↓s54_85, kNLn, kNLi, kNLr, va_rf_s, kOl_n, kOl_s, kap_n, kap_c, kb0, kb1, kbif, zif, z0, z1, Bool.false_eq_true, eq_self, not_true_eq_false, not_false_eq_true, if_true, if_false, and_self, true_and, false_and, and_true, and_false, nle3, ki_0, ki_45, kl_45, mr_0_5, c1, v1, za, e12]
    rw [s54_60]
    have k3 : kup (kup mi4 45 0 (nI 0)) 45 1 (nI 0) 28 3 = nI ln := by
      rw [kup_ne (by decide), kup_ne (by decide), f4 28 (by omega), kup_ne (by decide), kup_eq, pk_un (by decide)]; exact b3
    simp only [↓s54_0, ↓s54_1, ↓s54_4, ↓s54_7, ↓s54_8, ↓s54_11, ↓s54_12, ↓s54_15, ↓s54_16, ↓s54_17, ↓s54_20, ↓s54_23, ↓s54_26, ↓s54_27, ↓s54_30, ↓s54_33, ↓s54_35, ↓s54_36, ↓s54_39, ↓s54_42, ↓s54_43, ↓s54_44, ↓s54_45, ↓s54_48, ↓s54_49, ↓s54_52, ↓s54_55, ↓s54_58, ↓s54_59, ↓s54_61, ↓s54_62, ↓s54_65, ↓s54_66, ↓s54_69, ↓s54_70, ↓s54_71, ↓s54_72, ↓s54_75, ↓s54_78, ↓s54_79, ↓s54_82, ↓s54_85, kNLn, kNLi, kNLr, va_rf_s, kOl_n, kOl_s, kap_n, kap_c, kb0, kb1, kbif, zif, z0, z1, Bool.false_eq_true, eq_self, not_true_eq_false, not_false_eq_true, if_true, if_false, and_self, true_and, false_and, and_true, and_false, le2, ki_0, ki_28, mr_0_3, k3]
    have e : ∀ q, ¬ (q = 28 ∨ (30 ≤ q ∧ q ≤ 43)) → q ≠ 0 → ¬ (1 ≤ q ∧ q ≤ 13) → q ≠ 45 → kup (kup mi4 45 0 (nI 0)) 45 1 (nI 0) q = mi q := fun q a b c d => by
      rw [kup_ne d, kup_ne d, f4 q (by omega), kup_ne b, kup_ne (by omega)]; exact f2.1 q a
    refine hQ2 T ln eF _ ⟨kCR_eq (fun q a b => by rw [kup_ne (by omega), kup_ne (by omega)]) h4, fun k hk => ?_, ⟨?_, fun j hj => absurd hj (Nat.not_lt_zero j)⟩, ?_, fun k hk => cSh_eq (e _ (by omega) (by omega) (by omega) (by omega)) (e _ (by omega) (by omega) (by omega) (by omega)) (h.2.2.2.2.1 k hk), ?_⟩ (fun q hq => e q (by omega) (by omega) (by omega) (by omega))
    · show kup (kup mi4 45 0 (nI 0)) 45 1 (nI 0) 45 k = nI 0
      rw [kup_eq]
      by_cases e1 : k = 1
      · rw [e1, pk_us]
      · rw [pk_un e1, kup_eq, show k = 0 by omega, pk_us]
    · rw [kup_ne (by decide), kup_ne (by decide), f4 28 (by omega), kup_ne (by decide), kup_eq, pk_us]; rfl
    · rw [kup_ne (by decide), kup_ne (by decide), f4 0 (by omega), kup_eq, pk_us]; rfl
    · rw [kup_ne (by decide), kup_ne (by decide), f4 0 (by omega), kup_eq, pk_un (by decide), kup_ne (by decide), f2.1 0 (by omega)]; exact h.2.2.2.2.2
end CTEXT
