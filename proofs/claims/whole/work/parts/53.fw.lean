/-! both sides of one call -/
def bC (y : Nat) (ls : kLcs) (S S' : gS) (r : Value) : Prop := ∀ (mi : Nat → Nat → Int32) (ml : Nat → Nat → Int64) (Q : Option Value → kMem → Prop), CI S mi → (∀ mi', CI S' mi' → fC mi mi' → Q (some r) (mi', ml, MR, 95)) → kJ y 0 ls [] (mi, ml, MR, 95) Q
def bR (y : Nat) (ls : kLcs) (S S' : gS) (r : Value) : Prop := ∀ (mi : Nat → Nat → Int32) (ml : Nat → Nat → Int64) (Q : Option Value → kMem → Prop), RI S mi → (∀ mi' ml', RI S' mi' → fR mi mi' → Q (some r) (mi', ml', MR, 95)) → kJ y 0 ls [] (mi, ml, MR, 95) Q
def bB (yC : Nat) (lC : kLcs) (yR : Nat) (lR : kLcs) (S : gS) : Prop := ∃ (S' : gS) (r : Int32), gOK S' ∧ bC yC lC S S' (.int r) ∧ bR yR lR S S' (.int r)
def bL (yC : Nat) (lC : kLcs) (yR : Nat) (lR : kLcs) (S : gS) : Prop := ∃ (S' : gS) (r : Int64), gOK S' ∧ bC yC lC S S' (.long r) ∧ bR yR lR S S' (.long r)
theorem bC_e {y : Nat} {ls : kLcs} {S : gS} {r : Value} (h : ∀ mi ml Q, CI S mi → kJ y 0 ls [] (mi, ml, MR, 95) Q = Q (some r) (mi, ml, MR, 95)) : bC y ls S S r := fun mi ml Q hc hQ => by
  rw [h mi ml Q hc]; exact hQ mi hc fC_rf
theorem bR_e {y : Nat} {ls : kLcs} {S : gS} {r : Value} (h : ∀ mi ml Q, RI S mi → kJ y 0 ls [] (mi, ml, MR, 95) Q = Q (some r) (mi, ml, MR, 95)) : bR y ls S S r := fun mi ml Q hc hQ => by
  rw [h mi ml Q hc]; exact hQ mi ml hc fR_rf
theorem bB_e {yC yR : Nat} {lC lR : kLcs} {S : gS} (hg : gOK S) (r : Int32) (h1 : ∀ mi ml Q, CI S mi → kJ yC 0 lC [] (mi, ml, MR, 95) Q = Q (some (.int r)) (mi, ml, MR, 95)) (h2 : ∀ mi ml Q, RI S mi → kJ yR 0 lR [] (mi, ml, MR, 95) Q = Q (some (.int r)) (mi, ml, MR, 95)) : bB yC lC yR lR S := ⟨S, r, hg, bC_e h1, bR_e h2⟩
/-- changes that leave the state alone -/
def wC (f g : Nat → Nat → Int32) : Prop := ∀ q, ¬ (14 ≤ q ∧ q ≤ 27) → q ≠ 47 → q ≠ 48 → g q = f q
def wR (f g : Nat → Nat → Int32) : Prop := (∀ q, q ≠ 83 → q ≠ 85 → q ≠ 89 → q ≠ 90 → g q = f q) ∧ ∀ k, k < 14 ∨ 18 ≤ k → g 83 k = f 83 k
theorem wC_rf {f : Nat → Nat → Int32} : wC f f := fun _ _ _ _ => rfl
theorem wR_rf {f : Nat → Nat → Int32} : wR f f := ⟨fun _ _ _ _ _ => rfl, fun _ _ => rfl⟩
theorem wC_tr {f g h : Nat → Nat → Int32} (h1 : wC f g) (h2 : wC g h) : wC f h := fun q a b c => (h2 q a b c).trans (h1 q a b c)
theorem wR_tr {f g h : Nat → Nat → Int32} (h1 : wR f g) (h2 : wR g h) : wR f h := ⟨fun q a b c d => (h2.1 q a b c d).trans (h1.1 q a b c d), fun k hk => (h2.2 k hk).trans (h1.2 k hk)⟩
theorem wC_14 {f g : Nat → Nat → Int32} (h : kFr 14 f g) : wC f g := fun q a b c => h q (by omega)
theorem wC_up {f : Nat → Nat → Int32} {q k : Nat} {v : Int32} (h : (14 ≤ q ∧ q ≤ 27) ∨ q = 47 ∨ q = 48) : wC f (kup f q k v) := fun a b c d => kup_ne (by omega)
theorem wR_q {f g : Nat → Nat → Int32} (h : kFq f g) : wR f g := ⟨fun q a b c d => h.1 q a b, fun k hk => h.2 k (by omega) (by omega)⟩
theorem wR_up {f : Nat → Nat → Int32} {q k : Nat} {v : Int32} (h : q = 85 ∨ q = 89 ∨ q = 90 ∨ (q = 83 ∧ 14 ≤ k ∧ k < 18)) : wR f (kup f q k v) := ⟨fun a b c d e => kup_ne (by omega), fun j hj => by
  by_cases e : q = 83
  · subst e; rw [kup_eq, pk_un (by omega)]
  · rw [kup_ne (by omega)]⟩
theorem CI_w {S : gS} {f g : Nat → Nat → Int32} (h : CI S f) (e : wC f g) : CI S g := CI_T (T := S.1) h (kCR_eq (fun q a b => e q (by omega) (by omega) (by omega)) h.1) (fun q hq => e q (by omega) (by omega) (by omega))
theorem RI_w {S : gS} {f g : Nat → Nat → Int32} (h : RI S f) (e : wR f g) : RI S g := RI_T (T := S.1) h (by rw [e.1 84 (by omega) (by omega) (by omega) (by omega)]; exact h.1) ⟨fun q hq => e.1 q (by omega) (by omega) (by omega) (by omega), fun k hk => e.2 k (by omega), fun j hj => by rw [e.1 84 (by omega) (by omega) (by omega) (by omega)]⟩
theorem fC_w {f g : Nat → Nat → Int32} (e : wC f g) : fC f g := fun q hq => e q (by omega) (by omega) (by omega)
theorem fR_w {f g : Nat → Nat → Int32} (e : wR f g) : fR f g := fun q hq => e.1 q (by omega) (by omega) (by omega) (by omega)
theorem kCR1_w {T : tT} {f g : Nat → Nat → Int32} (h : kCR 1 T f) (e : wC f g) : kCR 1 T g := kCR_eq (fun q a b => e q (by omega) (by omega) (by omega)) h
theorem kRR_w {T : tT} {f g : Nat → Nat → Int32} (h : kRR (f 84) T) (e : wR f g) : kRR (g 84) T := by
  rw [e.1 84 (by omega) (by omega) (by omega) (by omega)]; exact h
/-- a call that answers and leaves the state -/
theorem bB_w {yC yR : Nat} {lC lR : kLcs} {S : gS} (hg : gOK S) (r : Int32) (h1 : ∀ mi ml Q, CI S mi → (∀ mi', wC mi mi' → Q (some (.int r)) (mi', ml, MR, 95)) → kJ yC 0 lC [] (mi, ml, MR, 95) Q) (h2 : ∀ mi ml Q, RI S mi → (∀ mi', wR mi mi' → Q (some (.int r)) (mi', ml, MR, 95)) → kJ yR 0 lR [] (mi, ml, MR, 95) Q) : bB yC lC yR lR S :=
  ⟨S, r, hg, fun mi ml Q hc hQ => h1 mi ml Q hc (fun mi' e => hQ mi' (CI_w hc e) (fC_w e)), fun mi ml Q hc hQ => h2 mi ml Q hc (fun mi' e => hQ mi' ml (RI_w hc e) (fR_w e))⟩
/-- up to n by steps, backwards -/
theorem nUp {n : Nat} {P : Nat → Prop} (hl : P n) (hs : ∀ i, i < n → P (i + 1) → P i) : ∀ i, i ≤ n → P i := by
  intro i hi
  obtain ⟨k, hk⟩ : ∃ k, i + k = n := ⟨n - i, by omega⟩
  induction k generalizing i with
  | zero => rw [show i = n by omega]; exact hl
  | succ k ih => exact hs i (by omega) (ih (i + 1) (by omega) (by omega))
theorem nI_lit {a b : Nat} (ha : a < 2 ^ 31) (hb : b < 2 ^ 31) : (nI a = nI b) = (a = b) := propext (nI_eq ha hb)
theorem nI_litle {a b : Nat} (ha : a < 2 ^ 31) (hb : b < 2 ^ 31) : (nI a ≤ nI b) = (a ≤ b) := by
  apply propext
  constructor
  · intro h
    exact Nat.le_of_not_lt (fun z => nI_ge z (by omega) h)
  · intro h
    exact nI_le h (by omega)
theorem nI_litlt {a b : Nat} (ha : a < 2 ^ 31) (hb : b < 2 ^ 31) : (nI a < nI b) = (a < b) := by
  apply propext
  constructor
  · intro h
    exact Nat.lt_of_not_le (fun z => Int32.not_le.mpr h (nI_le z (by omega)))
  · intro h
    exact Int32.not_le.mp (nI_ge h (by omega))
theorem nI_litz {a : Nat} (ha : a < 2 ^ 31) : (nI a = 0) = (a = 0) := kz ha
theorem gin_ne {x : Int32} {n k : Nat} (h : ¬ gin x n = true) (hk : k < n) (hn : n < 2 ^ 31) : (x = nI k) = False := eq_false (fun e => h (by rw [e]; exact gin_nI hk hn))
theorem nl_0_1 : (nI 0 = nI 1) = False := by decide
theorem nl_0_2 : (nI 0 = nI 2) = False := by decide
theorem nl_0_3 : (nI 0 = nI 3) = False := by decide
theorem nl_0_4 : (nI 0 = nI 4) = False := by decide
theorem nl_0_5 : (nI 0 = nI 5) = False := by decide
theorem nl_0_6 : (nI 0 = nI 6) = False := by decide
theorem nl_1_0 : (nI 1 = nI 0) = False := by decide
theorem nl_1_2 : (nI 1 = nI 2) = False := by decide
theorem nl_1_3 : (nI 1 = nI 3) = False := by decide
theorem nl_1_4 : (nI 1 = nI 4) = False := by decide
theorem nl_1_5 : (nI 1 = nI 5) = False := by decide
theorem nl_1_6 : (nI 1 = nI 6) = False := by decide
theorem nl_2_0 : (nI 2 = nI 0) = False := by decide
theorem nl_2_1 : (nI 2 = nI 1) = False := by decide
theorem nl_2_3 : (nI 2 = nI 3) = False := by decide
theorem nl_2_4 : (nI 2 = nI 4) = False := by decide
theorem nl_2_5 : (nI 2 = nI 5) = False := by decide
theorem nl_2_6 : (nI 2 = nI 6) = False := by decide
theorem nl_3_0 : (nI 3 = nI 0) = False := by decide
theorem nl_3_1 : (nI 3 = nI 1) = False := by decide
theorem nl_3_2 : (nI 3 = nI 2) = False := by decide
theorem nl_3_4 : (nI 3 = nI 4) = False := by decide
theorem nl_3_5 : (nI 3 = nI 5) = False := by decide
theorem nl_3_6 : (nI 3 = nI 6) = False := by decide
theorem nl_4_0 : (nI 4 = nI 0) = False := by decide
theorem nl_4_1 : (nI 4 = nI 1) = False := by decide
theorem nl_4_2 : (nI 4 = nI 2) = False := by decide
theorem nl_4_3 : (nI 4 = nI 3) = False := by decide
theorem nl_4_5 : (nI 4 = nI 5) = False := by decide
theorem nl_4_6 : (nI 4 = nI 6) = False := by decide
theorem nl_5_0 : (nI 5 = nI 0) = False := by decide
theorem nl_5_1 : (nI 5 = nI 1) = False := by decide
theorem nl_5_2 : (nI 5 = nI 2) = False := by decide
theorem nl_5_3 : (nI 5 = nI 3) = False := by decide
theorem nl_5_4 : (nI 5 = nI 4) = False := by decide
theorem nl_5_6 : (nI 5 = nI 6) = False := by decide
theorem nl_6_0 : (nI 6 = nI 0) = False := by decide
theorem nl_6_1 : (nI 6 = nI 1) = False := by decide
theorem nl_6_2 : (nI 6 = nI 2) = False := by decide
theorem nl_6_3 : (nI 6 = nI 3) = False := by decide
theorem nl_6_4 : (nI 6 = nI 4) = False := by decide
theorem nl_6_5 : (nI 6 = nI 5) = False := by decide
theorem nz_1 : (nI 1 = 0) = False := by decide
theorem nz_2 : (nI 2 = 0) = False := by decide
theorem nz_3 : (nI 3 = 0) = False := by decide
theorem nz_4 : (nI 4 = 0) = False := by decide
theorem nz_5 : (nI 5 = 0) = False := by decide
theorem nz_6 : (nI 6 = 0) = False := by decide
section INST
variable {m : kMem} {Q : Option Value → kMem → Prop} {x : Int32}
theorem J_w127 : kJ 90 0 [some (.int x), some (.int (nI 0)), some (.int (nI 127))] [] m Q = Q (some (.int (if gin x 128 = true then nI 1 else nI 0))) m := J_withinG (by decide)
theorem J_w60 : kJ 90 0 [some (.int x), some (.int (nI 0)), some (.int (nI 60))] [] m Q = Q (some (.int (if gin x 61 = true then nI 1 else nI 0))) m := J_withinG (by decide)
theorem J_w30 : kJ 90 0 [some (.int x), some (.int (nI 0)), some (.int (nI 30))] [] m Q = Q (some (.int (if gin x 31 = true then nI 1 else nI 0))) m := J_withinG (by decide)
theorem J_w20 : kJ 90 0 [some (.int x), some (.int (nI 0)), some (.int (nI 20))] [] m Q = Q (some (.int (if gin x 21 = true then nI 1 else nI 0))) m := J_withinG (by decide)
theorem J_w18 : kJ 90 0 [some (.int x), some (.int (nI 0)), some (.int (nI 18))] [] m Q = Q (some (.int (if gin x 19 = true then nI 1 else nI 0))) m := J_withinG (by decide)
theorem J_w10 : kJ 90 0 [some (.int x), some (.int (nI 0)), some (.int (nI 10))] [] m Q = Q (some (.int (if gin x 11 = true then nI 1 else nI 0))) m := J_withinG (by decide)
theorem J_w9 : kJ 90 0 [some (.int x), some (.int (nI 0)), some (.int (nI 9))] [] m Q = Q (some (.int (if gin x 10 = true then nI 1 else nI 0))) m := J_withinG (by decide)
theorem J_w8 : kJ 90 0 [some (.int x), some (.int (nI 0)), some (.int (nI 8))] [] m Q = Q (some (.int (if gin x 9 = true then nI 1 else nI 0))) m := J_withinG (by decide)
theorem J_w3 : kJ 90 0 [some (.int x), some (.int (nI 0)), some (.int (nI 3))] [] m Q = Q (some (.int (if gin x 4 = true then nI 1 else nI 0))) m := J_withinG (by decide)
theorem J_w2 : kJ 90 0 [some (.int x), some (.int (nI 0)), some (.int (nI 2))] [] m Q = Q (some (.int (if gin x 3 = true then nI 1 else nI 0))) m := J_withinG (by decide)
theorem J_w1 : kJ 90 0 [some (.int x), some (.int (nI 0)), some (.int (nI 1))] [] m Q = Q (some (.int (if gin x 2 = true then nI 1 else nI 0))) m := J_withinG (by decide)
theorem R_in0 {n : Nat} {hi : Int64} (hh : hi.toInt = (n : Int) - 1) : kJ 107 0 [some (.long x.toInt64), none, some (.long 0), none, some (.long hi), none] [] m Q = Q (some (.int (if gin x n = true then nI 1 else nI 0))) m := by
  rw [R_in]
  simp only [gin_r hh]
theorem R_i127 : kJ 107 0 [some (.long x.toInt64), none, some (.long 0), none, some (.long 127), none] [] m Q = Q (some (.int (if gin x 128 = true then nI 1 else nI 0))) m := R_in0 (by decide)
theorem R_i30 : kJ 107 0 [some (.long x.toInt64), none, some (.long 0), none, some (.long 30), none] [] m Q = Q (some (.int (if gin x 31 = true then nI 1 else nI 0))) m := R_in0 (by decide)
theorem R_i20 : kJ 107 0 [some (.long x.toInt64), none, some (.long 0), none, some (.long 20), none] [] m Q = Q (some (.int (if gin x 21 = true then nI 1 else nI 0))) m := R_in0 (by decide)
theorem R_i10 : kJ 107 0 [some (.long x.toInt64), none, some (.long 0), none, some (.long 10), none] [] m Q = Q (some (.int (if gin x 11 = true then nI 1 else nI 0))) m := R_in0 (by decide)
theorem R_i9 : kJ 107 0 [some (.long x.toInt64), none, some (.long 0), none, some (.long 9), none] [] m Q = Q (some (.int (if gin x 10 = true then nI 1 else nI 0))) m := R_in0 (by decide)
theorem R_i8 : kJ 107 0 [some (.long x.toInt64), none, some (.long 0), none, some (.long 8), none] [] m Q = Q (some (.int (if gin x 9 = true then nI 1 else nI 0))) m := R_in0 (by decide)
theorem R_i5 : kJ 107 0 [some (.long x.toInt64), none, some (.long 0), none, some (.long 5), none] [] m Q = Q (some (.int (if gin x 6 = true then nI 1 else nI 0))) m := R_in0 (by decide)
theorem R_i3 : kJ 107 0 [some (.long x.toInt64), none, some (.long 0), none, some (.long 3), none] [] m Q = Q (some (.int (if gin x 4 = true then nI 1 else nI 0))) m := R_in0 (by decide)
theorem R_i2 : kJ 107 0 [some (.long x.toInt64), none, some (.long 0), none, some (.long 2), none] [] m Q = Q (some (.int (if gin x 3 = true then nI 1 else nI 0))) m := R_in0 (by decide)
theorem R_i1 : kJ 107 0 [some (.long x.toInt64), none, some (.long 0), none, some (.long 1), none] [] m Q = Q (some (.int (if gin x 2 = true then nI 1 else nI 0))) m := R_in0 (by decide)
end INST
/-! pictures under frames -/
theorem cImg_eq {o : Option tT} {k : Nat} {f g : Nat → Nat → Int32} (e1 : g 45 = f 45) (e2 : ∀ q, 49 + 13 * k ≤ q → q ≤ 61 + 13 * k → g q = f q) (h : cImg o k f) : cImg o k g := by
  cases o with
  | none => exact (congrFun e1 k).trans h
  | some U => exact ⟨(congrFun e1 k).trans h.1, kCR_eq (fun q a b => e2 q a (by omega)) h.2⟩
theorem cSh_eq {o : Option (Nat × Nat × (Nat → Int32))} {k : Nat} {f g : Nat → Nat → Int32} (e1 : g (75 + 2 * k) = f (75 + 2 * k)) (e2 : g (76 + 2 * k) = f (76 + 2 * k)) (h : cSh o k f) : cSh o k g := by
  cases o with
  | none => exact (congrFun e1 0).trans h
  | some x =>
    obtain ⟨l, n, c⟩ := x
    exact ⟨(congrFun e1 0).trans h.1, (congrFun e1 2).trans h.2.1, fun j hj => (congrFun e2 j).trans (h.2.2 j hj)⟩
theorem rImg_eq {o : Option tT} {k : Nat} {f g : Nat → Nat → Int32} (e1 : g 86 = f 86) (e2 : ∀ j, 74 * (k + 1) ≤ j → j < 74 * (k + 2) → g 84 j = f 84 j) (ho : ∀ U, o = some U → tOK U) (h : rImg o k f) : rImg o k g := by
  cases o with
  | none => exact (congrFun e1 k).trans h
  | some U => exact ⟨(congrFun e1 k).trans h.1, kRR_cong (ho U rfl) (fun j hj => e2 _ (by omega) (by omega)) h.2⟩
theorem rSh_eq {o : Option (Nat × Nat × (Nat → Int32))} {k : Nat} {f g : Nat → Nat → Int32} (e1 : g 91 k = f 91 k) (e2 : g 92 k = f 92 k) (e3 : ∀ j, 40 * k ≤ j → j < 40 * (k + 1) → g 93 j = f 93 j) (hn : ∀ l n c, o = some (l, n, c) → n ≤ 40) (h : rSh o k f) : rSh o k g := by
  cases o with
  | none => exact e1.trans h
  | some x =>
    obtain ⟨l, n, c⟩ := x
    exact ⟨e1.trans h.1, e2.trans h.2.1, fun j hj => (e3 _ (by omega) (by have := hn l n c rfl; omega)).trans (h.2.2 j hj)⟩
/-! the calls done before, in this form -/
section DONE
variable {S : gS}
theorem B_fault (hg : gOK S) : bB 55 [some (.ref 0)] 125 [some (.ref 83)] S := bB_e hg _ (fun _ _ _ h => C_fault h) (fun _ _ _ h => R_fault h)
theorem B_torn (hg : gOK S) : bB 88 [some (.ref 0)] 196 [some (.ref 83)] S := bB_e hg _ (fun _ _ _ h => C_torn h) (fun _ _ _ h => R_torn h)
theorem B_rule {x : Int32} (hg : gOK S) : bB 56 [some (.ref 0), some (.int x)] 149 [some (.ref 83), some (.int x)] S := ⟨S, _, hg, bC_e (fun _ _ _ h => C_rule h hg), fun _ ml _ h hQ => R_rule h hg (fun mi' a b => hQ mi' ml a b)⟩
theorem gOK_T {T : tT} (hg : gOK S) (h : tGood T) : gOK (T, S.2) := ⟨h, hg.2⟩
theorem B_pace {x : Int32} (hg : gOK S) : bB 62 [some (.ref 0), some (.int x), none] 157 [some (.ref 83), some (.int x)] S := by
  by_cases c : gpaceOK x
  · obtain ⟨v, hv, rfl⟩ := gin_of c.1 (by decide)
    have h0 : v ≠ 0 := fun z => c.2 (by rw [z])
    exact ⟨_, _, gOK_T hg (tGood_pace hg.1 ⟨by omega, by omega⟩), fun mi ml Q h hQ => C_pace_y h ⟨by omega, by omega⟩ hQ, fun mi ml Q h hQ => R_pace_y h hg ⟨by omega, by omega⟩ (fun mi' a b => hQ mi' ml a b)⟩
  · exact bB_e hg _ (fun _ _ _ h => C_pace_n c) (fun _ _ _ h => R_pace_n c)
theorem B_burn {x : Int32} (hg : gOK S) : bB 64 [some (.ref 0), some (.int x), none] 159 [some (.ref 83), some (.int x)] S := by
  by_cases c : gin x (S.1 0 4 + 1) = true
  · have o2 := hg.1.1.2.1
    obtain ⟨v, hv, rfl⟩ := gin_of c (by omega)
    exact ⟨_, _, gOK_T hg (tGood_sc hg.1 (Or.inl rfl) (by omega)), fun mi ml Q h hQ => C_burn_y h hg (by omega) hQ, fun mi ml Q h hQ => R_burn_y h hg (by omega) (fun mi' a b => hQ mi' ml a b)⟩
  · exact bB_e hg _ (fun _ _ _ h => C_burn_n h hg c) (fun _ _ _ h => R_burn_n h hg c)
theorem B_forget {x : Int32} (hg : gOK S) : bB 78 [some (.ref 0), some (.int x), none] 181 [some (.ref 83), some (.int x)] S := by
  by_cases c : gin x (S.1 0 13 + 1) = true
  · have o2 := hg.1.1.2.2.1
    obtain ⟨v, hv, rfl⟩ := gin_of c (by omega)
    exact ⟨_, _, gOK_T hg (tGood_sc hg.1 (Or.inr rfl) (by omega)), fun mi ml Q h hQ => C_forget_y h hg (by omega) hQ, fun mi ml Q h hQ => R_forget_y h hg (by omega) (fun mi' a b => hQ mi' ml a b)⟩
  · exact bB_e hg _ (fun _ _ _ h => C_forget_n h hg c) (fun _ _ _ h => R_forget_n h hg c)
theorem B_tone {x y : Int32} (hg : gOK S) : bB 61 [some (.ref 0), some (.int x), some (.int y)] 156 [some (.ref 83), some (.int x), some (.int y)] S := by
  have o2 := hg.1.1.2.1
  by_cases c : gin x (S.1 0 4) = true ∧ gin y 19 = true
  · obtain ⟨i, hi, rfl⟩ := gin_of c.1 (by omega)
    obtain ⟨v, hv, rfl⟩ := gin_of c.2 (by omega)
    by_cases w : tway S.1 i = true
    · exact ⟨_, _, gOK_T hg ⟨tOK_upL hg.1.1 (Or.inl ⟨rfl, by omega⟩), by rw [tup_n (by omega)]; exact hg.1.2⟩, fun mi ml Q h hQ => C_tone_y h hg hi hv w hQ, fun mi ml Q h hQ => R_tone_y h hg hi hv w (fun mi' a b => hQ mi' ml a b)⟩
    · exact bB_e hg _ (fun _ _ _ h => C_tone_s h hg hi hv w) (fun _ _ _ h => R_tone_s h hg hi hv w)
  · exact bB_e hg _ (fun _ _ _ h => C_tone_n h hg c) (fun _ _ _ h => R_tone_n h hg c)
end DONE
