/-! the text: lines -/
def bdF (K j : Nat) : Nat × Nat := if K = 5 then (1, 4) else if K = 4 then (0, if j < 3 then 4 else 18) else (0, if j = 0 then 9 else 20)
def wtF (K : Nat) : Nat := if K = 4 then 4 else if K = 5 then 1 else 2
def nmsF (B : Nat → Nat) (n K : Nat) : Nat → Nat → (Nat → Nat) → Nat → (Nat × Nat) ⊕ ((Nat → Nat) × Nat)
  | 0, _, vs, q => .inr (vs, q)
  | k + 1, j, vs, q => if tK B n q = 4 then .inl (1, tB B n q) else if tK B n q = 2 then (if (bdF K j).1 ≤ tV B n q ∧ tV B n q ≤ (bdF K j).2 then nmsF B n K k (j + 1) (nput vs j (tV B n q)) (tE B n q) else .inl (3, tB B n q)) else .inl (2, tB B n q)
def paddL (T : tT) (vs : Nat → Nat) : tT := tup (tup (tup (tup (tup T 4 (T 0 4) (vs 0)) 5 (T 0 4) (vs 1)) 6 (T 0 4) (vs 2)) 7 (T 0 4) (vs 3)) 0 4 (T 0 4 + 1)
def paddO (T : tT) (K : Nat) (vs : Nat → Nat) : tT := tup (tup (tup (tup T 1 (T 0 0) K) 2 (T 0 0) (vs 0)) 3 (T 0 0) (vs 1)) 0 0 (T 0 0 + 1)
def papF (T : tT) (K : Nat) (vs : Nat → Nat) : tT := if K = 5 then tup T 0 11 (vs 0) else if K = 4 then paddL T vs else paddO T K vs
def chkF (T : tT) (hp : Bool) (K : Nat) : Nat := if K = 6 then 2 else if K = 5 then (if hp = true then 4 else 0) else if K = 4 then (if T 0 4 < 6 then 0 else 5) else (if T 0 0 < 5 then 0 else 5)
def lnK (B : Nat → Nat) (n q : Nat) : Nat := if tK B n q = 1 then lnS B (tB B n q) (tE B n q) 6 0 else 6
def semF (B : Nat → Nat) (n : Nat) (T : tT) (hp : Bool) (K : Nat) (r : (Nat × Nat) ⊕ ((Nat → Nat) × Nat)) : (Nat × Nat) ⊕ (tT × Bool × Nat) := match r with
  | .inl f => .inl f
  | .inr (vs, q) => if tK B n q = 4 then .inl (1, tB B n q) else if tK B n q = 3 then .inr (papF T K vs, hp || decide (K = 5), tE B n q) else .inl (2, tB B n q)
def lineS (B : Nat → Nat) (n : Nat) (T : tT) (hp : Bool) (q : Nat) : (Nat × Nat) ⊕ (tT × Bool × Nat) :=
  if chkF T hp (lnK B n q) = 0 then semF B n T hp (lnK B n q) (nmsF B n (lnK B n q) (wtF (lnK B n q)) 0 (fun _ => 0) (tE B n q)) else .inl (chkF T hp (lnK B n q), tB B n q)
def textF (B : Nat → Nat) (n : Nat) : Nat → tT → Bool → Nat → Nat → (Nat × Nat) ⊕ (tT × Nat)
  | 0, T, _, ln, _ => .inr (T, ln)
  | k + 1, T, hp, ln, q => if tK B n q = 4 then .inl (1, tB B n q) else if tK B n q = 0 then .inr (T, ln) else (match lineS B n T hp q with
    | .inl f => .inl f
    | .inr (T', hp', q') => textF B n k T' hp' (ln + 1) q')
abbrev ok6 (T : tT) : Prop := ∀ i, i < T 0 4 → T 4 i < T 0 0 ∧ T 5 i < T 0 0 ∧ T 6 i < T 0 0
def pfin (T : tT) : tT := fun r k => if r = 8 then T 2 (T 4 k) else if r = 9 then 0 else if r = 0 ∧ k = 12 then 0 else if r = 0 ∧ k = 13 then 0 else T r k
def pOK (T : tT) : Prop := T 0 0 ≤ 5 ∧ T 0 4 ≤ 6 ∧ (1 ≤ T 0 11 ∧ T 0 11 ≤ 4) ∧ (∀ p, p < T 0 0 → T 1 p < 4 ∧ T 2 p < 10 ∧ T 3 p ≤ 20) ∧ (∀ i, i < T 0 4 → T 4 i < 5 ∧ T 5 i < 5 ∧ T 6 i < 5 ∧ T 7 i ≤ 18)
theorem pfin_good {T : tT} (h : pOK T) (h6 : ok6 T) : tGood (pfin T) := by
  obtain ⟨h1, h2, h3, h4, h5⟩ := h
  have e00 : pfin T 0 0 = T 0 0 := rfl
  have e04 : pfin T 0 4 = T 0 4 := rfl
  refine ⟨⟨h1, h2, by show 0 ≤ 6; omega, h3, by show 0 < 2000; omega, h4, fun i hi => ?_, fun j hj => absurd hj (Nat.not_lt_zero j)⟩, by show 0 < 1000; omega⟩
  have hi' : i < T 0 4 := hi
  obtain ⟨g1, g2, g3⟩ := h6 i hi'
  exact ⟨g1, g2, g3, (h5 i hi').2.2.2, (h4 _ g1).2.1, by show 0 ≤ 3; omega⟩
theorem nput_s {f : Nat → Nat} {k v : Nat} : nput f k v k = v := if_pos rfl
theorem nput_n {f : Nat → Nat} {k v j : Nat} (h : j ≠ k) : nput f k v j = f j := if_neg h
section PARSE
variable {B : Nat → Nat} {n K : Nat} {T : tT}
theorem nms_ok : ∀ (k j : Nat) (vs : Nat → Nat) (q : Nat), q ≤ n → (∀ i, i < j → (bdF K i).1 ≤ vs i ∧ vs i ≤ (bdF K i).2) → ∀ vs' q', nmsF B n K k j vs q = .inr (vs', q') → (∀ i, i < j + k → (bdF K i).1 ≤ vs' i ∧ vs' i ≤ (bdF K i).2) ∧ q ≤ q' ∧ q' ≤ n := by
  intro k
  induction k with
  | zero =>
    intro j vs q hq hv vs' q' h
    cases h
    exact ⟨hv, Nat.le_refl _, hq⟩
  | succ k ih =>
    intro j vs q hq hv vs' q' h
    unfold nmsF at h
    split at h
    · cases h
    · split at h
      · split at h
        · next c1 c2 c3 =>
          have e1 := tB_ge (B := B) (n := n) (q := q)
          have e2 := tE_ge (B := B) (n := n) (q := q)
          have h1 := ih (j + 1) _ _ (tE_le hq) (fun i hi => by
            by_cases ei : i = j
            · rw [ei, nput_s]; exact c3
            · rw [nput_n ei]; exact hv i (by omega)) vs' q' h
          refine ⟨fun i hi => h1.1 i (by omega), ?_, h1.2.2⟩
          have := h1.2.1
          omega
        · cases h
      · cases h
theorem chk_0 {hp : Bool} (hK : K ≤ 6) (h : chkF T hp K = 0) : K ≤ 5 ∧ (K = 5 → hp = false) ∧ (K = 4 → T 0 4 < 6) ∧ (K < 4 → T 0 0 < 5) := by
  unfold chkF at h
  split at h
  · cases h
  · next c =>
    split at h
    · next d =>
      split at h
      · cases h
      · next e => exact ⟨by omega, fun _ => by simpa using e, fun z => by omega, fun z => by omega⟩
    · next d =>
      split at h
      · next e =>
        split at h
        · next g => exact ⟨by omega, fun z => by omega, fun _ => g, fun z => by omega⟩
        · cases h
      · next e =>
        split at h
        · next g => exact ⟨by omega, fun z => by omega, fun z => by omega, fun _ => g⟩
        · cases h
theorem chk_le {hp : Bool} : chkF T hp K ≤ 5 := by
  unfold chkF
  split
  · omega
  · split
    · split <;> omega
    · split
      · split <;> omega
      · split <;> omega
theorem lnK_le {q : Nat} : lnK B n q ≤ 6 := by
  unfold lnK
  split
  · exact lnS_le 6 0
  · omega
theorem pap_ok {vs : Nat → Nat} {hp : Bool} (h : pOK T) (hK : K ≤ 6) (hc : chkF T hp K = 0) (hv : ∀ i, i < wtF K → (bdF K i).1 ≤ vs i ∧ vs i ≤ (bdF K i).2) : pOK (papF T K vs) := by
  obtain ⟨h1, h2, h3, h4, h5⟩ := h
  obtain ⟨k1, k2, k3, k4⟩ := chk_0 hK hc
  unfold papF
  by_cases c5 : K = 5
  · rw [if_pos c5]
    subst c5
    have b0 : 1 ≤ vs 0 ∧ vs 0 ≤ 4 := hv 0 (by decide)
    exact ⟨h1, h2, b0, h4, h5⟩
  · rw [if_neg c5]
    by_cases c4 : K = 4
    · rw [if_pos c4]
      subst c4
      have b0 : 0 ≤ vs 0 ∧ vs 0 ≤ 4 := hv 0 (by decide)
      have b1 : 0 ≤ vs 1 ∧ vs 1 ≤ 4 := hv 1 (by decide)
      have b2 : 0 ≤ vs 2 ∧ vs 2 ≤ 4 := hv 2 (by decide)
      have b3 : 0 ≤ vs 3 ∧ vs 3 ≤ 18 := hv 3 (by decide)
      have hl := k3 rfl
      have e : ∀ r k, paddL T vs r k = if r = 0 ∧ k = 4 then T 0 4 + 1 else if r = 7 ∧ k = T 0 4 then vs 3 else if r = 6 ∧ k = T 0 4 then vs 2 else if r = 5 ∧ k = T 0 4 then vs 1 else if r = 4 ∧ k = T 0 4 then vs 0 else T r k := fun r k => rfl
      have e4 : paddL T vs 0 4 = T 0 4 + 1 := rfl
      refine ⟨h1, by rw [e4]; omega, h3, h4, fun i hi => ?_⟩
      rw [e4] at hi
      rw [e 4 i, e 5 i, e 6 i, e 7 i]
      by_cases ei : i = T 0 4
      · subst ei
        refine ⟨?_, ?_, ?_, ?_⟩
        · rw [if_neg (by omega), if_neg (by omega), if_neg (by omega), if_neg (by omega), if_pos ⟨rfl, rfl⟩]; omega
        · rw [if_neg (by omega), if_neg (by omega), if_neg (by omega), if_pos ⟨rfl, rfl⟩]; omega
        · rw [if_neg (by omega), if_neg (by omega), if_pos ⟨rfl, rfl⟩]; omega
        · rw [if_neg (by omega), if_pos ⟨rfl, rfl⟩]; omega
      · have := h5 i (by omega)
        refine ⟨?_, ?_, ?_, ?_⟩
        · rw [if_neg (by omega), if_neg (by omega), if_neg (by omega), if_neg (by omega), if_neg (by omega)]; exact this.1
        · rw [if_neg (by omega), if_neg (by omega), if_neg (by omega), if_neg (by omega), if_neg (by omega)]; exact this.2.1
        · rw [if_neg (by omega), if_neg (by omega), if_neg (by omega), if_neg (by omega), if_neg (by omega)]; exact this.2.2.1
        · rw [if_neg (by omega), if_neg (by omega), if_neg (by omega), if_neg (by omega), if_neg (by omega)]; exact this.2.2.2
    · rw [if_neg c4]
      have wt : wtF K = 2 := (if_neg c4).trans (if_neg c5)
      have bd : ∀ j, bdF K j = (0, if j = 0 then 9 else 20) := fun j => (if_neg c5).trans (if_neg c4)
      rw [wt] at hv
      have b0 := hv 0 (by decide)
      have b1 := hv 1 (by decide)
      rw [bd] at b0 b1
      have b0' : vs 0 ≤ 9 := b0.2
      have b1' : vs 1 ≤ 20 := b1.2
      have hp := k4 (by omega)
      have e : ∀ r k, paddO T K vs r k = if r = 0 ∧ k = 0 then T 0 0 + 1 else if r = 3 ∧ k = T 0 0 then vs 1 else if r = 2 ∧ k = T 0 0 then vs 0 else if r = 1 ∧ k = T 0 0 then K else T r k := fun r k => rfl
      have e0 : paddO T K vs 0 0 = T 0 0 + 1 := rfl
      refine ⟨by rw [e0]; omega, h2, h3, fun i hi => ?_, h5⟩
      rw [e0] at hi
      rw [e 1 i, e 2 i, e 3 i]
      by_cases ei : i = T 0 0
      · subst ei
        refine ⟨?_, ?_, ?_⟩
        · rw [if_neg (by omega), if_neg (by omega), if_neg (by omega), if_pos ⟨rfl, rfl⟩]; omega
        · rw [if_neg (by omega), if_neg (by omega), if_pos ⟨rfl, rfl⟩]; omega
        · rw [if_neg (by omega), if_pos ⟨rfl, rfl⟩]; omega
      · have := h4 i (by omega)
        refine ⟨?_, ?_, ?_⟩
        · rw [if_neg (by omega), if_neg (by omega), if_neg (by omega), if_neg (by omega)]; exact this.1
        · rw [if_neg (by omega), if_neg (by omega), if_neg (by omega), if_neg (by omega)]; exact this.2.1
        · rw [if_neg (by omega), if_neg (by omega), if_neg (by omega), if_neg (by omega)]; exact this.2.2
theorem line_ok {hp : Bool} {q : Nat} (h : pOK T) (hq : q ≤ n) (hk : tK B n q ≠ 0) {T' : tT} {hp' : Bool} {q' : Nat} (e : lineS B n T hp q = .inr (T', hp', q')) : pOK T' ∧ q < q' ∧ q' ≤ n := by
  unfold lineS at e
  split at e
  · next c =>
    revert e
    cases hr : nmsF B n (lnK B n q) (wtF (lnK B n q)) 0 (fun _ => 0) (tE B n q) with
    | inl f => intro e; cases e
    | inr v =>
      obtain ⟨vs, q1⟩ := v
      intro e
      unfold semF at e
      have hn := nms_ok _ 0 (fun _ => 0) _ (tE_le hq) (fun i hi => absurd hi (Nat.not_lt_zero i)) vs q1 hr
      have g1 := tB_ge (B := B) (n := n) (q := q)
      have g2 := tE_gt hk
      have g3 := tB_ge (B := B) (n := n) (q := q1)
      have g4 := tE_ge (B := B) (n := n) (q := q1)
      simp only at e
      split at e
      · cases e
      · split at e
        · cases e
          refine ⟨pap_ok h lnK_le c (fun i hi => hn.1 i (by omega)), by omega, tE_le hn.2.2⟩
        · cases e
  · cases e
end PARSE
