/-! ask: counts -/
def rkF (L : Nat → Bool) : Nat → Nat
  | 0 => 0
  | n + 1 => rkF L n + (if L n = true then 1 else 0)
theorem rk_le (L : Nat → Bool) : ∀ n, rkF L n ≤ n := by
  intro n
  induction n with
  | zero => exact Nat.le_refl _
  | succ n ih =>
    show rkF L n + (if L n = true then 1 else 0) ≤ n + 1
    split <;> omega
theorem rk_mono (L : Nat → Bool) {a : Nat} : ∀ n, a ≤ n → rkF L a ≤ rkF L n := by
  intro n
  induction n with
  | zero => intro h; rw [show a = 0 by omega]; exact Nat.le_refl _
  | succ n ih =>
    intro h
    by_cases e : a = n + 1
    · rw [e]; exact Nat.le_refl _
    · have := ih (by omega)
      show rkF L a ≤ rkF L n + (if L n = true then 1 else 0)
      omega
theorem rk_lt (L : Nat → Bool) {a n : Nat} (h : a < n) (hL : L a = true) : rkF L a < rkF L n := by
  have h1 := rk_mono L (a := a + 1) n h
  have h2 : rkF L (a + 1) = rkF L a + (if L a = true then 1 else 0) := rfl
  rw [if_pos hL] at h2
  omega
def cntF (L : Nat → Bool) (X : Nat → Nat) (y : Nat) : Nat → Nat
  | 0 => 0
  | n + 1 => cntF L X y n + (if L n = true ∧ X n = y then 1 else 0)
def mstF (L : Nat → Bool) (X : Nat → Nat) : Nat → Nat
  | 0 => 0
  | n + 1 => if L n = true then (if mstF L X n < cntF L X (X n) (n + 1) then cntF L X (X n) (n + 1) else mstF L X n) else mstF L X n
theorem cnt_le {L : Nat → Bool} {X : Nat → Nat} {y : Nat} : ∀ n, cntF L X y n ≤ n := by
  intro n
  induction n with
  | zero => exact Nat.le_refl _
  | succ n ih =>
    show cntF L X y n + (if L n = true ∧ X n = y then 1 else 0) ≤ n + 1
    split <;> omega
theorem cnt_mono {L : Nat → Bool} {X : Nat → Nat} {y a : Nat} : ∀ n, a ≤ n → cntF L X y a ≤ cntF L X y n := by
  intro n
  induction n with
  | zero => intro h; rw [show a = 0 by omega]; exact Nat.le_refl _
  | succ n ih =>
    intro h
    by_cases e : a = n + 1
    · rw [e]; exact Nat.le_refl _
    · have := ih (by omega)
      show cntF L X y a ≤ cntF L X y n + (if L n = true ∧ X n = y then 1 else 0)
      omega
theorem mst_ge {L : Nat → Bool} {X : Nat → Nat} {n : Nat} : mstF L X n ≤ mstF L X (n + 1) := by
  show mstF L X n ≤ if L n = true then (if mstF L X n < cntF L X (X n) (n + 1) then cntF L X (X n) (n + 1) else mstF L X n) else mstF L X n
  split
  · split <;> omega
  · exact Nat.le_refl _
theorem mst_up {L : Nat → Bool} {X : Nat → Nat} {y : Nat} : ∀ n, cntF L X y n ≤ mstF L X n := by
  intro n
  induction n with
  | zero => exact Nat.le_refl _
  | succ n ih =>
    by_cases c : L n = true ∧ X n = y
    · have e : mstF L X (n + 1) = if mstF L X n < cntF L X (X n) (n + 1) then cntF L X (X n) (n + 1) else mstF L X n := if_pos c.1
      rw [e, c.2]
      split <;> omega
    · have e : cntF L X y (n + 1) = cntF L X y n := by
        show cntF L X y n + (if L n = true ∧ X n = y then 1 else 0) = _
        rw [if_neg c]; rfl
      rw [e]
      exact Nat.le_trans ih mst_ge
theorem mst_at {L : Nat → Bool} {X : Nat → Nat} : ∀ n, mstF L X n = 0 ∨ ∃ v, v < n ∧ L v = true ∧ mstF L X n ≤ cntF L X (X v) n := by
  intro n
  induction n with
  | zero => exact Or.inl rfl
  | succ n ih =>
    have old : mstF L X (n + 1) = mstF L X n → (mstF L X (n + 1) = 0 ∨ ∃ v, v < n + 1 ∧ L v = true ∧ mstF L X (n + 1) ≤ cntF L X (X v) (n + 1)) := by
      intro e
      rw [e]
      rcases ih with h | ⟨v, h1, h2, h3⟩
      · exact Or.inl h
      · exact Or.inr ⟨v, by omega, h2, Nat.le_trans h3 (cnt_mono (n + 1) (by omega))⟩
    by_cases c : L n = true
    · by_cases d : mstF L X n < cntF L X (X n) (n + 1)
      · have e : mstF L X (n + 1) = cntF L X (X n) (n + 1) := (if_pos c).trans (if_pos d)
        exact Or.inr ⟨n, by omega, c, by rw [e]; exact Nat.le_refl _⟩
      · exact old ((if_pos c).trans (if_neg d))
    · exact old (if_neg c)
theorem mst_le {L : Nat → Bool} {X : Nat → Nat} {n : Nat} : mstF L X n ≤ n := by
  rcases mst_at (L := L) (X := X) n with h | ⟨v, -, -, h⟩
  · omega
  · exact Nat.le_trans h (cnt_le n)
/-- the reference's: by pairs -/
def alF (Z : Nat → Int32) (a : Nat) : Nat → Nat
  | 0 => 0
  | n + 1 => alF Z a n + (if Z a = Z n then 1 else 0)
def woF (Z : Nat → Int32) (N : Nat) : Nat → Nat
  | 0 => 0
  | n + 1 => if alF Z n N ≤ woF Z N n then woF Z N n else alF Z n N
theorem al_le {Z : Nat → Int32} {a : Nat} : ∀ n, alF Z a n ≤ n := by
  intro n
  induction n with
  | zero => exact Nat.le_refl _
  | succ n ih =>
    show alF Z a n + (if Z a = Z n then 1 else 0) ≤ n + 1
    split <;> omega
theorem wo_up {Z : Nat → Int32} {N : Nat} : ∀ n a, a < n → alF Z a N ≤ woF Z N n := by
  intro n
  induction n with
  | zero => intro a h; omega
  | succ n ih =>
    intro a h
    show alF Z a N ≤ if alF Z n N ≤ woF Z N n then woF Z N n else alF Z n N
    by_cases e : a = n
    · rw [e]; split <;> omega
    · have := ih a (by omega)
      split <;> omega
theorem wo_at {Z : Nat → Int32} {N : Nat} : ∀ n, woF Z N n = 0 ∨ ∃ a, a < n ∧ woF Z N n = alF Z a N := by
  intro n
  induction n with
  | zero => exact Or.inl rfl
  | succ n ih =>
    by_cases c : alF Z n N ≤ woF Z N n
    · have e : woF Z N (n + 1) = woF Z N n := if_pos c
      rw [e]
      rcases ih with h | ⟨a, h1, h2⟩
      · exact Or.inl h
      · exact Or.inr ⟨a, by omega, h2⟩
    · exact Or.inr ⟨n, by omega, if_neg c⟩
theorem wo_le {Z : Nat → Int32} {N n : Nat} : woF Z N n ≤ N := by
  rcases wo_at (Z := Z) (N := N) n with h | ⟨a, -, h⟩
  · omega
  · rw [h]; exact al_le N
theorem al_cnt {L : Nat → Bool} {X : Nat → Nat} {Z : Nat → Int32} {a y N : Nat} (hX : ∀ v, v < N → L v = true → X v < 2 ^ 31 ∧ Z (rkF L v) = nI (X v)) (ha : Z a = nI y) (hy : y < 2 ^ 31) : ∀ n, n ≤ N → alF Z a (rkF L n) = cntF L X y n := by
  intro n
  induction n with
  | zero => intro _; rfl
  | succ n ih =>
    intro hn
    have h1 := ih (by omega)
    by_cases c : L n = true
    · have e1 : rkF L (n + 1) = rkF L n + 1 := by
        show rkF L n + (if L n = true then 1 else 0) = _
        rw [if_pos c]
      obtain ⟨x1, x2⟩ := hX n (by omega) c
      rw [e1]
      show alF Z a (rkF L n) + (if Z a = Z (rkF L n) then 1 else 0) = cntF L X y n + (if L n = true ∧ X n = y then 1 else 0)
      rw [h1, ha, x2]
      by_cases d : X n = y
      · rw [d, if_pos rfl, if_pos ⟨c, rfl⟩]
      · rw [if_neg (fun z => d ((nI_eq hy x1).mp z).symm), if_neg (fun z => d z.2)]
    · have e1 : rkF L (n + 1) = rkF L n := by
        show rkF L n + (if L n = true then 1 else 0) = _
        rw [if_neg c]; rfl
      rw [e1, h1]
      show _ = cntF L X y n + (if L n = true ∧ X n = y then 1 else 0)
      rw [if_neg (fun z => c z.1)]
      rfl
theorem rk_inv {L : Nat → Bool} : ∀ n a, a < rkF L n → ∃ v, v < n ∧ L v = true ∧ rkF L v = a := by
  intro n
  induction n with
  | zero => intro a h; exact absurd h (Nat.not_lt_zero a)
  | succ n ih =>
    intro a h
    by_cases c : a < rkF L n
    · obtain ⟨v, h1, h2, h3⟩ := ih a c
      exact ⟨v, by omega, h2, h3⟩
    · have e : rkF L (n + 1) = rkF L n + (if L n = true then 1 else 0) := rfl
      by_cases d : L n = true
      · rw [if_pos d] at e
        exact ⟨n, by omega, d, by omega⟩
      · rw [if_neg d] at e
        omega
theorem mst_wo {L : Nat → Bool} {X : Nat → Nat} {Z : Nat → Int32} {N : Nat} (hX : ∀ v, v < N → L v = true → X v < 2 ^ 31 ∧ Z (rkF L v) = nI (X v)) : mstF L X N = woF Z (rkF L N) (rkF L N) := by
  apply Nat.le_antisymm
  · rcases mst_at (L := L) (X := X) N with h | ⟨v, h1, h2, h3⟩
    · omega
    · obtain ⟨x1, x2⟩ := hX v h1 h2
      have e := al_cnt hX x2 x1 N (Nat.le_refl N)
      rw [← e] at h3
      exact Nat.le_trans h3 (wo_up _ _ (rk_lt L h1 h2))
  · rcases wo_at (Z := Z) (N := rkF L N) (rkF L N) with h | ⟨a, h1, h2⟩
    · omega
    · obtain ⟨v, v1, v2, v3⟩ := rk_inv N a h1
      obtain ⟨x1, x2⟩ := hX v v1 v2
      rw [v3] at x2
      rw [h2, al_cnt hX x2 x1 N (Nat.le_refl N)]
      exact mst_up N
/-- the choice by day and one -/
def askF (W : Nat → Nat) (P f0 : Nat) : Nat → Nat × Int32
  | 0 => (f0, (-4))
  | c + 1 => if c % 5 < P ∧ W c < (askF W P f0 c).1 then (W c, nI (10 * (c / 5) + c % 5)) else askF W P f0 c
theorem ask_cg {W W' : Nat → Nat} {P f0 : Nat} : ∀ n, (∀ c, c < n → c % 5 < P → W c = W' c) → askF W P f0 n = askF W' P f0 n := by
  intro n
  induction n with
  | zero => intro _; rfl
  | succ n ih =>
    intro h
    have h1 := ih (fun c hc => h c (by omega))
    unfold askF
    rw [h1]
    by_cases c : n % 5 < P
    · rw [h n (by omega) c]
    · rw [if_neg (fun z => c z.1), if_neg (fun z => c z.1)]
theorem ask_le {W : Nat → Nat} {P f0 : Nat} : ∀ n, (askF W P f0 n).1 ≤ f0 := by
  intro n
  induction n with
  | zero => exact Nat.le_refl _
  | succ n ih =>
    unfold askF
    split
    · next h => show W n ≤ f0; omega
    · exact ih
theorem ask_skip {W : Nat → Nat} {P f0 d : Nat} : ∀ j, P + j ≤ 5 → askF W P f0 (5 * d + P + j) = askF W P f0 (5 * d + P) := by
  intro j
  induction j with
  | zero => intro _; rfl
  | succ j ih =>
    intro h
    have e : askF W P f0 (5 * d + P + (j + 1)) = if (5 * d + P + j) % 5 < P ∧ W (5 * d + P + j) < (askF W P f0 (5 * d + P + j)).1 then (W (5 * d + P + j), nI (10 * ((5 * d + P + j) / 5) + (5 * d + P + j) % 5)) else askF W P f0 (5 * d + P + j) := rfl
    rw [e, if_neg (by omega), ih (by omega)]
theorem ask_step {W : Nat → Nat} {P f0 d p : Nat} (hp : p < P) (hP : P ≤ 5) : askF W P f0 (5 * d + (p + 1)) = if W (5 * d + p) < (askF W P f0 (5 * d + p)).1 then (W (5 * d + p), nI (10 * d + p)) else askF W P f0 (5 * d + p) := by
  have e : askF W P f0 (5 * d + (p + 1)) = if (5 * d + p) % 5 < P ∧ W (5 * d + p) < (askF W P f0 (5 * d + p)).1 then (W (5 * d + p), nI (10 * ((5 * d + p) / 5) + (5 * d + p) % 5)) else askF W P f0 (5 * d + p) := rfl
  rw [e, show (5 * d + p) % 5 = p by omega, show (5 * d + p) / 5 = d by omega]
  by_cases c : W (5 * d + p) < (askF W P f0 (5 * d + p)).1
  · rw [if_pos ⟨hp, c⟩, if_pos c]
  · rw [if_neg (fun z => c z.2), if_neg c]
theorem gw_bit (F : Nat → tT) : ∀ n j, j < n → gwF F n / 2 ^ j % 2 = if tso (F j) = true then 1 else 0 := by
  intro n
  induction n with
  | zero => intro j h; omega
  | succ n ih =>
    intro j h
    have e : gwF F (n + 1) = gwF F n + (if tso (F n) = true then 2 ^ n else 0) := rfl
    rw [e]
    have hlt := gw_lt F n
    by_cases c : tso (F n) = true
    · rw [if_pos c]
      by_cases d : j = n
      · rw [d, bit_at hlt, if_pos c]
      · rw [bit_hi (by omega)]; exact ih j (by omega)
    · rw [if_neg c, Nat.add_zero]
      by_cases d : j = n
      · rw [d, bit_lo hlt, if_neg c]
      · exact ih j (by omega)
theorem pc_rk (F : Nat → tT) {N : Nat} : ∀ n, n ≤ N → pcF (gwF F N) n = rkF (fun v => tso (F v)) n := by
  intro n
  induction n with
  | zero => intro _; rfl
  | succ n ih =>
    intro h
    show pcF (gwF F N) n + gwF F N / 2 ^ n % 2 = rkF (fun v => tso (F v)) n + (if tso (F n) = true then 1 else 0)
    rw [ih (by omega), gw_bit F N n h]
