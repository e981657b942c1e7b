/-! numbers of the leaves -/
def feltI (k t : Int32) : Int32 := if k = nI 1 then nI 2 * (t - nI 9) else if k = nI 2 then (if 0 ≤ t - nI 9 then t - nI 9 else (t - nI 9) / nI 2) else if k = nI 3 then (if 0 ≤ t - nI 9 then t - nI 9 else (t - nI 9) / nI 2) + nI 1 else t - nI 9
def sendsI (k t : Int32) : Int32 := if k = nI 0 then (if nI 6 ≤ t then nI 1 else nI 0) else if k = nI 1 then (if nI 9 ≤ t then nI 1 else nI 0) else nI 1
def altI (k t : Int32) : Int32 := if k = nI 2 then (if t + nI 1 ≤ nI 18 then t + nI 1 else nI 18) else if k = nI 3 then (if t + nI 2 ≤ nI 18 then t + nI 2 else nI 18) else t
def nearI (a g v : Int32) : Int32 := if a < g then (if g < a + v then g else a + v) else (if a - v < g then g else a - v)
def chI (m v : Int32) : Int32 := if m + v < 0 then nI 0 else if nI 20 < m + v then nI 20 else m + v
theorem felt_ok : ∀ m, m < 21 → ∀ k, k < 4 → ∀ t, t < 19 → chI (nI m) (feltI (nI k) (nI t)) = nI (clm ((m : Int) + feel k t)) := by decide +kernel
theorem felt_ok2 : ∀ m, m < 21 → ∀ k, k < 4 → ∀ t, t < 19 → chI (nI m) (feltI (nI k) (nI t) / nI 2) = nI (clm ((m : Int) + (feel k t).tdiv 2)) := by decide +kernel
theorem sends_ok : ∀ k, k < 4 → ∀ t, t < 19 → sendsI (nI k) (nI t) = if sends k t then nI 1 else nI 0 := by decide +kernel
theorem alt_ok : ∀ k, k < 4 → ∀ t, t < 19 → altI (nI k) (nI t) = nI (alt k t) := by decide +kernel
theorem alt_le : ∀ k, k < 4 → ∀ t, t < 19 → alt k t ≤ 18 := by decide +kernel
theorem near_ok : ∀ a, a < 10 → ∀ g, g < 10 → ∀ v, v < 5 → nearI (nI a) (nI g) (nI v) = nI (tnear a g v) := by decide +kernel
theorem near_lt : ∀ a, a < 10 → ∀ g, g < 10 → ∀ v, v < 5 → tnear a g v < 10 := by decide +kernel
theorem clm_le (x : Int) : clm x ≤ 20 := by
  unfold clm
  split
  · omega
  · split <;> omega
/-! the picture of a block under stores -/
theorem tcnt_le {T : tT} (h : tOK T) (r : Nat) : tcnt T r ≤ 6 := by
  unfold tcnt
  obtain ⟨h1, h2, h3, -⟩ := h
  split
  · omega
  · split <;> omega
theorem tup_cnt {T : tT} {r k v : Nat} (hr : 1 ≤ r) (q : Nat) : tcnt (tup T r k v) q = tcnt T q := by
  unfold tcnt
  rw [tup_n (by omega), tup_n (by omega), tup_n (by omega)]
theorem kCR_up {b : Nat} {T : tT} {f : Nat → Nat → Int32} {r k v : Nat} (h : kCR b T f) (hr : 1 ≤ r) : kCR b (tup T r k v) (kup f (b + r) k (nI v)) := by
  obtain ⟨⟨h0, h4, h11, h12, h13⟩, hrow⟩ := h
  refine ⟨?_, fun a j h1 h2 h3 => ?_⟩
  · rw [kup_ne (by omega), tup_n (by omega), tup_n (by omega), tup_n (by omega), tup_n (by omega), tup_n (by omega)]
    exact ⟨h0, h4, h11, h12, h13⟩
  · rw [tup_cnt hr] at h3
    by_cases ha : a = r
    · subst ha
      rw [kup_eq]
      by_cases hj : j = k
      · subst hj
        rw [pk_us, tup_s]
      · rw [pk_un hj, tup_n (fun z => hj z.2)]
        exact hrow a j h1 h2 h3
    · rw [kup_ne (by omega), tup_n (fun z => ha z.1)]
      exact hrow a j h1 h2 h3
theorem kFr_rf {b : Nat} {f : Nat → Nat → Int32} : kFr b f f := fun _ _ => rfl
theorem kFr_up {b r k : Nat} {f g : Nat → Nat → Int32} {v : Int32} (h : kFr b f g) (hr : r ≤ 12) : kFr b f (kup g (b + r) k v) := fun q hq => (kup_ne (by omega)).trans (h q hq)
theorem kFr_up0 {b k : Nat} {f g : Nat → Nat → Int32} {v : Int32} (h : kFr b f g) : kFr b f (kup g b k v) := fun q hq => (kup_ne (by omega)).trans (h q hq)
theorem kFr_tr {b : Nat} {f g h : Nat → Nat → Int32} (h1 : kFr b f g) (h2 : kFr b g h) : kFr b f h := fun q hq => (h2 q hq).trans (h1 q hq)
/-! a day keeps what it should -/
/-- what a day leaves alone: all but moods, tones, places and legs -/
def tKeep (T U : tT) : Prop := ∀ r k, r ≠ 3 → r ≠ 7 → r ≠ 8 → r ≠ 9 → U r k = T r k
theorem tKeep_rf {T : tT} : tKeep T T := fun _ _ _ _ _ _ => rfl
theorem tKeep_tr {T U V : tT} (h1 : tKeep T U) (h2 : tKeep U V) : tKeep T V := fun r k a b c d => (h2 r k a b c d).trans (h1 r k a b c d)
theorem tKeep_up {T U : tT} {r k v : Nat} (h : tKeep T U) (hr : r = 3 ∨ r = 7 ∨ r = 8 ∨ r = 9) : tKeep T (tup U r k v) := fun a j h1 h2 h3 h4 => (tup_n (by omega)).trans (h a j h1 h2 h3 h4)
theorem tOK_up3 {T : tT} {k v : Nat} (h : tOK T) (hv : v ≤ 20) : tOK (tup T 3 k v) := by
  obtain ⟨h1, h2, h3, h4, h5, h6, h7, h8⟩ := h
  have e : ∀ r j, r ≠ 3 → tup T 3 k v r j = T r j := fun r j hr => tup_n (fun z => hr z.1)
  refine ⟨by rw [e 0 0 (by omega)]; exact h1, by rw [e 0 4 (by omega)]; exact h2, by rw [e 0 13 (by omega)]; exact h3, by rw [e 0 11 (by omega)]; exact h4, by rw [e 0 12 (by omega)]; exact h5, fun p hp => ?_, fun i hi => ?_, fun j hj => ?_⟩
  · rw [e 0 0 (by omega)] at hp
    rw [e 1 p (by omega), e 2 p (by omega)]
    refine ⟨(h6 p hp).1, (h6 p hp).2.1, ?_⟩
    by_cases hk : p = k
    · subst hk; rw [tup_s]; exact hv
    · rw [tup_n (fun z => hk z.2)]; exact (h6 p hp).2.2
  · rw [e 0 4 (by omega)] at hi
    rw [e 0 0 (by omega), e 4 i (by omega), e 5 i (by omega), e 6 i (by omega), e 7 i (by omega), e 8 i (by omega), e 9 i (by omega)]
    exact h7 i hi
  · rw [e 0 13 (by omega)] at hj
    rw [e 0 0 (by omega), e 10 j (by omega), e 11 j (by omega), e 12 j (by omega)]
    exact h8 j hj
theorem tOK_upL {T : tT} {r k v : Nat} (h : tOK T) (hv : (r = 7 ∧ v ≤ 18) ∨ (r = 8 ∧ v < 10) ∨ (r = 9 ∧ v ≤ 3)) : tOK (tup T r k v) := by
  obtain ⟨h1, h2, h3, h4, h5, h6, h7, h8⟩ := h
  have e : ∀ a j, a ≠ r → tup T r k v a j = T a j := fun a j ha => tup_n (fun z => ha z.1)
  refine ⟨by rw [e 0 0 (by omega)]; exact h1, by rw [e 0 4 (by omega)]; exact h2, by rw [e 0 13 (by omega)]; exact h3, by rw [e 0 11 (by omega)]; exact h4, by rw [e 0 12 (by omega)]; exact h5, fun p hp => ?_, fun i hi => ?_, fun j hj => ?_⟩
  · rw [e 0 0 (by omega)] at hp
    rw [e 1 p (by omega), e 2 p (by omega), e 3 p (by omega)]
    exact h6 p hp
  · rw [e 0 4 (by omega)] at hi
    rw [e 0 0 (by omega), e 4 i (by omega), e 5 i (by omega), e 6 i (by omega)]
    obtain ⟨g1, g2, g3, g4, g5, g6⟩ := h7 i hi
    refine ⟨g1, g2, g3, ?_, ?_, ?_⟩
    · by_cases hq : 7 = r ∧ i = k
      · obtain ⟨rfl, rfl⟩ := hq; rw [tup_s]; omega
      · rw [tup_n hq]; exact g4
    · by_cases hq : 8 = r ∧ i = k
      · obtain ⟨rfl, rfl⟩ := hq; rw [tup_s]; omega
      · rw [tup_n hq]; exact g5
    · by_cases hq : 9 = r ∧ i = k
      · obtain ⟨rfl, rfl⟩ := hq; rw [tup_s]; omega
      · rw [tup_n hq]; exact g6
  · rw [e 0 13 (by omega)] at hj
    rw [e 0 0 (by omega), e 10 j (by omega), e 11 j (by omega), e 12 j (by omega)]
    exact h8 j hj
theorem twhom_lt {T : tT} {i : Nat} (h : tOK T) (hi : i < T 0 4) : twhom T i < T 0 0 := by
  have := h.2.2.2.2.2.2.1 i hi
  unfold twhom
  split <;> omega
theorem tread_ok {T : tT} {i : Nat} (h : tOK T) (hi : i < T 0 4) : tOK (tread T i) ∧ tKeep T (tread T i) := by
  have hw := twhom_lt h hi
  have hk := (h.2.2.2.2.2.1 _ hw).1
  have ht := (h.2.2.2.2.2.2.1 i hi).2.2.2.1
  unfold tread
  simp only
  split
  · exact ⟨tOK_upL (tOK_up3 h (clm_le _)) (by omega), tKeep_up (tKeep_up tKeep_rf (by omega)) (by omega)⟩
  · split
    · exact ⟨tOK_upL (tOK_upL (tOK_up3 h (clm_le _)) (Or.inl ⟨rfl, alt_le _ hk _ (by omega)⟩)) (by omega), tKeep_up (tKeep_up (tKeep_up tKeep_rf (by omega)) (by omega)) (by omega)⟩
    · exact ⟨tOK_upL (tOK_up3 h (clm_le _)) (by omega), tKeep_up (tKeep_up tKeep_rf (by omega)) (by omega)⟩
theorem tgo_ok {T : tT} {i : Nat} (h : tOK T) (hi : i < T 0 4) : tOK (tgo T i) ∧ tKeep T (tgo T i) := by
  have hw := twhom_lt h hi
  have hg := (h.2.2.2.2.2.1 _ hw).2.1
  have ha := (h.2.2.2.2.2.2.1 i hi).2.2.2.2.1
  have hl := near_lt _ ha _ hg (T 0 11) (by have := h.2.2.2.1; omega)
  have h1 : tOK (tup T 8 i (tnear (T 8 i) (T 2 (twhom T i)) (T 0 11))) := tOK_upL h (Or.inr (Or.inl ⟨rfl, hl⟩))
  unfold tgo
  simp only
  split
  · have h2 := tread_ok (i := i) h1 (by rw [tup_n (by omega)]; exact hi)
    exact ⟨h2.1, tKeep_tr (tKeep_up tKeep_rf (by omega)) h2.2⟩
  · exact ⟨h1, tKeep_up tKeep_rf (by omega)⟩
theorem tdayF_ok {T : tT} (h : tOK T) : ∀ n, n ≤ T 0 4 → tOK (tdayF T n) ∧ tKeep T (tdayF T n) := by
  intro n
  induction n with
  | zero => intro _; exact ⟨h, tKeep_rf⟩
  | succ n ih =>
    intro hn
    obtain ⟨h1, h2⟩ := ih (by omega)
    unfold tdayF
    split
    · have h3 := tgo_ok (i := n) h1 (by rw [h2 0 4 (by omega) (by omega) (by omega) (by omega)]; omega)
      exact ⟨h3.1, tKeep_tr h2 h3.2⟩
    · exact ⟨h1, h2⟩
theorem tday_ok {T : tT} (h : tOK T) : tOK (tday T) ∧ tKeep T (tday T) := tdayF_ok h _ (Nat.le_refl _)
