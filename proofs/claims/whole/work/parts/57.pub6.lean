/-! see; days, runs, ahead, comes -/
theorem kCR_addS {b : Nat} {T : tT} {mi : Nat → Nat → Int32} {d p v : Nat} (h : kCR b T mi) (hn : T 0 13 < 6) : kCR b (taddS T d p v) (kup (kup (kup (kup mi (b + 10) (T 0 13) (nI d)) (b + 11) (T 0 13) (nI p)) (b + 12) (T 0 13) (nI v)) b 13 (nI (T 0 13 + 1))) := by
  obtain ⟨⟨h0, h4, h11, h12, h13⟩, hrow⟩ := h
  refine ⟨⟨?_, ?_, ?_, ?_, ?_⟩, fun r k h1 h2 h3 => ?_⟩
  · rw [kup_eq, pk_un (by omega), kq_12_0, kq_11_0, kq_10_0, taddS_n (by omega) (by omega)]; exact h0
  · rw [kup_eq, pk_un (by omega), kq_12_0, kq_11_0, kq_10_0, taddS_n (by omega) (by omega)]; exact h4
  · rw [kup_eq, pk_un (by omega), kq_12_0, kq_11_0, kq_10_0, taddS_n (by omega) (by omega)]; exact h11
  · rw [kup_eq, pk_un (by omega), kq_12_0, kq_11_0, kq_10_0, taddS_n (by omega) (by omega)]; exact h12
  · rw [kup_eq, pk_us, taddS_13]
  · have hcn : k = T 0 13 ∧ 10 ≤ r ∨ k < tcnt T r := by
      unfold tcnt at h3 ⊢
      rw [taddS_13, taddS_n (by omega) (by omega), taddS_n (by omega) (by omega)] at h3
      split at h3
      · next c => rw [if_pos c]; exact Or.inr h3
      · next c =>
        rw [if_neg c]
        split at h3
        · next c2 => rw [if_pos c2]; exact Or.inr h3
        · next c2 =>
          rw [if_neg c2]
          by_cases e : k = T 0 13
          · exact Or.inl ⟨e, by omega⟩
          · exact Or.inr (by omega)
    by_cases e : k = T 0 13 ∧ 10 ≤ r
    · obtain ⟨rfl, e1⟩ := e
      rcases (by omega : r = 10 ∨ r = 11 ∨ r = 12) with rfl | rfl | rfl
      all_goals simp [kup_ap, upd_ap, taddS_at]
    · have h3' : k < tcnt T r := hcn.resolve_left e
      rw [taddS_n (by omega) (by omega)]
      refine Eq.trans ?_ (hrow r k h1 h2 h3')
      by_cases ek : k = T 0 13
      · (repeat (first | rw [kup_eq] | rw [kup_ne (by omega)]))
      · by_cases er : 10 ≤ r
        · rcases (by omega : r = 10 ∨ r = 11 ∨ r = 12) with rfl | rfl | rfl
          all_goals simp [kup_ap, upd_ap, ek]
        · (repeat (first | rw [kup_eq] | rw [kup_ne (by omega)]))
theorem kRR_addS {A : Nat → Int32} {T : tT} {d p v : Nat} (h : kRR A T) (ho : tOK T) (hn : T 0 13 < 6) : kRR (upd (upd (upd (upd A (56 + 3 * T 0 13) (nI d)) (56 + 3 * T 0 13 + 1) (nI p)) (56 + 3 * T 0 13 + 2) (nI v)) 55 (nI (T 0 13 + 1))) (taddS T d p v) := by
  obtain ⟨⟨h1, h2, h3, h4, h5⟩, hP, hL, hS⟩ := h
  have o1 := ho.1
  have o2 := ho.2.1
  have o3 := ho.2.2.1
  refine ⟨⟨?_, ?_, ?_, ?_, ?_⟩, fun q u hq hu => ?_, fun k u hk hu => ?_, fun j u hj hu => ?_⟩
  · rw [taddS_n (by omega) (by omega)]; (repeat (first | rw [pk_us] | rw [pk_un (by omega)])); exact h1
  · rw [taddS_n (by omega) (by omega)]; (repeat (first | rw [pk_us] | rw [pk_un (by omega)])); exact h2
  · rw [taddS_n (by omega) (by omega)]; (repeat (first | rw [pk_us] | rw [pk_un (by omega)])); exact h3
  · rw [taddS_n (by omega) (by omega)]; (repeat (first | rw [pk_us] | rw [pk_un (by omega)])); exact h4
  · rw [taddS_13, pk_us]
  · rw [taddS_n (by omega) (by omega)] at hq
    rw [taddS_n (by omega) (by omega)]; (repeat (first | rw [pk_us] | rw [pk_un (by omega)])); exact hP q u hq hu
  · rw [taddS_n (by omega) (by omega)] at hk
    rw [taddS_n (by omega) (by omega)]; (repeat (first | rw [pk_us] | rw [pk_un (by omega)])); exact hL k u hk hu
  · rw [taddS_13] at hj
    by_cases e : j = T 0 13
    · subst e
      rcases (by omega : u = 0 ∨ u = 1 ∨ u = 2) with rfl | rfl | rfl
      · simp only [Nat.add_zero]; (repeat (first | rw [pk_us] | rw [pk_un (by omega)])); simp [taddS_at]
      · (repeat (first | rw [pk_us] | rw [pk_un (by omega)])); simp [taddS_at]
      · (repeat (first | rw [pk_us] | rw [pk_un (by omega)])); simp [taddS_at]
    · rw [taddS_n (by omega) (by omega)]; (repeat (first | rw [pk_us] | rw [pk_un (by omega)])); exact hS j u (by omega) hu
/-! a day with its date -/
def tD (T : tT) : tT := tup (tday T) 0 12 (T 0 12 + 1)
theorem tD_12 {T : tT} : tD T 0 12 = T 0 12 + 1 := tup_s
theorem tD_ok {T : tT} (h : tOK T) (hd : T 0 12 < 1999) : tOK (tD T) := tOK_day (tday_ok h).1 (by omega)
theorem tD_n {T : tT} {r k : Nat} (h : tOK T) (h1 : r ≠ 3 ∧ r ≠ 7 ∧ r ≠ 8 ∧ r ≠ 9) (h2 : ¬ (r = 0 ∧ k = 12)) : tD T r k = T r k := by
  unfold tD
  rw [tup_n h2]
  exact (tday_ok h).2 r k h1.1 h1.2.1 h1.2.2.1 h1.2.2.2
theorem tpass_1 {T : tT} : tpass 1 T = tD T := rfl
def tcomeF (i : Nat) : Nat → Nat → tT → Int32
  | 0, _, _ => (-4)
  | k + 1, d, U => if U 9 i = 2 then nI d else tcomeF i k (d + 1) (tD U)
def tidle : Nat → tT → Nat
  | 0, _ => 0
  | k + 1, U => (if trdF U (U 0 4) = 0 then 1 else 0) + tidle k (tday U)
theorem tidle_date {v : Nat} : ∀ (n : Nat) (T : tT), tidle n (tup T 0 12 v) = tidle n T := by
  intro n
  induction n with
  | zero => intro T; rfl
  | succ n ih => intro T; unfold tidle; rw [tday_date, ih, trdF_date, tup_n (by omega)]
theorem trdF_le (T : tT) : ∀ n, trdF T n ≤ n := by
  intro n
  induction n with
  | zero => exact Nat.le_refl _
  | succ n ih =>
    unfold trdF
    split <;> omega
/-! how many came -/
def tcamF (T : tT) : Nat → Nat
  | 0 => 0
  | i + 1 => tcamF T i + (if T 9 i = 2 then 1 else 0)
def ush (a b : Int32) : Int32 := (a.toUInt32 >>> (b.toUInt32 &&& Int32.toUInt32 31)).toInt32
def bc1 (x : Int32) : Int32 := x - (ush x (nI 1) &&& 1431655765)
def bc2 (x : Int32) : Int32 := (x &&& 858993459) + (ush x (nI 2) &&& 858993459)
def bc3 (x : Int32) : Int32 := (x + ush x (nI 4)) &&& 252645135
def bc4 (x : Int32) : Int32 := x + ush x (nI 8)
def bc5 (x : Int32) : Int32 := x + ush x (nI 16)
def bcI (x : Int32) : Int32 := bc5 (bc4 (bc3 (bc2 (bc1 x)))) &&& nI 63
def pcN (a : Nat) : Nat := a % 2 + a / 2 % 2 + a / 4 % 2 + a / 8 % 2 + a / 16 % 2 + a / 32 % 2
theorem bc_64 : ∀ a, a < 64 → bcI (nI a) = nI (pcN a) := by decide +kernel
theorem pc_add : ∀ i, i < 6 → ∀ a, a < 2 ^ i → pcN (a + 2 ^ i) = pcN a + 1 := by decide +kernel
theorem pc_cam (T : tT) : ∀ n, n ≤ 6 → pcN (tlegF T 2 n) = tcamF T n := by
  intro n
  induction n with
  | zero => intro _; show pcN 0 = 0; decide
  | succ n ih =>
    intro hn
    have h := ih (by omega)
    have e1 : tlegF T 2 (n + 1) = tlegF T 2 n + (if T 9 n = 2 then 2 ^ n else 0) := rfl
    have e2 : tcamF T (n + 1) = tcamF T n + (if T 9 n = 2 then 1 else 0) := rfl
    rw [e1, e2]
    by_cases c : T 9 n = 2
    · rw [if_pos c, if_pos c, pc_add n (by omega) _ (tleg_lt T 2 n), h]
    · rw [if_neg c, if_neg c]; exact h
theorem tcam_up {T : tT} {r k v : Nat} (hr : r ≠ 9) : ∀ n, tcamF (tup T r k v) n = tcamF T n := by
  intro n
  induction n with
  | zero => rfl
  | succ n ih => unfold tcamF; rw [ih, tup_n (by omega)]
theorem tcam_leg {T : tT} {k v : Nat} (h : T 9 k ≠ 2) : ∀ n, tcamF (tup T 9 k v) n = tcamF T n + (if k < n ∧ v = 2 then 1 else 0) := by
  intro n
  induction n with
  | zero => rw [if_neg (by omega)]; rfl
  | succ n ih =>
    unfold tcamF
    rw [ih]
    by_cases e : n = k
    · subst e
      rw [tup_s, if_neg h, if_neg (by omega)]
      by_cases v2 : v = 2
      · rw [if_pos v2, if_pos ⟨by omega, v2⟩]
      · rw [if_neg v2, if_neg (fun z => v2 z.2)]
    · rw [tup_n (by omega)]
      have e2 : (if k < n + 1 ∧ v = 2 then 1 else 0) = (if k < n ∧ v = 2 then 1 else 0) := by
        by_cases c : k < n ∧ v = 2
        · rw [if_pos c, if_pos ⟨by omega, c.2⟩]
        · rw [if_neg c, if_neg (fun z => c ⟨by omega, z.2⟩)]
      rw [e2]
      omega
theorem tcam_read {T : tT} {i N : Nat} (hi : i < N) (hw : T 9 i < 2) : tcamF (tread T i) N = tcamF T N + (if T 9 i = 1 then 1 else 0) := by
  unfold tread
  simp only
  by_cases c : T 9 i = 1
  · rw [if_pos c, if_pos c, tcam_leg (by rw [tup_n (by omega)]; omega), if_pos ⟨hi, rfl⟩, tcam_up (by omega)]
  · rw [if_neg c, if_neg c]
    split
    · rw [tcam_leg (by rw [tup_n (by omega), tup_n (by omega)]; omega), if_neg (by omega), tcam_up (by omega), tcam_up (by omega)]
    · rw [tcam_leg (by rw [tup_n (by omega)]; omega), if_neg (by omega), tcam_up (by omega)]
theorem tcam_dayF {T : tT} (ho : tOK T) {N : Nat} (hN : N = T 0 4) : ∀ i, i ≤ N → tcamF (tdayF T i) N = tcamF T N + tarrF T i := by
  intro i
  induction i with
  | zero => intro _; rfl
  | succ i ih =>
    intro hi
    have h := ih (by omega)
    have ok := tdayF_ok ho i (by omega)
    have ep : tdayF T i 0 11 = T 0 11 := ok.2 0 11 (by omega) (by omega) (by omega) (by omega)
    have eT : tdayF T (i + 1) = if tway (tdayF T i) i then tgo (tdayF T i) i else tdayF T i := rfl
    have eA : tarrF T (i + 1) = tarrF T i + (if tway (tdayF T i) i = true ∧ tnear (tdayF T i 8 i) (tdayF T i 2 (twhom (tdayF T i) i)) (T 0 11) = tdayF T i 2 (twhom (tdayF T i) i) ∧ tdayF T i 9 i = 1 then 1 else 0) := rfl
    rw [eT, eA]
    by_cases c : tway (tdayF T i) i = true
    · have hw : tdayF T i 9 i < 2 := of_decide_eq_true c
      rw [if_pos c]
      unfold tgo
      simp only
      rw [ep]
      by_cases g : tnear (tdayF T i 8 i) (tdayF T i 2 (twhom (tdayF T i) i)) (T 0 11) = tdayF T i 2 (twhom (tdayF T i) i)
      · rw [if_pos g, tcam_read (by omega) (by rw [tup_n (by omega)]; exact hw), tcam_up (by omega), tup_n (by omega), h]
        by_cases l : tdayF T i 9 i = 1
        · rw [if_pos l, if_pos ⟨c, g, l⟩]; omega
        · rw [if_neg l, if_neg (fun z => l z.2.2)]; omega
      · rw [if_neg g, tcam_up (by omega), if_neg (fun z => g z.2.1), h]; omega
    · rw [if_neg c, if_neg (fun z => c z.1), h]; omega
def tcam (T : tT) : Nat := tcamF T (T 0 4)
theorem tcam_days : ∀ (n : Nat) (T : tT), tOK T → tcam (tdays n T) = tcam T + tarr n T := by
  intro n
  induction n with
  | zero => intro T _; rfl
  | succ n ih =>
    intro T ho
    have ok := tday_ok ho
    show tcam (tdays n (tday T)) = tcam T + (tarrF T (T 0 4) + tarr n (tday T))
    rw [ih _ ok.1]
    have e : tcam (tday T) = tcam T + tarrF T (T 0 4) := by
      unfold tcam
      rw [ok.2 0 4 (by omega) (by omega) (by omega) (by omega)]
      exact tcam_dayF ho rfl _ (Nat.le_refl _)
    omega
theorem tcam_le (T : tT) : ∀ n, tcamF T n ≤ n := by
  intro n
  induction n with
  | zero => exact Nat.le_refl _
  | succ n ih =>
    unfold tcamF
    split <;> omega
theorem tcam_pass {T : tT} (ho : tOK T) (n : Nat) : tcam (tpass n T) = tcam T + tarr n T := by
  rw [← tcam_days n T ho]
  unfold tpass tcam
  rw [tcam_up (by omega), tup_n (by omega)]
section PUB6
variable {mi : Nat → Nat → Int32} {ml : Nat → Nat → Int64} {m : kMem} {Q : Option Value → kMem → Prop} {S : gS} {T : tT} {b p n f t a v d : Nat}
theorem J_bit {x : Int32} : kJ 198 0 [some (.int x)] [] m Q = Q (some (.int (bcI x))) m := by
  simp only [↓s198_0, ↓s198_1, ↓s198_2, ↓s198_3, ↓s198_4, ↓s198_7, ↓s198_8, ↓s198_9, ↓s198_10, ↓s198_11, ↓s198_14, ↓s198_15, ↓s198_16, ↓s198_17, ↓s198_18, ↓s198_21, ↓s198_22, ↓s198_23, ↓s198_24, ↓s198_25, ↓s198_26, ↓s198_27, ↓s198_28, ↓s198_29, ↓s198_32, ↓s198_33, ↓s198_34, ↓s198_35, ↓s198_36, ↓s198_38, ↓s198_39, ↓s198_40, ↓s198_41, ↓s198_42, ↓s198_43, ↓s198_45, ↓s198_46, ↓s198_47, ↓s198_48, ↓s198_49, ↓s198_51, ↓s198_52, kNLn, kNLi, kNLr, va_rf_s, kOl_n, kOl_s, kap_n, kap_c, kb0, kb1, kbif]
  rfl
theorem J_came (hp : kPost b) (h : kCR b T mi) (ho : tOK T) : kJ 18 0 [some (.ref b)] [] (mi, ml, MR, 95) Q = Q (some (.int (nI (tcam T)))) (mi, ml, MR, 95) := by
  have hp0 := hp
  obtain ⟨pis, ⟨r1, r2, r3, r4, r5, r6, r7, r8, r9, r10, r11, r12⟩, ⟨a1, a2, a3, a4, a5, a6, a7, a8, a9, a10, a11, a12⟩, e1, e2, e3, e4, e5, e6, e7, e8, e9, e10, e11, e12⟩ := hp
  have e : bcI (nI (tlegF T 2 (T 0 4))) = nI (tcam T) := by
    have h1 := tleg_lt T 2 (T 0 4)
    have h2 : 2 ^ T 0 4 ≤ 2 ^ 6 := Nat.pow_le_pow_right (by decide) ho.2.1
    rw [bc_64 _ (by omega), pc_cam T _ ho.2.1]
    rfl
  simp only [↓s18_0, ↓s18_1, ↓s18_2, ↓s18_5, ↓s18_8, ↓J_legs hp0 h ho (by decide : 2 < 4), ↓J_bit, kNLn, kNLi, kNLr, va_rf_s, kOl_n, kOl_s, kap_n, kap_c, kb0, kb1, kbif, pis, r1, r2, r3, r4, r5, r6, r7, r8, r9, r10, r11, r12, a1, a2, a3, a4, a5, a6, a7, a8, a9, a10, a11, a12, e1, e2, e3, e4, e5, e6, e7, e8, e9, e10, e11, e12, e]
theorem J_addS {x y z : Int32} (hp : kPost b) (hn : n < 6) (h4 : mi b 13 = nI n) : kJ 14 0 [some (.ref b), some (.int x), some (.int y), some (.int z)] [] (mi, ml, MR, 95) Q = Q none (kup (kup (kup (kup mi (b + 10) n x) (b + 11) n y) (b + 12) n z) b 13 (nI (n + 1)), ml, MR, 95) := by
  obtain ⟨pis, ⟨r1, r2, r3, r4, r5, r6, r7, r8, r9, r10, r11, r12⟩, ⟨a1, a2, a3, a4, a5, a6, a7, a8, a9, a10, a11, a12⟩, e1, e2, e3, e4, e5, e6, e7, e8, e9, e10, e11, e12⟩ := hp
  have hc : (nI n).toNatClampNeg = n := nI_clamp (by omega)
  have hv : vp_in (nI n) 6 := vp_in_nI (by omega) (by decide)
  have hlt : ¬ nI 6 ≤ nI n := nI_ge hn (by decide)
  simp only [↓s14_0, ↓s14_1, ↓s14_4, ↓s14_6, ↓s14_9, ↓s14_10, ↓s14_13, ↓s14_14, ↓s14_17, ↓s14_18, ↓s14_19, ↓s14_20, ↓s14_23, ↓s14_24, ↓s14_27, ↓s14_28, ↓s14_29, ↓s14_30, ↓s14_33, ↓s14_34, ↓s14_37, ↓s14_38, ↓s14_39, ↓s14_40, ↓s14_41, ↓s14_44, ↓s14_45, ↓s14_46, ↓s14_49, kNLn, kNLi, kNLr, va_rf_s, kOl_n, kOl_s, kap_n, kap_c, kb0, kb1, kbif, pis, r1, r2, r3, r4, r5, r6, r7, r8, r9, r10, r11, r12, a1, a2, a3, a4, a5, a6, a7, a8, a9, a10, a11, a12, e1, e2, e3, e4, e5, e6, e7, e8, e9, e10, e11, e12, kq_0_1, kq_0_2, kq_0_3, kq_0_4, kq_0_5, kq_0_6, kq_0_7, kq_0_8, kq_0_9, kq_0_10, kq_0_11, kq_0_12, kq_1_0, kq_1_2, kq_1_3, kq_1_4, kq_1_5, kq_1_6, kq_1_7, kq_1_8, kq_1_9, kq_1_10, kq_1_11, kq_1_12, kq_2_0, kq_2_1, kq_2_3, kq_2_4, kq_2_5, kq_2_6, kq_2_7, kq_2_8, kq_2_9, kq_2_10, kq_2_11, kq_2_12, kq_3_0, kq_3_1, kq_3_2, kq_3_4, kq_3_5, kq_3_6, kq_3_7, kq_3_8, kq_3_9, kq_3_10, kq_3_11, kq_3_12, kq_4_0, kq_4_1, kq_4_2, kq_4_3, kq_4_5, kq_4_6, kq_4_7, kq_4_8, kq_4_9, kq_4_10, kq_4_11, kq_4_12, kq_5_0, kq_5_1, kq_5_2, kq_5_3, kq_5_4, kq_5_6, kq_5_7, kq_5_8, kq_5_9, kq_5_10, kq_5_11, kq_5_12, kq_6_0, kq_6_1, kq_6_2, kq_6_3, kq_6_4, kq_6_5, kq_6_7, kq_6_8, kq_6_9, kq_6_10, kq_6_11, kq_6_12, kq_7_0, kq_7_1, kq_7_2, kq_7_3, kq_7_4, kq_7_5, kq_7_6, kq_7_8, kq_7_9, kq_7_10, kq_7_11, kq_7_12, kq_8_0, kq_8_1, kq_8_2, kq_8_3, kq_8_4, kq_8_5, kq_8_6, kq_8_7, kq_8_9, kq_8_10, kq_8_11, kq_8_12, kq_9_0, kq_9_1, kq_9_2, kq_9_3, kq_9_4, kq_9_5, kq_9_6, kq_9_7, kq_9_8, kq_9_10, kq_9_11, kq_9_12, kq_10_0, kq_10_1, kq_10_2, kq_10_3, kq_10_4, kq_10_5, kq_10_6, kq_10_7, kq_10_8, kq_10_9, kq_10_11, kq_10_12, kq_11_0, kq_11_1, kq_11_2, kq_11_3, kq_11_4, kq_11_5, kq_11_6, kq_11_7, kq_11_8, kq_11_9, kq_11_10, kq_11_12, kq_12_0, kq_12_1, kq_12_2, kq_12_3, kq_12_4, kq_12_5, kq_12_6, kq_12_7, kq_12_8, kq_12_9, kq_12_10, kq_12_11, hc, hv, h4, hlt, if_false, true_and, nI_add]
theorem B_see {x y z : Int32} (hg : gOK S) : bB 77 [some (.ref 0), some (.int x), some (.int y), some (.int z)] 180 [some (.ref 83), some (.int x), some (.int y), some (.int z), none] S := by
  have ho := hg.1.1
  have o1 := ho.1
  have o3 := ho.2.2.1
  by_cases c1 : gin x 21 = true
  · by_cases c2 : gin y (S.1 0 0) = true
    · by_cases c3 : gin z 21 = true
      · by_cases e : S.1 0 13 < 6
        · obtain ⟨d, hd, rfl⟩ := gin_of c1 (by decide)
          obtain ⟨p, hp, rfl⟩ := gin_of c2 (by omega)
          obtain ⟨v, hv, rfl⟩ := gin_of c3 (by decide)
          refine ⟨(taddS S.1 d p v, S.2), nI (S.1 0 13 + 1), gOK_T hg (tGood_addS hg.1 e (by omega) hp (by omega)), fun mi ml Q h hQ => ?_, fun mi ml Q h hQ => ?_⟩
          · have hlt : nI (S.1 0 13) < nI 6 := Int32.not_le.mp (nI_ge e (by decide))
            have hw : ∀ Q', kJ 14 0 [some (.ref 1), some (.int (nI d)), some (.int (nI p)), some (.int (nI v))] [] (mi, ml, MR, 95) Q' = Q' none (kup (kup (kup (kup mi (1 + 10) (S.1 0 13) (nI d)) (1 + 11) (S.1 0 13) (nI p)) (1 + 12) (S.1 0 13) (nI v)) 1 13 (nI (S.1 0 13 + 1)), ml, MR, 95) := fun Q' => J_addS kPost_1 e h.1.1.2.2.2.2
            have hk := kCR_addS (d := d) (p := p) (v := v) h.1 e
            have f1 : kFr 1 mi (kup (kup (kup (kup mi (1 + 10) (S.1 0 13) (nI d)) (1 + 11) (S.1 0 13) (nI p)) (1 + 12) (S.1 0 13) (nI v)) 1 13 (nI (S.1 0 13 + 1))) := kFr_up0 (kFr_up (kFr_up (kFr_up kFr_rf (by omega)) (by omega)) (by omega))
            simp only [↓s77_0, ↓s77_1, ↓s77_2, ↓s77_4, ↓s77_7, ↓s77_10, ↓s77_11, ↓s77_14, ↓s77_15, ↓s77_18, ↓s77_21, ↓s77_22, ↓s77_23, ↓s77_25, ↓s77_28, ↓s77_31, ↓s77_32, ↓s77_33, ↓s77_34, ↓s77_37, ↓s77_40, ↓s77_42, ↓s77_45, ↓s77_47, ↓s77_48, ↓s77_49, ↓s77_52, ↓s77_53, ↓s77_54, ↓s77_55, ↓s77_58, ↓s77_59, ↓s77_62, ↓s77_65, ↓J_hasOneG kPost_1 h.1 ho, ↓J_w20, ↓hw, kNLn, kNLi, kNLr, va_rf_s, kOl_n, kOl_s, kap_n, kap_c, kb0, kb1, kbif, zif, z0, z1, Bool.false_eq_true, eq_self, not_true_eq_false, not_false_eq_true, if_true, if_false, and_self, true_and, false_and, and_true, and_false, c1, c2, c3, ki_0, ki_1, mr_0_0, h.1.1.2.2.2.2, hlt, kup_eq, pk_us]
            exact hQ _ (CI_T h hk (sC_now f1)) (fC_now f1)
          · have h4 := h.1.1.2.2.2.2
            have hne : ¬ nI (S.1 0 13) = nI 6 := fun z => by have := (nI_eq (by omega) (by decide)).mp z; omega
            have c55 : (nI 55).toNatClampNeg = 55 := rfl
            have v55 : vp_in (nI 55) 222 := vp_in_nI (by decide) (by decide)
            have k0 : (nI (56 + 3 * S.1 0 13)).toNatClampNeg = 56 + 3 * S.1 0 13 := nI_clamp (by omega)
            have k1 : (nI (56 + 3 * S.1 0 13 + 1)).toNatClampNeg = 56 + 3 * S.1 0 13 + 1 := nI_clamp (by omega)
            have k2 : (nI (56 + 3 * S.1 0 13 + 2)).toNatClampNeg = 56 + 3 * S.1 0 13 + 2 := nI_clamp (by omega)
            have p0 : vp_in (nI (56 + 3 * S.1 0 13)) 222 := vp_in_nI (by omega) (by decide)
            have p1 : vp_in (nI (56 + 3 * S.1 0 13 + 1)) 222 := vp_in_nI (by omega) (by decide)
            have p2 : vp_in (nI (56 + 3 * S.1 0 13 + 2)) 222 := vp_in_nI (by omega) (by decide)
            have e52 : upd (upd (upd (mi 84) (56 + 3 * S.1 0 13) (nI d)) (56 + 3 * S.1 0 13 + 1) (nI p)) (56 + 3 * S.1 0 13 + 2) (nI v) 55 = nI (S.1 0 13) := by
              (repeat (first | rw [pk_us] | rw [pk_un (by omega)])); exact h4
            have h9 := hQ (kRow mi 84 _) ml (RI_T h (by rw [kRow_eq]; exact kRR_addS (d := d) (p := p) (v := v) h.1 ho e) (kRow84 (fun j hj => by (repeat (first | rw [pk_us] | rw [pk_un (by omega)]))))) (fun q hq => kRow_ne (by omega))
            have e0 : kRow mi 84 (mi 84) = mi := by
              funext q
              unfold kRow
              split
              · next c => rw [c]
              · rfl
            rw [← e0]
            simp only [↓s180_0, ↓s180_1, ↓s180_2, ↓s180_3, ↓s180_6, ↓s180_9, ↓s180_12, ↓s180_13, ↓s180_14, ↓s180_17, ↓s180_20, ↓s180_21, ↓s180_22, ↓s180_23, ↓s180_26, ↓s180_29, ↓s180_32, ↓s180_33, ↓s180_34, ↓s180_35, ↓s180_38, ↓s180_40, ↓s180_41, ↓s180_43, ↓s180_46, ↓s180_48, ↓s180_49, ↓s180_51, ↓s180_52, ↓s180_53, ↓s180_56, ↓s180_58, ↓s180_59, ↓s180_60, ↓s180_61, ↓s180_63, ↓s180_64, ↓s180_67, ↓s180_69, ↓s180_70, ↓s180_71, ↓s180_72, ↓s180_75, ↓s180_77, ↓s180_78, ↓s180_79, ↓s180_80, ↓s180_81, ↓s180_82, ↓s180_85, ↓s180_87, ↓s180_88, ↓s180_89, ↓s180_90, ↓s180_91, ↓s180_92, ↓s180_95, ↓s180_97, ↓s180_98, ↓s180_99, ↓s180_100, ↓s180_101, ↓s180_102, ↓s180_103, ↓s180_106, ↓s180_108, ↓s180_109, ↓R_isOne (mi := kRow mi 84 (mi 84)) (by rw [e0]; exact h.1) ho, ↓R_i20, kNLn, kNLi, kNLr, va_rf_s, kOl_n, kOl_s, kap_n, kap_c, kb0, kb1, kbif, zif, z0, z1, Bool.false_eq_true, eq_self, not_true_eq_false, not_false_eq_true, if_true, if_false, and_self, true_and, false_and, and_true, and_false, c1, c2, c3, ki_83, ki_84, kl_84, mr_83_0, c55, v55, kRow_eq, kRow_up, h4, hne, pk_mul, nI_add, k0, k1, k2, p0, p1, p2, e52, pk_us]
            exact h9
        · have e6 : S.1 0 13 = 6 := by omega
          refine bB_e hg (-3) (fun mi ml Q h => ?_) (fun mi ml Q h => ?_)
          · have h4 := h.1.1.2.2.2.2
            rw [e6] at h4
            have hlt : ¬ nI 6 < nI 6 := by decide
            simp only [↓s77_0, ↓s77_1, ↓s77_2, ↓s77_4, ↓s77_7, ↓s77_10, ↓s77_11, ↓s77_14, ↓s77_15, ↓s77_18, ↓s77_21, ↓s77_22, ↓s77_23, ↓s77_25, ↓s77_28, ↓s77_31, ↓s77_32, ↓s77_33, ↓s77_34, ↓s77_37, ↓s77_40, ↓s77_42, ↓s77_45, ↓s77_47, ↓s77_48, ↓s77_49, ↓s77_52, ↓s77_53, ↓s77_54, ↓s77_55, ↓s77_58, ↓s77_59, ↓s77_62, ↓s77_65, ↓J_hasOneG kPost_1 h.1 ho, ↓J_w20, kNLn, kNLi, kNLr, va_rf_s, kOl_n, kOl_s, kap_n, kap_c, kb0, kb1, kbif, zif, z0, z1, Bool.false_eq_true, eq_self, not_true_eq_false, not_false_eq_true, if_true, if_false, and_self, true_and, false_and, and_true, and_false, c1, c2, c3, ki_0, ki_1, mr_0_0, h4, hlt]
          · have h4 := h.1.1.2.2.2.2
            rw [e6] at h4
            have c55 : (nI 55).toNatClampNeg = 55 := rfl
            have v55 : vp_in (nI 55) 222 := vp_in_nI (by decide) (by decide)
            simp only [↓s180_0, ↓s180_1, ↓s180_2, ↓s180_3, ↓s180_6, ↓s180_9, ↓s180_12, ↓s180_13, ↓s180_14, ↓s180_17, ↓s180_20, ↓s180_21, ↓s180_22, ↓s180_23, ↓s180_26, ↓s180_29, ↓s180_32, ↓s180_33, ↓s180_34, ↓s180_35, ↓s180_38, ↓s180_40, ↓s180_41, ↓s180_43, ↓s180_46, ↓s180_48, ↓s180_49, ↓s180_51, ↓s180_52, ↓s180_53, ↓s180_56, ↓s180_58, ↓s180_59, ↓s180_60, ↓s180_61, ↓s180_63, ↓s180_64, ↓s180_67, ↓s180_69, ↓s180_70, ↓s180_71, ↓s180_72, ↓s180_75, ↓s180_77, ↓s180_78, ↓s180_79, ↓s180_80, ↓s180_81, ↓s180_82, ↓s180_85, ↓s180_87, ↓s180_88, ↓s180_89, ↓s180_90, ↓s180_91, ↓s180_92, ↓s180_95, ↓s180_97, ↓s180_98, ↓s180_99, ↓s180_100, ↓s180_101, ↓s180_102, ↓s180_103, ↓s180_106, ↓s180_108, ↓s180_109, ↓R_isOne h.1 ho, ↓R_i20, kNLn, kNLi, kNLr, va_rf_s, kOl_n, kOl_s, kap_n, kap_c, kb0, kb1, kbif, zif, z0, z1, Bool.false_eq_true, eq_self, not_true_eq_false, not_false_eq_true, if_true, if_false, and_self, true_and, false_and, and_true, and_false, c1, c2, c3, ki_83, ki_84, kl_84, mr_83_0, c55, v55, h4]
      · refine bB_e hg (-1) (fun mi ml Q h => ?_) (fun mi ml Q h => ?_)
        · simp only [↓s77_0, ↓s77_1, ↓s77_2, ↓s77_4, ↓s77_7, ↓s77_10, ↓s77_11, ↓s77_14, ↓s77_15, ↓s77_18, ↓s77_21, ↓s77_22, ↓s77_23, ↓s77_25, ↓s77_28, ↓s77_31, ↓s77_32, ↓s77_33, ↓s77_34, ↓s77_37, ↓s77_40, ↓s77_42, ↓s77_45, ↓s77_47, ↓s77_48, ↓s77_49, ↓s77_52, ↓s77_53, ↓s77_54, ↓s77_55, ↓s77_58, ↓s77_59, ↓s77_62, ↓s77_65, ↓J_hasOneG kPost_1 h.1 ho, ↓J_w20, kNLn, kNLi, kNLr, va_rf_s, kOl_n, kOl_s, kap_n, kap_c, kb0, kb1, kbif, zif, z0, z1, Bool.false_eq_true, eq_self, not_true_eq_false, not_false_eq_true, if_true, if_false, and_self, true_and, false_and, and_true, and_false, c1, c2, c3, ki_0, ki_1, mr_0_0]
        · simp only [↓s180_0, ↓s180_1, ↓s180_2, ↓s180_3, ↓s180_6, ↓s180_9, ↓s180_12, ↓s180_13, ↓s180_14, ↓s180_17, ↓s180_20, ↓s180_21, ↓s180_22, ↓s180_23, ↓s180_26, ↓s180_29, ↓s180_32, ↓s180_33, ↓s180_34, ↓s180_35, ↓s180_38, ↓s180_40, ↓s180_41, ↓s180_43, ↓s180_46, ↓s180_48, ↓s180_49, ↓s180_51, ↓s180_52, ↓s180_53, ↓s180_56, ↓s180_58, ↓s180_59, ↓s180_60, ↓s180_61, ↓s180_63, ↓s180_64, ↓s180_67, ↓s180_69, ↓s180_70, ↓s180_71, ↓s180_72, ↓s180_75, ↓s180_77, ↓s180_78, ↓s180_79, ↓s180_80, ↓s180_81, ↓s180_82, ↓s180_85, ↓s180_87, ↓s180_88, ↓s180_89, ↓s180_90, ↓s180_91, ↓s180_92, ↓s180_95, ↓s180_97, ↓s180_98, ↓s180_99, ↓s180_100, ↓s180_101, ↓s180_102, ↓s180_103, ↓s180_106, ↓s180_108, ↓s180_109, ↓R_isOne h.1 ho, ↓R_i20, kNLn, kNLi, kNLr, va_rf_s, kOl_n, kOl_s, kap_n, kap_c, kb0, kb1, kbif, zif, z0, z1, Bool.false_eq_true, eq_self, not_true_eq_false, not_false_eq_true, if_true, if_false, and_self, true_and, false_and, and_true, and_false, c1, c2, c3, ki_83]
    · refine bB_e hg (-1) (fun mi ml Q h => ?_) (fun mi ml Q h => ?_)
      · simp only [↓s77_0, ↓s77_1, ↓s77_2, ↓s77_4, ↓s77_7, ↓s77_10, ↓s77_11, ↓s77_14, ↓s77_15, ↓s77_18, ↓s77_21, ↓s77_22, ↓s77_23, ↓s77_25, ↓s77_28, ↓s77_31, ↓s77_32, ↓s77_33, ↓s77_34, ↓s77_37, ↓s77_40, ↓s77_42, ↓s77_45, ↓s77_47, ↓s77_48, ↓s77_49, ↓s77_52, ↓s77_53, ↓s77_54, ↓s77_55, ↓s77_58, ↓s77_59, ↓s77_62, ↓s77_65, ↓J_hasOneG kPost_1 h.1 ho, ↓J_w20, kNLn, kNLi, kNLr, va_rf_s, kOl_n, kOl_s, kap_n, kap_c, kb0, kb1, kbif, zif, z0, z1, Bool.false_eq_true, eq_self, not_true_eq_false, not_false_eq_true, if_true, if_false, and_self, true_and, false_and, and_true, and_false, c1, c2, ki_0, ki_1, mr_0_0]
      · simp only [↓s180_0, ↓s180_1, ↓s180_2, ↓s180_3, ↓s180_6, ↓s180_9, ↓s180_12, ↓s180_13, ↓s180_14, ↓s180_17, ↓s180_20, ↓s180_21, ↓s180_22, ↓s180_23, ↓s180_26, ↓s180_29, ↓s180_32, ↓s180_33, ↓s180_34, ↓s180_35, ↓s180_38, ↓s180_40, ↓s180_41, ↓s180_43, ↓s180_46, ↓s180_48, ↓s180_49, ↓s180_51, ↓s180_52, ↓s180_53, ↓s180_56, ↓s180_58, ↓s180_59, ↓s180_60, ↓s180_61, ↓s180_63, ↓s180_64, ↓s180_67, ↓s180_69, ↓s180_70, ↓s180_71, ↓s180_72, ↓s180_75, ↓s180_77, ↓s180_78, ↓s180_79, ↓s180_80, ↓s180_81, ↓s180_82, ↓s180_85, ↓s180_87, ↓s180_88, ↓s180_89, ↓s180_90, ↓s180_91, ↓s180_92, ↓s180_95, ↓s180_97, ↓s180_98, ↓s180_99, ↓s180_100, ↓s180_101, ↓s180_102, ↓s180_103, ↓s180_106, ↓s180_108, ↓s180_109, ↓R_isOne h.1 ho, ↓R_i20, kNLn, kNLi, kNLr, va_rf_s, kOl_n, kOl_s, kap_n, kap_c, kb0, kb1, kbif, zif, z0, z1, Bool.false_eq_true, eq_self, not_true_eq_false, not_false_eq_true, if_true, if_false, and_self, true_and, false_and, and_true, and_false, c1, c2, ki_83]
  · refine bB_e hg (-1) (fun mi ml Q h => ?_) (fun mi ml Q h => ?_)
    · simp only [↓s77_0, ↓s77_1, ↓s77_2, ↓s77_4, ↓s77_7, ↓s77_10, ↓s77_11, ↓s77_14, ↓s77_15, ↓s77_18, ↓s77_21, ↓s77_22, ↓s77_23, ↓s77_25, ↓s77_28, ↓s77_31, ↓s77_32, ↓s77_33, ↓s77_34, ↓s77_37, ↓s77_40, ↓s77_42, ↓s77_45, ↓s77_47, ↓s77_48, ↓s77_49, ↓s77_52, ↓s77_53, ↓s77_54, ↓s77_55, ↓s77_58, ↓s77_59, ↓s77_62, ↓s77_65, ↓J_w20, kNLn, kNLi, kNLr, va_rf_s, kOl_n, kOl_s, kap_n, kap_c, kb0, kb1, kbif, zif, z0, z1, Bool.false_eq_true, eq_self, not_true_eq_false, not_false_eq_true, if_true, if_false, and_self, true_and, false_and, and_true, and_false, c1]
    · simp only [↓s180_0, ↓s180_1, ↓s180_2, ↓s180_3, ↓s180_6, ↓s180_9, ↓s180_12, ↓s180_13, ↓s180_14, ↓s180_17, ↓s180_20, ↓s180_21, ↓s180_22, ↓s180_23, ↓s180_26, ↓s180_29, ↓s180_32, ↓s180_33, ↓s180_34, ↓s180_35, ↓s180_38, ↓s180_40, ↓s180_41, ↓s180_43, ↓s180_46, ↓s180_48, ↓s180_49, ↓s180_51, ↓s180_52, ↓s180_53, ↓s180_56, ↓s180_58, ↓s180_59, ↓s180_60, ↓s180_61, ↓s180_63, ↓s180_64, ↓s180_67, ↓s180_69, ↓s180_70, ↓s180_71, ↓s180_72, ↓s180_75, ↓s180_77, ↓s180_78, ↓s180_79, ↓s180_80, ↓s180_81, ↓s180_82, ↓s180_85, ↓s180_87, ↓s180_88, ↓s180_89, ↓s180_90, ↓s180_91, ↓s180_92, ↓s180_95, ↓s180_97, ↓s180_98, ↓s180_99, ↓s180_100, ↓s180_101, ↓s180_102, ↓s180_103, ↓s180_106, ↓s180_108, ↓s180_109, ↓R_i20, kNLn, kNLi, kNLr, va_rf_s, kOl_n, kOl_s, kap_n, kap_c, kb0, kb1, kbif, zif, z0, z1, Bool.false_eq_true, eq_self, not_true_eq_false, not_false_eq_true, if_true, if_false, and_self, true_and, false_and, and_true, and_false, c1]
end PUB6
