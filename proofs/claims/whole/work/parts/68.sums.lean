/-! sums; the two ways to count days without a post -/
def sums (f : Nat → Nat) : Nat → Nat
  | 0 => 0
  | k + 1 => sums f k + f k
theorem sums_cg {f g : Nat → Nat} : ∀ n, (∀ j, j < n → f j = g j) → sums f n = sums g n := by
  intro n
  induction n with
  | zero => intro _; rfl
  | succ n ih =>
    intro h
    show sums f n + f n = sums g n + g n
    rw [ih (fun j hj => h j (by omega)), h n (by omega)]
theorem sums_add {f g : Nat → Nat} : ∀ n, sums (fun j => f j + g j) n = sums f n + sums g n := by
  intro n
  induction n with
  | zero => rfl
  | succ n ih =>
    show sums (fun j => f j + g j) n + (f n + g n) = (sums f n + f n) + (sums g n + g n)
    omega
theorem sums_mul {f : Nat → Nat} {a : Nat} : ∀ n, sums (fun j => a * f j) n = a * sums f n := by
  intro n
  induction n with
  | zero => rfl
  | succ n ih =>
    show sums (fun j => a * f j) n + a * f n = a * (sums f n + f n)
    rw [ih, Nat.mul_add]
theorem sums_sh {f : Nat → Nat} : ∀ n, sums f (n + 1) = f 0 + sums (fun j => f (j + 1)) n := by
  intro n
  induction n with
  | zero => show 0 + f 0 = f 0 + 0; omega
  | succ n ih =>
    show sums f (n + 1) + f (n + 1) = f 0 + (sums (fun j => f (j + 1)) n + f (n + 1))
    rw [ih]; omega
theorem sums_ap {f : Nat → Nat} {m : Nat} : ∀ n, sums f (m + n) = sums f m + sums (fun j => f (j + m)) n := by
  intro n
  induction n with
  | zero => rfl
  | succ n ih =>
    show sums f (m + n) + f (m + n) = sums f m + (sums (fun j => f (j + m)) n + f (n + m))
    rw [ih, Nat.add_comm n m]; omega
/-- which days had none -/
def wz (a b s : Nat) : Nat → Nat
  | 0 => 1
  | k + 1 => wz a b s k * (if s / 2 ^ k % 2 = 1 then a else b)
def pz (s : Nat) : Nat → Nat
  | 0 => 0
  | k + 1 => pz s k + (if s / 2 ^ k % 2 = 1 then 0 else 1)
theorem pz_le (s : Nat) : ∀ k, pz s k ≤ k := by
  intro k
  induction k with
  | zero => exact Nat.le_refl _
  | succ k ih =>
    show pz s k + (if s / 2 ^ k % 2 = 1 then 0 else 1) ≤ k + 1
    split <;> omega
theorem bit_hi {s m k : Nat} (h : k < m) : (s + 2 ^ m) / 2 ^ k % 2 = s / 2 ^ k % 2 := by
  obtain ⟨d, rfl⟩ : ∃ d, m = k + 1 + d := ⟨m - (k + 1), by omega⟩
  have e : 2 ^ (k + 1 + d) = 2 ^ k * (2 * 2 ^ d) := by rw [Nat.pow_add, Nat.pow_succ, Nat.mul_assoc]
  rw [e, Nat.add_mul_div_left _ _ (Nat.two_pow_pos k)]
  omega
theorem bit_at {s m : Nat} (h : s < 2 ^ m) : (s + 2 ^ m) / 2 ^ m % 2 = 1 := by
  rw [Nat.add_div_right _ (Nat.two_pow_pos m), Nat.div_eq_of_lt h]
theorem bit_lo {s m : Nat} (h : s < 2 ^ m) : s / 2 ^ m % 2 = 0 := by
  rw [Nat.div_eq_of_lt h]
theorem wz_hi {a b s m : Nat} : ∀ k, k ≤ m → wz a b (s + 2 ^ m) k = wz a b s k := by
  intro k
  induction k with
  | zero => intro _; rfl
  | succ k ih =>
    intro h
    show wz a b (s + 2 ^ m) k * (if (s + 2 ^ m) / 2 ^ k % 2 = 1 then a else b) = wz a b s k * (if s / 2 ^ k % 2 = 1 then a else b)
    rw [ih (by omega), bit_hi (by omega)]
theorem pz_hi {s m : Nat} : ∀ k, k ≤ m → pz (s + 2 ^ m) k = pz s k := by
  intro k
  induction k with
  | zero => intro _; rfl
  | succ k ih =>
    intro h
    show pz (s + 2 ^ m) k + (if (s + 2 ^ m) / 2 ^ k % 2 = 1 then 0 else 1) = pz s k + (if s / 2 ^ k % 2 = 1 then 0 else 1)
    rw [ih (by omega), bit_hi (by omega)]
def zS (a b : Nat) (G : Nat → Nat) (m c : Nat) : Nat := sums (fun s => wz a b s m * G (c + pz s m)) (2 ^ m)
theorem zS_s {a b : Nat} {G : Nat → Nat} {m c : Nat} : zS a b G (m + 1) c = b * zS a b G m (c + 1) + a * zS a b G m c := by
  unfold zS
  rw [show 2 ^ (m + 1) = 2 ^ m + 2 ^ m by rw [Nat.pow_succ]; omega, sums_ap, ← sums_mul, ← sums_mul]
  congr 1
  · refine sums_cg _ (fun s hs => ?_)
    show wz a b s m * (if s / 2 ^ m % 2 = 1 then a else b) * G (c + (pz s m + (if s / 2 ^ m % 2 = 1 then 0 else 1))) = b * (wz a b s m * G (c + 1 + pz s m))
    rw [bit_lo hs, if_neg (by decide), if_neg (by decide), show c + (pz s m + 1) = c + 1 + pz s m by omega, Nat.mul_comm (wz a b s m) b, Nat.mul_assoc]
  · refine sums_cg _ (fun s hs => ?_)
    show wz a b (s + 2 ^ m) m * (if (s + 2 ^ m) / 2 ^ m % 2 = 1 then a else b) * G (c + (pz (s + 2 ^ m) m + (if (s + 2 ^ m) / 2 ^ m % 2 = 1 then 0 else 1))) = a * (wz a b s m * G (c + pz s m))
    rw [bit_at hs, if_pos rfl, if_pos rfl, wz_hi m (Nat.le_refl m), pz_hi m (Nat.le_refl m), Nat.add_zero, Nat.mul_comm (wz a b s m) a, Nat.mul_assoc]
/-- coefficients -/
def kK (a b : Nat) : Nat → Nat → Nat
  | 0, 0 => 1
  | 0, _ + 1 => 0
  | m + 1, 0 => a * kK a b m 0
  | m + 1, p + 1 => b * kK a b m p + a * kK a b m (p + 1)
theorem kK_gt {a b : Nat} : ∀ m p, m < p → kK a b m p = 0 := by
  intro m
  induction m with
  | zero =>
    intro p hp
    cases p with
    | zero => omega
    | succ p => rfl
  | succ m ih =>
    intro p hp
    cases p with
    | zero => omega
    | succ p =>
      show b * kK a b m p + a * kK a b m (p + 1) = 0
      rw [ih p (by omega), ih (p + 1) (by omega)]
      rfl
theorem zS_k {a b : Nat} {G : Nat → Nat} : ∀ m c, zS a b G m c = sums (fun p => kK a b m p * G (c + p)) (m + 1) := by
  intro m
  induction m with
  | zero =>
    intro c
    show 0 + 1 * G (c + 0) = 0 + 1 * G (c + 0)
    rfl
  | succ m ih =>
    intro c
    rw [zS_s, ih, ih, sums_sh (m + 1)]
    show b * sums (fun p => kK a b m p * G (c + 1 + p)) (m + 1) + a * sums (fun p => kK a b m p * G (c + p)) (m + 1) = a * kK a b m 0 * G (c + 0) + sums (fun j => (b * kK a b m j + a * kK a b m (j + 1)) * G (c + (j + 1))) (m + 1)
    have e1 : sums (fun j => (b * kK a b m j + a * kK a b m (j + 1)) * G (c + (j + 1))) (m + 1) = b * sums (fun p => kK a b m p * G (c + 1 + p)) (m + 1) + a * sums (fun j => kK a b m (j + 1) * G (c + (j + 1))) (m + 1) := by
      rw [← sums_mul, ← sums_mul, ← sums_add]
      refine sums_cg _ (fun j hj => ?_)
      show (b * kK a b m j + a * kK a b m (j + 1)) * G (c + (j + 1)) = b * (kK a b m j * G (c + 1 + j)) + a * (kK a b m (j + 1) * G (c + (j + 1)))
      rw [Nat.add_mul, Nat.mul_assoc, Nat.mul_assoc, show c + (j + 1) = c + 1 + j by omega]
    have e2 : sums (fun p => kK a b m p * G (c + p)) (m + 1) = kK a b m 0 * G (c + 0) + sums (fun j => kK a b m (j + 1) * G (c + (j + 1))) (m + 1) := by
      have := sums_sh (f := fun p => kK a b m p * G (c + p)) (m + 1)
      rw [← this]
      show _ = sums (fun p => kK a b m p * G (c + p)) (m + 1) + kK a b m (m + 1) * G (c + (m + 1))
      rw [kK_gt m (m + 1) (by omega)]
      omega
    rw [e1, e2, Nat.mul_add, Nat.mul_assoc]
    omega
/-- the class's weights -/
def wy (d : Nat) : Nat → Nat
  | 0 => 1
  | j + 1 => wy d j * (d + (j + 1)) / (j + 1)
def wgt (v n p : Nat) : Nat := wy (n - p) p * (10 - v) ^ p * v ^ (n - p)
theorem wy_lt : ∀ d, d < 9 → ∀ j, j < 9 → wy d j < 2 ^ 40 := by decide +kernel
theorem wgt_k : ∀ v, v < 11 → ∀ n, n < 9 → ∀ p, p < 9 → p ≤ n → kK v (10 - v) n p = wgt v n p := by decide +kernel
theorem odds_eq {v n : Nat} {G : Nat → Nat} (hv : v < 11) (hn : n < 9) : sums (fun s => wz v (10 - v) s n * G (pz s n)) (2 ^ n) = sums (fun p => wgt v n p * G p) (n + 1) := by
  have h := zS_k (a := v) (b := 10 - v) (G := G) n 0
  unfold zS at h
  have e1 : sums (fun s => wz v (10 - v) s n * G (0 + pz s n)) (2 ^ n) = sums (fun s => wz v (10 - v) s n * G (pz s n)) (2 ^ n) := sums_cg _ (fun s _ => by rw [Nat.zero_add])
  rw [← e1, h]
  refine sums_cg _ (fun p hp => ?_)
  show kK v (10 - v) n p * G (0 + p) = wgt v n p * G p
  rw [wgt_k v hv n hn p (by omega) (by omega), Nat.zero_add]
/-! longs -/
def lI (n : Nat) : Int64 := Int64.ofNat n
theorem lI_add (a b : Nat) : lI a + lI b = lI (a + b) := (Int64.ofNat_add a b).symm
theorem lI_mul (a b : Nat) : lI a * lI b = lI (a * b) := (Int64.ofNat_mul a b).symm
theorem lI_toInt {n : Nat} (h : n < 2 ^ 63) : (lI n).toInt = (n : Int) := lg_ofNat_toInt h
theorem lI_of {n : Nat} (h : n < 2 ^ 31) : (nI n).toInt64 = lI n := Int64.toInt_inj.mp (by rw [toI64, nI_toInt h, lI_toInt (by omega)])
theorem lI_0 : (0 : Int64) = lI 0 := rfl
theorem lI_1 : (1 : Int64) = lI 1 := rfl
theorem lI_10 : (10 : Int64) = lI 10 := rfl
theorem lI_nz {n : Nat} (h0 : 0 < n) (h : n < 2 ^ 63) : ¬ lI n = 0 := fun e => by
  have := congrArg Int64.toInt e
  rw [lI_toInt h, Int64.toInt_zero] at this
  omega
theorem lI_div {a b : Nat} (ha : a < 2 ^ 63) (h0 : 0 < b) (hb : b < 2 ^ 63) : lI a / lI b = lI (a / b) := by
  apply Int64.toInt_inj.mp
  have hle : a / b ≤ a := Nat.div_le_self a b
  rw [lg_ldiv_nonneg (by rw [lI_toInt ha]; omega) (by rw [lI_toInt hb]; omega), lI_toInt ha, lI_toInt hb, lI_toInt (by omega)]
  rfl
theorem lI_rem {a b : Nat} (ha : a < 2 ^ 63) (h0 : 0 < b) (hb : b < 2 ^ 63) : lI a - lI a / lI b * lI b = lI (a % b) := by
  rw [lI_div ha h0 hb, lI_mul]
  have e := Nat.div_add_mod a b
  rw [Nat.mul_comm] at e
  have h1 : a / b * b ≤ a := by omega
  have h2 : a % b = a - a / b * b := by omega
  rw [h2]
  exact (Int64.ofNat_sub a (a / b * b) h1).symm
theorem lg_eq0 (x y : Int64) : (lg_cmp x y = 0) = (x = y) := propext (lg_cmp_eq x y)
