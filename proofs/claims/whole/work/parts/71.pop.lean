/-! how many bits -/
def pc8 (a : Nat) : Nat := a % 2 + a / 2 % 2 + a / 4 % 2 + a / 8 % 2 + a / 16 % 2 + a / 32 % 2 + a / 64 % 2 + a / 128 % 2
def t1 (a : Nat) : Nat := a - ((a / 2) &&& 85)
def t2 (a : Nat) : Nat := (t1 a &&& 51) + ((t1 a / 4) &&& 51)
theorem t_ok : ∀ a, a < 256 → ((a / 2) &&& 85) ≤ a ∧ t1 a < 256 ∧ t2 a ≤ 68 ∧ t2 a % 16 ≤ 4 ∧ (t2 a + t2 a / 16) % 16 = pc8 a ∧ pc8 a ≤ 8 := by decide +kernel
theorem and_blk {w h1 l1 h2 l2 : Nat} (a1 : l1 < 2 ^ w) (a2 : l2 < 2 ^ w) : (2 ^ w * h1 + l1) &&& (2 ^ w * h2 + l2) = 2 ^ w * (h1 &&& h2) + (l1 &&& l2) := by
  apply Nat.eq_of_testBit_eq
  intro i
  have a3 : l1 &&& l2 < 2 ^ w := Nat.lt_of_le_of_lt Nat.and_le_left a1
  rw [Nat.testBit_and, Nat.testBit_two_pow_mul_add _ a1, Nat.testBit_two_pow_mul_add _ a2, Nat.testBit_two_pow_mul_add _ a3]
  by_cases c : i < w
  · rw [if_pos c, if_pos c, if_pos c, Nat.testBit_and]
  · rw [if_neg c, if_neg c, if_neg c, Nat.testBit_and]
/-- a shift by k and a mask, byte by byte -/
theorem byte_and {k a h μ M : Nat} (hk : k ≤ 8) (ha : a < 256) (hμ : μ < 2 ^ (8 - k)) : ((a + 256 * h) / 2 ^ k) &&& (μ + 256 * M) = ((a / 2 ^ k) &&& μ) + 256 * ((h / 2 ^ k) &&& M) := by
  have p8 : 2 ^ k * 2 ^ (8 - k) = 256 := by
    rw [← Nat.pow_add, show k + (8 - k) = 8 by omega]
  have pk := Nat.two_pow_pos k
  have pk2 := Nat.two_pow_pos (8 - k)
  have e1 : (a + 256 * h) / 2 ^ k = a / 2 ^ k + 2 ^ (8 - k) * h := by
    rw [← p8, Nat.mul_assoc, Nat.add_mul_div_left _ _ pk]
  have e2 := Nat.div_add_mod h (2 ^ k)
  have e3 : 2 ^ (8 - k) * h = 256 * (h / 2 ^ k) + 2 ^ (8 - k) * (h % 2 ^ k) := by
    conv => lhs; rw [← e2]
    rw [Nat.mul_add, ← Nat.mul_assoc, Nat.mul_comm (2 ^ (8 - k)) (2 ^ k), p8]
  have l1 : a / 2 ^ k < 2 ^ (8 - k) := by
    rw [Nat.div_lt_iff_lt_mul pk, Nat.mul_comm, p8]; exact ha
  have l2 : 2 ^ (8 - k) * (h % 2 ^ k) + a / 2 ^ k < 2 ^ 8 := by
    have h1 : h % 2 ^ k + 1 ≤ 2 ^ k := Nat.mod_lt _ pk
    have h2 : 2 ^ (8 - k) * (h % 2 ^ k + 1) ≤ 2 ^ (8 - k) * 2 ^ k := Nat.mul_le_mul_left _ h1
    rw [Nat.mul_comm (2 ^ (8 - k)) (2 ^ k), p8, Nat.mul_add, Nat.mul_one] at h2
    omega
  have l3 : μ < 2 ^ 8 := Nat.lt_of_lt_of_le hμ (Nat.pow_le_pow_right (by decide) (by omega))
  have e4 : a / 2 ^ k + 2 ^ (8 - k) * h = 2 ^ 8 * (h / 2 ^ k) + (2 ^ (8 - k) * (h % 2 ^ k) + a / 2 ^ k) := by rw [e3]; omega
  have e5 : μ + 256 * M = 2 ^ 8 * M + μ := by omega
  rw [e1, e4, e5, and_blk l2 l3]
  have e6 := and_blk (w := 8 - k) (h1 := h % 2 ^ k) (h2 := 0) l1 hμ
  rw [Nat.mul_zero, Nat.zero_add, Nat.and_zero, Nat.mul_zero, Nat.zero_add] at e6
  rw [e6]
  omega
theorem nI_and (a b : Nat) : nI a &&& nI b = nI (a &&& b) := by
  apply Int32.toBitVec_inj.mp
  show (BitVec.ofNat 32 a) &&& (BitVec.ofNat 32 b) = BitVec.ofNat 32 (a &&& b)
  rw [BitVec.ofNat_and]
theorem ush_nI {x k : Nat} (hx : x < 2 ^ 31) (hk : k < 31) : ush (nI x) (nI k) = nI (x / 2 ^ k) := by
  have e1 : (nI k).toUInt32 &&& Int32.toUInt32 31 = UInt32.ofNat k := by
    have h : ∀ k, k < 31 → (nI k).toUInt32 &&& Int32.toUInt32 31 = UInt32.ofNat k := by decide +kernel
    exact h k hk
  apply Int32.toBitVec_inj.mp
  unfold ush
  rw [e1]
  apply BitVec.eq_of_toNat_eq
  show ((nI x).toUInt32 >>> UInt32.ofNat k).toNat = (x / 2 ^ k) % 2 ^ 32
  rw [UInt32.toNat_shiftRight]
  have e2 : (nI x).toUInt32.toNat = x := by
    show x % 2 ^ 32 = x
    exact Nat.mod_eq_of_lt (by omega)
  have e3 : (UInt32.ofNat k).toNat = k := by
    show k % 2 ^ 32 = k
    exact Nat.mod_eq_of_lt (by omega)
  have hle : x / 2 ^ k ≤ x := Nat.div_le_self _ _
  rw [e2, e3, Nat.mod_eq_of_lt (by omega : k < 32), Nat.shiftRight_eq_div_pow, Nat.mod_eq_of_lt (by omega)]
theorem bc_24 {a b c : Nat} (ha : a < 256) (hb : b < 256) (hc : c < 128) : bcI (nI (a + 256 * (b + 256 * c))) = nI (pc8 a + pc8 b + pc8 c) := by
  obtain ⟨a1, a2, a3, a4, a5, a6⟩ := t_ok a ha
  obtain ⟨b1, b2, b3, b4, b5, b6⟩ := t_ok b hb
  obtain ⟨c1, c2, c3, c4, c5, c6⟩ := t_ok c (by omega)
  have m1 : (1431655765 : Int32) = nI (85 + 256 * (85 + 256 * (85 + 256 * 85))) := by decide
  have m2 : (858993459 : Int32) = nI (51 + 256 * (51 + 256 * (51 + 256 * 51))) := by decide
  have m3 : (252645135 : Int32) = nI (15 + 256 * (15 + 256 * (15 + 256 * 15))) := by decide
  -- stage 1
  have s1 : bc1 (nI (a + 256 * (b + 256 * c))) = nI (t1 a + 256 * (t1 b + 256 * t1 c)) := by
    unfold bc1
    rw [ush_nI (by omega) (by decide), m1, nI_and, byte_and (k := 1) (by decide) ha (by decide), byte_and (k := 1) (by decide) hb (by decide)]
    have e := byte_and (k := 1) (a := c) (h := 0) (μ := 85) (M := 85) (by decide) (by omega) (by decide)
    rw [Nat.mul_zero, Nat.add_zero, Nat.zero_div, Nat.zero_and, Nat.mul_zero, Nat.add_zero] at e
    rw [e, pk_sub (by show ((a / 2) &&& 85) + 256 * (((b / 2) &&& 85) + 256 * ((c / 2) &&& 85)) ≤ _; omega)]
    congr 1
    show a + 256 * (b + 256 * c) - (((a / 2) &&& 85) + 256 * (((b / 2) &&& 85) + 256 * ((c / 2) &&& 85))) = (a - ((a / 2) &&& 85)) + 256 * ((b - ((b / 2) &&& 85)) + 256 * (c - ((c / 2) &&& 85)))
    omega
  have cl : t1 c < 128 := by
    show c - ((c / 2) &&& 85) < 128
    omega
  have s2 : bc2 (nI (t1 a + 256 * (t1 b + 256 * t1 c))) = nI (t2 a + 256 * (t2 b + 256 * t2 c)) := by
    unfold bc2
    rw [ush_nI (by omega) (by decide), m2, nI_and, nI_and]
    have k0 := byte_and (k := 0) (a := t1 a) (h := t1 b + 256 * t1 c) (μ := 51) (M := 51 + 256 * (51 + 256 * 51)) (by decide) a2 (by decide)
    have k1 := byte_and (k := 0) (a := t1 b) (h := t1 c) (μ := 51) (M := 51 + 256 * 51) (by decide) b2 (by decide)
    have k2 := byte_and (k := 0) (a := t1 c) (h := 0) (μ := 51) (M := 51) (by decide) c2 (by decide)
    rw [Nat.pow_zero, Nat.div_one, Nat.div_one, Nat.div_one] at k0 k1
    rw [Nat.mul_zero, Nat.add_zero, Nat.pow_zero, Nat.div_one, Nat.zero_div, Nat.zero_and, Nat.mul_zero, Nat.add_zero] at k2
    rw [k2] at k1
    rw [k1] at k0
    have j0 := byte_and (k := 2) (a := t1 a) (h := t1 b + 256 * t1 c) (μ := 51) (M := 51 + 256 * (51 + 256 * 51)) (by decide) a2 (by decide)
    have j1 := byte_and (k := 2) (a := t1 b) (h := t1 c) (μ := 51) (M := 51 + 256 * 51) (by decide) b2 (by decide)
    have j2 := byte_and (k := 2) (a := t1 c) (h := 0) (μ := 51) (M := 51) (by decide) c2 (by decide)
    rw [Nat.mul_zero, Nat.add_zero, Nat.zero_div, Nat.zero_and, Nat.mul_zero, Nat.add_zero] at j2
    rw [j2] at j1
    rw [j1] at j0
    rw [k0, j0, nI_add]
    congr 1
    unfold t2
    show _ + 256 * (_ + 256 * _) + ((t1 a / 4 &&& 51) + 256 * ((t1 b / 4 &&& 51) + 256 * (t1 c / 4 &&& 51))) = _
    omega
  have s3 : bc3 (nI (t2 a + 256 * (t2 b + 256 * t2 c))) = nI (pc8 a + 256 * (pc8 b + 256 * pc8 c)) := by
    unfold bc3
    rw [ush_nI (by omega) (by decide), nI_add, m3, nI_and]
    congr 1
    have e0 : t2 a + 256 * (t2 b + 256 * t2 c) + (t2 a + 256 * (t2 b + 256 * t2 c)) / 2 ^ 4 = 2 ^ 8 * (2 ^ 8 * (t2 c + t2 c / 16) + (t2 b + t2 b / 16 + 16 * (t2 c % 16))) + (t2 a + t2 a / 16 + 16 * (t2 b % 16)) := by omega
    have e1 : 15 + 256 * (15 + 256 * (15 + 256 * 15)) = 2 ^ 8 * (2 ^ 8 * (15 + 256 * 15) + 15) + 15 := by decide
    have e2 : (t2 c + t2 c / 16) &&& (15 + 256 * 15) = (t2 c + t2 c / 16) % 16 := by
      have h := and_blk (w := 8) (h1 := 0) (l1 := t2 c + t2 c / 16) (h2 := 15) (l2 := 15) (by omega) (by decide)
      rw [Nat.zero_and, Nat.mul_zero, Nat.zero_add, Nat.zero_add] at h
      rw [show 15 + 256 * 15 = 2 ^ 8 * 15 + 15 by decide, h, show (15 : Nat) = 2 ^ 4 - 1 by decide, Nat.and_two_pow_sub_one_eq_mod]
    rw [e0, e1, and_blk (by omega) (by decide), and_blk (by omega) (by decide), e2, show (15 : Nat) = 2 ^ 4 - 1 by decide, Nat.and_two_pow_sub_one_eq_mod, Nat.and_two_pow_sub_one_eq_mod, ← a5, ← b5, ← c5]
    omega
  have s4 : bc4 (nI (pc8 a + 256 * (pc8 b + 256 * pc8 c))) = nI ((pc8 a + pc8 b) + 256 * ((pc8 b + pc8 c) + 256 * pc8 c)) := by
    unfold bc4
    rw [ush_nI (by omega) (by decide), nI_add]
    congr 1
    omega
  have s5 : bc5 (nI ((pc8 a + pc8 b) + 256 * ((pc8 b + pc8 c) + 256 * pc8 c))) = nI ((pc8 a + pc8 b + pc8 c) + 256 * ((pc8 b + pc8 c) + 256 * pc8 c)) := by
    unfold bc5
    rw [ush_nI (by omega) (by decide), nI_add]
    congr 1
    omega
  unfold bcI
  rw [s1, s2, s3, s4, s5, nI_and, show (63 : Nat) = 2 ^ 6 - 1 by decide, Nat.and_two_pow_sub_one_eq_mod]
  congr 1
  omega
/-- the bits of x below n -/
def pcF (x : Nat) : Nat → Nat
  | 0 => 0
  | k + 1 => pcF x k + x / 2 ^ k % 2
theorem bit_a (x : Nat) : x % 256 % 2 = x % 2 ∧ x % 256 / 2 % 2 = x / 2 % 2 ∧ x % 256 / 4 % 2 = x / 4 % 2 ∧ x % 256 / 8 % 2 = x / 8 % 2 ∧ x % 256 / 16 % 2 = x / 16 % 2 ∧ x % 256 / 32 % 2 = x / 32 % 2 ∧ x % 256 / 64 % 2 = x / 64 % 2 ∧ x % 256 / 128 % 2 = x / 128 % 2 := ⟨by omega, by omega, by omega, by omega, by omega, by omega, by omega, by omega⟩
theorem bit_b (x : Nat) : x / 256 % 256 % 2 = x / 256 % 2 ∧ x / 256 % 256 / 2 % 2 = x / 512 % 2 ∧ x / 256 % 256 / 4 % 2 = x / 1024 % 2 ∧ x / 256 % 256 / 8 % 2 = x / 2048 % 2 ∧ x / 256 % 256 / 16 % 2 = x / 4096 % 2 ∧ x / 256 % 256 / 32 % 2 = x / 8192 % 2 ∧ x / 256 % 256 / 64 % 2 = x / 16384 % 2 ∧ x / 256 % 256 / 128 % 2 = x / 32768 % 2 := ⟨by omega, by omega, by omega, by omega, by omega, by omega, by omega, by omega⟩
theorem bit_c {x : Nat} (h : x / 65536 < 8) : x / 65536 / 2 % 2 = x / 131072 % 2 ∧ x / 65536 / 4 % 2 = x / 262144 % 2 ∧ x / 65536 / 8 % 2 = 0 ∧ x / 65536 / 16 % 2 = 0 ∧ x / 65536 / 32 % 2 = 0 ∧ x / 65536 / 64 % 2 = 0 ∧ x / 65536 / 128 % 2 = 0 := ⟨by omega, by omega, by rw [Nat.div_eq_of_lt (by omega)], by rw [Nat.div_eq_of_lt (by omega)], by rw [Nat.div_eq_of_lt (by omega)], by rw [Nat.div_eq_of_lt (by omega)], by rw [Nat.div_eq_of_lt (by omega)]⟩
theorem bc_19 {x : Nat} (hx : x < 2 ^ 19) : bcI (nI x) = nI (pcF x 19) := by
  have e : x = x % 256 + 256 * (x / 256 % 256 + 256 * (x / 65536)) := by omega
  have h := bc_24 (a := x % 256) (b := x / 256 % 256) (c := x / 65536) (by omega) (by omega) (by omega)
  rw [← e] at h
  rw [h]
  obtain ⟨h0, h1, h2, h3, h4, h5, h6, h7⟩ := bit_a x
  obtain ⟨g0, g1, g2, g3, g4, g5, g6, g7⟩ := bit_b x
  obtain ⟨k1, k2, k3, k4, k5, k6, k7⟩ := bit_c (x := x) (by omega)
  congr 1
  unfold pc8
  rw [h0, h1, h2, h3, h4, h5, h6, h7, g0, g1, g2, g3, g4, g5, g6, g7, k1, k2, k3, k4, k5, k6, k7]
  simp only [pcF, Nat.reducePow, Nat.div_one, Nat.add_assoc, Nat.zero_add, Nat.add_zero]
theorem sar_bit {x k : Nat} (hx : x < 2 ^ 31) (hk : k < 31) : (nI x >>> (nI k &&& 31)) &&& nI 1 = nI (x / 2 ^ k % 2) := by
  have e0 : ((nI k &&& 31).toBitVec.smod 32#32).toNat = k := by
    have h : ∀ k, k < 31 → ((nI k &&& 31).toBitVec.smod 32#32).toNat = k := by decide +kernel
    exact h k hk
  apply Int32.toBitVec_inj.mp
  have e1 : ((nI x >>> (nI k &&& 31)) &&& nI 1).toBitVec = (BitVec.ofNat 32 x).sshiftRight k &&& 1#32 := by
    rw [Int32.toBitVec_and, Int32.toBitVec_shiftRight]
    show (BitVec.ofNat 32 x).sshiftRight ((nI k &&& 31).toBitVec.smod 32#32).toNat &&& _ = _
    rw [e0]
    rfl
  rw [e1, BitVec.sshiftRight_eq_of_msb_false (by rw [BitVec.msb_eq_false_iff_two_mul_lt, BitVec.toNat_ofNat]; omega)]
  apply BitVec.eq_of_toNat_eq
  rw [BitVec.toNat_and, BitVec.toNat_ushiftRight, BitVec.toNat_ofNat]
  show (x % 2 ^ 32) >>> k &&& 1 = (x / 2 ^ k % 2) % 2 ^ 32
  rw [Nat.mod_eq_of_lt (by omega : x < 2 ^ 32), Nat.and_one_is_mod, Nat.shiftRight_eq_div_pow]
  omega
