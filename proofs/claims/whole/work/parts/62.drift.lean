section
/-! by a seed: drift; count; images -/
theorem nI_bv (x : Int32) : x = nI x.toBitVec.toNat := by
  apply Int32.toBitVec_inj.mp
  show x.toBitVec = BitVec.ofNat 32 x.toBitVec.toNat
  rw [BitVec.ofNat_toNat, BitVec.setWidth_eq]
def gotI (s : Int32) : Int32 := ush s (nI 16) &&& nI 32767
def gotN (s : Int32) : Nat := (gotI s).toBitVec.toNat
theorem got_nI (s : Int32) : gotI s = nI (gotN s) := nI_bv _
theorem got_lt (s : Int32) : gotN s < 32768 := by
  have h : (gotI s).toBitVec.toNat = (ush s (nI 16)).toBitVec.toNat &&& 32767 := by
    show ((ush s (nI 16)).toBitVec &&& (nI 32767).toBitVec).toNat = _
    rw [BitVec.toNat_and]
    rfl
  have h2 : (ush s (nI 16)).toBitVec.toNat &&& 32767 ≤ 32767 := Nat.and_le_right
  unfold gotN
  omega
theorem got_sh (s : Int32) : (s >>> (nI 16 &&& 31)) &&& nI 32767 = gotI s := by
  apply Int32.toBitVec_inj.mp
  have e1 : ((s >>> (nI 16 &&& 31)) &&& nI 32767).toBitVec = s.toBitVec.sshiftRight 16 &&& 32767#32 := by
    rw [Int32.toBitVec_and, Int32.toBitVec_shiftRight]
    rfl
  have e2 : (gotI s).toBitVec = s.toBitVec >>> 16 &&& 32767#32 := by
    unfold gotI ush
    rw [Int32.toBitVec_and]
    rfl
  rw [e1, e2]
  apply BitVec.eq_of_getLsbD_eq
  intro i hi
  rw [BitVec.getLsbD_and, BitVec.getLsbD_and]
  by_cases c : i < 15
  · rw [BitVec.getLsbD_sshiftRight, BitVec.getLsbD_ushiftRight]
    simp [show 16 + i < 32 by omega, show ¬ 32 ≤ i by omega]
  · have e : (32767#32).getLsbD i = false := by
      have h : ∀ j, j < 17 → (32767#32).getLsbD (15 + j) = false := by decide
      have := h (i - 15) (by omega)
      rw [show 15 + (i - 15) = i by omega] at this
      exact this
    rw [e, Bool.and_false, Bool.and_false]
def tagain (U : tT) (i t : Nat) : tT := tup (tup (tup U 7 i t) 8 i (U 2 (U 4 i))) 9 i 0
theorem tagain_r {U : tT} {i t : Nat} : ∀ r k, tagain U i t r k = tup (tup (tup U 8 i (U 2 (U 4 i))) 9 i 0) 7 i t r k := by
  intro r k
  unfold tagain tup
  by_cases h7 : r = 7 ∧ k = i
  · rw [if_neg (by omega), if_neg (by omega), if_pos h7, if_pos h7]
  · by_cases h8 : r = 8 ∧ k = i
    · rw [if_neg (by omega), if_pos h8, if_neg h7, if_neg (by omega), if_pos h8]
    · by_cases h9 : r = 9 ∧ k = i
      · rw [if_pos h9, if_neg h7, if_pos h9]
      · rw [if_neg h9, if_neg h8, if_neg h7, if_neg h7, if_neg h9, if_neg h8]
theorem tagain_ok {U : tT} {i t : Nat} (h : tOK U) (hi : i < U 0 4) (ht : t < 19) : tOK (tagain U i t) :=
  tOK_upL (tOK_upL (tOK_upL h (Or.inl ⟨rfl, by omega⟩)) (Or.inr (Or.inl ⟨rfl, (h.2.2.2.2.2.1 _ (h.2.2.2.2.2.2.1 i hi).1).2.1⟩))) (by omega)
theorem tagain_0 {U : tT} {i t k : Nat} : tagain U i t 0 k = U 0 k := by
  unfold tagain
  rw [tup_n (by omega), tup_n (by omega), tup_n (by omega)]
def sdI (s : Int32) : Int32 := s * 1103515245 + nI 12345
def tdriU (s : Int32) (U : tT) : tT := tagain U (gotN (sdI s) % U 0 4) (gotN (sdI s) / 8 % 19)
def tdriF : Nat → Int32 → tT → Nat → tT × Nat
  | 0, _, U, c => (U, c)
  | k + 1, s, U, c => tdriF k (sdI s) (tD (tdriU s U)) (c + tarr 1 (tdriU s U))
section DRIFT
variable {mi : Nat → Nat → Int32} {ml : Nat → Nat → Int64} {m : kMem} {Q : Option Value → kMem → Prop} {S : gS} {T U : tT} {b p n f t a v d i : Nat}
theorem tdriU_ok {s : Int32} (h : tOK U) (hl : 0 < U 0 4) : tOK (tdriU s U) := tagain_ok h (Nat.mod_lt _ hl) (Nat.mod_lt _ (by decide))
theorem kCR_again (h : kCR b U mi) (ho : tOK U) (hi : i < U 0 4) : kCR b (tagain U i t) (kWA b i (U 4 i) (nI t) mi) := by
  have hd : mi (b + 2) (U 4 i) = nI (U 2 (U 4 i)) := kCR_row h (r := 2) (by omega) (by omega) (by rw [tcnt_p (by omega)]; exact (ho.2.2.2.2.2.2.1 i hi).1)
  unfold kWA
  rw [hd]
  exact kCR_up (r := 9) (kCR_up (r := 8) (kCR_up (r := 7) h (by omega)) (by omega)) (by omega)
theorem kFr_again {x : Int32} : kFr b mi (kWA b i f x mi) := by
  unfold kWA
  exact kFr_up (kFr_up (kFr_up kFr_rf (by omega)) (by omega)) (by omega)
def gdri (r : tT × Nat) (z : Int32) : Int32 := if z = 0 then nI (tmoods r.1) else nI r.2
theorem B_drift {x y z : Int32} (hg : gOK S) : bB 82 [some (.ref 0), some (.int x), some (.int y), some (.int z), none, none, none, none, none] 188 [some (.ref 83), some (.int x), some (.int y), some (.int z), none, none, none, none] S := by
  have ho := hg.1.1
  have o2 := ho.2.1
  have hd12 := hg.1.2
  have e60 : ((60 : Int64)).toInt = ((61 : Nat) : Int) - 1 := by decide
  have n8 : ¬ nI 8 = 0 := by decide
  have n19 : ¬ nI 19 = 0 := by decide
  by_cases c : gin y 61 = true ∧ y ≠ nI 0
  · have hcw : nI 1 ≤ y ∧ y ≤ nI 60 := by rw [gin_w1 (by decide)]; exact c
    have hwj : ∀ (m : kMem) Q', kJ 90 0 [some (.int y), some (.int (nI 1)), some (.int (nI 60))] [] m Q' = Q' (some (.int (nI 1))) m := fun m Q' => by rw [J_within, if_pos hcw]
    have hrj : ∀ (m : kMem) Q', kJ 107 0 [some (.long y.toInt64), none, some (.long 1), none, some (.long 60), none] [] m Q' = Q' (some (.int (nI 1))) m := fun m Q' => by rw [R_in]; simp only [gin_r1 e60]; rw [if_pos c]
    by_cases e : gin z 2 = true
    · by_cases l0 : S.1 0 4 = 0
      · refine bB_e hg (-2) (fun mi ml Q h => ?_) (fun mi ml Q h => ?_)
        · have h4 := h.1.1.2.1
          rw [l0] at h4
          have hlt : ¬ 0 < nI 0 := by decide
          simp only [↓s82_0, ↓s82_1, ↓s82_2, ↓s82_4, ↓s82_7, ↓s82_10, ↓s82_11, ↓s82_12, ↓s82_13, ↓s82_16, ↓s82_19, ↓s82_20, ↓s82_21, ↓s82_22, ↓s82_25, ↓s82_28, ↓s82_31, ↓s82_33, ↓s82_34, ↓s82_35, ↓s82_38, ↓s82_39, ↓s82_42, ↓s82_45, ↓s82_46, ↓s82_48, ↓s82_49, ↓s82_51, ↓s82_52, ↓s82_56, ↓s82_57, ↓s82_60, ↓s82_62, ↓s82_64, ↓s82_65, ↓s82_68, ↓s82_69, ↓s82_71, ↓s82_73, ↓s82_75, ↓s82_76, ↓s82_79, ↓s82_80, ↓s82_82, ↓s82_83, ↓s82_86, ↓s82_88, ↓s82_89, ↓s82_92, ↓s82_95, ↓s82_96, ↓s82_98, ↓s82_100, ↓s82_101, ↓s82_103, ↓s82_104, ↓s82_107, ↓s82_108, ↓s82_111, ↓s82_114, ↓s82_116, ↓s82_117, ↓s82_120, ↓s82_121, ↓s82_124, ↓s82_126, ↓s82_127, ↓s82_130, ↓s82_133, ↓s82_135, ↓s82_136, ↓s82_137, ↓s82_139, ↓s82_142, ↓s82_145, ↓s82_146, ↓s82_149, ↓s82_150, ↓s82_153, ↓s82_156, ↓s82_159, ↓s82_161, ↓hwj, ↓J_w1, kNLn, kNLi, kNLr, va_rf_s, kOl_n, kOl_s, kap_n, kap_c, kb0, kb1, kbif, zif, z0, z1, Bool.false_eq_true, eq_self, not_true_eq_false, not_false_eq_true, if_true, if_false, and_self, true_and, false_and, and_true, and_false, e, ki_0, ki_1, mr_0_0, h4, hlt]
        · have h4 := h.1.1.2.1
          rw [l0] at h4
          have c52 : (nI 52).toNatClampNeg = 52 := rfl
          have v52 : vp_in (nI 52) 222 := vp_in_nI (by decide) (by decide)
          simp only [↓s188_0, ↓s188_1, ↓s188_2, ↓s188_3, ↓s188_6, ↓s188_9, ↓s188_12, ↓s188_13, ↓s188_16, ↓s188_19, ↓s188_20, ↓s188_21, ↓s188_22, ↓s188_25, ↓s188_27, ↓s188_28, ↓s188_31, ↓s188_33, ↓s188_34, ↓s188_35, ↓s188_37, ↓s188_38, ↓s188_41, ↓s188_42, ↓s188_46, ↓s188_47, ↓s188_50, ↓s188_52, ↓s188_55, ↓s188_56, ↓s188_59, ↓s188_60, ↓s188_62, ↓s188_64, ↓s188_66, ↓s188_67, ↓s188_70, ↓s188_71, ↓s188_73, ↓s188_75, ↓s188_76, ↓s188_79, ↓s188_81, ↓s188_82, ↓s188_83, ↓s188_85, ↓s188_86, ↓s188_88, ↓s188_89, ↓s188_90, ↓s188_91, ↓s188_93, ↓s188_94, ↓s188_97, ↓s188_98, ↓s188_101, ↓s188_104, ↓s188_105, ↓s188_107, ↓s188_108, ↓s188_109, ↓s188_112, ↓s188_113, ↓s188_115, ↓s188_116, ↓s188_118, ↓s188_120, ↓s188_121, ↓s188_123, ↓s188_124, ↓s188_127, ↓s188_128, ↓s188_129, ↓s188_132, ↓s188_135, ↓s188_138, ↓s188_139, ↓s188_142, ↓s188_143, ↓s188_146, ↓s188_149, ↓s188_150, ↓s188_153, ↓hrj, ↓R_isPart, kNLn, kNLi, kNLr, va_rf_s, kOl_n, kOl_s, kap_n, kap_c, kb0, kb1, kbif, zif, z0, z1, Bool.false_eq_true, eq_self, not_true_eq_false, not_false_eq_true, if_true, if_false, and_self, true_and, false_and, and_true, and_false, e, ki_83, ki_84, kl_84, mr_83_0, c52, v52, h4]
      · obtain ⟨n, hn, rfl⟩ := gin_of c.1 (by decide)
        have hl0 : ¬ nI (S.1 0 4) = 0 := fun z => l0 (by rw [kz (by omega)] at z; exact z)
        have step : ∀ (U : tT) (s : Int32), U 0 4 = S.1 0 4 → gotN (sdI s) % S.1 0 4 < U 0 4 := fun U s eU => by rw [eU]; exact Nat.mod_lt _ (by omega)
        refine bB_w hg (gdri (tdriF n x S.1 0) z) (fun mi ml Q h hQ => ?_) (fun mi ml Q h hQ => ?_)
        · have hgt : 0 < nI (S.1 0 4) := by
            have : nI 0 < nI (S.1 0 4) := Int32.not_le.mp (nI_ge (by omega) (by omega))
            exact this
          simp only [↓s82_0, ↓s82_1, ↓s82_2, ↓s82_4, ↓s82_7, ↓s82_10, ↓s82_11, ↓s82_12, ↓s82_13, ↓s82_16, ↓s82_19, ↓s82_20, ↓s82_21, ↓s82_22, ↓s82_25, ↓s82_28, ↓s82_31, ↓s82_33, ↓s82_34, ↓s82_35, ↓s82_38, ↓s82_39, ↓s82_42, ↓s82_45, ↓s82_46, ↓s82_48, ↓s82_49, ↓s82_51, ↓s82_52, ↓s82_56, ↓s82_57, ↓s82_60, ↓s82_62, ↓s82_64, ↓s82_65, ↓s82_68, ↓s82_69, ↓s82_71, ↓s82_73, ↓s82_75, ↓s82_76, ↓s82_79, ↓s82_80, ↓s82_82, ↓s82_83, ↓s82_86, ↓s82_88, ↓s82_89, ↓s82_92, ↓s82_95, ↓s82_96, ↓s82_98, ↓s82_100, ↓s82_101, ↓s82_103, ↓s82_104, ↓s82_107, ↓s82_108, ↓s82_111, ↓s82_114, ↓s82_116, ↓s82_117, ↓s82_120, ↓s82_121, ↓s82_124, ↓s82_126, ↓s82_127, ↓s82_130, ↓s82_133, ↓s82_135, ↓s82_136, ↓s82_137, ↓s82_139, ↓s82_142, ↓s82_145, ↓s82_146, ↓s82_149, ↓s82_150, ↓s82_153, ↓s82_156, ↓s82_159, ↓s82_161, ↓hwj, ↓J_w1, kNLn, kNLi, kNLr, va_rf_s, kOl_n, kOl_s, kap_n, kap_c, kb0, kb1, kbif, zif, z0, z1, Bool.false_eq_true, eq_self, not_true_eq_false, not_false_eq_true, if_true, if_false, and_self, true_and, false_and, and_true, and_false, e, ki_0, ki_1, ki_14, mr_0_0, mr_0_1, h.1.1.2.1, hgt]
          refine C_copy_14_1 h.1 ho (fun mi0 h0 f0 => ?_)
          simp only [↓s82_0, ↓s82_1, ↓s82_2, ↓s82_4, ↓s82_7, ↓s82_10, ↓s82_11, ↓s82_12, ↓s82_13, ↓s82_16, ↓s82_19, ↓s82_20, ↓s82_21, ↓s82_22, ↓s82_25, ↓s82_28, ↓s82_31, ↓s82_33, ↓s82_34, ↓s82_35, ↓s82_38, ↓s82_39, ↓s82_42, ↓s82_45, ↓s82_46, ↓s82_48, ↓s82_49, ↓s82_51, ↓s82_52, ↓s82_56, ↓s82_57, ↓s82_60, ↓s82_62, ↓s82_64, ↓s82_65, ↓s82_68, ↓s82_69, ↓s82_71, ↓s82_73, ↓s82_75, ↓s82_76, ↓s82_79, ↓s82_80, ↓s82_82, ↓s82_83, ↓s82_86, ↓s82_88, ↓s82_89, ↓s82_92, ↓s82_95, ↓s82_96, ↓s82_98, ↓s82_100, ↓s82_101, ↓s82_103, ↓s82_104, ↓s82_107, ↓s82_108, ↓s82_111, ↓s82_114, ↓s82_116, ↓s82_117, ↓s82_120, ↓s82_121, ↓s82_124, ↓s82_126, ↓s82_127, ↓s82_130, ↓s82_133, ↓s82_135, ↓s82_136, ↓s82_137, ↓s82_139, ↓s82_142, ↓s82_145, ↓s82_146, ↓s82_149, ↓s82_150, ↓s82_153, ↓s82_156, ↓s82_159, ↓s82_161, kNLn, kNLi, kNLr, va_rf_s, kOl_n, kOl_s, kap_n, kap_c, kb0, kb1, kbif]
          have loop : ∀ (k d cm : Nat) (s : Int32) (U : tT) (mi1 : Nat → Nat → Int32) (l7 l8 : Option Value), d + k = n → kNL l7 = true → tOK U → U 0 12 + k < 1999 → U 0 4 = S.1 0 4 → tdriF k s U cm = tdriF n x S.1 0 → kCR 14 U mi1 → wC mi mi1 → kJ 82 54 [some (.ref 0), some (.int x), some (.int (nI n)), some (.int z), some (.int (nI cm)), some (.int s), some (.int (nI d)), l7, l8] [] (mi1, ml, MR, 95) Q := by
            intro k
            induction k with
            | zero =>
              intro d cm s U mi1 l7 l8 hk h7 oU dU eU eF hU fU
              have hge : nI n ≤ nI d := nI_le (by omega) (by omega)
              have h9 := hQ mi1 fU
              rw [← eF] at h9
              rw [s82_54]
              simp only [↓s82_0, ↓s82_1, ↓s82_2, ↓s82_4, ↓s82_7, ↓s82_10, ↓s82_11, ↓s82_12, ↓s82_13, ↓s82_16, ↓s82_19, ↓s82_20, ↓s82_21, ↓s82_22, ↓s82_25, ↓s82_28, ↓s82_31, ↓s82_33, ↓s82_34, ↓s82_35, ↓s82_38, ↓s82_39, ↓s82_42, ↓s82_45, ↓s82_46, ↓s82_48, ↓s82_49, ↓s82_51, ↓s82_52, ↓s82_56, ↓s82_57, ↓s82_60, ↓s82_62, ↓s82_64, ↓s82_65, ↓s82_68, ↓s82_69, ↓s82_71, ↓s82_73, ↓s82_75, ↓s82_76, ↓s82_79, ↓s82_80, ↓s82_82, ↓s82_83, ↓s82_86, ↓s82_88, ↓s82_89, ↓s82_92, ↓s82_95, ↓s82_96, ↓s82_98, ↓s82_100, ↓s82_101, ↓s82_103, ↓s82_104, ↓s82_107, ↓s82_108, ↓s82_111, ↓s82_114, ↓s82_116, ↓s82_117, ↓s82_120, ↓s82_121, ↓s82_124, ↓s82_126, ↓s82_127, ↓s82_130, ↓s82_133, ↓s82_135, ↓s82_136, ↓s82_137, ↓s82_139, ↓s82_142, ↓s82_145, ↓s82_146, ↓s82_149, ↓s82_150, ↓s82_153, ↓s82_156, ↓s82_159, ↓s82_161, ↓J_moods kPost_14 hU oU, kNLn, kNLi, kNLr, va_rf_s, kOl_n, kOl_s, kap_n, kap_c, kb0, kb1, kbif, zif, z0, z1, Bool.false_eq_true, eq_self, not_true_eq_false, not_false_eq_true, if_true, if_false, and_self, true_and, false_and, and_true, and_false, ki_0, ki_14, mr_0_1, hge]
              simp only [gdri, tdriF, qif] at h9
              exact h9
            | succ k ih =>
              intro d cm s U mi1 l7 l8 hk h7 oU dU eU eF hU fU
              have hlt : ¬ nI n ≤ nI d := nI_ge (by omega) (by omega)
              have h11 := kCR1_w h.1 fU
              have hil := step U s eU
              have hg32 := got_lt (sdI s)
              have hid : ush (s * 1103515245 + nI 12345) (nI 16) &&& nI 32767 = nI (gotN (sdI s)) := got_nI (sdI s)
              have hid2 : ((s * 1103515245 + nI 12345).toUInt32 >>> ((nI 16).toUInt32 &&& Int32.toUInt32 31)).toInt32 &&& nI 32767 = nI (gotN (sdI s)) := hid
              have hrm := pk_rem (a := gotN (sdI s)) (d := S.1 0 4) (by omega) (by omega) (by omega)
              have hdv := pk_div (a := gotN (sdI s)) (d := 8) (by omega) (by decide) (by decide)
              have hr2 := pk_rem (a := gotN (sdI s) / 8) (d := 19) (by omega) (by decide) (by decide)
              have r4 : mi1 (14 + 4) (gotN (sdI s) % S.1 0 4) = nI (U 4 (gotN (sdI s) % S.1 0 4)) := kCR_row hU (r := 4) (by omega) (by omega) (by rw [tcnt_l (by omega) (by omega)]; exact hil)
              have hfr := (oU.2.2.2.2.2.2.1 _ hil).1
              have o5 := oU.1
              have eU1 : tdriU s U = tagain U (gotN (sdI s) % S.1 0 4) (gotN (sdI s) / 8 % 19) := by unfold tdriU; rw [eU]
              have hw : ∀ Q', kJ 13 0 [some (.ref 14), some (.int (nI (gotN (sdI s) % S.1 0 4))), some (.int (nI (gotN (sdI s) / 8 % 19)))] [] (mi1, ml, MR, 95) Q' = Q' none (kWA 14 (gotN (sdI s) % S.1 0 4) (U 4 (gotN (sdI s) % S.1 0 4)) (nI (gotN (sdI s) / 8 % 19)) mi1, ml, MR, 95) := fun Q' => J_again kPost_14 (by omega) (by omega) r4
              have h2 := kCR_again (t := gotN (sdI s) / 8 % 19) hU oU hil
              have oA : tOK (tdriU s U) := tdriU_ok oU (by omega)
              rw [← eU1] at h2
              have dA : tdriU s U 0 12 = U 0 12 := tagain_0
              have lA : tdriU s U 0 4 = U 0 4 := tagain_0
              rw [s82_54]
              simp only [↓s82_0, ↓s82_1, ↓s82_2, ↓s82_4, ↓s82_7, ↓s82_10, ↓s82_11, ↓s82_12, ↓s82_13, ↓s82_16, ↓s82_19, ↓s82_20, ↓s82_21, ↓s82_22, ↓s82_25, ↓s82_28, ↓s82_31, ↓s82_33, ↓s82_34, ↓s82_35, ↓s82_38, ↓s82_39, ↓s82_42, ↓s82_45, ↓s82_46, ↓s82_48, ↓s82_49, ↓s82_51, ↓s82_52, ↓s82_56, ↓s82_57, ↓s82_60, ↓s82_62, ↓s82_64, ↓s82_65, ↓s82_68, ↓s82_69, ↓s82_71, ↓s82_73, ↓s82_75, ↓s82_76, ↓s82_79, ↓s82_80, ↓s82_82, ↓s82_83, ↓s82_86, ↓s82_88, ↓s82_89, ↓s82_92, ↓s82_95, ↓s82_96, ↓s82_98, ↓s82_100, ↓s82_101, ↓s82_103, ↓s82_104, ↓s82_107, ↓s82_108, ↓s82_111, ↓s82_114, ↓s82_116, ↓s82_117, ↓s82_120, ↓s82_121, ↓s82_124, ↓s82_126, ↓s82_127, ↓s82_130, ↓s82_133, ↓s82_135, ↓s82_136, ↓s82_137, ↓s82_139, ↓s82_142, ↓s82_145, ↓s82_146, ↓s82_149, ↓s82_150, ↓s82_153, ↓s82_156, ↓s82_159, ↓s82_161, ↓hw, ↓J_came kPost_14 h2 oA, kNLn, kNLi, kNLr, va_rf_s, kOl_n, kOl_s, kap_n, kap_c, kb0, kb1, kbif, zif, z0, z1, Bool.false_eq_true, eq_self, not_true_eq_false, not_false_eq_true, if_true, if_false, and_self, true_and, false_and, and_true, and_false, h7, ki_0, ki_1, ki_14, mr_0_0, mr_0_1, hlt, h11.1.2.1, hid2, hl0, n8, n19, hrm, hdv, hr2]
              refine J_pass kPost_14 h2 oA (by decide) (fun mi3 h3 f3 => ?_)
              have o3 : tOK (tpass 1 (tdriU s U)) := tpass_ok oA (by omega)
              simp only [↓s82_0, ↓s82_1, ↓s82_2, ↓s82_4, ↓s82_7, ↓s82_10, ↓s82_11, ↓s82_12, ↓s82_13, ↓s82_16, ↓s82_19, ↓s82_20, ↓s82_21, ↓s82_22, ↓s82_25, ↓s82_28, ↓s82_31, ↓s82_33, ↓s82_34, ↓s82_35, ↓s82_38, ↓s82_39, ↓s82_42, ↓s82_45, ↓s82_46, ↓s82_48, ↓s82_49, ↓s82_51, ↓s82_52, ↓s82_56, ↓s82_57, ↓s82_60, ↓s82_62, ↓s82_64, ↓s82_65, ↓s82_68, ↓s82_69, ↓s82_71, ↓s82_73, ↓s82_75, ↓s82_76, ↓s82_79, ↓s82_80, ↓s82_82, ↓s82_83, ↓s82_86, ↓s82_88, ↓s82_89, ↓s82_92, ↓s82_95, ↓s82_96, ↓s82_98, ↓s82_100, ↓s82_101, ↓s82_103, ↓s82_104, ↓s82_107, ↓s82_108, ↓s82_111, ↓s82_114, ↓s82_116, ↓s82_117, ↓s82_120, ↓s82_121, ↓s82_124, ↓s82_126, ↓s82_127, ↓s82_130, ↓s82_133, ↓s82_135, ↓s82_136, ↓s82_137, ↓s82_139, ↓s82_142, ↓s82_145, ↓s82_146, ↓s82_149, ↓s82_150, ↓s82_153, ↓s82_156, ↓s82_159, ↓s82_161, ↓J_came kPost_14 h3 o3, kNLn, kNLi, kNLr, va_rf_s, kOl_n, kOl_s, kap_n, kap_c, kb0, kb1, kbif, ki_0, ki_14, mr_0_1, tcam_pass oA, nI_sub, nI_add]
              exact ih (d + 1) _ _ (tD (tdriU s U)) mi3 _ _ (by omega) rfl o3 (by rw [tD_12]; omega) ((tD_n oA (by omega) (by omega)).trans (lA.trans eU)) eF h3 (wC_tr fU (wC_tr (wC_14 kFr_again) (wC_14 f3)))
          exact loop n 0 0 x S.1 mi0 none none (by omega) rfl ho (by omega) rfl rfl h0 (wC_14 f0)
        · have hne : ¬ nI (S.1 0 4) = 0 := hl0
          have c52 : (nI 52).toNatClampNeg = 52 := rfl
          have v52 : vp_in (nI 52) 222 := vp_in_nI (by decide) (by decide)
          simp only [↓s188_0, ↓s188_1, ↓s188_2, ↓s188_3, ↓s188_6, ↓s188_9, ↓s188_12, ↓s188_13, ↓s188_16, ↓s188_19, ↓s188_20, ↓s188_21, ↓s188_22, ↓s188_25, ↓s188_27, ↓s188_28, ↓s188_31, ↓s188_33, ↓s188_34, ↓s188_35, ↓s188_37, ↓s188_38, ↓s188_41, ↓s188_42, ↓s188_46, ↓s188_47, ↓s188_50, ↓s188_52, ↓s188_55, ↓s188_56, ↓s188_59, ↓s188_60, ↓s188_62, ↓s188_64, ↓s188_66, ↓s188_67, ↓s188_70, ↓s188_71, ↓s188_73, ↓s188_75, ↓s188_76, ↓s188_79, ↓s188_81, ↓s188_82, ↓s188_83, ↓s188_85, ↓s188_86, ↓s188_88, ↓s188_89, ↓s188_90, ↓s188_91, ↓s188_93, ↓s188_94, ↓s188_97, ↓s188_98, ↓s188_101, ↓s188_104, ↓s188_105, ↓s188_107, ↓s188_108, ↓s188_109, ↓s188_112, ↓s188_113, ↓s188_115, ↓s188_116, ↓s188_118, ↓s188_120, ↓s188_121, ↓s188_123, ↓s188_124, ↓s188_127, ↓s188_128, ↓s188_129, ↓s188_132, ↓s188_135, ↓s188_138, ↓s188_139, ↓s188_142, ↓s188_143, ↓s188_146, ↓s188_149, ↓s188_150, ↓s188_153, ↓hrj, ↓R_isPart, kNLn, kNLi, kNLr, va_rf_s, kOl_n, kOl_s, kap_n, kap_c, kb0, kb1, kbif, zif, z0, z1, Bool.false_eq_true, eq_self, not_true_eq_false, not_false_eq_true, if_true, if_false, and_self, true_and, false_and, and_true, and_false, e, ki_83, ki_84, kl_84, mr_83_0, c52, v52, h.1.1.2.1, hne]
          refine R_startsT h.1 ho (fun mi0 h0 f0 => ?_)
          simp only [↓s188_0, ↓s188_1, ↓s188_2, ↓s188_3, ↓s188_6, ↓s188_9, ↓s188_12, ↓s188_13, ↓s188_16, ↓s188_19, ↓s188_20, ↓s188_21, ↓s188_22, ↓s188_25, ↓s188_27, ↓s188_28, ↓s188_31, ↓s188_33, ↓s188_34, ↓s188_35, ↓s188_37, ↓s188_38, ↓s188_41, ↓s188_42, ↓s188_46, ↓s188_47, ↓s188_50, ↓s188_52, ↓s188_55, ↓s188_56, ↓s188_59, ↓s188_60, ↓s188_62, ↓s188_64, ↓s188_66, ↓s188_67, ↓s188_70, ↓s188_71, ↓s188_73, ↓s188_75, ↓s188_76, ↓s188_79, ↓s188_81, ↓s188_82, ↓s188_83, ↓s188_85, ↓s188_86, ↓s188_88, ↓s188_89, ↓s188_90, ↓s188_91, ↓s188_93, ↓s188_94, ↓s188_97, ↓s188_98, ↓s188_101, ↓s188_104, ↓s188_105, ↓s188_107, ↓s188_108, ↓s188_109, ↓s188_112, ↓s188_113, ↓s188_115, ↓s188_116, ↓s188_118, ↓s188_120, ↓s188_121, ↓s188_123, ↓s188_124, ↓s188_127, ↓s188_128, ↓s188_129, ↓s188_132, ↓s188_135, ↓s188_138, ↓s188_139, ↓s188_142, ↓s188_143, ↓s188_146, ↓s188_149, ↓s188_150, ↓s188_153, kNLn, kNLi, kNLr, va_rf_s, kOl_n, kOl_s, kap_n, kap_c, kb0, kb1, kbif]
          have loop : ∀ (k d cm B : Nat) (s : Int32) (U : tT) (mi1 : Nat → Nat → Int32) (l6 l7 : Option Value), d + k = n → kNL l6 = true → tOK U → U 0 12 + k < 1999 → U 0 4 = S.1 0 4 → tdriF k s U cm = tdriF n x S.1 0 → kRM mi1 U cm B → kFq mi mi1 → kJ 188 44 [some (.ref 83), some (.int x), some (.int (nI n)), some (.int z), some (.int s), some (.int (nI d)), l6, l7] [] (mi1, ml, MR, 95) Q := by
            intro k
            induction k with
            | zero =>
              intro d cm B s U mi1 l6 l7 hk h6 oU dU eU eF hU fU
              have hge : nI n ≤ nI d := nI_le (by omega) (by omega)
              have h9 := hQ mi1 (wR_q fU)
              rw [← eF] at h9
              rw [s188_44]
              simp only [↓s188_0, ↓s188_1, ↓s188_2, ↓s188_3, ↓s188_6, ↓s188_9, ↓s188_12, ↓s188_13, ↓s188_16, ↓s188_19, ↓s188_20, ↓s188_21, ↓s188_22, ↓s188_25, ↓s188_27, ↓s188_28, ↓s188_31, ↓s188_33, ↓s188_34, ↓s188_35, ↓s188_37, ↓s188_38, ↓s188_41, ↓s188_42, ↓s188_46, ↓s188_47, ↓s188_50, ↓s188_52, ↓s188_55, ↓s188_56, ↓s188_59, ↓s188_60, ↓s188_62, ↓s188_64, ↓s188_66, ↓s188_67, ↓s188_70, ↓s188_71, ↓s188_73, ↓s188_75, ↓s188_76, ↓s188_79, ↓s188_81, ↓s188_82, ↓s188_83, ↓s188_85, ↓s188_86, ↓s188_88, ↓s188_89, ↓s188_90, ↓s188_91, ↓s188_93, ↓s188_94, ↓s188_97, ↓s188_98, ↓s188_101, ↓s188_104, ↓s188_105, ↓s188_107, ↓s188_108, ↓s188_109, ↓s188_112, ↓s188_113, ↓s188_115, ↓s188_116, ↓s188_118, ↓s188_120, ↓s188_121, ↓s188_123, ↓s188_124, ↓s188_127, ↓s188_128, ↓s188_129, ↓s188_132, ↓s188_135, ↓s188_138, ↓s188_139, ↓s188_142, ↓s188_143, ↓s188_146, ↓s188_149, ↓s188_150, ↓s188_153, ↓R_moods hU.1 oU, kNLn, kNLi, kNLr, va_rf_s, kOl_n, kOl_s, kap_n, kap_c, kb0, kb1, kbif, zif, z0, z1, Bool.false_eq_true, eq_self, not_true_eq_false, not_false_eq_true, if_true, if_false, and_self, true_and, false_and, and_true, and_false, ki_83, hge, hU.2.1]
              simp only [gdri, tdriF, qif] at h9
              exact h9
            | succ k ih =>
              intro d cm B s U mi1 l6 l7 hk h6 oU dU eU eF hU fU
              have hlt : ¬ nI n ≤ nI d := nI_ge (by omega) (by omega)
              have h84 : kRR (mi1 84) S.1 := by rw [fU.1 84 (by omega) (by omega)]; exact h.1
              have hil := step U s eU
              have hg32 := got_lt (sdI s)
              have hid : ((s * 1103515245 + nI 12345) >>> (nI 16 &&& 31)) &&& nI 32767 = nI (gotN (sdI s)) := (got_sh (sdI s)).trans (got_nI (sdI s))
              have hrm := pk_rem (a := gotN (sdI s)) (d := S.1 0 4) (by omega) (by omega) (by omega)
              have hdv := pk_div (a := gotN (sdI s)) (d := 8) (by omega) (by decide) (by decide)
              have hr2 := pk_rem (a := gotN (sdI s) / 8) (d := 19) (by omega) (by decide) (by decide)
              have hfr := (oU.2.2.2.2.2.2.1 _ hil).1
              have eU1 : tdriU s U = tagain U (gotN (sdI s) % S.1 0 4) (gotN (sdI s) / 8 % 19) := by unfold tdriU; rw [eU]
              have oA : tOK (tdriU s U) := tdriU_ok oU (by omega)
              have dA : tdriU s U 0 12 = U 0 12 := tagain_0
              have lA : tdriU s U 0 4 = U 0 4 := tagain_0
              have g0 : ∀ Q', kJ 134 0 [some (.ref 83), some (.int (nI (gotN (sdI s) % S.1 0 4))), some (.int (nI 0))] [] (mi1, ml, MR, 95) Q' = Q' (some (.int (nI (U 4 (gotN (sdI s) % S.1 0 4))))) (mi1, ml, MR, 95) := fun Q' => R_ofL hU.1 oU hil (w := 0) (by decide)
              have g1 : ∀ Q', kJ 132 0 [some (.ref 83), some (.int (nI (U 4 (gotN (sdI s) % S.1 0 4)))), some (.int (nI 1))] [] (mi1, ml, MR, 95) Q' = Q' (some (.int (nI (U 2 (U 4 (gotN (sdI s) % S.1 0 4)))))) (mi1, ml, MR, 95) := fun Q' => R_of hU.1 oU hfr (w := 1) (by decide)
              have s4 : ∀ (mi1 : Nat → Nat → Int32) (v : Int32) Q', kJ 135 0 [some (.ref 83), some (.int (nI (gotN (sdI s) % S.1 0 4))), some (.int (nI 4)), some (.int v)] [] (mi1, ml, MR, 95) Q' = Q' none (kup mi1 85 (16 + 6 * (gotN (sdI s) % S.1 0 4) + 4) v, ml, MR, 95) := fun mi1 v Q' => R_setL (by omega) (by decide)
              have s5 : ∀ (mi1 : Nat → Nat → Int32) (v : Int32) Q', kJ 135 0 [some (.ref 83), some (.int (nI (gotN (sdI s) % S.1 0 4))), some (.int (nI 5)), some (.int v)] [] (mi1, ml, MR, 95) Q' = Q' none (kup mi1 85 (16 + 6 * (gotN (sdI s) % S.1 0 4) + 5) v, ml, MR, 95) := fun mi1 v Q' => R_setL (by omega) (by decide)
              have s3 : ∀ (mi1 : Nat → Nat → Int32) (v : Int32) Q', kJ 135 0 [some (.ref 83), some (.int (nI (gotN (sdI s) % S.1 0 4))), some (.int (nI 3)), some (.int v)] [] (mi1, ml, MR, 95) Q' = Q' none (kup mi1 85 (16 + 6 * (gotN (sdI s) % S.1 0 4) + 3) v, ml, MR, 95) := fun mi1 v Q' => R_setL (by omega) (by decide)
              have a1 := kRR_upL (v := U 2 (U 4 (gotN (sdI s) % S.1 0 4))) oU hU.1 hil (w := 4) (by decide)
              have b1 : tOK (tup U 8 (gotN (sdI s) % S.1 0 4) (U 2 (U 4 (gotN (sdI s) % S.1 0 4)))) := tOK_upL oU (Or.inr (Or.inl ⟨rfl, (oU.2.2.2.2.2.1 _ hfr).2.1⟩))
              have a2 := kRR_upL (v := 0) b1 a1 (i := gotN (sdI s) % S.1 0 4) (w := 5) (by rw [tup_n (by omega)]; exact hil) (by decide)
              have b2 : tOK (tup (tup U 8 (gotN (sdI s) % S.1 0 4) (U 2 (U 4 (gotN (sdI s) % S.1 0 4)))) 9 (gotN (sdI s) % S.1 0 4) 0) := tOK_upL b1 (by omega)
              have a3 := kRR_upL (v := gotN (sdI s) / 8 % 19) b2 a2 (i := gotN (sdI s) % S.1 0 4) (w := 3) (by rw [tup_n (by omega), tup_n (by omega)]; exact hil) (by decide)
              have a4 := kRR_eq (U := tdriU s U) (fun r k => by rw [eU1]; exact tagain_r r k) a3
              rw [s188_44]
              simp only [↓s188_0, ↓s188_1, ↓s188_2, ↓s188_3, ↓s188_6, ↓s188_9, ↓s188_12, ↓s188_13, ↓s188_16, ↓s188_19, ↓s188_20, ↓s188_21, ↓s188_22, ↓s188_25, ↓s188_27, ↓s188_28, ↓s188_31, ↓s188_33, ↓s188_34, ↓s188_35, ↓s188_37, ↓s188_38, ↓s188_41, ↓s188_42, ↓s188_46, ↓s188_47, ↓s188_50, ↓s188_52, ↓s188_55, ↓s188_56, ↓s188_59, ↓s188_60, ↓s188_62, ↓s188_64, ↓s188_66, ↓s188_67, ↓s188_70, ↓s188_71, ↓s188_73, ↓s188_75, ↓s188_76, ↓s188_79, ↓s188_81, ↓s188_82, ↓s188_83, ↓s188_85, ↓s188_86, ↓s188_88, ↓s188_89, ↓s188_90, ↓s188_91, ↓s188_93, ↓s188_94, ↓s188_97, ↓s188_98, ↓s188_101, ↓s188_104, ↓s188_105, ↓s188_107, ↓s188_108, ↓s188_109, ↓s188_112, ↓s188_113, ↓s188_115, ↓s188_116, ↓s188_118, ↓s188_120, ↓s188_121, ↓s188_123, ↓s188_124, ↓s188_127, ↓s188_128, ↓s188_129, ↓s188_132, ↓s188_135, ↓s188_138, ↓s188_139, ↓s188_142, ↓s188_143, ↓s188_146, ↓s188_149, ↓s188_150, ↓s188_153, ↓g0, ↓g1, ↓s4, ↓s5, ↓s3, kNLn, kNLi, kNLr, va_rf_s, kOl_n, kOl_s, kap_n, kap_c, kb0, kb1, kbif, zif, z0, z1, Bool.false_eq_true, eq_self, not_true_eq_false, not_false_eq_true, if_true, if_false, and_self, true_and, false_and, and_true, and_false, h6, ki_83, ki_84, kl_84, mr_83_0, c52, v52, hlt, h84.1.2.1, hid, hl0, n8, n19, hrm, hdv, hr2]
              refine R_day (T := tdriU s U) (A := cm) (B := B) ⟨?_, ?_, ?_⟩ oA (by omega) (fun mi3 h3 f3 => ?_)
              · rw [kup_eq, kup_eq, kup_eq]; exact a4
              · rw [kup_ne (by decide), kup_ne (by decide), kup_ne (by decide)]; exact hU.2.1
              · rw [kup_ne (by decide), kup_ne (by decide), kup_ne (by decide)]; exact hU.2.2
              · simp only [↓s188_0, ↓s188_1, ↓s188_2, ↓s188_3, ↓s188_6, ↓s188_9, ↓s188_12, ↓s188_13, ↓s188_16, ↓s188_19, ↓s188_20, ↓s188_21, ↓s188_22, ↓s188_25, ↓s188_27, ↓s188_28, ↓s188_31, ↓s188_33, ↓s188_34, ↓s188_35, ↓s188_37, ↓s188_38, ↓s188_41, ↓s188_42, ↓s188_46, ↓s188_47, ↓s188_50, ↓s188_52, ↓s188_55, ↓s188_56, ↓s188_59, ↓s188_60, ↓s188_62, ↓s188_64, ↓s188_66, ↓s188_67, ↓s188_70, ↓s188_71, ↓s188_73, ↓s188_75, ↓s188_76, ↓s188_79, ↓s188_81, ↓s188_82, ↓s188_83, ↓s188_85, ↓s188_86, ↓s188_88, ↓s188_89, ↓s188_90, ↓s188_91, ↓s188_93, ↓s188_94, ↓s188_97, ↓s188_98, ↓s188_101, ↓s188_104, ↓s188_105, ↓s188_107, ↓s188_108, ↓s188_109, ↓s188_112, ↓s188_113, ↓s188_115, ↓s188_116, ↓s188_118, ↓s188_120, ↓s188_121, ↓s188_123, ↓s188_124, ↓s188_127, ↓s188_128, ↓s188_129, ↓s188_132, ↓s188_135, ↓s188_138, ↓s188_139, ↓s188_142, ↓s188_143, ↓s188_146, ↓s188_149, ↓s188_150, ↓s188_153, kNLn, kNLi, kNLr, va_rf_s, kOl_n, kOl_s, kap_n, kap_c, kb0, kb1, kbif, nI_add]
                exact ih (d + 1) _ _ _ (tD (tdriU s U)) mi3 _ _ (by omega) rfl (tD_ok oA (by omega)) (by rw [tD_12]; omega) ((tD_n oA (by omega) (by omega)).trans (lA.trans eU)) eF h3 (kFq_tr fU (kFq_tr (kFq_up (kFq_up (kFq_up kFq_rf))) f3))
          exact loop n 0 0 0 x S.1 mi0 none none (by omega) rfl ho (by omega) rfl rfl h0 f0
    · refine bB_e hg (-1) (fun mi ml Q h => ?_) (fun mi ml Q h => ?_)
      · simp only [↓s82_0, ↓s82_1, ↓s82_2, ↓s82_4, ↓s82_7, ↓s82_10, ↓s82_11, ↓s82_12, ↓s82_13, ↓s82_16, ↓s82_19, ↓s82_20, ↓s82_21, ↓s82_22, ↓s82_25, ↓s82_28, ↓s82_31, ↓s82_33, ↓s82_34, ↓s82_35, ↓s82_38, ↓s82_39, ↓s82_42, ↓s82_45, ↓s82_46, ↓s82_48, ↓s82_49, ↓s82_51, ↓s82_52, ↓s82_56, ↓s82_57, ↓s82_60, ↓s82_62, ↓s82_64, ↓s82_65, ↓s82_68, ↓s82_69, ↓s82_71, ↓s82_73, ↓s82_75, ↓s82_76, ↓s82_79, ↓s82_80, ↓s82_82, ↓s82_83, ↓s82_86, ↓s82_88, ↓s82_89, ↓s82_92, ↓s82_95, ↓s82_96, ↓s82_98, ↓s82_100, ↓s82_101, ↓s82_103, ↓s82_104, ↓s82_107, ↓s82_108, ↓s82_111, ↓s82_114, ↓s82_116, ↓s82_117, ↓s82_120, ↓s82_121, ↓s82_124, ↓s82_126, ↓s82_127, ↓s82_130, ↓s82_133, ↓s82_135, ↓s82_136, ↓s82_137, ↓s82_139, ↓s82_142, ↓s82_145, ↓s82_146, ↓s82_149, ↓s82_150, ↓s82_153, ↓s82_156, ↓s82_159, ↓s82_161, ↓hwj, ↓J_w1, kNLn, kNLi, kNLr, va_rf_s, kOl_n, kOl_s, kap_n, kap_c, kb0, kb1, kbif, zif, z0, z1, Bool.false_eq_true, eq_self, not_true_eq_false, not_false_eq_true, if_true, if_false, and_self, true_and, false_and, and_true, and_false, e]
      · simp only [↓s188_0, ↓s188_1, ↓s188_2, ↓s188_3, ↓s188_6, ↓s188_9, ↓s188_12, ↓s188_13, ↓s188_16, ↓s188_19, ↓s188_20, ↓s188_21, ↓s188_22, ↓s188_25, ↓s188_27, ↓s188_28, ↓s188_31, ↓s188_33, ↓s188_34, ↓s188_35, ↓s188_37, ↓s188_38, ↓s188_41, ↓s188_42, ↓s188_46, ↓s188_47, ↓s188_50, ↓s188_52, ↓s188_55, ↓s188_56, ↓s188_59, ↓s188_60, ↓s188_62, ↓s188_64, ↓s188_66, ↓s188_67, ↓s188_70, ↓s188_71, ↓s188_73, ↓s188_75, ↓s188_76, ↓s188_79, ↓s188_81, ↓s188_82, ↓s188_83, ↓s188_85, ↓s188_86, ↓s188_88, ↓s188_89, ↓s188_90, ↓s188_91, ↓s188_93, ↓s188_94, ↓s188_97, ↓s188_98, ↓s188_101, ↓s188_104, ↓s188_105, ↓s188_107, ↓s188_108, ↓s188_109, ↓s188_112, ↓s188_113, ↓s188_115, ↓s188_116, ↓s188_118, ↓s188_120, ↓s188_121, ↓s188_123, ↓s188_124, ↓s188_127, ↓s188_128, ↓s188_129, ↓s188_132, ↓s188_135, ↓s188_138, ↓s188_139, ↓s188_142, ↓s188_143, ↓s188_146, ↓s188_149, ↓s188_150, ↓s188_153, ↓hrj, ↓R_isPart, kNLn, kNLi, kNLr, va_rf_s, kOl_n, kOl_s, kap_n, kap_c, kb0, kb1, kbif, zif, z0, z1, Bool.false_eq_true, eq_self, not_true_eq_false, not_false_eq_true, if_true, if_false, and_self, true_and, false_and, and_true, and_false, e]
  · have hcw : ¬ (nI 1 ≤ y ∧ y ≤ nI 60) := by rw [gin_w1 (by decide)]; exact c
    have hwj : ∀ (m : kMem) Q', kJ 90 0 [some (.int y), some (.int (nI 1)), some (.int (nI 60))] [] m Q' = Q' (some (.int (nI 0))) m := fun m Q' => by rw [J_within, if_neg hcw]
    have hrj : ∀ (m : kMem) Q', kJ 107 0 [some (.long y.toInt64), none, some (.long 1), none, some (.long 60), none] [] m Q' = Q' (some (.int (nI 0))) m := fun m Q' => by rw [R_in]; simp only [gin_r1 e60]; rw [if_neg c]
    refine bB_e hg (-1) (fun mi ml Q h => ?_) (fun mi ml Q h => ?_)
    · simp only [↓s82_0, ↓s82_1, ↓s82_2, ↓s82_4, ↓s82_7, ↓s82_10, ↓s82_11, ↓s82_12, ↓s82_13, ↓s82_16, ↓s82_19, ↓s82_20, ↓s82_21, ↓s82_22, ↓s82_25, ↓s82_28, ↓s82_31, ↓s82_33, ↓s82_34, ↓s82_35, ↓s82_38, ↓s82_39, ↓s82_42, ↓s82_45, ↓s82_46, ↓s82_48, ↓s82_49, ↓s82_51, ↓s82_52, ↓s82_56, ↓s82_57, ↓s82_60, ↓s82_62, ↓s82_64, ↓s82_65, ↓s82_68, ↓s82_69, ↓s82_71, ↓s82_73, ↓s82_75, ↓s82_76, ↓s82_79, ↓s82_80, ↓s82_82, ↓s82_83, ↓s82_86, ↓s82_88, ↓s82_89, ↓s82_92, ↓s82_95, ↓s82_96, ↓s82_98, ↓s82_100, ↓s82_101, ↓s82_103, ↓s82_104, ↓s82_107, ↓s82_108, ↓s82_111, ↓s82_114, ↓s82_116, ↓s82_117, ↓s82_120, ↓s82_121, ↓s82_124, ↓s82_126, ↓s82_127, ↓s82_130, ↓s82_133, ↓s82_135, ↓s82_136, ↓s82_137, ↓s82_139, ↓s82_142, ↓s82_145, ↓s82_146, ↓s82_149, ↓s82_150, ↓s82_153, ↓s82_156, ↓s82_159, ↓s82_161, ↓hwj, kNLn, kNLi, kNLr, va_rf_s, kOl_n, kOl_s, kap_n, kap_c, kb0, kb1, kbif, zif, z0, z1, Bool.false_eq_true, eq_self, not_true_eq_false, not_false_eq_true, if_true, if_false, and_self, true_and, false_and, and_true, and_false]
    · simp only [↓s188_0, ↓s188_1, ↓s188_2, ↓s188_3, ↓s188_6, ↓s188_9, ↓s188_12, ↓s188_13, ↓s188_16, ↓s188_19, ↓s188_20, ↓s188_21, ↓s188_22, ↓s188_25, ↓s188_27, ↓s188_28, ↓s188_31, ↓s188_33, ↓s188_34, ↓s188_35, ↓s188_37, ↓s188_38, ↓s188_41, ↓s188_42, ↓s188_46, ↓s188_47, ↓s188_50, ↓s188_52, ↓s188_55, ↓s188_56, ↓s188_59, ↓s188_60, ↓s188_62, ↓s188_64, ↓s188_66, ↓s188_67, ↓s188_70, ↓s188_71, ↓s188_73, ↓s188_75, ↓s188_76, ↓s188_79, ↓s188_81, ↓s188_82, ↓s188_83, ↓s188_85, ↓s188_86, ↓s188_88, ↓s188_89, ↓s188_90, ↓s188_91, ↓s188_93, ↓s188_94, ↓s188_97, ↓s188_98, ↓s188_101, ↓s188_104, ↓s188_105, ↓s188_107, ↓s188_108, ↓s188_109, ↓s188_112, ↓s188_113, ↓s188_115, ↓s188_116, ↓s188_118, ↓s188_120, ↓s188_121, ↓s188_123, ↓s188_124, ↓s188_127, ↓s188_128, ↓s188_129, ↓s188_132, ↓s188_135, ↓s188_138, ↓s188_139, ↓s188_142, ↓s188_143, ↓s188_146, ↓s188_149, ↓s188_150, ↓s188_153, ↓hrj, kNLn, kNLi, kNLr, va_rf_s, kOl_n, kOl_s, kap_n, kap_c, kb0, kb1, kbif, zif, z0, z1, Bool.false_eq_true, eq_self, not_true_eq_false, not_false_eq_true, if_true, if_false, and_self, true_and, false_and, and_true, and_false]
end DRIFT

end
section
/-! images; counts -/
def oput {α : Type} (f : Nat → α) (k : Nat) (v : α) : Nat → α := fun j => if j = k then v else f j
theorem oput_s {α : Type} {f : Nat → α} {k : Nat} {v : α} : oput f k v k = v := if_pos rfl
theorem oput_n {α : Type} {f : Nat → α} {k j : Nat} {v : α} (h : j ≠ k) : oput f k v j = f j := if_neg h
section IMG
variable {mi : Nat → Nat → Int32} {ml : Nat → Nat → Int64} {m : kMem} {Q : Option Value → kMem → Prop} {S : gS} {T U : tT} {b p n k : Nat}
theorem CI_img {o : Option tT} {f g : Nat → Nat → Int32} (h : CI S f) (hk : k < 2) (e : ∀ q, q ≠ 45 → ¬ (49 + 13 * k ≤ q ∧ q ≤ 61 + 13 * k) → g q = f q) (e2 : ∀ j, j ≠ k → g 45 j = f 45 j) (ho : cImg o k g) : CI (S.1, oput S.2.1 k o, S.2.2) g := by
  refine ⟨kCR_eq (fun q a b => e q (by omega) (by omega)) h.1, fun j hj => ?_, ⟨by rw [e 28 (by omega) (by omega)]; exact h.2.2.1.1, fun j hj => by rw [e 29 (by omega) (by omega)]; exact h.2.2.1.2 j hj⟩, by rw [e 0 (by omega) (by omega)]; exact h.2.2.2.1, fun j hj => cSh_eq (e _ (by omega) (by omega)) (e _ (by omega) (by omega)) (h.2.2.2.2.1 j hj), by rw [e 0 (by omega) (by omega)]; exact h.2.2.2.2.2⟩
  show cImg (oput S.2.1 k o j) j g
  by_cases ej : j = k
  · subst ej; rw [oput_s]; exact ho
  · rw [oput_n ej]
    have hc := h.2.1 j hj
    have e3 : ∀ q, 49 + 13 * j ≤ q → q ≤ 61 + 13 * j → g q = f q := fun q a b => e q (by omega) (by omega)
    have e45 : g 45 j = f 45 j := e2 j ej
    revert hc
    cases S.2.1 j with
    | none => intro hc; exact e45.trans hc
    | some U => intro hc; exact ⟨e45.trans hc.1, kCR_eq (fun q a b => e3 q a (by omega)) hc.2⟩
theorem RI_img {o : Option tT} {f g : Nat → Nat → Int32} (h : RI S f) (hg : gOK S) (hk : k < 2) (e : ∀ q, q ≠ 86 → q ≠ 84 → g q = f q) (e2 : ∀ j, j ≠ k → g 86 j = f 86 j) (e3 : ∀ j, ¬ (74 * (k + 1) ≤ j ∧ j < 74 * (k + 2)) → g 84 j = f 84 j) (ho : rImg o k g) : RI (S.1, oput S.2.1 k o, S.2.2) g := by
  refine ⟨kRR_cong hg.1.1 (fun j hj => e3 j (by omega)) h.1, fun j hj => ?_, ⟨by rw [e 83 (by omega) (by omega)]; exact h.2.2.1.1, fun j hj => by rw [e 88 (by omega) (by omega)]; exact h.2.2.1.2 j hj⟩, by rw [e 83 (by omega) (by omega)]; exact h.2.2.2.1, fun j hj => rSh_eq (by rw [e 91 (by omega) (by omega)]) (by rw [e 92 (by omega) (by omega)]) (fun i _ _ => by rw [e 93 (by omega) (by omega)]) (fun l n c ec => (hg.2.2.2.2.1 j hj l n c ec).2) (h.2.2.2.2.1 j hj), by rw [e 83 (by omega) (by omega)]; exact h.2.2.2.2.2⟩
  show rImg (oput S.2.1 k o j) j g
  by_cases ej : j = k
  · subst ej; rw [oput_s]; exact ho
  · rw [oput_n ej]
    have hc := h.2.1 j hj
    have hgj := hg.2.1 j hj
    have e86 : g 86 j = f 86 j := e2 j ej
    have e84 : ∀ i, 74 * (j + 1) ≤ i → i < 74 * (j + 2) → g 84 i = f 84 i := fun i a b => e3 i (by omega)
    revert hc hgj
    cases S.2.1 j with
    | none => intro hc hgj; exact e86.trans hc
    | some U => intro hc hgj; exact ⟨e86.trans hc.1, kRR_cong (hgj U rfl).1 (fun i hi => e84 _ (by omega) (by omega)) hc.2⟩
def cpw (to sr n : Nat) (a : Nat → Int32) : Nat → Int32 := fun j => if to ≤ j ∧ j < to + n then a (sr + (j - to)) else a j
theorem cpw_0 {to sr : Nat} {a : Nat → Int32} : cpw to sr 0 a = a := funext (fun j => if_neg (by omega))
theorem cpw_s {to sr n : Nat} {a : Nat → Int32} : upd (cpw to sr n a) (to + n) (a (sr + n)) = cpw to sr (n + 1) a := by
  funext j
  by_cases h : j = to + n
  · subst h
    rw [pk_us]
    unfold cpw
    rw [if_pos (by omega), show to + n - to = n by omega]
  · rw [pk_un h]
    unfold cpw
    by_cases h2 : to ≤ j ∧ j < to + n
    · rw [if_pos h2, if_pos (by omega)]
    · rw [if_neg h2, if_neg (by omega)]
theorem kRow_self {f : Nat → Nat → Int32} {q : Nat} : kRow f q (f q) = f := by
  funext a
  unfold kRow
  split
  · next h => rw [h]
  · rfl
theorem R_copies {to sr : Nat} (h1 : to + 74 ≤ 222) (h2 : sr + 74 ≤ 222) (hd : sr + 74 ≤ to ∨ to + 74 ≤ sr) : kJ 189 0 [some (.ref 83), some (.int (nI to)), some (.int (nI sr)), none] [] (mi, ml, MR, 95) Q = Q none (kRow mi 84 (cpw to sr 74 (mi 84)), ml, MR, 95) := by
  simp only [↓s189_0, ↓s189_1, ↓s189_3, ↓s189_5, ↓s189_8, ↓s189_9, ↓s189_12, ↓s189_13, ↓s189_14, ↓s189_15, ↓s189_16, ↓s189_19, ↓s189_20, ↓s189_21, ↓s189_22, ↓s189_23, ↓s189_24, ↓s189_27, ↓s189_30, kNLn, kNLi, kNLr, va_rf_s, kOl_n, kOl_s, kap_n, kap_c, kb0, kb1, kbif]
  have loop : ∀ (k i : Nat), i + k = 74 → kJ 189 2 [some (.ref 83), some (.int (nI to)), some (.int (nI sr)), some (.int (nI i))] [] (kRow mi 84 (cpw to sr i (mi 84)), ml, MR, 95) Q = Q none (kRow mi 84 (cpw to sr 74 (mi 84)), ml, MR, 95) := by
    intro k
    induction k with
    | zero =>
      intro i hk
      have e : i = 74 := by omega
      rw [s189_2]
      simp only [↓s189_0, ↓s189_1, ↓s189_3, ↓s189_5, ↓s189_8, ↓s189_9, ↓s189_12, ↓s189_13, ↓s189_14, ↓s189_15, ↓s189_16, ↓s189_19, ↓s189_20, ↓s189_21, ↓s189_22, ↓s189_23, ↓s189_24, ↓s189_27, ↓s189_30, kNLn, kNLi, kNLr, va_rf_s, kOl_n, kOl_s, kap_n, kap_c, kb0, kb1, kbif, ki_83, ki_84]
      rw [if_pos (by rw [e]; exact Int32.le_refl _), e]
    | succ k ih =>
      intro i hk
      have hlt : ¬ nI 74 ≤ nI i := nI_ge (by omega) (by omega)
      have hc : (nI (to + i)).toNatClampNeg = to + i := nI_clamp (by omega)
      have hv : vp_in (nI (to + i)) 222 := vp_in_nI (by omega) (by decide)
      have hc2 : (nI (sr + i)).toNatClampNeg = sr + i := nI_clamp (by omega)
      have hv2 : vp_in (nI (sr + i)) 222 := vp_in_nI (by omega) (by decide)
      have e84 : kRow mi 84 (cpw to sr i (mi 84)) 84 (sr + i) = mi 84 (sr + i) := by
        rw [kRow_eq]; exact if_neg (by omega)
      rw [s189_2]
      simp only [↓s189_0, ↓s189_1, ↓s189_3, ↓s189_5, ↓s189_8, ↓s189_9, ↓s189_12, ↓s189_13, ↓s189_14, ↓s189_15, ↓s189_16, ↓s189_19, ↓s189_20, ↓s189_21, ↓s189_22, ↓s189_23, ↓s189_24, ↓s189_27, ↓s189_30, kNLn, kNLi, kNLr, va_rf_s, kOl_n, kOl_s, kap_n, kap_c, kb0, kb1, kbif, ki_83, ki_84, kl_84, mr_83_0, hlt, if_false, hc, hv, hc2, hv2, true_and, e84, kRow_up, cpw_s, nI_add]
      exact ih (i + 1) (by omega)
  have := loop 74 0 (by omega)
  rw [cpw_0, kRow_self] at this
  exact this
def owas (o : Option tT) : Nat := match o with
  | none => 0
  | some _ => 1
theorem cImg_was {o : Option tT} {k : Nat} {f : Nat → Nat → Int32} (h : cImg o k f) : f 45 k = nI (owas o) := by
  cases o with
  | none => exact h
  | some U => exact h.1
theorem rImg_was {o : Option tT} {k : Nat} {f : Nat → Nat → Int32} (h : rImg o k f) : f 86 k = nI (owas o) := by
  cases o with
  | none => exact h
  | some U => exact h.1
theorem owas_2 (o : Option tT) : owas o = 0 ∨ owas o = 1 := by
  cases o with
  | none => exact Or.inl rfl
  | some U => exact Or.inr rfl
theorem fl01 {n : Nat} (h : n = 0 ∨ n = 1) : (if nI n = 0 then nI 0 else nI 1) = nI n := by
  rcases h with rfl | rfl <;> rfl
theorem n1a : nI 1 &&& 1 = nI 1 := by decide
theorem C_keep_y (hk : k < 2) (h : CI S mi) (hg : gOK S) (hQ : ∀ mi', CI (S.1, oput S.2.1 k (some S.1), S.2.2) mi' → fC mi mi' → Q (some (.int (nI (owas (S.2.1 k))))) (mi', ml, MR, 95)) : kJ 83 0 [some (.ref 0), some (.int (nI k)), none] [] (mi, ml, MR, 95) Q := by
  have ho := hg.1.1
  have c : gin (nI k) 2 = true := gin_nI hk (by decide)
  have hc : (nI k).toNatClampNeg = k := nI_clamp (by omega)
  have hv : vp_in (nI k) 2 := vp_in_nI hk (by decide)
  have hw := cImg_was (h.2.1 k hk)
  have h01 := owas_2 (S.2.1 k)
  rcases h01 with e | e <;> rw [e] at hw hQ <;> rcases (by omega : k = 0 ∨ k = 1) with rfl | rfl
  · simp only [↓s83_0, ↓s83_1, ↓s83_2, ↓s83_3, ↓s83_6, ↓s83_9, ↓s83_10, ↓s83_11, ↓s83_12, ↓s83_15, ↓s83_16, ↓s83_17, ↓s83_20, ↓s83_21, ↓s83_24, ↓s83_25, ↓s83_26, ↓s83_27, ↓s83_30, ↓s83_31, ↓s83_32, ↓s83_33, ↓s83_36, ↓s83_39, ↓s83_40, ↓s83_43, ↓s83_44, ↓s83_45, ↓s83_46, ↓s83_47, ↓J_w1, kNLn, kNLi, kNLr, va_rf_s, kOl_n, kOl_s, kap_n, kap_c, kb0, kb1, kbif, zif, z0, z1, Bool.false_eq_true, eq_self, not_true_eq_false, not_false_eq_true, if_true, if_false, and_self, true_and, false_and, and_true, and_false, c, ki_0, ki_1, ki_44, ki_45, kl_44, kl_45, ki_49, mr_0_0, mr_0_4, mr_0_5, mr_44_0, hc, hv, hw, or_true, true_or]
    refine C_copy_49_1 h.1 ho (fun mi2 h2 f2 => ?_)
    simp only [↓s83_0, ↓s83_1, ↓s83_2, ↓s83_3, ↓s83_6, ↓s83_9, ↓s83_10, ↓s83_11, ↓s83_12, ↓s83_15, ↓s83_16, ↓s83_17, ↓s83_20, ↓s83_21, ↓s83_24, ↓s83_25, ↓s83_26, ↓s83_27, ↓s83_30, ↓s83_31, ↓s83_32, ↓s83_33, ↓s83_36, ↓s83_39, ↓s83_40, ↓s83_43, ↓s83_44, ↓s83_45, ↓s83_46, ↓s83_47, kNLn, kNLi, kNLr, va_rf_s, kOl_n, kOl_s, kap_n, kap_c, kb0, kb1, kbif, zif, z0, z1, Bool.false_eq_true, eq_self, not_true_eq_false, not_false_eq_true, if_true, if_false, and_self, true_and, false_and, and_true, and_false, ki_0, ki_45, kl_45, mr_0_5, hc, hv, n1a]
    exact hQ _ (CI_img h hk (fun q a b => by rw [kup_ne a]; exact f2 q (by omega)) (fun j hj => by rw [kup_eq, pk_un hj, f2 45 (by omega)]) ⟨by rw [kup_eq, pk_us], kCR_eq (fun q a b => kup_ne (by omega)) h2⟩) (fun q hq => by rw [kup_ne (by omega)]; exact f2 q (by omega))
  · simp only [↓s83_0, ↓s83_1, ↓s83_2, ↓s83_3, ↓s83_6, ↓s83_9, ↓s83_10, ↓s83_11, ↓s83_12, ↓s83_15, ↓s83_16, ↓s83_17, ↓s83_20, ↓s83_21, ↓s83_24, ↓s83_25, ↓s83_26, ↓s83_27, ↓s83_30, ↓s83_31, ↓s83_32, ↓s83_33, ↓s83_36, ↓s83_39, ↓s83_40, ↓s83_43, ↓s83_44, ↓s83_45, ↓s83_46, ↓s83_47, ↓J_w1, kNLn, kNLi, kNLr, va_rf_s, kOl_n, kOl_s, kap_n, kap_c, kb0, kb1, kbif, zif, z0, z1, Bool.false_eq_true, eq_self, not_true_eq_false, not_false_eq_true, if_true, if_false, and_self, true_and, false_and, and_true, and_false, c, ki_0, ki_1, ki_44, ki_45, kl_44, kl_45, ki_62, mr_0_0, mr_0_4, mr_0_5, mr_44_1, hc, hv, hw, or_true, true_or]
    refine C_copy_62_1 h.1 ho (fun mi2 h2 f2 => ?_)
    simp only [↓s83_0, ↓s83_1, ↓s83_2, ↓s83_3, ↓s83_6, ↓s83_9, ↓s83_10, ↓s83_11, ↓s83_12, ↓s83_15, ↓s83_16, ↓s83_17, ↓s83_20, ↓s83_21, ↓s83_24, ↓s83_25, ↓s83_26, ↓s83_27, ↓s83_30, ↓s83_31, ↓s83_32, ↓s83_33, ↓s83_36, ↓s83_39, ↓s83_40, ↓s83_43, ↓s83_44, ↓s83_45, ↓s83_46, ↓s83_47, kNLn, kNLi, kNLr, va_rf_s, kOl_n, kOl_s, kap_n, kap_c, kb0, kb1, kbif, zif, z0, z1, Bool.false_eq_true, eq_self, not_true_eq_false, not_false_eq_true, if_true, if_false, and_self, true_and, false_and, and_true, and_false, ki_0, ki_45, kl_45, mr_0_5, hc, hv, n1a]
    exact hQ _ (CI_img h hk (fun q a b => by rw [kup_ne a]; exact f2 q (by omega)) (fun j hj => by rw [kup_eq, pk_un hj, f2 45 (by omega)]) ⟨by rw [kup_eq, pk_us], kCR_eq (fun q a b => kup_ne (by omega)) h2⟩) (fun q hq => by rw [kup_ne (by omega)]; exact f2 q (by omega))
  · simp only [↓s83_0, ↓s83_1, ↓s83_2, ↓s83_3, ↓s83_6, ↓s83_9, ↓s83_10, ↓s83_11, ↓s83_12, ↓s83_15, ↓s83_16, ↓s83_17, ↓s83_20, ↓s83_21, ↓s83_24, ↓s83_25, ↓s83_26, ↓s83_27, ↓s83_30, ↓s83_31, ↓s83_32, ↓s83_33, ↓s83_36, ↓s83_39, ↓s83_40, ↓s83_43, ↓s83_44, ↓s83_45, ↓s83_46, ↓s83_47, ↓J_w1, kNLn, kNLi, kNLr, va_rf_s, kOl_n, kOl_s, kap_n, kap_c, kb0, kb1, kbif, zif, z0, z1, Bool.false_eq_true, eq_self, not_true_eq_false, not_false_eq_true, if_true, if_false, and_self, true_and, false_and, and_true, and_false, c, ki_0, ki_1, ki_44, ki_45, kl_44, kl_45, ki_49, mr_0_0, mr_0_4, mr_0_5, mr_44_0, hc, hv, hw, or_true, true_or]
    refine C_copy_49_1 h.1 ho (fun mi2 h2 f2 => ?_)
    simp only [↓s83_0, ↓s83_1, ↓s83_2, ↓s83_3, ↓s83_6, ↓s83_9, ↓s83_10, ↓s83_11, ↓s83_12, ↓s83_15, ↓s83_16, ↓s83_17, ↓s83_20, ↓s83_21, ↓s83_24, ↓s83_25, ↓s83_26, ↓s83_27, ↓s83_30, ↓s83_31, ↓s83_32, ↓s83_33, ↓s83_36, ↓s83_39, ↓s83_40, ↓s83_43, ↓s83_44, ↓s83_45, ↓s83_46, ↓s83_47, kNLn, kNLi, kNLr, va_rf_s, kOl_n, kOl_s, kap_n, kap_c, kb0, kb1, kbif, zif, z0, z1, Bool.false_eq_true, eq_self, not_true_eq_false, not_false_eq_true, if_true, if_false, and_self, true_and, false_and, and_true, and_false, ki_0, ki_45, kl_45, mr_0_5, hc, hv, n1a]
    exact hQ _ (CI_img h hk (fun q a b => by rw [kup_ne a]; exact f2 q (by omega)) (fun j hj => by rw [kup_eq, pk_un hj, f2 45 (by omega)]) ⟨by rw [kup_eq, pk_us], kCR_eq (fun q a b => kup_ne (by omega)) h2⟩) (fun q hq => by rw [kup_ne (by omega)]; exact f2 q (by omega))
  · simp only [↓s83_0, ↓s83_1, ↓s83_2, ↓s83_3, ↓s83_6, ↓s83_9, ↓s83_10, ↓s83_11, ↓s83_12, ↓s83_15, ↓s83_16, ↓s83_17, ↓s83_20, ↓s83_21, ↓s83_24, ↓s83_25, ↓s83_26, ↓s83_27, ↓s83_30, ↓s83_31, ↓s83_32, ↓s83_33, ↓s83_36, ↓s83_39, ↓s83_40, ↓s83_43, ↓s83_44, ↓s83_45, ↓s83_46, ↓s83_47, ↓J_w1, kNLn, kNLi, kNLr, va_rf_s, kOl_n, kOl_s, kap_n, kap_c, kb0, kb1, kbif, zif, z0, z1, Bool.false_eq_true, eq_self, not_true_eq_false, not_false_eq_true, if_true, if_false, and_self, true_and, false_and, and_true, and_false, c, ki_0, ki_1, ki_44, ki_45, kl_44, kl_45, ki_62, mr_0_0, mr_0_4, mr_0_5, mr_44_1, hc, hv, hw, or_true, true_or]
    refine C_copy_62_1 h.1 ho (fun mi2 h2 f2 => ?_)
    simp only [↓s83_0, ↓s83_1, ↓s83_2, ↓s83_3, ↓s83_6, ↓s83_9, ↓s83_10, ↓s83_11, ↓s83_12, ↓s83_15, ↓s83_16, ↓s83_17, ↓s83_20, ↓s83_21, ↓s83_24, ↓s83_25, ↓s83_26, ↓s83_27, ↓s83_30, ↓s83_31, ↓s83_32, ↓s83_33, ↓s83_36, ↓s83_39, ↓s83_40, ↓s83_43, ↓s83_44, ↓s83_45, ↓s83_46, ↓s83_47, kNLn, kNLi, kNLr, va_rf_s, kOl_n, kOl_s, kap_n, kap_c, kb0, kb1, kbif, zif, z0, z1, Bool.false_eq_true, eq_self, not_true_eq_false, not_false_eq_true, if_true, if_false, and_self, true_and, false_and, and_true, and_false, ki_0, ki_45, kl_45, mr_0_5, hc, hv, n1a]
    exact hQ _ (CI_img h hk (fun q a b => by rw [kup_ne a]; exact f2 q (by omega)) (fun j hj => by rw [kup_eq, pk_un hj, f2 45 (by omega)]) ⟨by rw [kup_eq, pk_us], kCR_eq (fun q a b => kup_ne (by omega)) h2⟩) (fun q hq => by rw [kup_ne (by omega)]; exact f2 q (by omega))
theorem R_keep_y (hk : k < 2) (h : RI S mi) (hg : gOK S) (hQ : ∀ mi', RI (S.1, oput S.2.1 k (some S.1), S.2.2) mi' → fR mi mi' → Q (some (.int (nI (owas (S.2.1 k))))) (mi', ml, MR, 95)) : kJ 190 0 [some (.ref 83), some (.int (nI k)), none] [] (mi, ml, MR, 95) Q := by
  have ho := hg.1.1
  have c : gin (nI k) 2 = true := gin_nI hk (by decide)
  have hc : (nI k).toNatClampNeg = k := nI_clamp (by omega)
  have hv : vp_in (nI k) 2 := vp_in_nI hk (by decide)
  have hw := rImg_was (h.2.1 k hk)
  have e84 : kup mi 86 k (nI 1) 84 = mi 84 := kup_ne (by decide)
  have hcp : ∀ Q', kJ 189 0 [some (.ref 83), some (.int (nI (74 * (k + 1)))), some (.int (nI 0)), none] [] (kup mi 86 k (nI 1), ml, MR, 95) Q' = Q' none (kRow (kup mi 86 k (nI 1)) 84 (cpw (74 * (k + 1)) 0 74 (mi 84)), ml, MR, 95) := fun Q' => by rw [R_copies (by omega) (by omega) (by omega), e84]
  simp only [↓s190_0, ↓s190_1, ↓s190_2, ↓s190_3, ↓s190_4, ↓s190_7, ↓s190_10, ↓s190_11, ↓s190_12, ↓s190_13, ↓s190_16, ↓s190_17, ↓s190_18, ↓s190_21, ↓s190_22, ↓s190_23, ↓s190_26, ↓s190_27, ↓s190_28, ↓s190_29, ↓s190_30, ↓s190_32, ↓s190_33, ↓s190_34, ↓s190_35, ↓s190_36, ↓s190_37, ↓s190_40, ↓s190_41, ↓R_i1, ↓R_flag, ↓hcp, kNLn, kNLi, kNLr, va_rf_s, kOl_n, kOl_s, kap_n, kap_c, kb0, kb1, kbif, zif, z0, z1, Bool.false_eq_true, eq_self, not_true_eq_false, not_false_eq_true, if_true, if_false, and_self, true_and, false_and, and_true, and_false, c, ki_83, ki_86, kl_86, mr_83_2, hc, hv, hw, n1a, nI_add, pk_mul, fl01 (owas_2 (S.2.1 k))]
  refine hQ _ (RI_img h hg hk (fun q a b => by rw [kRow_ne b, kup_ne a]) (fun j hj => by rw [kRow_ne (by decide), kup_eq, pk_un hj]) (fun j hj => by rw [kRow_eq]; exact if_neg (by omega)) ⟨by rw [kRow_ne (by decide), kup_eq, pk_us], kRR_cong ho (fun j hj => ?_) h.1⟩) (fun q hq => by rw [kRow_ne (by omega), kup_ne (by omega)])
  rw [kRow_eq]
  unfold cpw
  rw [if_pos (by omega), show 0 + (74 * (k + 1) + j - 74 * (k + 1)) = j by omega]
theorem B_keep {x : Int32} (hg : gOK S) : bB 83 [some (.ref 0), some (.int x), none] 190 [some (.ref 83), some (.int x), none] S := by
  by_cases c : gin x 2 = true
  · obtain ⟨k, hk, rfl⟩ := gin_of c (by decide)
    refine ⟨(S.1, oput S.2.1 k (some S.1), S.2.2), _, ⟨hg.1, fun j hj U hU => ?_, hg.2.2⟩, fun mi ml Q h hQ => C_keep_y hk h hg hQ, fun mi ml Q h hQ => R_keep_y hk h hg (fun mi' a b => hQ mi' ml a b)⟩
    have hU' : oput S.2.1 k (some S.1) j = some U := hU
    by_cases ej : j = k
    · rw [ej, oput_s] at hU'
      cases hU'
      exact hg.1
    · rw [oput_n ej] at hU'
      exact hg.2.1 j hj U hU'
  · refine bB_e hg (-1) (fun mi ml Q h => ?_) (fun mi ml Q h => ?_)
    · simp only [↓s83_0, ↓s83_1, ↓s83_2, ↓s83_3, ↓s83_6, ↓s83_9, ↓s83_10, ↓s83_11, ↓s83_12, ↓s83_15, ↓s83_16, ↓s83_17, ↓s83_20, ↓s83_21, ↓s83_24, ↓s83_25, ↓s83_26, ↓s83_27, ↓s83_30, ↓s83_31, ↓s83_32, ↓s83_33, ↓s83_36, ↓s83_39, ↓s83_40, ↓s83_43, ↓s83_44, ↓s83_45, ↓s83_46, ↓s83_47, ↓J_w1, kNLn, kNLi, kNLr, va_rf_s, kOl_n, kOl_s, kap_n, kap_c, kb0, kb1, kbif, zif, z0, z1, Bool.false_eq_true, eq_self, not_true_eq_false, not_false_eq_true, if_true, if_false, and_self, true_and, false_and, and_true, and_false, c]
    · simp only [↓s190_0, ↓s190_1, ↓s190_2, ↓s190_3, ↓s190_4, ↓s190_7, ↓s190_10, ↓s190_11, ↓s190_12, ↓s190_13, ↓s190_16, ↓s190_17, ↓s190_18, ↓s190_21, ↓s190_22, ↓s190_23, ↓s190_26, ↓s190_27, ↓s190_28, ↓s190_29, ↓s190_30, ↓s190_32, ↓s190_33, ↓s190_34, ↓s190_35, ↓s190_36, ↓s190_37, ↓s190_40, ↓s190_41, ↓R_i1, kNLn, kNLi, kNLr, va_rf_s, kOl_n, kOl_s, kap_n, kap_c, kb0, kb1, kbif, zif, z0, z1, Bool.false_eq_true, eq_self, not_true_eq_false, not_false_eq_true, if_true, if_false, and_self, true_and, false_and, and_true, and_false, c]
theorem C_back_y (hk : k < 2) (h : CI S mi) (hg : gOK S) (hU : S.2.1 k = some U) (hQ : ∀ mi', CI (U, S.2) mi' → fC mi mi' → Q (some (.int (nI (U 0 12)))) (mi', ml, MR, 95)) : kJ 84 0 [some (.ref 0), some (.int (nI k))] [] (mi, ml, MR, 95) Q := by
  have oU := (hg.2.1 k hk U hU).1
  have c : gin (nI k) 2 = true := gin_nI hk (by decide)
  have hc : (nI k).toNatClampNeg = k := nI_clamp (by omega)
  have hv : vp_in (nI k) 2 := vp_in_nI hk (by decide)
  have hi := h.2.1 k hk
  rw [hU] at hi
  have hw := hi.1
  have hi2 := hi.2
  rcases (by omega : k = 0 ∨ k = 1) with rfl | rfl
  · simp only [↓s84_0, ↓s84_1, ↓s84_2, ↓s84_3, ↓s84_6, ↓s84_9, ↓s84_10, ↓s84_11, ↓s84_12, ↓s84_15, ↓s84_16, ↓s84_17, ↓s84_20, ↓s84_22, ↓s84_23, ↓s84_24, ↓s84_27, ↓s84_28, ↓s84_31, ↓s84_32, ↓s84_33, ↓s84_36, ↓s84_37, ↓s84_40, ↓s84_43, ↓J_w1, kNLn, kNLi, kNLr, va_rf_s, kOl_n, kOl_s, kap_n, kap_c, kb0, kb1, kbif, zif, z0, z1, Bool.false_eq_true, eq_self, not_true_eq_false, not_false_eq_true, if_true, if_false, and_self, true_and, false_and, and_true, and_false, c, ki_0, ki_1, ki_44, ki_45, kl_44, kl_45, ki_49, mr_0_0, mr_0_4, mr_0_5, mr_44_0, hc, hv, hw, or_true, true_or]
    refine C_copy_1_49 hi2 oU (fun mi2 h2 f2 => ?_)
    simp only [↓s84_0, ↓s84_1, ↓s84_2, ↓s84_3, ↓s84_6, ↓s84_9, ↓s84_10, ↓s84_11, ↓s84_12, ↓s84_15, ↓s84_16, ↓s84_17, ↓s84_20, ↓s84_22, ↓s84_23, ↓s84_24, ↓s84_27, ↓s84_28, ↓s84_31, ↓s84_32, ↓s84_33, ↓s84_36, ↓s84_37, ↓s84_40, ↓s84_43, kNLn, kNLi, kNLr, va_rf_s, kOl_n, kOl_s, kap_n, kap_c, kb0, kb1, kbif, zif, z0, z1, Bool.false_eq_true, eq_self, not_true_eq_false, not_false_eq_true, if_true, if_false, and_self, true_and, false_and, and_true, and_false, ki_0, ki_1, mr_0_0, h2.1.2.2.2.1]
    exact hQ _ (CI_T h h2 (sC_now f2)) (fC_now f2)
  · simp only [↓s84_0, ↓s84_1, ↓s84_2, ↓s84_3, ↓s84_6, ↓s84_9, ↓s84_10, ↓s84_11, ↓s84_12, ↓s84_15, ↓s84_16, ↓s84_17, ↓s84_20, ↓s84_22, ↓s84_23, ↓s84_24, ↓s84_27, ↓s84_28, ↓s84_31, ↓s84_32, ↓s84_33, ↓s84_36, ↓s84_37, ↓s84_40, ↓s84_43, ↓J_w1, kNLn, kNLi, kNLr, va_rf_s, kOl_n, kOl_s, kap_n, kap_c, kb0, kb1, kbif, zif, z0, z1, Bool.false_eq_true, eq_self, not_true_eq_false, not_false_eq_true, if_true, if_false, and_self, true_and, false_and, and_true, and_false, c, ki_0, ki_1, ki_44, ki_45, kl_44, kl_45, ki_62, mr_0_0, mr_0_4, mr_0_5, mr_44_1, hc, hv, hw, or_true, true_or]
    refine C_copy_1_62 hi2 oU (fun mi2 h2 f2 => ?_)
    simp only [↓s84_0, ↓s84_1, ↓s84_2, ↓s84_3, ↓s84_6, ↓s84_9, ↓s84_10, ↓s84_11, ↓s84_12, ↓s84_15, ↓s84_16, ↓s84_17, ↓s84_20, ↓s84_22, ↓s84_23, ↓s84_24, ↓s84_27, ↓s84_28, ↓s84_31, ↓s84_32, ↓s84_33, ↓s84_36, ↓s84_37, ↓s84_40, ↓s84_43, kNLn, kNLi, kNLr, va_rf_s, kOl_n, kOl_s, kap_n, kap_c, kb0, kb1, kbif, zif, z0, z1, Bool.false_eq_true, eq_self, not_true_eq_false, not_false_eq_true, if_true, if_false, and_self, true_and, false_and, and_true, and_false, ki_0, ki_1, mr_0_0, h2.1.2.2.2.1]
    exact hQ _ (CI_T h h2 (sC_now f2)) (fC_now f2)
theorem R_back_y (hk : k < 2) (h : RI S mi) (hg : gOK S) (hU : S.2.1 k = some U) (hQ : ∀ mi', RI (U, S.2) mi' → fR mi mi' → Q (some (.int (nI (U 0 12)))) (mi', ml, MR, 95)) : kJ 191 0 [some (.ref 83), some (.int (nI k))] [] (mi, ml, MR, 95) Q := by
  have oU := (hg.2.1 k hk U hU).1
  have c : gin (nI k) 2 = true := gin_nI hk (by decide)
  have hc : (nI k).toNatClampNeg = k := nI_clamp (by omega)
  have hv : vp_in (nI k) 2 := vp_in_nI hk (by decide)
  have hi := h.2.1 k hk
  rw [hU] at hi
  have hw := hi.1
  have hcp : ∀ Q', kJ 189 0 [some (.ref 83), some (.int (nI 0)), some (.int (nI (74 * (k + 1)))), none] [] (mi, ml, MR, 95) Q' = Q' none (kRow mi 84 (cpw 0 (74 * (k + 1)) 74 (mi 84)), ml, MR, 95) := fun Q' => R_copies (by omega) (by omega) (by omega)
  have hR : kRR (kRow mi 84 (cpw 0 (74 * (k + 1)) 74 (mi 84)) 84) U := by
    rw [kRow_eq]
    refine kRR_cong oU (fun j hj => ?_) hi.2
    unfold cpw
    rw [if_pos (by omega), show j - 0 = j by omega]
  have h54 := hR.1.2.2.2.1
  have c54 : (nI 54).toNatClampNeg = 54 := rfl
  have v54 : vp_in (nI 54) 222 := vp_in_nI (by decide) (by decide)
  simp only [↓s191_0, ↓s191_1, ↓s191_2, ↓s191_3, ↓s191_4, ↓s191_7, ↓s191_10, ↓s191_11, ↓s191_12, ↓s191_13, ↓s191_16, ↓s191_17, ↓s191_18, ↓s191_21, ↓s191_23, ↓s191_24, ↓s191_25, ↓s191_26, ↓s191_28, ↓s191_29, ↓s191_30, ↓s191_31, ↓s191_32, ↓s191_35, ↓s191_36, ↓s191_39, ↓s191_41, ↓s191_42, ↓R_i1, ↓hcp, kNLn, kNLi, kNLr, va_rf_s, kOl_n, kOl_s, kap_n, kap_c, kb0, kb1, kbif, zif, z0, z1, Bool.false_eq_true, eq_self, not_true_eq_false, not_false_eq_true, if_true, if_false, and_self, true_and, false_and, and_true, and_false, c, ki_83, ki_84, kl_84, ki_86, kl_86, mr_83_0, mr_83_2, hc, hv, hw, nI_add, pk_mul, c54, v54, h54]
  exact hQ _ (RI_T h hR ⟨fun q hq => kRow_ne (by omega), fun k hk => by rw [kRow_ne (by omega)], fun j hj => by rw [kRow_eq]; exact if_neg (by omega)⟩) (fun q hq => kRow_ne (by omega))
theorem B_back {x : Int32} (hg : gOK S) : bB 84 [some (.ref 0), some (.int x)] 191 [some (.ref 83), some (.int x)] S := by
  by_cases c : gin x 2 = true
  · obtain ⟨k, hk, rfl⟩ := gin_of c (by decide)
    have hc : (nI k).toNatClampNeg = k := nI_clamp (by omega)
    have hv : vp_in (nI k) 2 := vp_in_nI hk (by decide)
    cases hU : S.2.1 k with
    | none =>
      refine bB_e hg (-2) (fun mi ml Q h => ?_) (fun mi ml Q h => ?_)
      · have hw := h.2.1 k hk
        rw [hU] at hw
        have hw2 : mi 45 k = nI 0 := hw
        simp only [↓s84_0, ↓s84_1, ↓s84_2, ↓s84_3, ↓s84_6, ↓s84_9, ↓s84_10, ↓s84_11, ↓s84_12, ↓s84_15, ↓s84_16, ↓s84_17, ↓s84_20, ↓s84_22, ↓s84_23, ↓s84_24, ↓s84_27, ↓s84_28, ↓s84_31, ↓s84_32, ↓s84_33, ↓s84_36, ↓s84_37, ↓s84_40, ↓s84_43, ↓J_w1, kNLn, kNLi, kNLr, va_rf_s, kOl_n, kOl_s, kap_n, kap_c, kb0, kb1, kbif, zif, z0, z1, Bool.false_eq_true, eq_self, not_true_eq_false, not_false_eq_true, if_true, if_false, and_self, true_and, false_and, and_true, and_false, c, ki_0, ki_45, kl_45, mr_0_5, hc, hv, hw2]
      · have hw := h.2.1 k hk
        rw [hU] at hw
        have hw2 : mi 86 k = nI 0 := hw
        simp only [↓s191_0, ↓s191_1, ↓s191_2, ↓s191_3, ↓s191_4, ↓s191_7, ↓s191_10, ↓s191_11, ↓s191_12, ↓s191_13, ↓s191_16, ↓s191_17, ↓s191_18, ↓s191_21, ↓s191_23, ↓s191_24, ↓s191_25, ↓s191_26, ↓s191_28, ↓s191_29, ↓s191_30, ↓s191_31, ↓s191_32, ↓s191_35, ↓s191_36, ↓s191_39, ↓s191_41, ↓s191_42, ↓R_i1, kNLn, kNLi, kNLr, va_rf_s, kOl_n, kOl_s, kap_n, kap_c, kb0, kb1, kbif, zif, z0, z1, Bool.false_eq_true, eq_self, not_true_eq_false, not_false_eq_true, if_true, if_false, and_self, true_and, false_and, and_true, and_false, c, ki_83, ki_86, kl_86, mr_83_2, hc, hv, hw2]
    | some U => exact ⟨(U, S.2), _, ⟨hg.2.1 k hk U hU, hg.2⟩, fun mi ml Q h hQ => C_back_y hk h hg hU hQ, fun mi ml Q h hQ => R_back_y hk h hg hU (fun mi' a b => hQ mi' ml a b)⟩
  · refine bB_e hg (-1) (fun mi ml Q h => ?_) (fun mi ml Q h => ?_)
    · simp only [↓s84_0, ↓s84_1, ↓s84_2, ↓s84_3, ↓s84_6, ↓s84_9, ↓s84_10, ↓s84_11, ↓s84_12, ↓s84_15, ↓s84_16, ↓s84_17, ↓s84_20, ↓s84_22, ↓s84_23, ↓s84_24, ↓s84_27, ↓s84_28, ↓s84_31, ↓s84_32, ↓s84_33, ↓s84_36, ↓s84_37, ↓s84_40, ↓s84_43, ↓J_w1, kNLn, kNLi, kNLr, va_rf_s, kOl_n, kOl_s, kap_n, kap_c, kb0, kb1, kbif, zif, z0, z1, Bool.false_eq_true, eq_self, not_true_eq_false, not_false_eq_true, if_true, if_false, and_self, true_and, false_and, and_true, and_false, c]
    · simp only [↓s191_0, ↓s191_1, ↓s191_2, ↓s191_3, ↓s191_4, ↓s191_7, ↓s191_10, ↓s191_11, ↓s191_12, ↓s191_13, ↓s191_16, ↓s191_17, ↓s191_18, ↓s191_21, ↓s191_23, ↓s191_24, ↓s191_25, ↓s191_26, ↓s191_28, ↓s191_29, ↓s191_30, ↓s191_31, ↓s191_32, ↓s191_35, ↓s191_36, ↓s191_39, ↓s191_41, ↓s191_42, ↓R_i1, kNLn, kNLi, kNLr, va_rf_s, kOl_n, kOl_s, kap_n, kap_c, kb0, kb1, kbif, zif, z0, z1, Bool.false_eq_true, eq_self, not_true_eq_false, not_false_eq_true, if_true, if_false, and_self, true_and, false_and, and_true, and_false, c]
end IMG

end
section
/-! count -/
def tsumF (T : tT) (r : Nat) : Nat → Nat
  | 0 => 0
  | i + 1 => tsumF T r i + T r i
def osz (o : Option (Nat × Nat × (Nat → Int32))) : Int32 := match o with
  | none => (-4)
  | some (_, n, _) => nI n
def gcnt (S : gS) (x : Int32) : Int32 := if x = nI 0 then nI (S.1 0 13) else if x = nI 1 then nI (owas (S.2.1 0)) + nI (owas (S.2.1 1)) else if x = nI 2 then nI S.2.2.1.1 else if x = nI 3 then osz (S.2.2.2.2.1 0) else if x = nI 4 then nI (tsumF S.1 7 (S.1 0 4)) else if x = nI 5 then nI (tsumF S.1 2 (S.1 0 0)) else (-1)
section CNT
variable {mi : Nat → Nat → Int32} {ml : Nat → Nat → Int64} {m : kMem} {Q : Option Value → kMem → Prop} {S : gS} {T U : tT} {b p n k : Nat}
theorem n_m1 {n : Nat} (h : n < 2 ^ 31) : (nI n = (-1)) = False := eq_false (fun e => by
  have h1 := congrArg Int32.toInt e
  rw [nI_toInt h] at h1
  have h2 : ((-1 : Int32)).toInt = -1 := by decide
  omega)
theorem n_m4 {n : Nat} (h : n < 2 ^ 31) : (nI n = (-4)) = False := eq_false (fun e => by
  have h1 := congrArg Int32.toInt e
  rw [nI_toInt h] at h1
  have h2 : ((-4 : Int32)).toInt = -4 := by decide
  omega)
theorem m1_r : ((-1 : Int32) = (-1)) = True := by decide
theorem m4_r : ((-4 : Int32) = (-4)) = True := by decide
theorem J_nothing {q : Nat} (hq : kIs 95 q 2 = true) : kJ 30 0 [some (.ref q)] [] (mi, ml, MR, 95) Q = Q (some (.int (if mi q 0 = (-1) then nI 1 else nI 0))) (mi, ml, MR, 95) := by
  simp only [↓s30_0, ↓s30_1, ↓s30_4, ↓s30_5, ↓s30_8, ↓s30_9, ↓s30_12, ↓s30_13, kNLn, kNLi, kNLr, va_rf_s, kOl_n, kOl_s, kap_n, kap_c, kb0, kb1, kbif, zif, z0, z1, Bool.false_eq_true, eq_self, not_true_eq_false, not_false_eq_true, if_true, if_false, and_self, true_and, false_and, and_true, and_false, hq]
  by_cases c : mi q 0 = (-1)
  · simp only [c, if_true]
  · simp only [c, if_false]
theorem C_count {x : Int32} (h : CI S mi) (hg : gOK S) : kJ 89 0 [some (.ref 0), some (.int x)] [] (mi, ml, MR, 95) Q = Q (some (.int (gcnt S x))) (mi, ml, MR, 95) := by
  have ho := hg.1.1
  have o1 := ho.1
  have o2 := ho.2.1
  obtain ⟨h0, h4, h11, h12, h13⟩ := h.1.1
  have w0 := cImg_was (h.2.1 0 (by decide))
  have w1 := cImg_was (h.2.1 1 (by decide))
  have h28 := h.2.2.1.1
  have hsh := h.2.2.2.2.1 0 (by decide)
  have hgs := hg.2.2.2.2.1 0 (by decide)
  have c0 : (nI 0).toNatClampNeg = 0 := rfl
  have v0 : vp_in (nI 0) 2 := vp_in_nI (by decide) (by decide)
  have c1 : (nI 1).toNatClampNeg = 1 := rfl
  have v1 : vp_in (nI 1) 2 := vp_in_nI (by decide) (by decide)
  have v04 : vp_in (nI 0) 4 := vp_in_nI (by decide) (by decide)
  have s8 : ∀ Q', kJ 94 0 [some (.ref 8), some (.int (nI (S.1 0 4))), none, none] [] (mi, ml, MR, 95) Q' = Q' (some (.int (nI (tsumF S.1 7 (S.1 0 4))))) (mi, ml, MR, 95) := fun Q' => J_sum (f := fun p => S.1 7 p) ki_8 (by rw [kl_8]; exact o2) (by rw [kl_8]; decide) (fun j hj => kCR_row h.1 (r := 7) (by omega) (by omega) (by rw [tcnt_l (by omega) (by omega)]; exact hj)) (tsumF S.1 7) rfl (fun _ => rfl)
  have s3 : ∀ Q', kJ 94 0 [some (.ref 3), some (.int (nI (S.1 0 0))), none, none] [] (mi, ml, MR, 95) Q' = Q' (some (.int (nI (tsumF S.1 2 (S.1 0 0))))) (mi, ml, MR, 95) := fun Q' => J_sum (f := fun p => S.1 2 p) ki_3 (by rw [kl_3]; exact o1) (by rw [kl_3]; decide) (fun j hj => kCR_row h.1 (r := 2) (by omega) (by omega) (by rw [tcnt_p (by omega)]; exact hj)) (tsumF S.1 2) rfl (fun _ => rfl)
  by_cases d : gin x 6 = true
  · obtain ⟨w, hw, rfl⟩ := gin_of d (by decide)
    rcases (by omega : w = 0 ∨ w = 1 ∨ w = 2 ∨ w = 3 ∨ w = 4 ∨ w = 5) with rfl | rfl | rfl | rfl | rfl | rfl
    · simp only [↓s89_0, ↓s89_1, ↓s89_40, ↓s89_41, ↓s89_44, ↓s89_47, ↓s89_48, ↓s89_49, ↓s89_52, ↓s89_53, ↓s89_54, ↓s89_57, ↓s89_58, ↓s89_61, ↓s89_62, ↓s89_63, ↓s89_66, ↓s89_67, ↓s89_68, ↓s89_71, ↓s89_72, ↓s89_75, ↓s89_76, ↓s89_77, ↓s89_78, ↓s89_79, ↓s89_82, ↓s89_85, ↓s89_86, ↓s89_87, ↓s89_90, ↓s89_91, ↓s89_92, ↓s89_95, ↓s89_98, ↓s89_100, ↓s89_103, ↓s89_104, ↓s89_107, ↓s89_108, ↓s89_109, ↓s89_112, ↓s89_113, ↓s89_114, ↓s89_117, ↓s89_120, ↓s89_121, ↓s89_124, ↓s89_127, ↓s89_130, ↓s89_131, ↓s89_132, ↓s89_135, ↓s89_138, ↓s89_139, ↓s89_142, ↓s89_145, ↓s89_148, ↓s89_149, ↓s89_150, kNLn, kNLi, kNLr, va_rf_s, kOl_n, kOl_s, kap_n, kap_c, kb0, kb1, kbif, zif, z0, z1, Bool.false_eq_true, eq_self, not_true_eq_false, not_false_eq_true, if_true, if_false, and_self, true_and, false_and, and_true, and_false, nl_0_1, nl_0_2, nl_0_3, nl_0_4, nl_0_5, nl_0_6, nl_1_0, nl_1_2, nl_1_3, nl_1_4, nl_1_5, nl_1_6, nl_2_0, nl_2_1, nl_2_3, nl_2_4, nl_2_5, nl_2_6, nl_3_0, nl_3_1, nl_3_2, nl_3_4, nl_3_5, nl_3_6, nl_4_0, nl_4_1, nl_4_2, nl_4_3, nl_4_5, nl_4_6, nl_5_0, nl_5_1, nl_5_2, nl_5_3, nl_5_4, nl_5_6, nl_6_0, nl_6_1, nl_6_2, nl_6_3, nl_6_4, nl_6_5, nz_1, nz_2, nz_3, nz_4, nz_5, nz_6, ki_0, ki_1, mr_0_0, h13, gcnt]
    · rcases owas_2 (S.2.1 0) with e0 | e0 <;> rcases owas_2 (S.2.1 1) with e1 | e1 <;> rw [e0] at w0 <;> rw [e1] at w1 <;> simp only [↓s89_0, ↓s89_1, ↓s89_40, ↓s89_41, ↓s89_44, ↓s89_47, ↓s89_48, ↓s89_49, ↓s89_52, ↓s89_53, ↓s89_54, ↓s89_57, ↓s89_58, ↓s89_61, ↓s89_62, ↓s89_63, ↓s89_66, ↓s89_67, ↓s89_68, ↓s89_71, ↓s89_72, ↓s89_75, ↓s89_76, ↓s89_77, ↓s89_78, ↓s89_79, ↓s89_82, ↓s89_85, ↓s89_86, ↓s89_87, ↓s89_90, ↓s89_91, ↓s89_92, ↓s89_95, ↓s89_98, ↓s89_100, ↓s89_103, ↓s89_104, ↓s89_107, ↓s89_108, ↓s89_109, ↓s89_112, ↓s89_113, ↓s89_114, ↓s89_117, ↓s89_120, ↓s89_121, ↓s89_124, ↓s89_127, ↓s89_130, ↓s89_131, ↓s89_132, ↓s89_135, ↓s89_138, ↓s89_139, ↓s89_142, ↓s89_145, ↓s89_148, ↓s89_149, ↓s89_150, kNLn, kNLi, kNLr, va_rf_s, kOl_n, kOl_s, kap_n, kap_c, kb0, kb1, kbif, zif, z0, z1, Bool.false_eq_true, eq_self, not_true_eq_false, not_false_eq_true, if_true, if_false, and_self, true_and, false_and, and_true, and_false, nl_0_1, nl_0_2, nl_0_3, nl_0_4, nl_0_5, nl_0_6, nl_1_0, nl_1_2, nl_1_3, nl_1_4, nl_1_5, nl_1_6, nl_2_0, nl_2_1, nl_2_3, nl_2_4, nl_2_5, nl_2_6, nl_3_0, nl_3_1, nl_3_2, nl_3_4, nl_3_5, nl_3_6, nl_4_0, nl_4_1, nl_4_2, nl_4_3, nl_4_5, nl_4_6, nl_5_0, nl_5_1, nl_5_2, nl_5_3, nl_5_4, nl_5_6, nl_6_0, nl_6_1, nl_6_2, nl_6_3, nl_6_4, nl_6_5, nz_1, nz_2, nz_3, nz_4, nz_5, nz_6, ki_0, ki_45, kl_45, mr_0_5, c0, c1, v0, v1, w0, w1, gcnt, e0, e1]
    · simp only [↓s89_0, ↓s89_1, ↓s89_40, ↓s89_41, ↓s89_44, ↓s89_47, ↓s89_48, ↓s89_49, ↓s89_52, ↓s89_53, ↓s89_54, ↓s89_57, ↓s89_58, ↓s89_61, ↓s89_62, ↓s89_63, ↓s89_66, ↓s89_67, ↓s89_68, ↓s89_71, ↓s89_72, ↓s89_75, ↓s89_76, ↓s89_77, ↓s89_78, ↓s89_79, ↓s89_82, ↓s89_85, ↓s89_86, ↓s89_87, ↓s89_90, ↓s89_91, ↓s89_92, ↓s89_95, ↓s89_98, ↓s89_100, ↓s89_103, ↓s89_104, ↓s89_107, ↓s89_108, ↓s89_109, ↓s89_112, ↓s89_113, ↓s89_114, ↓s89_117, ↓s89_120, ↓s89_121, ↓s89_124, ↓s89_127, ↓s89_130, ↓s89_131, ↓s89_132, ↓s89_135, ↓s89_138, ↓s89_139, ↓s89_142, ↓s89_145, ↓s89_148, ↓s89_149, ↓s89_150, kNLn, kNLi, kNLr, va_rf_s, kOl_n, kOl_s, kap_n, kap_c, kb0, kb1, kbif, zif, z0, z1, Bool.false_eq_true, eq_self, not_true_eq_false, not_false_eq_true, if_true, if_false, and_self, true_and, false_and, and_true, and_false, nl_0_1, nl_0_2, nl_0_3, nl_0_4, nl_0_5, nl_0_6, nl_1_0, nl_1_2, nl_1_3, nl_1_4, nl_1_5, nl_1_6, nl_2_0, nl_2_1, nl_2_3, nl_2_4, nl_2_5, nl_2_6, nl_3_0, nl_3_1, nl_3_2, nl_3_4, nl_3_5, nl_3_6, nl_4_0, nl_4_1, nl_4_2, nl_4_3, nl_4_5, nl_4_6, nl_5_0, nl_5_1, nl_5_2, nl_5_3, nl_5_4, nl_5_6, nl_6_0, nl_6_1, nl_6_2, nl_6_3, nl_6_4, nl_6_5, nz_1, nz_2, nz_3, nz_4, nz_5, nz_6, ki_0, ki_28, mr_0_3, h28, gcnt]
    · revert hsh hgs
      cases e : S.2.2.2.2.1 0 with
      | none =>
        intro hsh hgs
        have hs2 : mi 75 0 = (-1) := hsh
        simp only [↓s89_0, ↓s89_1, ↓s89_40, ↓s89_41, ↓s89_44, ↓s89_47, ↓s89_48, ↓s89_49, ↓s89_52, ↓s89_53, ↓s89_54, ↓s89_57, ↓s89_58, ↓s89_61, ↓s89_62, ↓s89_63, ↓s89_66, ↓s89_67, ↓s89_68, ↓s89_71, ↓s89_72, ↓s89_75, ↓s89_76, ↓s89_77, ↓s89_78, ↓s89_79, ↓s89_82, ↓s89_85, ↓s89_86, ↓s89_87, ↓s89_90, ↓s89_91, ↓s89_92, ↓s89_95, ↓s89_98, ↓s89_100, ↓s89_103, ↓s89_104, ↓s89_107, ↓s89_108, ↓s89_109, ↓s89_112, ↓s89_113, ↓s89_114, ↓s89_117, ↓s89_120, ↓s89_121, ↓s89_124, ↓s89_127, ↓s89_130, ↓s89_131, ↓s89_132, ↓s89_135, ↓s89_138, ↓s89_139, ↓s89_142, ↓s89_145, ↓s89_148, ↓s89_149, ↓s89_150, ↓J_nothing ki_75, kNLn, kNLi, kNLr, va_rf_s, kOl_n, kOl_s, kap_n, kap_c, kb0, kb1, kbif, zif, z0, z1, Bool.false_eq_true, eq_self, not_true_eq_false, not_false_eq_true, if_true, if_false, and_self, true_and, false_and, and_true, and_false, nl_0_1, nl_0_2, nl_0_3, nl_0_4, nl_0_5, nl_0_6, nl_1_0, nl_1_2, nl_1_3, nl_1_4, nl_1_5, nl_1_6, nl_2_0, nl_2_1, nl_2_3, nl_2_4, nl_2_5, nl_2_6, nl_3_0, nl_3_1, nl_3_2, nl_3_4, nl_3_5, nl_3_6, nl_4_0, nl_4_1, nl_4_2, nl_4_3, nl_4_5, nl_4_6, nl_5_0, nl_5_1, nl_5_2, nl_5_3, nl_5_4, nl_5_6, nl_6_0, nl_6_1, nl_6_2, nl_6_3, nl_6_4, nl_6_5, nz_1, nz_2, nz_3, nz_4, nz_5, nz_6, ki_0, ki_46, kl_46, ki_75, mr_0_6, mr_46_0, c0, v04, hs2, gcnt, e, osz, or_true, true_or, m1_r]
      | some z =>
        obtain ⟨l, n, cc⟩ := z
        intro hsh hgs
        have hn := (hgs l n cc rfl).2
        have hs2 : mi 75 0 = nI n := hsh.1
        have nm := n_m1 (by omega : n < 2 ^ 31)
        simp only [↓s89_0, ↓s89_1, ↓s89_40, ↓s89_41, ↓s89_44, ↓s89_47, ↓s89_48, ↓s89_49, ↓s89_52, ↓s89_53, ↓s89_54, ↓s89_57, ↓s89_58, ↓s89_61, ↓s89_62, ↓s89_63, ↓s89_66, ↓s89_67, ↓s89_68, ↓s89_71, ↓s89_72, ↓s89_75, ↓s89_76, ↓s89_77, ↓s89_78, ↓s89_79, ↓s89_82, ↓s89_85, ↓s89_86, ↓s89_87, ↓s89_90, ↓s89_91, ↓s89_92, ↓s89_95, ↓s89_98, ↓s89_100, ↓s89_103, ↓s89_104, ↓s89_107, ↓s89_108, ↓s89_109, ↓s89_112, ↓s89_113, ↓s89_114, ↓s89_117, ↓s89_120, ↓s89_121, ↓s89_124, ↓s89_127, ↓s89_130, ↓s89_131, ↓s89_132, ↓s89_135, ↓s89_138, ↓s89_139, ↓s89_142, ↓s89_145, ↓s89_148, ↓s89_149, ↓s89_150, ↓J_nothing ki_75, kNLn, kNLi, kNLr, va_rf_s, kOl_n, kOl_s, kap_n, kap_c, kb0, kb1, kbif, zif, z0, z1, Bool.false_eq_true, eq_self, not_true_eq_false, not_false_eq_true, if_true, if_false, and_self, true_and, false_and, and_true, and_false, nl_0_1, nl_0_2, nl_0_3, nl_0_4, nl_0_5, nl_0_6, nl_1_0, nl_1_2, nl_1_3, nl_1_4, nl_1_5, nl_1_6, nl_2_0, nl_2_1, nl_2_3, nl_2_4, nl_2_5, nl_2_6, nl_3_0, nl_3_1, nl_3_2, nl_3_4, nl_3_5, nl_3_6, nl_4_0, nl_4_1, nl_4_2, nl_4_3, nl_4_5, nl_4_6, nl_5_0, nl_5_1, nl_5_2, nl_5_3, nl_5_4, nl_5_6, nl_6_0, nl_6_1, nl_6_2, nl_6_3, nl_6_4, nl_6_5, nz_1, nz_2, nz_3, nz_4, nz_5, nz_6, ki_0, ki_46, kl_46, ki_75, mr_0_6, mr_46_0, c0, v04, hs2, gcnt, e, osz, or_true, true_or, nm]
    · simp only [↓s89_0, ↓s89_1, ↓s89_40, ↓s89_41, ↓s89_44, ↓s89_47, ↓s89_48, ↓s89_49, ↓s89_52, ↓s89_53, ↓s89_54, ↓s89_57, ↓s89_58, ↓s89_61, ↓s89_62, ↓s89_63, ↓s89_66, ↓s89_67, ↓s89_68, ↓s89_71, ↓s89_72, ↓s89_75, ↓s89_76, ↓s89_77, ↓s89_78, ↓s89_79, ↓s89_82, ↓s89_85, ↓s89_86, ↓s89_87, ↓s89_90, ↓s89_91, ↓s89_92, ↓s89_95, ↓s89_98, ↓s89_100, ↓s89_103, ↓s89_104, ↓s89_107, ↓s89_108, ↓s89_109, ↓s89_112, ↓s89_113, ↓s89_114, ↓s89_117, ↓s89_120, ↓s89_121, ↓s89_124, ↓s89_127, ↓s89_130, ↓s89_131, ↓s89_132, ↓s89_135, ↓s89_138, ↓s89_139, ↓s89_142, ↓s89_145, ↓s89_148, ↓s89_149, ↓s89_150, ↓s8, kNLn, kNLi, kNLr, va_rf_s, kOl_n, kOl_s, kap_n, kap_c, kb0, kb1, kbif, zif, z0, z1, Bool.false_eq_true, eq_self, not_true_eq_false, not_false_eq_true, if_true, if_false, and_self, true_and, false_and, and_true, and_false, nl_0_1, nl_0_2, nl_0_3, nl_0_4, nl_0_5, nl_0_6, nl_1_0, nl_1_2, nl_1_3, nl_1_4, nl_1_5, nl_1_6, nl_2_0, nl_2_1, nl_2_3, nl_2_4, nl_2_5, nl_2_6, nl_3_0, nl_3_1, nl_3_2, nl_3_4, nl_3_5, nl_3_6, nl_4_0, nl_4_1, nl_4_2, nl_4_3, nl_4_5, nl_4_6, nl_5_0, nl_5_1, nl_5_2, nl_5_3, nl_5_4, nl_5_6, nl_6_0, nl_6_1, nl_6_2, nl_6_3, nl_6_4, nl_6_5, nz_1, nz_2, nz_3, nz_4, nz_5, nz_6, ki_0, ki_1, mr_0_0, mr_1_8, h4, gcnt]
    · simp only [↓s89_0, ↓s89_1, ↓s89_40, ↓s89_41, ↓s89_44, ↓s89_47, ↓s89_48, ↓s89_49, ↓s89_52, ↓s89_53, ↓s89_54, ↓s89_57, ↓s89_58, ↓s89_61, ↓s89_62, ↓s89_63, ↓s89_66, ↓s89_67, ↓s89_68, ↓s89_71, ↓s89_72, ↓s89_75, ↓s89_76, ↓s89_77, ↓s89_78, ↓s89_79, ↓s89_82, ↓s89_85, ↓s89_86, ↓s89_87, ↓s89_90, ↓s89_91, ↓s89_92, ↓s89_95, ↓s89_98, ↓s89_100, ↓s89_103, ↓s89_104, ↓s89_107, ↓s89_108, ↓s89_109, ↓s89_112, ↓s89_113, ↓s89_114, ↓s89_117, ↓s89_120, ↓s89_121, ↓s89_124, ↓s89_127, ↓s89_130, ↓s89_131, ↓s89_132, ↓s89_135, ↓s89_138, ↓s89_139, ↓s89_142, ↓s89_145, ↓s89_148, ↓s89_149, ↓s89_150, ↓s3, kNLn, kNLi, kNLr, va_rf_s, kOl_n, kOl_s, kap_n, kap_c, kb0, kb1, kbif, zif, z0, z1, Bool.false_eq_true, eq_self, not_true_eq_false, not_false_eq_true, if_true, if_false, and_self, true_and, false_and, and_true, and_false, nl_0_1, nl_0_2, nl_0_3, nl_0_4, nl_0_5, nl_0_6, nl_1_0, nl_1_2, nl_1_3, nl_1_4, nl_1_5, nl_1_6, nl_2_0, nl_2_1, nl_2_3, nl_2_4, nl_2_5, nl_2_6, nl_3_0, nl_3_1, nl_3_2, nl_3_4, nl_3_5, nl_3_6, nl_4_0, nl_4_1, nl_4_2, nl_4_3, nl_4_5, nl_4_6, nl_5_0, nl_5_1, nl_5_2, nl_5_3, nl_5_4, nl_5_6, nl_6_0, nl_6_1, nl_6_2, nl_6_3, nl_6_4, nl_6_5, nz_1, nz_2, nz_3, nz_4, nz_5, nz_6, ki_0, ki_1, mr_0_0, mr_1_2, h0, gcnt]
  · have n0 := gin_ne d (k := 0) (by decide) (by decide)
    have n1 := gin_ne d (k := 1) (by decide) (by decide)
    have n2 := gin_ne d (k := 2) (by decide) (by decide)
    have n3 := gin_ne d (k := 3) (by decide) (by decide)
    have n4 := gin_ne d (k := 4) (by decide) (by decide)
    have n5 := gin_ne d (k := 5) (by decide) (by decide)
    simp only [↓s89_0, ↓s89_1, ↓s89_40, ↓s89_41, ↓s89_44, ↓s89_47, ↓s89_48, ↓s89_49, ↓s89_52, ↓s89_53, ↓s89_54, ↓s89_57, ↓s89_58, ↓s89_61, ↓s89_62, ↓s89_63, ↓s89_66, ↓s89_67, ↓s89_68, ↓s89_71, ↓s89_72, ↓s89_75, ↓s89_76, ↓s89_77, ↓s89_78, ↓s89_79, ↓s89_82, ↓s89_85, ↓s89_86, ↓s89_87, ↓s89_90, ↓s89_91, ↓s89_92, ↓s89_95, ↓s89_98, ↓s89_100, ↓s89_103, ↓s89_104, ↓s89_107, ↓s89_108, ↓s89_109, ↓s89_112, ↓s89_113, ↓s89_114, ↓s89_117, ↓s89_120, ↓s89_121, ↓s89_124, ↓s89_127, ↓s89_130, ↓s89_131, ↓s89_132, ↓s89_135, ↓s89_138, ↓s89_139, ↓s89_142, ↓s89_145, ↓s89_148, ↓s89_149, ↓s89_150, kNLn, kNLi, kNLr, va_rf_s, kOl_n, kOl_s, kap_n, kap_c, kb0, kb1, kbif, zif, z0, z1, Bool.false_eq_true, eq_self, not_true_eq_false, not_false_eq_true, if_true, if_false, and_self, true_and, false_and, and_true, and_false, n0, n1, n2, n3, n4, n5, gcnt]
theorem R_count {x : Int32} (h : RI S mi) (hg : gOK S) : kJ 197 0 [some (.ref 83), some (.int x), none, none, none] [] (mi, ml, MR, 95) Q = Q (some (.int (gcnt S x))) (mi, ml, MR, 95) := by
  have ho := hg.1.1
  have o1 := ho.1
  have o2 := ho.2.1
  obtain ⟨h0, h4, h11, h12, h13⟩ := h.1.1
  have w0 := rImg_was (h.2.1 0 (by decide))
  have w1 := rImg_was (h.2.1 1 (by decide))
  have h7 := h.2.2.1.1
  have hsh := h.2.2.2.2.1 0 (by decide)
  have hgs := hg.2.2.2.2.1 0 (by decide)
  have c15 : (nI 15).toNatClampNeg = 15 := rfl
  have v15 : vp_in (nI 15) 222 := vp_in_nI (by decide) (by decide)
  have c52 : (nI 52).toNatClampNeg = 52 := rfl
  have v52 : vp_in (nI 52) 222 := vp_in_nI (by decide) (by decide)
  have c55 : (nI 55).toNatClampNeg = 55 := rfl
  have v55 : vp_in (nI 55) 222 := vp_in_nI (by decide) (by decide)
  have c0 : (nI 0).toNatClampNeg = 0 := rfl
  have c1 : (nI 1).toNatClampNeg = 1 := rfl
  have v02 : vp_in (nI 0) 2 := vp_in_nI (by decide) (by decide)
  have v12 : vp_in (nI 1) 2 := vp_in_nI (by decide) (by decide)
  have v04 : vp_in (nI 0) 4 := vp_in_nI (by decide) (by decide)
  have fin : ∀ l4, kJ 197 78 [some (.ref 83), some (.int x), some (.int (nI (tsumF S.1 7 (S.1 0 4)))), some (.int (nI (tsumF S.1 2 (S.1 0 0)))), l4] [] (mi, ml, MR, 95) Q = Q (some (.int (gcnt S x))) (mi, ml, MR, 95) := by
    intro l4
    by_cases d : gin x 6 = true
    · obtain ⟨w, hw, rfl⟩ := gin_of d (by decide)
      rcases (by omega : w = 0 ∨ w = 1 ∨ w = 2 ∨ w = 3 ∨ w = 4 ∨ w = 5) with rfl | rfl | rfl | rfl | rfl | rfl
      · simp only [↓s197_0, ↓s197_1, ↓s197_2, ↓s197_3, ↓s197_4, ↓s197_5, ↓s197_9, ↓s197_10, ↓s197_13, ↓s197_15, ↓s197_16, ↓s197_19, ↓s197_20, ↓s197_21, ↓s197_24, ↓s197_26, ↓s197_28, ↓s197_30, ↓s197_31, ↓s197_32, ↓s197_33, ↓s197_34, ↓s197_35, ↓s197_36, ↓s197_37, ↓s197_40, ↓s197_43, ↓s197_44, ↓s197_48, ↓s197_49, ↓s197_52, ↓s197_54, ↓s197_55, ↓s197_58, ↓s197_59, ↓s197_60, ↓s197_63, ↓s197_64, ↓s197_66, ↓s197_67, ↓s197_68, ↓s197_69, ↓s197_70, ↓s197_71, ↓s197_72, ↓s197_75, ↓s197_78, ↓s197_79, ↓s197_116, ↓s197_117, ↓s197_120, ↓s197_122, ↓s197_123, ↓s197_124, ↓s197_125, ↓s197_128, ↓s197_129, ↓s197_130, ↓s197_133, ↓s197_134, ↓s197_137, ↓s197_138, ↓s197_139, ↓s197_142, ↓s197_143, ↓s197_144, ↓s197_145, ↓s197_148, ↓s197_149, ↓s197_150, ↓s197_153, ↓s197_154, ↓s197_155, ↓s197_157, ↓s197_160, ↓s197_162, ↓s197_165, ↓s197_166, ↓s197_169, ↓s197_170, ↓s197_171, ↓s197_172, ↓s197_173, ↓s197_174, ↓s197_175, ↓s197_176, ↓s197_177, kNLn, kNLi, kNLr, va_rf_s, kOl_n, kOl_s, kap_n, kap_c, kb0, kb1, kbif, zif, z0, z1, Bool.false_eq_true, eq_self, not_true_eq_false, not_false_eq_true, if_true, if_false, and_self, true_and, false_and, and_true, and_false, nl_0_1, nl_0_2, nl_0_3, nl_0_4, nl_0_5, nl_0_6, nl_1_0, nl_1_2, nl_1_3, nl_1_4, nl_1_5, nl_1_6, nl_2_0, nl_2_1, nl_2_3, nl_2_4, nl_2_5, nl_2_6, nl_3_0, nl_3_1, nl_3_2, nl_3_4, nl_3_5, nl_3_6, nl_4_0, nl_4_1, nl_4_2, nl_4_3, nl_4_5, nl_4_6, nl_5_0, nl_5_1, nl_5_2, nl_5_3, nl_5_4, nl_5_6, nl_6_0, nl_6_1, nl_6_2, nl_6_3, nl_6_4, nl_6_5, nz_1, nz_2, nz_3, nz_4, nz_5, nz_6, ki_83, ki_84, kl_84, mr_83_0, h13, c55, v55, gcnt]
      · simp only [↓s197_0, ↓s197_1, ↓s197_2, ↓s197_3, ↓s197_4, ↓s197_5, ↓s197_9, ↓s197_10, ↓s197_13, ↓s197_15, ↓s197_16, ↓s197_19, ↓s197_20, ↓s197_21, ↓s197_24, ↓s197_26, ↓s197_28, ↓s197_30, ↓s197_31, ↓s197_32, ↓s197_33, ↓s197_34, ↓s197_35, ↓s197_36, ↓s197_37, ↓s197_40, ↓s197_43, ↓s197_44, ↓s197_48, ↓s197_49, ↓s197_52, ↓s197_54, ↓s197_55, ↓s197_58, ↓s197_59, ↓s197_60, ↓s197_63, ↓s197_64, ↓s197_66, ↓s197_67, ↓s197_68, ↓s197_69, ↓s197_70, ↓s197_71, ↓s197_72, ↓s197_75, ↓s197_78, ↓s197_79, ↓s197_116, ↓s197_117, ↓s197_120, ↓s197_122, ↓s197_123, ↓s197_124, ↓s197_125, ↓s197_128, ↓s197_129, ↓s197_130, ↓s197_133, ↓s197_134, ↓s197_137, ↓s197_138, ↓s197_139, ↓s197_142, ↓s197_143, ↓s197_144, ↓s197_145, ↓s197_148, ↓s197_149, ↓s197_150, ↓s197_153, ↓s197_154, ↓s197_155, ↓s197_157, ↓s197_160, ↓s197_162, ↓s197_165, ↓s197_166, ↓s197_169, ↓s197_170, ↓s197_171, ↓s197_172, ↓s197_173, ↓s197_174, ↓s197_175, ↓s197_176, ↓s197_177, ↓R_flag, kNLn, kNLi, kNLr, va_rf_s, kOl_n, kOl_s, kap_n, kap_c, kb0, kb1, kbif, zif, z0, z1, Bool.false_eq_true, eq_self, not_true_eq_false, not_false_eq_true, if_true, if_false, and_self, true_and, false_and, and_true, and_false, nl_0_1, nl_0_2, nl_0_3, nl_0_4, nl_0_5, nl_0_6, nl_1_0, nl_1_2, nl_1_3, nl_1_4, nl_1_5, nl_1_6, nl_2_0, nl_2_1, nl_2_3, nl_2_4, nl_2_5, nl_2_6, nl_3_0, nl_3_1, nl_3_2, nl_3_4, nl_3_5, nl_3_6, nl_4_0, nl_4_1, nl_4_2, nl_4_3, nl_4_5, nl_4_6, nl_5_0, nl_5_1, nl_5_2, nl_5_3, nl_5_4, nl_5_6, nl_6_0, nl_6_1, nl_6_2, nl_6_3, nl_6_4, nl_6_5, nz_1, nz_2, nz_3, nz_4, nz_5, nz_6, ki_83, ki_86, kl_86, mr_83_2, c0, c1, v02, v12, w0, w1, fl01 (owas_2 _), gcnt]
      · simp only [↓s197_0, ↓s197_1, ↓s197_2, ↓s197_3, ↓s197_4, ↓s197_5, ↓s197_9, ↓s197_10, ↓s197_13, ↓s197_15, ↓s197_16, ↓s197_19, ↓s197_20, ↓s197_21, ↓s197_24, ↓s197_26, ↓s197_28, ↓s197_30, ↓s197_31, ↓s197_32, ↓s197_33, ↓s197_34, ↓s197_35, ↓s197_36, ↓s197_37, ↓s197_40, ↓s197_43, ↓s197_44, ↓s197_48, ↓s197_49, ↓s197_52, ↓s197_54, ↓s197_55, ↓s197_58, ↓s197_59, ↓s197_60, ↓s197_63, ↓s197_64, ↓s197_66, ↓s197_67, ↓s197_68, ↓s197_69, ↓s197_70, ↓s197_71, ↓s197_72, ↓s197_75, ↓s197_78, ↓s197_79, ↓s197_116, ↓s197_117, ↓s197_120, ↓s197_122, ↓s197_123, ↓s197_124, ↓s197_125, ↓s197_128, ↓s197_129, ↓s197_130, ↓s197_133, ↓s197_134, ↓s197_137, ↓s197_138, ↓s197_139, ↓s197_142, ↓s197_143, ↓s197_144, ↓s197_145, ↓s197_148, ↓s197_149, ↓s197_150, ↓s197_153, ↓s197_154, ↓s197_155, ↓s197_157, ↓s197_160, ↓s197_162, ↓s197_165, ↓s197_166, ↓s197_169, ↓s197_170, ↓s197_171, ↓s197_172, ↓s197_173, ↓s197_174, ↓s197_175, ↓s197_176, ↓s197_177, kNLn, kNLi, kNLr, va_rf_s, kOl_n, kOl_s, kap_n, kap_c, kb0, kb1, kbif, zif, z0, z1, Bool.false_eq_true, eq_self, not_true_eq_false, not_false_eq_true, if_true, if_false, and_self, true_and, false_and, and_true, and_false, nl_0_1, nl_0_2, nl_0_3, nl_0_4, nl_0_5, nl_0_6, nl_1_0, nl_1_2, nl_1_3, nl_1_4, nl_1_5, nl_1_6, nl_2_0, nl_2_1, nl_2_3, nl_2_4, nl_2_5, nl_2_6, nl_3_0, nl_3_1, nl_3_2, nl_3_4, nl_3_5, nl_3_6, nl_4_0, nl_4_1, nl_4_2, nl_4_3, nl_4_5, nl_4_6, nl_5_0, nl_5_1, nl_5_2, nl_5_3, nl_5_4, nl_5_6, nl_6_0, nl_6_1, nl_6_2, nl_6_3, nl_6_4, nl_6_5, nz_1, nz_2, nz_3, nz_4, nz_5, nz_6, ki_83, h7, gcnt]
      · revert hsh hgs
        cases e : S.2.2.2.2.1 0 with
        | none =>
          intro hsh hgs
          have hs2 : mi 91 0 = (-4) := hsh
          simp only [↓s197_0, ↓s197_1, ↓s197_2, ↓s197_3, ↓s197_4, ↓s197_5, ↓s197_9, ↓s197_10, ↓s197_13, ↓s197_15, ↓s197_16, ↓s197_19, ↓s197_20, ↓s197_21, ↓s197_24, ↓s197_26, ↓s197_28, ↓s197_30, ↓s197_31, ↓s197_32, ↓s197_33, ↓s197_34, ↓s197_35, ↓s197_36, ↓s197_37, ↓s197_40, ↓s197_43, ↓s197_44, ↓s197_48, ↓s197_49, ↓s197_52, ↓s197_54, ↓s197_55, ↓s197_58, ↓s197_59, ↓s197_60, ↓s197_63, ↓s197_64, ↓s197_66, ↓s197_67, ↓s197_68, ↓s197_69, ↓s197_70, ↓s197_71, ↓s197_72, ↓s197_75, ↓s197_78, ↓s197_79, ↓s197_116, ↓s197_117, ↓s197_120, ↓s197_122, ↓s197_123, ↓s197_124, ↓s197_125, ↓s197_128, ↓s197_129, ↓s197_130, ↓s197_133, ↓s197_134, ↓s197_137, ↓s197_138, ↓s197_139, ↓s197_142, ↓s197_143, ↓s197_144, ↓s197_145, ↓s197_148, ↓s197_149, ↓s197_150, ↓s197_153, ↓s197_154, ↓s197_155, ↓s197_157, ↓s197_160, ↓s197_162, ↓s197_165, ↓s197_166, ↓s197_169, ↓s197_170, ↓s197_171, ↓s197_172, ↓s197_173, ↓s197_174, ↓s197_175, ↓s197_176, ↓s197_177, kNLn, kNLi, kNLr, va_rf_s, kOl_n, kOl_s, kap_n, kap_c, kb0, kb1, kbif, zif, z0, z1, Bool.false_eq_true, eq_self, not_true_eq_false, not_false_eq_true, if_true, if_false, and_self, true_and, false_and, and_true, and_false, nl_0_1, nl_0_2, nl_0_3, nl_0_4, nl_0_5, nl_0_6, nl_1_0, nl_1_2, nl_1_3, nl_1_4, nl_1_5, nl_1_6, nl_2_0, nl_2_1, nl_2_3, nl_2_4, nl_2_5, nl_2_6, nl_3_0, nl_3_1, nl_3_2, nl_3_4, nl_3_5, nl_3_6, nl_4_0, nl_4_1, nl_4_2, nl_4_3, nl_4_5, nl_4_6, nl_5_0, nl_5_1, nl_5_2, nl_5_3, nl_5_4, nl_5_6, nl_6_0, nl_6_1, nl_6_2, nl_6_3, nl_6_4, nl_6_5, nz_1, nz_2, nz_3, nz_4, nz_5, nz_6, ki_83, ki_91, kl_91, mr_83_23, c0, v04, hs2, gcnt, e, osz, m4_r]
        | some z =>
          obtain ⟨l, n, cc⟩ := z
          intro hsh hgs
          have hl := (hgs l n cc rfl).1
          have hs2 : mi 91 0 = nI l := hsh.1
          have hs3 : mi 92 0 = nI n := hsh.2.1
          have nm := n_m4 (by omega : l < 2 ^ 31)
          simp only [↓s197_0, ↓s197_1, ↓s197_2, ↓s197_3, ↓s197_4, ↓s197_5, ↓s197_9, ↓s197_10, ↓s197_13, ↓s197_15, ↓s197_16, ↓s197_19, ↓s197_20, ↓s197_21, ↓s197_24, ↓s197_26, ↓s197_28, ↓s197_30, ↓s197_31, ↓s197_32, ↓s197_33, ↓s197_34, ↓s197_35, ↓s197_36, ↓s197_37, ↓s197_40, ↓s197_43, ↓s197_44, ↓s197_48, ↓s197_49, ↓s197_52, ↓s197_54, ↓s197_55, ↓s197_58, ↓s197_59, ↓s197_60, ↓s197_63, ↓s197_64, ↓s197_66, ↓s197_67, ↓s197_68, ↓s197_69, ↓s197_70, ↓s197_71, ↓s197_72, ↓s197_75, ↓s197_78, ↓s197_79, ↓s197_116, ↓s197_117, ↓s197_120, ↓s197_122, ↓s197_123, ↓s197_124, ↓s197_125, ↓s197_128, ↓s197_129, ↓s197_130, ↓s197_133, ↓s197_134, ↓s197_137, ↓s197_138, ↓s197_139, ↓s197_142, ↓s197_143, ↓s197_144, ↓s197_145, ↓s197_148, ↓s197_149, ↓s197_150, ↓s197_153, ↓s197_154, ↓s197_155, ↓s197_157, ↓s197_160, ↓s197_162, ↓s197_165, ↓s197_166, ↓s197_169, ↓s197_170, ↓s197_171, ↓s197_172, ↓s197_173, ↓s197_174, ↓s197_175, ↓s197_176, ↓s197_177, kNLn, kNLi, kNLr, va_rf_s, kOl_n, kOl_s, kap_n, kap_c, kb0, kb1, kbif, zif, z0, z1, Bool.false_eq_true, eq_self, not_true_eq_false, not_false_eq_true, if_true, if_false, and_self, true_and, false_and, and_true, and_false, nl_0_1, nl_0_2, nl_0_3, nl_0_4, nl_0_5, nl_0_6, nl_1_0, nl_1_2, nl_1_3, nl_1_4, nl_1_5, nl_1_6, nl_2_0, nl_2_1, nl_2_3, nl_2_4, nl_2_5, nl_2_6, nl_3_0, nl_3_1, nl_3_2, nl_3_4, nl_3_5, nl_3_6, nl_4_0, nl_4_1, nl_4_2, nl_4_3, nl_4_5, nl_4_6, nl_5_0, nl_5_1, nl_5_2, nl_5_3, nl_5_4, nl_5_6, nl_6_0, nl_6_1, nl_6_2, nl_6_3, nl_6_4, nl_6_5, nz_1, nz_2, nz_3, nz_4, nz_5, nz_6, ki_83, ki_91, kl_91, ki_92, kl_92, mr_83_23, mr_83_24, c0, v04, hs2, hs3, gcnt, e, osz, nm]
      · simp only [↓s197_0, ↓s197_1, ↓s197_2, ↓s197_3, ↓s197_4, ↓s197_5, ↓s197_9, ↓s197_10, ↓s197_13, ↓s197_15, ↓s197_16, ↓s197_19, ↓s197_20, ↓s197_21, ↓s197_24, ↓s197_26, ↓s197_28, ↓s197_30, ↓s197_31, ↓s197_32, ↓s197_33, ↓s197_34, ↓s197_35, ↓s197_36, ↓s197_37, ↓s197_40, ↓s197_43, ↓s197_44, ↓s197_48, ↓s197_49, ↓s197_52, ↓s197_54, ↓s197_55, ↓s197_58, ↓s197_59, ↓s197_60, ↓s197_63, ↓s197_64, ↓s197_66, ↓s197_67, ↓s197_68, ↓s197_69, ↓s197_70, ↓s197_71, ↓s197_72, ↓s197_75, ↓s197_78, ↓s197_79, ↓s197_116, ↓s197_117, ↓s197_120, ↓s197_122, ↓s197_123, ↓s197_124, ↓s197_125, ↓s197_128, ↓s197_129, ↓s197_130, ↓s197_133, ↓s197_134, ↓s197_137, ↓s197_138, ↓s197_139, ↓s197_142, ↓s197_143, ↓s197_144, ↓s197_145, ↓s197_148, ↓s197_149, ↓s197_150, ↓s197_153, ↓s197_154, ↓s197_155, ↓s197_157, ↓s197_160, ↓s197_162, ↓s197_165, ↓s197_166, ↓s197_169, ↓s197_170, ↓s197_171, ↓s197_172, ↓s197_173, ↓s197_174, ↓s197_175, ↓s197_176, ↓s197_177, kNLn, kNLi, kNLr, va_rf_s, kOl_n, kOl_s, kap_n, kap_c, kb0, kb1, kbif, zif, z0, z1, Bool.false_eq_true, eq_self, not_true_eq_false, not_false_eq_true, if_true, if_false, and_self, true_and, false_and, and_true, and_false, nl_0_1, nl_0_2, nl_0_3, nl_0_4, nl_0_5, nl_0_6, nl_1_0, nl_1_2, nl_1_3, nl_1_4, nl_1_5, nl_1_6, nl_2_0, nl_2_1, nl_2_3, nl_2_4, nl_2_5, nl_2_6, nl_3_0, nl_3_1, nl_3_2, nl_3_4, nl_3_5, nl_3_6, nl_4_0, nl_4_1, nl_4_2, nl_4_3, nl_4_5, nl_4_6, nl_5_0, nl_5_1, nl_5_2, nl_5_3, nl_5_4, nl_5_6, nl_6_0, nl_6_1, nl_6_2, nl_6_3, nl_6_4, nl_6_5, nz_1, nz_2, nz_3, nz_4, nz_5, nz_6, gcnt]
      · simp only [↓s197_0, ↓s197_1, ↓s197_2, ↓s197_3, ↓s197_4, ↓s197_5, ↓s197_9, ↓s197_10, ↓s197_13, ↓s197_15, ↓s197_16, ↓s197_19, ↓s197_20, ↓s197_21, ↓s197_24, ↓s197_26, ↓s197_28, ↓s197_30, ↓s197_31, ↓s197_32, ↓s197_33, ↓s197_34, ↓s197_35, ↓s197_36, ↓s197_37, ↓s197_40, ↓s197_43, ↓s197_44, ↓s197_48, ↓s197_49, ↓s197_52, ↓s197_54, ↓s197_55, ↓s197_58, ↓s197_59, ↓s197_60, ↓s197_63, ↓s197_64, ↓s197_66, ↓s197_67, ↓s197_68, ↓s197_69, ↓s197_70, ↓s197_71, ↓s197_72, ↓s197_75, ↓s197_78, ↓s197_79, ↓s197_116, ↓s197_117, ↓s197_120, ↓s197_122, ↓s197_123, ↓s197_124, ↓s197_125, ↓s197_128, ↓s197_129, ↓s197_130, ↓s197_133, ↓s197_134, ↓s197_137, ↓s197_138, ↓s197_139, ↓s197_142, ↓s197_143, ↓s197_144, ↓s197_145, ↓s197_148, ↓s197_149, ↓s197_150, ↓s197_153, ↓s197_154, ↓s197_155, ↓s197_157, ↓s197_160, ↓s197_162, ↓s197_165, ↓s197_166, ↓s197_169, ↓s197_170, ↓s197_171, ↓s197_172, ↓s197_173, ↓s197_174, ↓s197_175, ↓s197_176, ↓s197_177, kNLn, kNLi, kNLr, va_rf_s, kOl_n, kOl_s, kap_n, kap_c, kb0, kb1, kbif, zif, z0, z1, Bool.false_eq_true, eq_self, not_true_eq_false, not_false_eq_true, if_true, if_false, and_self, true_and, false_and, and_true, and_false, nl_0_1, nl_0_2, nl_0_3, nl_0_4, nl_0_5, nl_0_6, nl_1_0, nl_1_2, nl_1_3, nl_1_4, nl_1_5, nl_1_6, nl_2_0, nl_2_1, nl_2_3, nl_2_4, nl_2_5, nl_2_6, nl_3_0, nl_3_1, nl_3_2, nl_3_4, nl_3_5, nl_3_6, nl_4_0, nl_4_1, nl_4_2, nl_4_3, nl_4_5, nl_4_6, nl_5_0, nl_5_1, nl_5_2, nl_5_3, nl_5_4, nl_5_6, nl_6_0, nl_6_1, nl_6_2, nl_6_3, nl_6_4, nl_6_5, nz_1, nz_2, nz_3, nz_4, nz_5, nz_6, gcnt]
    · have n0 := gin_ne d (k := 0) (by decide) (by decide)
      have n1 := gin_ne d (k := 1) (by decide) (by decide)
      have n2 := gin_ne d (k := 2) (by decide) (by decide)
      have n3 := gin_ne d (k := 3) (by decide) (by decide)
      have n4 := gin_ne d (k := 4) (by decide) (by decide)
      have n5 := gin_ne d (k := 5) (by decide) (by decide)
      simp only [↓s197_0, ↓s197_1, ↓s197_2, ↓s197_3, ↓s197_4, ↓s197_5, ↓s197_9, ↓s197_10, ↓s197_13, ↓s197_15, ↓s197_16, ↓s197_19, ↓s197_20, ↓s197_21, ↓s197_24, ↓s197_26, ↓s197_28, ↓s197_30, ↓s197_31, ↓s197_32, ↓s197_33, ↓s197_34, ↓s197_35, ↓s197_36, ↓s197_37, ↓s197_40, ↓s197_43, ↓s197_44, ↓s197_48, ↓s197_49, ↓s197_52, ↓s197_54, ↓s197_55, ↓s197_58, ↓s197_59, ↓s197_60, ↓s197_63, ↓s197_64, ↓s197_66, ↓s197_67, ↓s197_68, ↓s197_69, ↓s197_70, ↓s197_71, ↓s197_72, ↓s197_75, ↓s197_78, ↓s197_79, ↓s197_116, ↓s197_117, ↓s197_120, ↓s197_122, ↓s197_123, ↓s197_124, ↓s197_125, ↓s197_128, ↓s197_129, ↓s197_130, ↓s197_133, ↓s197_134, ↓s197_137, ↓s197_138, ↓s197_139, ↓s197_142, ↓s197_143, ↓s197_144, ↓s197_145, ↓s197_148, ↓s197_149, ↓s197_150, ↓s197_153, ↓s197_154, ↓s197_155, ↓s197_157, ↓s197_160, ↓s197_162, ↓s197_165, ↓s197_166, ↓s197_169, ↓s197_170, ↓s197_171, ↓s197_172, ↓s197_173, ↓s197_174, ↓s197_175, ↓s197_176, ↓s197_177, kNLn, kNLi, kNLr, va_rf_s, kOl_n, kOl_s, kap_n, kap_c, kb0, kb1, kbif, zif, z0, z1, Bool.false_eq_true, eq_self, not_true_eq_false, not_false_eq_true, if_true, if_false, and_self, true_and, false_and, and_true, and_false, n0, n1, n2, n3, n4, n5, gcnt]
  simp only [↓s197_0, ↓s197_1, ↓s197_2, ↓s197_3, ↓s197_4, ↓s197_5, ↓s197_9, ↓s197_10, ↓s197_13, ↓s197_15, ↓s197_16, ↓s197_19, ↓s197_20, ↓s197_21, ↓s197_24, ↓s197_26, ↓s197_28, ↓s197_30, ↓s197_31, ↓s197_32, ↓s197_33, ↓s197_34, ↓s197_35, ↓s197_36, ↓s197_37, ↓s197_40, ↓s197_43, ↓s197_44, ↓s197_48, ↓s197_49, ↓s197_52, ↓s197_54, ↓s197_55, ↓s197_58, ↓s197_59, ↓s197_60, ↓s197_63, ↓s197_64, ↓s197_66, ↓s197_67, ↓s197_68, ↓s197_69, ↓s197_70, ↓s197_71, ↓s197_72, ↓s197_75, ↓s197_78, ↓s197_79, ↓s197_116, ↓s197_117, ↓s197_120, ↓s197_122, ↓s197_123, ↓s197_124, ↓s197_125, ↓s197_128, ↓s197_129, ↓s197_130, ↓s197_133, ↓s197_134, ↓s197_137, ↓s197_138, ↓s197_139, ↓s197_142, ↓s197_143, ↓s197_144, ↓s197_145, ↓s197_148, ↓s197_149, ↓s197_150, ↓s197_153, ↓s197_154, ↓s197_155, ↓s197_157, ↓s197_160, ↓s197_162, ↓s197_165, ↓s197_166, ↓s197_169, ↓s197_170, ↓s197_171, ↓s197_172, ↓s197_173, ↓s197_174, ↓s197_175, ↓s197_176, ↓s197_177, kNLn, kNLi, kNLr, va_rf_s, kOl_n, kOl_s, kap_n, kap_c, kb0, kb1, kbif]
  refine nUp (n := S.1 0 4) (P := fun i => kJ 197 7 [some (.ref 83), some (.int x), some (.int (nI (tsumF S.1 7 i))), some (.int (nI 0)), some (.int (nI i))] [] (mi, ml, MR, 95) Q = Q (some (.int (gcnt S x))) (mi, ml, MR, 95)) ?_ (fun i hi ih => ?_) 0 (Nat.zero_le _)
  · rw [s197_7]
    simp only [↓s197_0, ↓s197_1, ↓s197_2, ↓s197_3, ↓s197_4, ↓s197_5, ↓s197_9, ↓s197_10, ↓s197_13, ↓s197_15, ↓s197_16, ↓s197_19, ↓s197_20, ↓s197_21, ↓s197_24, ↓s197_26, ↓s197_28, ↓s197_30, ↓s197_31, ↓s197_32, ↓s197_33, ↓s197_34, ↓s197_35, ↓s197_36, ↓s197_37, ↓s197_40, ↓s197_43, ↓s197_44, ↓s197_48, ↓s197_49, ↓s197_52, ↓s197_54, ↓s197_55, ↓s197_58, ↓s197_59, ↓s197_60, ↓s197_63, ↓s197_64, ↓s197_66, ↓s197_67, ↓s197_68, ↓s197_69, ↓s197_70, ↓s197_71, ↓s197_72, ↓s197_75, ↓s197_79, ↓s197_116, ↓s197_117, ↓s197_120, ↓s197_122, ↓s197_123, ↓s197_124, ↓s197_125, ↓s197_128, ↓s197_129, ↓s197_130, ↓s197_133, ↓s197_134, ↓s197_137, ↓s197_138, ↓s197_139, ↓s197_142, ↓s197_143, ↓s197_144, ↓s197_145, ↓s197_148, ↓s197_149, ↓s197_150, ↓s197_153, ↓s197_154, ↓s197_155, ↓s197_157, ↓s197_160, ↓s197_162, ↓s197_165, ↓s197_166, ↓s197_169, ↓s197_170, ↓s197_171, ↓s197_172, ↓s197_173, ↓s197_174, ↓s197_175, ↓s197_176, ↓s197_177, kNLn, kNLi, kNLr, va_rf_s, kOl_n, kOl_s, kap_n, kap_c, kb0, kb1, kbif, zif, z0, z1, Bool.false_eq_true, eq_self, not_true_eq_false, not_false_eq_true, if_true, if_false, and_self, true_and, false_and, and_true, and_false, ki_83, ki_84, kl_84, mr_83_0, c52, v52, h4, Int32.le_refl]
    refine nUp (n := S.1 0 0) (P := fun i => kJ 197 46 [some (.ref 83), some (.int x), some (.int (nI (tsumF S.1 7 (S.1 0 4)))), some (.int (nI (tsumF S.1 2 i))), some (.int (nI i))] [] (mi, ml, MR, 95) Q = Q (some (.int (gcnt S x))) (mi, ml, MR, 95)) ?_ (fun i hi ih => ?_) 0 (Nat.zero_le _)
    · rw [s197_46]
      simp only [↓s197_0, ↓s197_1, ↓s197_2, ↓s197_3, ↓s197_4, ↓s197_5, ↓s197_9, ↓s197_10, ↓s197_13, ↓s197_15, ↓s197_16, ↓s197_19, ↓s197_20, ↓s197_21, ↓s197_24, ↓s197_26, ↓s197_28, ↓s197_30, ↓s197_31, ↓s197_32, ↓s197_33, ↓s197_34, ↓s197_35, ↓s197_36, ↓s197_37, ↓s197_40, ↓s197_43, ↓s197_44, ↓s197_48, ↓s197_49, ↓s197_52, ↓s197_54, ↓s197_55, ↓s197_58, ↓s197_59, ↓s197_60, ↓s197_63, ↓s197_64, ↓s197_66, ↓s197_67, ↓s197_68, ↓s197_69, ↓s197_70, ↓s197_71, ↓s197_72, ↓s197_75, ↓s197_79, ↓s197_116, ↓s197_117, ↓s197_120, ↓s197_122, ↓s197_123, ↓s197_124, ↓s197_125, ↓s197_128, ↓s197_129, ↓s197_130, ↓s197_133, ↓s197_134, ↓s197_137, ↓s197_138, ↓s197_139, ↓s197_142, ↓s197_143, ↓s197_144, ↓s197_145, ↓s197_148, ↓s197_149, ↓s197_150, ↓s197_153, ↓s197_154, ↓s197_155, ↓s197_157, ↓s197_160, ↓s197_162, ↓s197_165, ↓s197_166, ↓s197_169, ↓s197_170, ↓s197_171, ↓s197_172, ↓s197_173, ↓s197_174, ↓s197_175, ↓s197_176, ↓s197_177, kNLn, kNLi, kNLr, va_rf_s, kOl_n, kOl_s, kap_n, kap_c, kb0, kb1, kbif, zif, z0, z1, Bool.false_eq_true, eq_self, not_true_eq_false, not_false_eq_true, if_true, if_false, and_self, true_and, false_and, and_true, and_false, ki_83, ki_84, kl_84, mr_83_0, c15, v15, h0, Int32.le_refl]
      exact fin _
    · have hlt : ¬ nI (S.1 0 0) ≤ nI i := nI_ge (by omega) (by omega)
      have hc : (nI (3 * i + 1)).toNatClampNeg = 3 * i + 1 := nI_clamp (by omega)
      have hv : vp_in (nI (3 * i + 1)) 222 := vp_in_nI (by omega) (by decide)
      have hr : mi 84 (3 * i + 1) = nI (S.1 2 i) := h.1.2.1 i 1 hi (by decide)
      rw [s197_46]
      simp only [↓s197_0, ↓s197_1, ↓s197_2, ↓s197_3, ↓s197_4, ↓s197_5, ↓s197_9, ↓s197_10, ↓s197_13, ↓s197_15, ↓s197_16, ↓s197_19, ↓s197_20, ↓s197_21, ↓s197_24, ↓s197_26, ↓s197_28, ↓s197_30, ↓s197_31, ↓s197_32, ↓s197_33, ↓s197_34, ↓s197_35, ↓s197_36, ↓s197_37, ↓s197_40, ↓s197_43, ↓s197_44, ↓s197_48, ↓s197_49, ↓s197_52, ↓s197_54, ↓s197_55, ↓s197_58, ↓s197_59, ↓s197_60, ↓s197_63, ↓s197_64, ↓s197_66, ↓s197_67, ↓s197_68, ↓s197_69, ↓s197_70, ↓s197_71, ↓s197_72, ↓s197_75, ↓s197_79, ↓s197_116, ↓s197_117, ↓s197_120, ↓s197_122, ↓s197_123, ↓s197_124, ↓s197_125, ↓s197_128, ↓s197_129, ↓s197_130, ↓s197_133, ↓s197_134, ↓s197_137, ↓s197_138, ↓s197_139, ↓s197_142, ↓s197_143, ↓s197_144, ↓s197_145, ↓s197_148, ↓s197_149, ↓s197_150, ↓s197_153, ↓s197_154, ↓s197_155, ↓s197_157, ↓s197_160, ↓s197_162, ↓s197_165, ↓s197_166, ↓s197_169, ↓s197_170, ↓s197_171, ↓s197_172, ↓s197_173, ↓s197_174, ↓s197_175, ↓s197_176, ↓s197_177, kNLn, kNLi, kNLr, va_rf_s, kOl_n, kOl_s, kap_n, kap_c, kb0, kb1, kbif, zif, z0, z1, Bool.false_eq_true, eq_self, not_true_eq_false, not_false_eq_true, if_true, if_false, and_self, true_and, false_and, and_true, and_false, ki_83, ki_84, kl_84, mr_83_0, c15, v15, h0, hlt, pk_mul, nI_add, hc, hv, hr]
      exact ih
  · have hlt : ¬ nI (S.1 0 4) ≤ nI i := nI_ge (by omega) (by omega)
    have hc : (nI (16 + 6 * i + 3)).toNatClampNeg = 16 + 6 * i + 3 := nI_clamp (by omega)
    have hv : vp_in (nI (16 + 6 * i + 3)) 222 := vp_in_nI (by omega) (by decide)
    have hr : mi 84 (16 + 6 * i + 3) = nI (S.1 7 i) := h.1.2.2.1 i 3 hi (by decide)
    rw [s197_7]
    simp only [↓s197_0, ↓s197_1, ↓s197_2, ↓s197_3, ↓s197_4, ↓s197_5, ↓s197_9, ↓s197_10, ↓s197_13, ↓s197_15, ↓s197_16, ↓s197_19, ↓s197_20, ↓s197_21, ↓s197_24, ↓s197_26, ↓s197_28, ↓s197_30, ↓s197_31, ↓s197_32, ↓s197_33, ↓s197_34, ↓s197_35, ↓s197_36, ↓s197_37, ↓s197_40, ↓s197_43, ↓s197_44, ↓s197_48, ↓s197_49, ↓s197_52, ↓s197_54, ↓s197_55, ↓s197_58, ↓s197_59, ↓s197_60, ↓s197_63, ↓s197_64, ↓s197_66, ↓s197_67, ↓s197_68, ↓s197_69, ↓s197_70, ↓s197_71, ↓s197_72, ↓s197_75, ↓s197_79, ↓s197_116, ↓s197_117, ↓s197_120, ↓s197_122, ↓s197_123, ↓s197_124, ↓s197_125, ↓s197_128, ↓s197_129, ↓s197_130, ↓s197_133, ↓s197_134, ↓s197_137, ↓s197_138, ↓s197_139, ↓s197_142, ↓s197_143, ↓s197_144, ↓s197_145, ↓s197_148, ↓s197_149, ↓s197_150, ↓s197_153, ↓s197_154, ↓s197_155, ↓s197_157, ↓s197_160, ↓s197_162, ↓s197_165, ↓s197_166, ↓s197_169, ↓s197_170, ↓s197_171, ↓s197_172, ↓s197_173, ↓s197_174, ↓s197_175, ↓s197_176, ↓s197_177, kNLn, kNLi, kNLr, va_rf_s, kOl_n, kOl_s, kap_n, kap_c, kb0, kb1, kbif, zif, z0, z1, Bool.false_eq_true, eq_self, not_true_eq_false, not_false_eq_true, if_true, if_false, and_self, true_and, false_and, and_true, and_false, ki_83, ki_84, kl_84, mr_83_0, c52, v52, h4, hlt, pk_mul, nI_add, hc, hv, hr]
    exact ih
theorem B_count {x : Int32} (hg : gOK S) : bB 89 [some (.ref 0), some (.int x)] 197 [some (.ref 83), some (.int x), none, none, none] S := bB_e hg _ (fun _ _ _ h => C_count h hg) (fun _ _ _ h => R_count h hg)
end CNT

end
section
/-! sheets -/
theorem shq {k : Nat} (hk : k < 4) : MR 46 k = some (75 + 2 * k) ∧ kIs 95 (75 + 2 * k) 2 = true ∧ MR (75 + 2 * k) 1 = some (76 + 2 * k) ∧ kIs 95 (76 + 2 * k) 10 = true ∧ kAl (76 + 2 * k) = 40 := by
  rcases (by omega : k = 0 ∨ k = 1 ∨ k = 2 ∨ k = 3) with rfl | rfl | rfl | rfl
  · exact ⟨mr_46_0, ki_75, mr_75_1, ki_76, kl_76⟩
  · exact ⟨mr_46_1, ki_77, mr_77_1, ki_78, kl_78⟩
  · exact ⟨mr_46_2, ki_79, mr_79_1, ki_80, kl_80⟩
  · exact ⟨mr_46_3, ki_81, mr_81_1, ki_82, kl_82⟩
abbrev oS : Type := Option (Nat × Nat × (Nat → Int32))
/-- the fault of cells: from z on, m of them -/
def shF (o : oS) (z : Int) (m : Nat) : Nat := match o with
  | none => 1
  | some (_, n, _) => if 0 ≤ z ∧ z + m ≤ n then 0 else 2
def shL (o : oS) (lane : Nat) (z : Int) : Nat := match o with
  | none => 1
  | some (l, n, _) => if l = lane then (if 0 ≤ z ∧ z + 4 ≤ n then 0 else 2) else 3
def shG (o : oS) : Prop := ∀ l n c, o = some (l, n, c) → l < 3 ∧ n ≤ 40
def cnv (l : Nat) (v : Int32) : Int32 := if l = 0 then v.toInt8.toInt32 else if l = 1 then v.toInt16.toInt32 else v
section SHEET
variable {mi : Nat → Nat → Int32} {ml : Nat → Nat → Int64} {m : kMem} {Q : Option Value → kMem → Prop} {S : gS} {T U : tT} {b p n k l w : Nat} {o : oS}
theorem CI_sh {f g : Nat → Nat → Int32} (h : CI S f) (hk : k < 4) (e : ∀ q, q ≠ 75 + 2 * k → q ≠ 76 + 2 * k → g q = f q) (ho : cSh o k g) : CI (S.1, S.2.1, S.2.2.1, S.2.2.2.1, oput S.2.2.2.2.1 k o, S.2.2.2.2.2) g := by
  refine ⟨kCR_eq (fun q a b => e q (by omega) (by omega)) h.1, fun j hj => cImg_eq (e 45 (by omega) (by omega)) (fun q a b => e q (by omega) (by omega)) (h.2.1 j hj), ⟨by rw [e 28 (by omega) (by omega)]; exact h.2.2.1.1, fun j hj => by rw [e 29 (by omega) (by omega)]; exact h.2.2.1.2 j hj⟩, by rw [e 0 (by omega) (by omega)]; exact h.2.2.2.1, fun j hj => ?_, by rw [e 0 (by omega) (by omega)]; exact h.2.2.2.2.2⟩
  show cSh (oput S.2.2.2.2.1 k o j) j g
  by_cases ej : j = k
  · subst ej; rw [oput_s]; exact ho
  · rw [oput_n ej]
    exact cSh_eq (e _ (by omega) (by omega)) (e _ (by omega) (by omega)) (h.2.2.2.2.1 j hj)
theorem RI_sh {f g : Nat → Nat → Int32} (h : RI S f) (hg : gOK S) (hk : k < 4) (e : ∀ q, q ≠ 91 → q ≠ 92 → q ≠ 93 → g q = f q) (e1 : ∀ j, j ≠ k → g 91 j = f 91 j) (e2 : ∀ j, j ≠ k → g 92 j = f 92 j) (e3 : ∀ j, ¬ (40 * k ≤ j ∧ j < 40 * (k + 1)) → g 93 j = f 93 j) (ho : rSh o k g) : RI (S.1, S.2.1, S.2.2.1, S.2.2.2.1, oput S.2.2.2.2.1 k o, S.2.2.2.2.2) g := by
  have e83 := e 83 (by omega) (by omega) (by omega)
  have e84 := e 84 (by omega) (by omega) (by omega)
  refine ⟨by rw [e84]; exact h.1, fun j hj => rImg_eq (e 86 (by omega) (by omega) (by omega)) (fun i _ _ => by rw [e84]) (fun U hU => (hg.2.1 j hj U hU).1) (h.2.1 j hj), ⟨by rw [e83]; exact h.2.2.1.1, fun j hj => by rw [e 88 (by omega) (by omega) (by omega)]; exact h.2.2.1.2 j hj⟩, by rw [e83]; exact h.2.2.2.1, fun j hj => ?_, by rw [e83]; exact h.2.2.2.2.2⟩
  show rSh (oput S.2.2.2.2.1 k o j) j g
  by_cases ej : j = k
  · subst ej; rw [oput_s]; exact ho
  · rw [oput_n ej]
    exact rSh_eq (e1 j ej) (e2 j ej) (fun i a b => e3 i (by omega)) (fun l n c ec => (hg.2.2.2.2.1 j hj l n c ec).2) (h.2.2.2.2.1 j hj)
theorem gOK_sh (hg : gOK S) (ho : shG o) : gOK (S.1, S.2.1, S.2.2.1, S.2.2.2.1, oput S.2.2.2.2.1 k o, S.2.2.2.2.2) := by
  refine ⟨hg.1, hg.2.1, hg.2.2.1, hg.2.2.2.1, fun j hj l n c hc => ?_, hg.2.2.2.2.2⟩
  have hc' : oput S.2.2.2.2.1 k o j = some (l, n, c) := hc
  by_cases ej : j = k
  · rw [ej, oput_s] at hc'; exact ho l n c hc'
  · rw [oput_n ej] at hc'; exact hg.2.2.2.2.1 j hj l n c hc'
theorem J_renew (hk : k < 4) (hl : l < 3) (hn : n ≤ 40) (hQ : ∀ mi', cSh (some (l, n, fun _ => nI 0)) k mi' → (∀ q, q ≠ 75 + 2 * k → q ≠ 76 + 2 * k → mi' q = mi q) → Q none (mi', ml, MR, 95)) : kJ 31 0 [some (.ref (75 + 2 * k)), some (.int (nI l)), some (.int (nI n)), none] [] (mi, ml, MR, 95) Q := by
  obtain ⟨q1, q2, q3, q4, q5⟩ := shq hk
  simp only [↓s31_0, ↓s31_1, ↓s31_2, ↓s31_5, ↓s31_6, ↓s31_7, ↓s31_10, ↓s31_11, ↓s31_13, ↓s31_14, ↓s31_17, ↓s31_18, ↓s31_21, ↓s31_22, ↓s31_23, ↓s31_24, ↓s31_27, ↓s31_30, kNLn, kNLi, kNLr, va_rf_s, kOl_n, kOl_s, kap_n, kap_c, kb0, kb1, kbif, zif, z0, z1, Bool.false_eq_true, eq_self, not_true_eq_false, not_false_eq_true, if_true, if_false, and_self, true_and, false_and, and_true, and_false, q2]
  have loop : ∀ i, i ≤ n → ∀ mi1 : Nat → Nat → Int32, mi1 (75 + 2 * k) 0 = nI n → mi1 (75 + 2 * k) 2 = nI l → (∀ j, j < i → mi1 (76 + 2 * k) j = nI 0) → (∀ q, q ≠ 75 + 2 * k → q ≠ 76 + 2 * k → mi1 q = mi q) → kJ 31 12 [some (.ref (75 + 2 * k)), some (.int (nI l)), some (.int (nI n)), some (.int (nI i))] [] (mi1, ml, MR, 95) Q := by
    refine nUp (n := n) (P := fun i => ∀ mi1 : Nat → Nat → Int32, mi1 (75 + 2 * k) 0 = nI n → mi1 (75 + 2 * k) 2 = nI l → (∀ j, j < i → mi1 (76 + 2 * k) j = nI 0) → (∀ q, q ≠ 75 + 2 * k → q ≠ 76 + 2 * k → mi1 q = mi q) → kJ 31 12 [some (.ref (75 + 2 * k)), some (.int (nI l)), some (.int (nI n)), some (.int (nI i))] [] (mi1, ml, MR, 95) Q) ?_ (fun i hi ih => ?_)
    · intro mi1 a1 a2 a3 a4
      rw [s31_12]
      simp only [↓s31_0, ↓s31_1, ↓s31_2, ↓s31_5, ↓s31_6, ↓s31_7, ↓s31_10, ↓s31_11, ↓s31_13, ↓s31_14, ↓s31_17, ↓s31_18, ↓s31_21, ↓s31_22, ↓s31_23, ↓s31_24, ↓s31_27, ↓s31_30, kNLn, kNLi, kNLr, va_rf_s, kOl_n, kOl_s, kap_n, kap_c, kb0, kb1, kbif, zif, z0, z1, Bool.false_eq_true, eq_self, not_true_eq_false, not_false_eq_true, if_true, if_false, and_self, true_and, false_and, and_true, and_false, Int32.le_refl]
      exact hQ mi1 ⟨a1, a2, a3⟩ a4
    · intro mi1 a1 a2 a3 a4
      have hlt : ¬ nI n ≤ nI i := nI_ge (by omega) (by omega)
      have hc : (nI i).toNatClampNeg = i := nI_clamp (by omega)
      have hv : vp_in (nI i) 40 := vp_in_nI (by omega) (by decide)
      rw [s31_12]
      simp only [↓s31_0, ↓s31_1, ↓s31_2, ↓s31_5, ↓s31_6, ↓s31_7, ↓s31_10, ↓s31_11, ↓s31_13, ↓s31_14, ↓s31_17, ↓s31_18, ↓s31_21, ↓s31_22, ↓s31_23, ↓s31_24, ↓s31_27, ↓s31_30, kNLn, kNLi, kNLr, va_rf_s, kOl_n, kOl_s, kap_n, kap_c, kb0, kb1, kbif, zif, z0, z1, Bool.false_eq_true, eq_self, not_true_eq_false, not_false_eq_true, if_true, if_false, and_self, true_and, false_and, and_true, and_false, q2, q3, q4, q5, hlt, hc, hv, nI_add]
      refine ih _ (by rw [kup_ne (by omega)]; exact a1) (by rw [kup_ne (by omega)]; exact a2) (fun j hj => ?_) (fun q b1 b2 => by rw [kup_ne b2]; exact a4 q b1 b2)
      rw [kup_eq]
      by_cases ej : j = i
      · rw [ej, pk_us]
      · rw [pk_un ej]; exact a3 j (by omega)
  exact loop 0 (Nat.zero_le _) _ (by rw [kup_eq, pk_us]) (by rw [kup_eq, pk_un (by decide), kup_eq, pk_us]) (fun j hj => absurd hj (Nat.not_lt_zero j)) (fun q a b => by rw [kup_ne a, kup_ne a])
theorem R_isSheet {x y : Int32} : kJ 192 0 [some (.int x), some (.int y)] [] m Q = Q (some (.int (if gin x 4 = true ∧ gin y 3 = true then nI 1 else nI 0))) m := by
  simp only [↓s192_0, ↓s192_1, ↓s192_2, ↓s192_3, ↓s192_6, ↓s192_9, ↓s192_12, ↓s192_13, ↓s192_14, ↓s192_15, ↓s192_18, ↓s192_21, ↓s192_24, ↓s192_25, ↓s192_28, ↓s192_29, ↓R_i3, ↓R_i2, kNLn, kNLi, kNLr, va_rf_s, kOl_n, kOl_s, kap_n, kap_c, kb0, kb1, kbif, zif, z0, z1, Bool.false_eq_true, eq_self, not_true_eq_false, not_false_eq_true, if_true, if_false, and_self, true_and, false_and, and_true, and_false]
  by_cases c1 : gin x 4 = true
  · by_cases c2 : gin y 3 = true
    · simp only [c1, c2, zif, z0, z1, Bool.false_eq_true, eq_self, not_true_eq_false, not_false_eq_true, if_true, if_false, and_self, true_and, false_and, and_true, and_false]
    · simp only [c1, c2, zif, z0, z1, Bool.false_eq_true, eq_self, not_true_eq_false, not_false_eq_true, if_true, if_false, and_self, true_and, false_and, and_true, and_false]
  · simp only [c1, zif, z0, z1, Bool.false_eq_true, eq_self, not_true_eq_false, not_false_eq_true, if_true, if_false, and_self, true_and, false_and, and_true, and_false]
theorem R_renew (hk : k < 4) (hn : n ≤ 40) (hQ : ∀ mi', rSh (some (l, n, fun _ => nI 0)) k mi' → (∀ q, q ≠ 91 → q ≠ 92 → q ≠ 93 → mi' q = mi q) → (∀ j, j ≠ k → mi' 91 j = mi 91 j) → (∀ j, j ≠ k → mi' 92 j = mi 92 j) → (∀ j, ¬ (40 * k ≤ j ∧ j < 40 * (k + 1)) → mi' 93 j = mi 93 j) → Q (some (.int (nI 1))) (mi', ml, MR, 95)) : kJ 193 40 [some (.ref 83), some (.int (nI k)), some (.int (nI l)), some (.int (nI n)), some (.int (nI 0))] [] (kup (kup mi 91 k (nI l)) 92 k (nI n), ml, MR, 95) Q := by
  have loop : ∀ i, i ≤ 40 → ∀ mi1 : Nat → Nat → Int32, (∀ q, q ≠ 93 → mi1 q = kup (kup mi 91 k (nI l)) 92 k (nI n) q) → (∀ j, j < i → mi1 93 (40 * k + j) = nI 0) → (∀ j, ¬ (40 * k ≤ j ∧ j < 40 * (k + 1)) → mi1 93 j = mi 93 j) → kJ 193 40 [some (.ref 83), some (.int (nI k)), some (.int (nI l)), some (.int (nI n)), some (.int (nI i))] [] (mi1, ml, MR, 95) Q := by
    refine nUp (n := 40) (P := fun i => ∀ mi1 : Nat → Nat → Int32, (∀ q, q ≠ 93 → mi1 q = kup (kup mi 91 k (nI l)) 92 k (nI n) q) → (∀ j, j < i → mi1 93 (40 * k + j) = nI 0) → (∀ j, ¬ (40 * k ≤ j ∧ j < 40 * (k + 1)) → mi1 93 j = mi 93 j) → kJ 193 40 [some (.ref 83), some (.int (nI k)), some (.int (nI l)), some (.int (nI n)), some (.int (nI i))] [] (mi1, ml, MR, 95) Q) ?_ (fun i hi ih => ?_)
    · intro mi1 a1 a2 a3
      rw [s193_40]
      simp only [↓s193_0, ↓s193_1, ↓s193_2, ↓s193_5, ↓s193_8, ↓s193_9, ↓s193_11, ↓s193_14, ↓s193_15, ↓s193_16, ↓s193_17, ↓s193_20, ↓s193_22, ↓s193_23, ↓s193_24, ↓s193_27, ↓s193_28, ↓s193_29, ↓s193_30, ↓s193_31, ↓s193_34, ↓s193_35, ↓s193_36, ↓s193_37, ↓s193_38, ↓s193_42, ↓s193_44, ↓s193_47, ↓s193_48, ↓s193_51, ↓s193_53, ↓s193_54, ↓s193_55, ↓s193_57, ↓s193_58, ↓s193_59, ↓s193_60, ↓s193_63, ↓s193_66, ↓s193_67, kNLn, kNLi, kNLr, va_rf_s, kOl_n, kOl_s, kap_n, kap_c, kb0, kb1, kbif, zif, z0, z1, Bool.false_eq_true, eq_self, not_true_eq_false, not_false_eq_true, if_true, if_false, and_self, true_and, false_and, and_true, and_false, Int32.le_refl]
      refine hQ mi1 ⟨?_, ?_, fun j hj => a2 j (by omega)⟩ (fun q b1 b2 b3 => by rw [a1 q b3, kup_ne b2, kup_ne b1]) (fun j hj => ?_) (fun j hj => ?_) a3
      · rw [a1 91 (by decide), kup_ne (by decide), kup_eq, pk_us]
      · rw [a1 92 (by decide), kup_eq, pk_us]
      · rw [a1 91 (by decide), kup_ne (by decide), kup_eq, pk_un hj]
      · rw [a1 92 (by decide), kup_eq, pk_un hj, kup_ne (by decide)]
    · intro mi1 a1 a2 a3
      have hlt : ¬ nI 40 ≤ nI i := nI_ge (by omega) (by omega)
      have hc : (nI (40 * k + i)).toNatClampNeg = 40 * k + i := nI_clamp (by omega)
      have hv : vp_in (nI (40 * k + i)) 160 := vp_in_nI (by omega) (by decide)
      rw [s193_40]
      simp only [↓s193_0, ↓s193_1, ↓s193_2, ↓s193_5, ↓s193_8, ↓s193_9, ↓s193_11, ↓s193_14, ↓s193_15, ↓s193_16, ↓s193_17, ↓s193_20, ↓s193_22, ↓s193_23, ↓s193_24, ↓s193_27, ↓s193_28, ↓s193_29, ↓s193_30, ↓s193_31, ↓s193_34, ↓s193_35, ↓s193_36, ↓s193_37, ↓s193_38, ↓s193_42, ↓s193_44, ↓s193_47, ↓s193_48, ↓s193_51, ↓s193_53, ↓s193_54, ↓s193_55, ↓s193_57, ↓s193_58, ↓s193_59, ↓s193_60, ↓s193_63, ↓s193_66, ↓s193_67, kNLn, kNLi, kNLr, va_rf_s, kOl_n, kOl_s, kap_n, kap_c, kb0, kb1, kbif, zif, z0, z1, Bool.false_eq_true, eq_self, not_true_eq_false, not_false_eq_true, if_true, if_false, and_self, true_and, false_and, and_true, and_false, ki_83, ki_93, kl_93, mr_83_25, hlt, pk_mul, nI_add, hc, hv]
      refine ih _ (fun q b => by rw [kup_ne b]; exact a1 q b) (fun j hj => ?_) (fun j hj => by rw [kup_eq, pk_un (by omega)]; exact a3 j hj)
      rw [kup_eq]
      by_cases ej : j = i
      · rw [ej, pk_us]
      · rw [pk_un (by omega)]; exact a2 j (by omega)
  exact loop 0 (Nat.zero_le _) _ (fun q b => rfl) (fun j hj => absurd hj (Nat.not_lt_zero j)) (fun j hj => by rw [kup_ne (by decide), kup_ne (by decide)])
theorem z_ge {z : Int32} (h : ¬ z < 0) (h2 : z ≤ nI 40) : ∃ n, n ≤ 40 ∧ z = nI n := nI_of2 (by decide) h h2
theorem B_sheet {x y z : Int32} (hg : gOK S) : bB 85 [some (.ref 0), some (.int x), some (.int y), some (.int z)] 193 [some (.ref 83), some (.int x), some (.int y), some (.int z), none] S := by
  by_cases c : gin x 4 = true
  · by_cases d : gin y 3 = true
    · by_cases e : z ≤ nI 40
      · by_cases f : z < 0
        · have f2 : ¬ 0 ≤ z := Int32.not_le.mpr f
          refine bB_e hg (-14) (fun mi ml Q h => ?_) (fun mi ml Q h => ?_)
          · simp only [↓s85_0, ↓s85_1, ↓s85_2, ↓s85_3, ↓s85_6, ↓s85_9, ↓s85_10, ↓s85_11, ↓s85_12, ↓s85_15, ↓s85_18, ↓s85_19, ↓s85_21, ↓s85_24, ↓s85_25, ↓s85_26, ↓s85_27, ↓s85_30, ↓s85_32, ↓s85_33, ↓s85_34, ↓s85_37, ↓s85_38, ↓s85_39, ↓s85_40, ↓s85_41, ↓s85_44, ↓s85_45, ↓J_w3, ↓J_w2, kNLn, kNLi, kNLr, va_rf_s, kOl_n, kOl_s, kap_n, kap_c, kb0, kb1, kbif, zif, z0, z1, Bool.false_eq_true, eq_self, not_true_eq_false, not_false_eq_true, if_true, if_false, and_self, true_and, false_and, and_true, and_false, c, d, e, f, f2]
          · simp only [↓s193_0, ↓s193_1, ↓s193_2, ↓s193_5, ↓s193_8, ↓s193_9, ↓s193_11, ↓s193_14, ↓s193_15, ↓s193_16, ↓s193_17, ↓s193_20, ↓s193_22, ↓s193_23, ↓s193_24, ↓s193_27, ↓s193_28, ↓s193_29, ↓s193_30, ↓s193_31, ↓s193_34, ↓s193_35, ↓s193_36, ↓s193_37, ↓s193_38, ↓s193_42, ↓s193_44, ↓s193_47, ↓s193_48, ↓s193_51, ↓s193_53, ↓s193_54, ↓s193_55, ↓s193_57, ↓s193_58, ↓s193_59, ↓s193_60, ↓s193_63, ↓s193_66, ↓s193_67, ↓R_isSheet, kNLn, kNLi, kNLr, va_rf_s, kOl_n, kOl_s, kap_n, kap_c, kb0, kb1, kbif, zif, z0, z1, Bool.false_eq_true, eq_self, not_true_eq_false, not_false_eq_true, if_true, if_false, and_self, true_and, false_and, and_true, and_false, c, d, e, f, f2]
        · obtain ⟨n, hn, rfl⟩ := z_ge f e
          obtain ⟨k, hk, rfl⟩ := gin_of c (by decide)
          obtain ⟨l, hl, rfl⟩ := gin_of d (by decide)
          obtain ⟨q1, q2, q3, q4, q5⟩ := shq hk
          have f2 : 0 ≤ nI n := Int32.not_lt.mp f
          have hc : (nI k).toNatClampNeg = k := nI_clamp (by omega)
          have hv : vp_in (nI k) 4 := vp_in_nI (by omega) (by decide)
          have hG : shG (some (l, n, fun _ => nI 0)) := fun l' n' c' h => by cases h; exact ⟨hl, hn⟩
          refine ⟨_, nI 1, gOK_sh (k := k) hg hG, fun mi ml Q h hQ => ?_, fun mi ml Q h hQ => ?_⟩
          · simp only [↓s85_0, ↓s85_1, ↓s85_2, ↓s85_3, ↓s85_6, ↓s85_9, ↓s85_10, ↓s85_11, ↓s85_12, ↓s85_15, ↓s85_18, ↓s85_19, ↓s85_21, ↓s85_24, ↓s85_25, ↓s85_26, ↓s85_27, ↓s85_30, ↓s85_32, ↓s85_33, ↓s85_34, ↓s85_37, ↓s85_38, ↓s85_39, ↓s85_40, ↓s85_41, ↓s85_44, ↓s85_45, ↓J_w3, ↓J_w2, kNLn, kNLi, kNLr, va_rf_s, kOl_n, kOl_s, kap_n, kap_c, kb0, kb1, kbif, zif, z0, z1, Bool.false_eq_true, eq_self, not_true_eq_false, not_false_eq_true, if_true, if_false, and_self, true_and, false_and, and_true, and_false, c, d, e, f, f2, ki_0, ki_46, kl_46, mr_0_6, hc, hv, q1, q2, or_true, true_or]
            refine J_renew hk hl hn (fun mi2 h2 e2 => ?_)
            simp only [↓s85_0, ↓s85_1, ↓s85_2, ↓s85_3, ↓s85_6, ↓s85_9, ↓s85_10, ↓s85_11, ↓s85_12, ↓s85_15, ↓s85_18, ↓s85_19, ↓s85_21, ↓s85_24, ↓s85_25, ↓s85_26, ↓s85_27, ↓s85_30, ↓s85_32, ↓s85_33, ↓s85_34, ↓s85_37, ↓s85_38, ↓s85_39, ↓s85_40, ↓s85_41, ↓s85_44, ↓s85_45, kNLn, kNLi, kNLr, va_rf_s, kOl_n, kOl_s, kap_n, kap_c, kb0, kb1, kbif]
            exact hQ _ (CI_sh h hk e2 h2) (fun q hq => e2 q (by omega) (by omega))
          · simp only [↓s193_0, ↓s193_1, ↓s193_2, ↓s193_5, ↓s193_8, ↓s193_9, ↓s193_11, ↓s193_14, ↓s193_15, ↓s193_16, ↓s193_17, ↓s193_20, ↓s193_22, ↓s193_23, ↓s193_24, ↓s193_27, ↓s193_28, ↓s193_29, ↓s193_30, ↓s193_31, ↓s193_34, ↓s193_35, ↓s193_36, ↓s193_37, ↓s193_38, ↓s193_42, ↓s193_44, ↓s193_47, ↓s193_48, ↓s193_51, ↓s193_53, ↓s193_54, ↓s193_55, ↓s193_57, ↓s193_58, ↓s193_59, ↓s193_60, ↓s193_63, ↓s193_66, ↓s193_67, ↓R_isSheet, kNLn, kNLi, kNLr, va_rf_s, kOl_n, kOl_s, kap_n, kap_c, kb0, kb1, kbif, zif, z0, z1, Bool.false_eq_true, eq_self, not_true_eq_false, not_false_eq_true, if_true, if_false, and_self, true_and, false_and, and_true, and_false, c, d, e, f, f2, ki_83, ki_91, kl_91, ki_92, kl_92, mr_83_23, mr_83_24, hc, hv]
            refine R_renew hk hn (fun mi2 h2 e2 e3 e4 e5 => ?_)
            exact hQ _ ml (RI_sh h hg hk e2 e3 e4 e5 h2) (fun q hq => e2 q (by omega) (by omega) (by omega))
      · refine bB_e hg (-1) (fun mi ml Q h => ?_) (fun mi ml Q h => ?_)
        · simp only [↓s85_0, ↓s85_1, ↓s85_2, ↓s85_3, ↓s85_6, ↓s85_9, ↓s85_10, ↓s85_11, ↓s85_12, ↓s85_15, ↓s85_18, ↓s85_19, ↓s85_21, ↓s85_24, ↓s85_25, ↓s85_26, ↓s85_27, ↓s85_30, ↓s85_32, ↓s85_33, ↓s85_34, ↓s85_37, ↓s85_38, ↓s85_39, ↓s85_40, ↓s85_41, ↓s85_44, ↓s85_45, ↓J_w3, ↓J_w2, kNLn, kNLi, kNLr, va_rf_s, kOl_n, kOl_s, kap_n, kap_c, kb0, kb1, kbif, zif, z0, z1, Bool.false_eq_true, eq_self, not_true_eq_false, not_false_eq_true, if_true, if_false, and_self, true_and, false_and, and_true, and_false, c, d, e]
        · simp only [↓s193_0, ↓s193_1, ↓s193_2, ↓s193_5, ↓s193_8, ↓s193_9, ↓s193_11, ↓s193_14, ↓s193_15, ↓s193_16, ↓s193_17, ↓s193_20, ↓s193_22, ↓s193_23, ↓s193_24, ↓s193_27, ↓s193_28, ↓s193_29, ↓s193_30, ↓s193_31, ↓s193_34, ↓s193_35, ↓s193_36, ↓s193_37, ↓s193_38, ↓s193_42, ↓s193_44, ↓s193_47, ↓s193_48, ↓s193_51, ↓s193_53, ↓s193_54, ↓s193_55, ↓s193_57, ↓s193_58, ↓s193_59, ↓s193_60, ↓s193_63, ↓s193_66, ↓s193_67, ↓R_isSheet, kNLn, kNLi, kNLr, va_rf_s, kOl_n, kOl_s, kap_n, kap_c, kb0, kb1, kbif, zif, z0, z1, Bool.false_eq_true, eq_self, not_true_eq_false, not_false_eq_true, if_true, if_false, and_self, true_and, false_and, and_true, and_false, c, d, e]
    · refine bB_e hg (-1) (fun mi ml Q h => ?_) (fun mi ml Q h => ?_)
      · simp only [↓s85_0, ↓s85_1, ↓s85_2, ↓s85_3, ↓s85_6, ↓s85_9, ↓s85_10, ↓s85_11, ↓s85_12, ↓s85_15, ↓s85_18, ↓s85_19, ↓s85_21, ↓s85_24, ↓s85_25, ↓s85_26, ↓s85_27, ↓s85_30, ↓s85_32, ↓s85_33, ↓s85_34, ↓s85_37, ↓s85_38, ↓s85_39, ↓s85_40, ↓s85_41, ↓s85_44, ↓s85_45, ↓J_w3, ↓J_w2, kNLn, kNLi, kNLr, va_rf_s, kOl_n, kOl_s, kap_n, kap_c, kb0, kb1, kbif, zif, z0, z1, Bool.false_eq_true, eq_self, not_true_eq_false, not_false_eq_true, if_true, if_false, and_self, true_and, false_and, and_true, and_false, c, d]
      · simp only [↓s193_0, ↓s193_1, ↓s193_2, ↓s193_5, ↓s193_8, ↓s193_9, ↓s193_11, ↓s193_14, ↓s193_15, ↓s193_16, ↓s193_17, ↓s193_20, ↓s193_22, ↓s193_23, ↓s193_24, ↓s193_27, ↓s193_28, ↓s193_29, ↓s193_30, ↓s193_31, ↓s193_34, ↓s193_35, ↓s193_36, ↓s193_37, ↓s193_38, ↓s193_42, ↓s193_44, ↓s193_47, ↓s193_48, ↓s193_51, ↓s193_53, ↓s193_54, ↓s193_55, ↓s193_57, ↓s193_58, ↓s193_59, ↓s193_60, ↓s193_63, ↓s193_66, ↓s193_67, ↓R_isSheet, kNLn, kNLi, kNLr, va_rf_s, kOl_n, kOl_s, kap_n, kap_c, kb0, kb1, kbif, zif, z0, z1, Bool.false_eq_true, eq_self, not_true_eq_false, not_false_eq_true, if_true, if_false, and_self, true_and, false_and, and_true, and_false, c, d]
  · refine bB_e hg (-1) (fun mi ml Q h => ?_) (fun mi ml Q h => ?_)
    · simp only [↓s85_0, ↓s85_1, ↓s85_2, ↓s85_3, ↓s85_6, ↓s85_9, ↓s85_10, ↓s85_11, ↓s85_12, ↓s85_15, ↓s85_18, ↓s85_19, ↓s85_21, ↓s85_24, ↓s85_25, ↓s85_26, ↓s85_27, ↓s85_30, ↓s85_32, ↓s85_33, ↓s85_34, ↓s85_37, ↓s85_38, ↓s85_39, ↓s85_40, ↓s85_41, ↓s85_44, ↓s85_45, ↓J_w3, kNLn, kNLi, kNLr, va_rf_s, kOl_n, kOl_s, kap_n, kap_c, kb0, kb1, kbif, zif, z0, z1, Bool.false_eq_true, eq_self, not_true_eq_false, not_false_eq_true, if_true, if_false, and_self, true_and, false_and, and_true, and_false, c]
    · simp only [↓s193_0, ↓s193_1, ↓s193_2, ↓s193_5, ↓s193_8, ↓s193_9, ↓s193_11, ↓s193_14, ↓s193_15, ↓s193_16, ↓s193_17, ↓s193_20, ↓s193_22, ↓s193_23, ↓s193_24, ↓s193_27, ↓s193_28, ↓s193_29, ↓s193_30, ↓s193_31, ↓s193_34, ↓s193_35, ↓s193_36, ↓s193_37, ↓s193_38, ↓s193_42, ↓s193_44, ↓s193_47, ↓s193_48, ↓s193_51, ↓s193_53, ↓s193_54, ↓s193_55, ↓s193_57, ↓s193_58, ↓s193_59, ↓s193_60, ↓s193_63, ↓s193_66, ↓s193_67, ↓R_isSheet, kNLn, kNLi, kNLr, va_rf_s, kOl_n, kOl_s, kap_n, kap_c, kb0, kb1, kbif, zif, z0, z1, Bool.false_eq_true, eq_self, not_true_eq_false, not_false_eq_true, if_true, if_false, and_self, true_and, false_and, and_true, and_false, c]
/-! lay -/
theorem J_cells {x : Int32} (hk : k < 4) (h : cSh o k mi) (hG : shG o) (hw : w ≤ 4) : kJ 34 0 [some (.ref (75 + 2 * k)), some (.int x), some (.int (nI w))] [] (mi, ml, MR, 95) Q = Q (some (.int (nI (shF o x.toInt w)))) (mi, ml, MR, 95) := by
  obtain ⟨q1, q2, q3, q4, q5⟩ := shq hk
  cases o with
  | none =>
    have h2 : mi (75 + 2 * k) 0 = (-1) := h
    simp only [↓s34_0, ↓s34_1, ↓s34_4, ↓s34_7, ↓s34_8, ↓s34_9, ↓s34_10, ↓s34_13, ↓s34_14, ↓s34_15, ↓s34_18, ↓s34_19, ↓s34_20, ↓s34_23, ↓s34_24, ↓s34_27, ↓s34_28, ↓J_nothing q2, kNLn, kNLi, kNLr, va_rf_s, kOl_n, kOl_s, kap_n, kap_c, kb0, kb1, kbif, zif, z0, z1, Bool.false_eq_true, eq_self, not_true_eq_false, not_false_eq_true, if_true, if_false, and_self, true_and, false_and, and_true, and_false, q2, h2, m1_r, shF]
  | some v =>
    obtain ⟨l, n, c⟩ := v
    have hn := (hG l n c rfl).2
    have h2 : mi (75 + 2 * k) 0 = nI n := h.1
    have nm := n_m1 (by omega : n < 2 ^ 31)
    have es := pk_sub_toInt (a := n) (b := w) (by omega) (by omega)
    simp only [↓s34_0, ↓s34_1, ↓s34_4, ↓s34_7, ↓s34_8, ↓s34_9, ↓s34_10, ↓s34_13, ↓s34_14, ↓s34_15, ↓s34_18, ↓s34_19, ↓s34_20, ↓s34_23, ↓s34_24, ↓s34_27, ↓s34_28, ↓J_nothing q2, kNLn, kNLi, kNLr, va_rf_s, kOl_n, kOl_s, kap_n, kap_c, kb0, kb1, kbif, zif, z0, z1, Bool.false_eq_true, eq_self, not_true_eq_false, not_false_eq_true, if_true, if_false, and_self, true_and, false_and, and_true, and_false, q2, h2, nm, shF]
    by_cases a : x < 0
    · have a2 := Int32.lt_iff_toInt_lt.mp a
      rw [Int32.toInt_zero] at a2
      rw [if_pos a, if_neg (by omega)]
    · have a2 := Int32.le_iff_toInt_le.mp (Int32.not_lt.mp a)
      rw [Int32.toInt_zero] at a2
      rw [if_neg a]
      by_cases d : x ≤ nI n - nI w
      · have d2 := Int32.le_iff_toInt_le.mp d
        rw [es] at d2
        rw [if_pos d, if_pos (by omega)]
      · have d2 := Int32.lt_iff_toInt_lt.mp (Int32.not_le.mp d)
        rw [es] at d2
        rw [if_neg d, if_neg (by omega)]
theorem J_put {i : Nat} {v : Int32} (hk : k < 4) (hi : i < 40) (hl : l < 3) (h : mi (75 + 2 * k) 2 = nI l) : kJ 32 0 [some (.ref (75 + 2 * k)), some (.int (nI i)), some (.int v)] [] (mi, ml, MR, 95) Q = Q none (kup mi (76 + 2 * k) i (cnv l v), ml, MR, 95) := by
  obtain ⟨q1, q2, q3, q4, q5⟩ := shq hk
  have hc : (nI i).toNatClampNeg = i := nI_clamp (by omega)
  have hv : vp_in (nI i) 40 := vp_in_nI hi (by decide)
  have e1 : (1 = 0) = False := by decide
  have e2 : (2 = 0) = False := by decide
  have e3 : (2 = 1) = False := by decide
  rcases (by omega : l = 0 ∨ l = 1 ∨ l = 2) with rfl | rfl | rfl
  · simp only [↓s32_0, ↓s32_1, ↓s32_4, ↓s32_5, ↓s32_6, ↓s32_9, ↓s32_12, ↓s32_13, ↓s32_14, ↓s32_17, ↓s32_18, ↓s32_21, ↓s32_22, ↓s32_25, ↓s32_26, ↓s32_27, ↓s32_30, ↓s32_31, ↓s32_32, kNLn, kNLi, kNLr, va_rf_s, kOl_n, kOl_s, kap_n, kap_c, kb0, kb1, kbif, zif, z0, z1, Bool.false_eq_true, eq_self, not_true_eq_false, not_false_eq_true, if_true, if_false, and_self, true_and, false_and, and_true, and_false, nl_0_1, nl_0_2, nl_0_3, nl_0_4, nl_0_5, nl_0_6, nl_1_0, nl_1_2, nl_1_3, nl_1_4, nl_1_5, nl_1_6, nl_2_0, nl_2_1, nl_2_3, nl_2_4, nl_2_5, nl_2_6, nl_3_0, nl_3_1, nl_3_2, nl_3_4, nl_3_5, nl_3_6, nl_4_0, nl_4_1, nl_4_2, nl_4_3, nl_4_5, nl_4_6, nl_5_0, nl_5_1, nl_5_2, nl_5_3, nl_5_4, nl_5_6, nl_6_0, nl_6_1, nl_6_2, nl_6_3, nl_6_4, nl_6_5, nz_1, nz_2, nz_3, nz_4, nz_5, nz_6, q2, q3, q4, q5, hc, hv, h, cnv]
  · simp only [↓s32_0, ↓s32_1, ↓s32_4, ↓s32_5, ↓s32_6, ↓s32_9, ↓s32_12, ↓s32_13, ↓s32_14, ↓s32_17, ↓s32_18, ↓s32_21, ↓s32_22, ↓s32_25, ↓s32_26, ↓s32_27, ↓s32_30, ↓s32_31, ↓s32_32, kNLn, kNLi, kNLr, va_rf_s, kOl_n, kOl_s, kap_n, kap_c, kb0, kb1, kbif, zif, z0, z1, Bool.false_eq_true, eq_self, not_true_eq_false, not_false_eq_true, if_true, if_false, and_self, true_and, false_and, and_true, and_false, nl_0_1, nl_0_2, nl_0_3, nl_0_4, nl_0_5, nl_0_6, nl_1_0, nl_1_2, nl_1_3, nl_1_4, nl_1_5, nl_1_6, nl_2_0, nl_2_1, nl_2_3, nl_2_4, nl_2_5, nl_2_6, nl_3_0, nl_3_1, nl_3_2, nl_3_4, nl_3_5, nl_3_6, nl_4_0, nl_4_1, nl_4_2, nl_4_3, nl_4_5, nl_4_6, nl_5_0, nl_5_1, nl_5_2, nl_5_3, nl_5_4, nl_5_6, nl_6_0, nl_6_1, nl_6_2, nl_6_3, nl_6_4, nl_6_5, nz_1, nz_2, nz_3, nz_4, nz_5, nz_6, q2, q3, q4, q5, hc, hv, h, cnv, e1]
  · simp only [↓s32_0, ↓s32_1, ↓s32_4, ↓s32_5, ↓s32_6, ↓s32_9, ↓s32_12, ↓s32_13, ↓s32_14, ↓s32_17, ↓s32_18, ↓s32_21, ↓s32_22, ↓s32_25, ↓s32_26, ↓s32_27, ↓s32_30, ↓s32_31, ↓s32_32, kNLn, kNLi, kNLr, va_rf_s, kOl_n, kOl_s, kap_n, kap_c, kb0, kb1, kbif, zif, z0, z1, Bool.false_eq_true, eq_self, not_true_eq_false, not_false_eq_true, if_true, if_false, and_self, true_and, false_and, and_true, and_false, nl_0_1, nl_0_2, nl_0_3, nl_0_4, nl_0_5, nl_0_6, nl_1_0, nl_1_2, nl_1_3, nl_1_4, nl_1_5, nl_1_6, nl_2_0, nl_2_1, nl_2_3, nl_2_4, nl_2_5, nl_2_6, nl_3_0, nl_3_1, nl_3_2, nl_3_4, nl_3_5, nl_3_6, nl_4_0, nl_4_1, nl_4_2, nl_4_3, nl_4_5, nl_4_6, nl_5_0, nl_5_1, nl_5_2, nl_5_3, nl_5_4, nl_5_6, nl_6_0, nl_6_1, nl_6_2, nl_6_3, nl_6_4, nl_6_5, nz_1, nz_2, nz_3, nz_4, nz_5, nz_6, q2, q3, q4, q5, hc, hv, h, cnv, e2, e3]
theorem B_lay {x y z : Int32} (hg : gOK S) : bB 86 [some (.ref 0), some (.int x), some (.int y), some (.int z), none] 194 [some (.ref 83), some (.int x), some (.int y), some (.int z)] S := by
  have g0 : gin (nI 0) 3 = true := by decide
  have i11 : (-10) - nI 1 = (-11) := by decide
  have i12 : (-10) - nI 2 = (-12) := by decide
  by_cases c : gin x 4 = true
  · obtain ⟨k, hk, rfl⟩ := gin_of c (by decide)
    obtain ⟨q1, q2, q3, q4, q5⟩ := shq hk
    have hc : (nI k).toNatClampNeg = k := nI_clamp (by omega)
    have hv : vp_in (nI k) 4 := vp_in_nI (by omega) (by decide)
    have hgs := hg.2.2.2.2.1 k hk
    cases e : S.2.2.2.2.1 k with
    | none =>
      refine bB_e hg (-11) (fun mi ml Q h => ?_) (fun mi ml Q h => ?_)
      · have hs := h.2.2.2.2.1 k hk
        rw [e] at hs
        have hj : ∀ Q', kJ 34 0 [some (.ref (75 + 2 * k)), some (.int y), some (.int (nI 1))] [] (mi, ml, MR, 95) Q' = Q' (some (.int (nI 1))) (mi, ml, MR, 95) := fun Q' => J_cells hk hs (fun _ _ _ z => by cases z) (by decide)
        simp only [↓s86_0, ↓s86_1, ↓s86_2, ↓s86_3, ↓s86_6, ↓s86_9, ↓s86_10, ↓s86_11, ↓s86_12, ↓s86_15, ↓s86_16, ↓s86_17, ↓s86_18, ↓s86_19, ↓s86_22, ↓s86_24, ↓s86_26, ↓s86_29, ↓s86_31, ↓s86_33, ↓s86_34, ↓s86_35, ↓s86_36, ↓s86_39, ↓s86_40, ↓s86_41, ↓s86_42, ↓s86_43, ↓s86_46, ↓s86_47, ↓J_w3, ↓hj, kNLn, kNLi, kNLr, va_rf_s, kOl_n, kOl_s, kap_n, kap_c, kb0, kb1, kbif, zif, z0, z1, Bool.false_eq_true, eq_self, not_true_eq_false, not_false_eq_true, if_true, if_false, and_self, true_and, false_and, and_true, and_false, nl_0_1, nl_0_2, nl_0_3, nl_0_4, nl_0_5, nl_0_6, nl_1_0, nl_1_2, nl_1_3, nl_1_4, nl_1_5, nl_1_6, nl_2_0, nl_2_1, nl_2_3, nl_2_4, nl_2_5, nl_2_6, nl_3_0, nl_3_1, nl_3_2, nl_3_4, nl_3_5, nl_3_6, nl_4_0, nl_4_1, nl_4_2, nl_4_3, nl_4_5, nl_4_6, nl_5_0, nl_5_1, nl_5_2, nl_5_3, nl_5_4, nl_5_6, nl_6_0, nl_6_1, nl_6_2, nl_6_3, nl_6_4, nl_6_5, nz_1, nz_2, nz_3, nz_4, nz_5, nz_6, c, ki_0, ki_46, kl_46, mr_0_6, hc, hv, q1, q2, or_true, true_or, i11]
      · have hs := h.2.2.2.2.1 k hk
        rw [e] at hs
        have hs2 : mi 91 k = (-4) := hs
        simp only [↓s194_0, ↓s194_1, ↓s194_2, ↓s194_5, ↓s194_8, ↓s194_9, ↓s194_10, ↓s194_11, ↓s194_14, ↓s194_15, ↓s194_16, ↓s194_18, ↓s194_21, ↓s194_23, ↓s194_24, ↓s194_25, ↓s194_26, ↓s194_27, ↓s194_28, ↓s194_31, ↓s194_32, ↓s194_33, ↓s194_34, ↓s194_35, ↓s194_36, ↓s194_39, ↓s194_42, ↓s194_44, ↓s194_45, ↓s194_46, ↓s194_49, ↓s194_51, ↓s194_52, ↓s194_53, ↓s194_54, ↓s194_55, ↓s194_56, ↓s194_59, ↓s194_60, ↓s194_61, ↓s194_64, ↓s194_65, ↓s194_66, ↓s194_69, ↓s194_70, ↓s194_73, ↓s194_74, ↓s194_75, ↓s194_76, ↓s194_79, ↓s194_80, ↓s194_81, ↓s194_84, ↓s194_85, ↓s194_86, ↓s194_87, ↓R_isSheet, kNLn, kNLi, kNLr, va_rf_s, kOl_n, kOl_s, kap_n, kap_c, kb0, kb1, kbif, zif, z0, z1, Bool.false_eq_true, eq_self, not_true_eq_false, not_false_eq_true, if_true, if_false, and_self, true_and, false_and, and_true, and_false, c, g0, ki_83, ki_91, kl_91, mr_83_23, hc, hv, hs2, m4_r]
    | some t =>
      obtain ⟨l, n, cc⟩ := t
      obtain ⟨hl, hn⟩ := hgs l n cc e
      have n4 := n_m4 (by omega : l < 2 ^ 31)
      by_cases d : gin y n = true
      · obtain ⟨i, hi, rfl⟩ := gin_of d (by omega)
        have hci : (nI (40 * k + i)).toNatClampNeg = 40 * k + i := nI_clamp (by omega)
        have hvi : vp_in (nI (40 * k + i)) 160 := vp_in_nI (by omega) (by decide)
        have hG : shG (some (l, n, oput cc i (cnv l z))) := fun l' n' c' h => by cases h; exact ⟨hl, hn⟩
        refine ⟨_, nI 1, gOK_sh (k := k) hg hG, fun mi ml Q h hQ => ?_, fun mi ml Q h hQ => ?_⟩
        · have hs := h.2.2.2.2.1 k hk
          rw [e] at hs
          have hj : ∀ Q', kJ 34 0 [some (.ref (75 + 2 * k)), some (.int (nI i)), some (.int (nI 1))] [] (mi, ml, MR, 95) Q' = Q' (some (.int (nI 0))) (mi, ml, MR, 95) := fun Q' => by
            rw [J_cells hk hs (fun l' n' c' h => by cases h; exact ⟨hl, hn⟩) (by decide)]
            have : shF (some (l, n, cc)) (nI i).toInt 1 = 0 := if_pos (by rw [nI_toInt (by omega)]; omega)
            rw [this]
          simp only [↓s86_0, ↓s86_1, ↓s86_2, ↓s86_3, ↓s86_6, ↓s86_9, ↓s86_10, ↓s86_11, ↓s86_12, ↓s86_15, ↓s86_16, ↓s86_17, ↓s86_18, ↓s86_19, ↓s86_22, ↓s86_24, ↓s86_26, ↓s86_29, ↓s86_31, ↓s86_33, ↓s86_34, ↓s86_35, ↓s86_36, ↓s86_39, ↓s86_40, ↓s86_41, ↓s86_42, ↓s86_43, ↓s86_46, ↓s86_47, ↓J_w3, ↓hj, ↓J_put hk (by omega : i < 40) hl hs.2.1, kNLn, kNLi, kNLr, va_rf_s, kOl_n, kOl_s, kap_n, kap_c, kb0, kb1, kbif, zif, z0, z1, Bool.false_eq_true, eq_self, not_true_eq_false, not_false_eq_true, if_true, if_false, and_self, true_and, false_and, and_true, and_false, nl_0_1, nl_0_2, nl_0_3, nl_0_4, nl_0_5, nl_0_6, nl_1_0, nl_1_2, nl_1_3, nl_1_4, nl_1_5, nl_1_6, nl_2_0, nl_2_1, nl_2_3, nl_2_4, nl_2_5, nl_2_6, nl_3_0, nl_3_1, nl_3_2, nl_3_4, nl_3_5, nl_3_6, nl_4_0, nl_4_1, nl_4_2, nl_4_3, nl_4_5, nl_4_6, nl_5_0, nl_5_1, nl_5_2, nl_5_3, nl_5_4, nl_5_6, nl_6_0, nl_6_1, nl_6_2, nl_6_3, nl_6_4, nl_6_5, nz_1, nz_2, nz_3, nz_4, nz_5, nz_6, c, ki_0, ki_46, kl_46, mr_0_6, hc, hv, q1, q2, or_true, true_or]
          refine hQ _ (CI_sh h hk (fun q a b => kup_ne b) ⟨by rw [kup_ne (by omega)]; exact hs.1, by rw [kup_ne (by omega)]; exact hs.2.1, fun j hj => ?_⟩) (fun q hq => kup_ne (by omega))
          rw [kup_eq]
          by_cases ej : j = i
          · rw [ej, pk_us, oput_s]
          · rw [pk_un ej, oput_n ej]; exact hs.2.2 j hj
        · have hs := h.2.2.2.2.1 k hk
          rw [e] at hs
          have hs1 : mi 91 k = nI l := hs.1
          have hs2 : mi 92 k = nI n := hs.2.1
          have e1 : (1 = 0) = False := by decide
          have e2 : (2 = 0) = False := by decide
          have e3 : (2 = 1) = False := by decide
          have hfin : kJ 194 46 [some (.ref 83), some (.int (nI k)), some (.int (nI i)), some (.int z)] [.ref 83] (mi, ml, MR, 95) Q := by
            have h9 := hQ (kup mi 93 (40 * k + i) (cnv l z)) ml (RI_sh h hg hk (fun q a b c => kup_ne c) (fun j hj => by rw [kup_ne (by decide)]) (fun j hj => by rw [kup_ne (by decide)]) (fun j hj => by rw [kup_eq, pk_un (by omega)]) ⟨by rw [kup_ne (by decide)]; exact hs.1, by rw [kup_ne (by decide)]; exact hs.2.1, fun j hj => by
              rw [kup_eq]
              by_cases ej : j = i
              · rw [ej, pk_us, oput_s]
              · rw [pk_un (by omega), oput_n ej]; exact hs.2.2 j hj⟩) (fun q hq => kup_ne (by omega))
            rcases (by omega : l = 0 ∨ l = 1 ∨ l = 2) with rfl | rfl | rfl
            · simp only [↓s194_0, ↓s194_1, ↓s194_2, ↓s194_5, ↓s194_8, ↓s194_9, ↓s194_10, ↓s194_11, ↓s194_14, ↓s194_15, ↓s194_16, ↓s194_18, ↓s194_21, ↓s194_23, ↓s194_24, ↓s194_25, ↓s194_26, ↓s194_27, ↓s194_28, ↓s194_31, ↓s194_32, ↓s194_33, ↓s194_34, ↓s194_35, ↓s194_36, ↓s194_39, ↓s194_42, ↓s194_44, ↓s194_45, ↓s194_46, ↓s194_49, ↓s194_51, ↓s194_52, ↓s194_53, ↓s194_54, ↓s194_55, ↓s194_56, ↓s194_59, ↓s194_60, ↓s194_61, ↓s194_64, ↓s194_65, ↓s194_66, ↓s194_69, ↓s194_70, ↓s194_73, ↓s194_74, ↓s194_75, ↓s194_76, ↓s194_79, ↓s194_80, ↓s194_81, ↓s194_84, ↓s194_85, ↓s194_86, ↓s194_87, kNLn, kNLi, kNLr, va_rf_s, kOl_n, kOl_s, kap_n, kap_c, kb0, kb1, kbif, zif, z0, z1, Bool.false_eq_true, eq_self, not_true_eq_false, not_false_eq_true, if_true, if_false, and_self, true_and, false_and, and_true, and_false, nl_0_1, nl_0_2, nl_0_3, nl_0_4, nl_0_5, nl_0_6, nl_1_0, nl_1_2, nl_1_3, nl_1_4, nl_1_5, nl_1_6, nl_2_0, nl_2_1, nl_2_3, nl_2_4, nl_2_5, nl_2_6, nl_3_0, nl_3_1, nl_3_2, nl_3_4, nl_3_5, nl_3_6, nl_4_0, nl_4_1, nl_4_2, nl_4_3, nl_4_5, nl_4_6, nl_5_0, nl_5_1, nl_5_2, nl_5_3, nl_5_4, nl_5_6, nl_6_0, nl_6_1, nl_6_2, nl_6_3, nl_6_4, nl_6_5, nz_1, nz_2, nz_3, nz_4, nz_5, nz_6, ki_83, ki_91, kl_91, ki_93, kl_93, mr_83_23, mr_83_25, hc, hv, hs1, pk_mul, nI_add, hci, hvi]
              simp only [cnv, zif, z0, z1, Bool.false_eq_true, eq_self, not_true_eq_false, not_false_eq_true, if_true, if_false, and_self, true_and, false_and, and_true, and_false] at h9
              exact h9
            · simp only [↓s194_0, ↓s194_1, ↓s194_2, ↓s194_5, ↓s194_8, ↓s194_9, ↓s194_10, ↓s194_11, ↓s194_14, ↓s194_15, ↓s194_16, ↓s194_18, ↓s194_21, ↓s194_23, ↓s194_24, ↓s194_25, ↓s194_26, ↓s194_27, ↓s194_28, ↓s194_31, ↓s194_32, ↓s194_33, ↓s194_34, ↓s194_35, ↓s194_36, ↓s194_39, ↓s194_42, ↓s194_44, ↓s194_45, ↓s194_46, ↓s194_49, ↓s194_51, ↓s194_52, ↓s194_53, ↓s194_54, ↓s194_55, ↓s194_56, ↓s194_59, ↓s194_60, ↓s194_61, ↓s194_64, ↓s194_65, ↓s194_66, ↓s194_69, ↓s194_70, ↓s194_73, ↓s194_74, ↓s194_75, ↓s194_76, ↓s194_79, ↓s194_80, ↓s194_81, ↓s194_84, ↓s194_85, ↓s194_86, ↓s194_87, kNLn, kNLi, kNLr, va_rf_s, kOl_n, kOl_s, kap_n, kap_c, kb0, kb1, kbif, zif, z0, z1, Bool.false_eq_true, eq_self, not_true_eq_false, not_false_eq_true, if_true, if_false, and_self, true_and, false_and, and_true, and_false, nl_0_1, nl_0_2, nl_0_3, nl_0_4, nl_0_5, nl_0_6, nl_1_0, nl_1_2, nl_1_3, nl_1_4, nl_1_5, nl_1_6, nl_2_0, nl_2_1, nl_2_3, nl_2_4, nl_2_5, nl_2_6, nl_3_0, nl_3_1, nl_3_2, nl_3_4, nl_3_5, nl_3_6, nl_4_0, nl_4_1, nl_4_2, nl_4_3, nl_4_5, nl_4_6, nl_5_0, nl_5_1, nl_5_2, nl_5_3, nl_5_4, nl_5_6, nl_6_0, nl_6_1, nl_6_2, nl_6_3, nl_6_4, nl_6_5, nz_1, nz_2, nz_3, nz_4, nz_5, nz_6, ki_83, ki_91, kl_91, ki_93, kl_93, mr_83_23, mr_83_25, hc, hv, hs1, pk_mul, nI_add, hci, hvi]
              simp only [cnv, zif, z0, z1, Bool.false_eq_true, eq_self, not_true_eq_false, not_false_eq_true, if_true, if_false, and_self, true_and, false_and, and_true, and_false, e1] at h9
              exact h9
            · simp only [↓s194_0, ↓s194_1, ↓s194_2, ↓s194_5, ↓s194_8, ↓s194_9, ↓s194_10, ↓s194_11, ↓s194_14, ↓s194_15, ↓s194_16, ↓s194_18, ↓s194_21, ↓s194_23, ↓s194_24, ↓s194_25, ↓s194_26, ↓s194_27, ↓s194_28, ↓s194_31, ↓s194_32, ↓s194_33, ↓s194_34, ↓s194_35, ↓s194_36, ↓s194_39, ↓s194_42, ↓s194_44, ↓s194_45, ↓s194_46, ↓s194_49, ↓s194_51, ↓s194_52, ↓s194_53, ↓s194_54, ↓s194_55, ↓s194_56, ↓s194_59, ↓s194_60, ↓s194_61, ↓s194_64, ↓s194_65, ↓s194_66, ↓s194_69, ↓s194_70, ↓s194_73, ↓s194_74, ↓s194_75, ↓s194_76, ↓s194_79, ↓s194_80, ↓s194_81, ↓s194_84, ↓s194_85, ↓s194_86, ↓s194_87, kNLn, kNLi, kNLr, va_rf_s, kOl_n, kOl_s, kap_n, kap_c, kb0, kb1, kbif, zif, z0, z1, Bool.false_eq_true, eq_self, not_true_eq_false, not_false_eq_true, if_true, if_false, and_self, true_and, false_and, and_true, and_false, nl_0_1, nl_0_2, nl_0_3, nl_0_4, nl_0_5, nl_0_6, nl_1_0, nl_1_2, nl_1_3, nl_1_4, nl_1_5, nl_1_6, nl_2_0, nl_2_1, nl_2_3, nl_2_4, nl_2_5, nl_2_6, nl_3_0, nl_3_1, nl_3_2, nl_3_4, nl_3_5, nl_3_6, nl_4_0, nl_4_1, nl_4_2, nl_4_3, nl_4_5, nl_4_6, nl_5_0, nl_5_1, nl_5_2, nl_5_3, nl_5_4, nl_5_6, nl_6_0, nl_6_1, nl_6_2, nl_6_3, nl_6_4, nl_6_5, nz_1, nz_2, nz_3, nz_4, nz_5, nz_6, ki_83, ki_91, kl_91, ki_93, kl_93, mr_83_23, mr_83_25, hc, hv, hs1, pk_mul, nI_add, hci, hvi]
              simp only [cnv, zif, z0, z1, Bool.false_eq_true, eq_self, not_true_eq_false, not_false_eq_true, if_true, if_false, and_self, true_and, false_and, and_true, and_false, e2, e3] at h9
              exact h9
          simp only [↓s194_0, ↓s194_1, ↓s194_2, ↓s194_5, ↓s194_8, ↓s194_9, ↓s194_10, ↓s194_11, ↓s194_14, ↓s194_15, ↓s194_16, ↓s194_18, ↓s194_21, ↓s194_23, ↓s194_24, ↓s194_25, ↓s194_26, ↓s194_27, ↓s194_28, ↓s194_31, ↓s194_32, ↓s194_33, ↓s194_34, ↓s194_35, ↓s194_36, ↓s194_39, ↓s194_42, ↓s194_44, ↓s194_45, ↓s194_49, ↓s194_51, ↓s194_52, ↓s194_53, ↓s194_54, ↓s194_55, ↓s194_56, ↓s194_59, ↓s194_60, ↓s194_61, ↓s194_64, ↓s194_65, ↓s194_66, ↓s194_69, ↓s194_70, ↓s194_73, ↓s194_74, ↓s194_75, ↓s194_76, ↓s194_79, ↓s194_80, ↓s194_81, ↓s194_84, ↓s194_85, ↓s194_86, ↓s194_87, ↓R_isSheet, ↓R_in0 (sub1 (by omega : n < 2 ^ 30)), kNLn, kNLi, kNLr, va_rf_s, kOl_n, kOl_s, kap_n, kap_c, kb0, kb1, kbif, zif, z0, z1, Bool.false_eq_true, eq_self, not_true_eq_false, not_false_eq_true, if_true, if_false, and_self, true_and, false_and, and_true, and_false, c, g0, d, ki_83, ki_91, kl_91, ki_92, kl_92, mr_83_23, mr_83_24, hc, hv, hs1, hs2, n4]
          exact hfin
      · refine bB_e hg (-12) (fun mi ml Q h => ?_) (fun mi ml Q h => ?_)
        · have hs := h.2.2.2.2.1 k hk
          rw [e] at hs
          have hj : ∀ Q', kJ 34 0 [some (.ref (75 + 2 * k)), some (.int y), some (.int (nI 1))] [] (mi, ml, MR, 95) Q' = Q' (some (.int (nI 2))) (mi, ml, MR, 95) := fun Q' => by
            rw [J_cells hk hs (fun l' n' c' h => by cases h; exact ⟨hl, hn⟩) (by decide)]
            have : shF (some (l, n, cc)) y.toInt 1 = 2 := if_neg (fun z => d (decide_eq_true (by omega)))
            rw [this]
          simp only [↓s86_0, ↓s86_1, ↓s86_2, ↓s86_3, ↓s86_6, ↓s86_9, ↓s86_10, ↓s86_11, ↓s86_12, ↓s86_15, ↓s86_16, ↓s86_17, ↓s86_18, ↓s86_19, ↓s86_22, ↓s86_24, ↓s86_26, ↓s86_29, ↓s86_31, ↓s86_33, ↓s86_34, ↓s86_35, ↓s86_36, ↓s86_39, ↓s86_40, ↓s86_41, ↓s86_42, ↓s86_43, ↓s86_46, ↓s86_47, ↓J_w3, ↓hj, kNLn, kNLi, kNLr, va_rf_s, kOl_n, kOl_s, kap_n, kap_c, kb0, kb1, kbif, zif, z0, z1, Bool.false_eq_true, eq_self, not_true_eq_false, not_false_eq_true, if_true, if_false, and_self, true_and, false_and, and_true, and_false, nl_0_1, nl_0_2, nl_0_3, nl_0_4, nl_0_5, nl_0_6, nl_1_0, nl_1_2, nl_1_3, nl_1_4, nl_1_5, nl_1_6, nl_2_0, nl_2_1, nl_2_3, nl_2_4, nl_2_5, nl_2_6, nl_3_0, nl_3_1, nl_3_2, nl_3_4, nl_3_5, nl_3_6, nl_4_0, nl_4_1, nl_4_2, nl_4_3, nl_4_5, nl_4_6, nl_5_0, nl_5_1, nl_5_2, nl_5_3, nl_5_4, nl_5_6, nl_6_0, nl_6_1, nl_6_2, nl_6_3, nl_6_4, nl_6_5, nz_1, nz_2, nz_3, nz_4, nz_5, nz_6, c, ki_0, ki_46, kl_46, mr_0_6, hc, hv, q1, q2, or_true, true_or, i12]
        · have hs := h.2.2.2.2.1 k hk
          rw [e] at hs
          have hs1 : mi 91 k = nI l := hs.1
          have hs2 : mi 92 k = nI n := hs.2.1
          simp only [↓s194_0, ↓s194_1, ↓s194_2, ↓s194_5, ↓s194_8, ↓s194_9, ↓s194_10, ↓s194_11, ↓s194_14, ↓s194_15, ↓s194_16, ↓s194_18, ↓s194_21, ↓s194_23, ↓s194_24, ↓s194_25, ↓s194_26, ↓s194_27, ↓s194_28, ↓s194_31, ↓s194_32, ↓s194_33, ↓s194_34, ↓s194_35, ↓s194_36, ↓s194_39, ↓s194_42, ↓s194_44, ↓s194_45, ↓s194_49, ↓s194_51, ↓s194_52, ↓s194_53, ↓s194_54, ↓s194_55, ↓s194_56, ↓s194_59, ↓s194_60, ↓s194_61, ↓s194_64, ↓s194_65, ↓s194_66, ↓s194_69, ↓s194_70, ↓s194_73, ↓s194_74, ↓s194_75, ↓s194_76, ↓s194_79, ↓s194_80, ↓s194_81, ↓s194_84, ↓s194_85, ↓s194_86, ↓s194_87, ↓R_isSheet, ↓R_in0 (sub1 (by omega : n < 2 ^ 30)), kNLn, kNLi, kNLr, va_rf_s, kOl_n, kOl_s, kap_n, kap_c, kb0, kb1, kbif, zif, z0, z1, Bool.false_eq_true, eq_self, not_true_eq_false, not_false_eq_true, if_true, if_false, and_self, true_and, false_and, and_true, and_false, c, g0, d, ki_83, ki_91, kl_91, ki_92, kl_92, mr_83_23, mr_83_24, hc, hv, hs1, hs2, n4]
  · refine bB_e hg (-1) (fun mi ml Q h => ?_) (fun mi ml Q h => ?_)
    · simp only [↓s86_0, ↓s86_1, ↓s86_2, ↓s86_3, ↓s86_6, ↓s86_9, ↓s86_10, ↓s86_11, ↓s86_12, ↓s86_15, ↓s86_16, ↓s86_17, ↓s86_18, ↓s86_19, ↓s86_22, ↓s86_24, ↓s86_26, ↓s86_29, ↓s86_31, ↓s86_33, ↓s86_34, ↓s86_35, ↓s86_36, ↓s86_39, ↓s86_40, ↓s86_41, ↓s86_42, ↓s86_43, ↓s86_46, ↓s86_47, ↓J_w3, kNLn, kNLi, kNLr, va_rf_s, kOl_n, kOl_s, kap_n, kap_c, kb0, kb1, kbif, zif, z0, z1, Bool.false_eq_true, eq_self, not_true_eq_false, not_false_eq_true, if_true, if_false, and_self, true_and, false_and, and_true, and_false, c]
    · simp only [↓s194_0, ↓s194_1, ↓s194_2, ↓s194_5, ↓s194_8, ↓s194_9, ↓s194_10, ↓s194_11, ↓s194_14, ↓s194_15, ↓s194_16, ↓s194_18, ↓s194_21, ↓s194_23, ↓s194_24, ↓s194_25, ↓s194_26, ↓s194_27, ↓s194_28, ↓s194_31, ↓s194_32, ↓s194_33, ↓s194_34, ↓s194_35, ↓s194_36, ↓s194_39, ↓s194_42, ↓s194_44, ↓s194_45, ↓s194_49, ↓s194_51, ↓s194_52, ↓s194_53, ↓s194_54, ↓s194_55, ↓s194_56, ↓s194_59, ↓s194_60, ↓s194_61, ↓s194_64, ↓s194_65, ↓s194_66, ↓s194_69, ↓s194_70, ↓s194_73, ↓s194_74, ↓s194_75, ↓s194_76, ↓s194_79, ↓s194_80, ↓s194_81, ↓s194_84, ↓s194_85, ↓s194_86, ↓s194_87, ↓R_isSheet, kNLn, kNLi, kNLr, va_rf_s, kOl_n, kOl_s, kap_n, kap_c, kb0, kb1, kbif, zif, z0, z1, Bool.false_eq_true, eq_self, not_true_eq_false, not_false_eq_true, if_true, if_false, and_self, true_and, false_and, and_true, and_false, c]
end SHEET

end
section
/-! read -/
def gwB (T : tT) (x y z w : Int32) : Bool := decide ((gin x (T 0 0) = true ∧ gin y (T 0 0) = true ∧ gin z (T 0 0) = true ∧ gin w 19 = true) ∧ T 0 4 < 6)
def gwT (T : tT) (x y z w : Int32) : tT := taddL T x.toNatClampNeg y.toNatClampNeg z.toNatClampNeg w.toNatClampNeg
def shc (o : oS) : Nat → Int32 := match o with
  | none => fun _ => 0
  | some (_, _, c) => c
def grd (o : oS) (lane : Nat) (f : Int32) : Nat → Nat → tT → Nat ⊕ (tT × Nat × Nat)
  | 0, i, T => .inr (T, i, 0)
  | k + 1, i, T => if shL o lane (f.toInt + ((4 * i : Nat) : Int)) = 0 then
      (if gwB T (shc o (f.toInt + ((4 * i : Nat) : Int)).toNat) (shc o ((f.toInt + ((4 * i : Nat) : Int)).toNat + 1)) (shc o ((f.toInt + ((4 * i : Nat) : Int)).toNat + 2)) (shc o ((f.toInt + ((4 * i : Nat) : Int)).toNat + 3)) = true then grd o lane f k (i + 1) (gwT T (shc o (f.toInt + ((4 * i : Nat) : Int)).toNat) (shc o ((f.toInt + ((4 * i : Nat) : Int)).toNat + 1)) (shc o ((f.toInt + ((4 * i : Nat) : Int)).toNat + 2)) (shc o ((f.toInt + ((4 * i : Nat) : Int)).toNat + 3))) else .inl i)
      else .inr (T, i, shL o lane (f.toInt + ((4 * i : Nat) : Int)))
theorem shL_le {o : oS} {lane : Nat} {z : Int} : shL o lane z ≤ 3 := by
  unfold shL
  split
  · decide
  · split
    · split <;> decide
    · decide
theorem gwB_y {T : tT} {x y z w : Int32} (ho : tOK T) (h : gwB T x y z w = true) : T 0 4 < 6 ∧ ∃ a b c d, a < T 0 0 ∧ b < T 0 0 ∧ c < T 0 0 ∧ d < 19 ∧ x = nI a ∧ y = nI b ∧ z = nI c ∧ w = nI d ∧ gwT T x y z w = taddL T a b c d := by
  obtain ⟨⟨h1, h2, h3, h4⟩, h5⟩ := of_decide_eq_true h
  have o1 := ho.1
  obtain ⟨a, ha, rfl⟩ := gin_of h1 (by omega)
  obtain ⟨b, hb, rfl⟩ := gin_of h2 (by omega)
  obtain ⟨c, hc, rfl⟩ := gin_of h3 (by omega)
  obtain ⟨d, hd, rfl⟩ := gin_of h4 (by omega)
  refine ⟨h5, a, b, c, d, ha, hb, hc, hd, rfl, rfl, rfl, rfl, ?_⟩
  unfold gwT
  rw [nI_clamp (by omega), nI_clamp (by omega), nI_clamp (by omega), nI_clamp (by omega)]
theorem gwB_n {T : tT} {x y z w : Int32} (ho : tOK T) (h : ¬ gwB T x y z w = true) : ¬ gwOK T x y z w ∨ (gwOK T x y z w ∧ T 0 4 = 6) := by
  have o2 := ho.2.1
  by_cases c : gwOK T x y z w
  · by_cases d : T 0 4 < 6
    · exact absurd (decide_eq_true ⟨c, d⟩) h
    · exact Or.inr ⟨c, by omega⟩
  · exact Or.inl c
theorem gwT_good {T : tT} {x y z w : Int32} (hT : tGood T) (h : gwB T x y z w = true) : tGood (gwT T x y z w) := by
  obtain ⟨h5, a, b, c, d, ha, hb, hc, hd, -, -, -, -, e⟩ := gwB_y hT.1 h
  rw [e]
  exact tGood_addL hT h5 ha hb hc hd
theorem grd_ok {o : oS} {lane : Nat} {f : Int32} : ∀ (k i : Nat) (T : tT), tGood T → ∀ T' c e, grd o lane f k i T = .inr (T', c, e) → tGood T' ∧ e ≤ 3 := by
  intro k
  induction k with
  | zero =>
    intro i T hT T' c e h
    cases h
    exact ⟨hT, by decide⟩
  | succ k ih =>
    intro i T hT T' c e h
    unfold grd at h
    split at h
    · split at h
      · next hb => exact ih _ _ (gwT_good hT hb) T' c e h
      · cases h
    · cases h
      exact ⟨hT, shL_le⟩
def tExt (A T : tT) : Prop := (∀ j, j ≠ 4 → T 0 j = A 0 j) ∧ A 0 4 ≤ T 0 4 ∧ ∀ r k, 1 ≤ r → k < tcnt A r → T r k = A r k
theorem tExt_rf {A : tT} : tExt A A := ⟨fun _ _ => rfl, Nat.le_refl _, fun _ _ _ _ => rfl⟩
theorem tExt_add {A T : tT} {a b c d : Nat} (h : tExt A T) : tExt A (taddL T a b c d) := by
  refine ⟨fun j hj => ?_, ?_, fun r k hr hk => ?_⟩
  · rw [taddL_n (by omega) (by omega)]; exact h.1 j hj
  · rw [taddL_4]; have := h.2.1; omega
  · have h2 := h.2.1
    rw [taddL_n (fun z => ?_) (by omega)]
    · exact h.2.2 r k hr hk
    · have : tcnt A r = A 0 4 := tcnt_l (by omega) (by omega)
      omega
theorem add_ov (f : Int32) (m : Nat) (hm : m < 1000) : (f + nI m).toInt = f.toInt + (m : Int) ∨ ((f + nI m).toInt < 0 ∧ 2 ^ 31 ≤ f.toInt + (m : Int)) := by
  have h1 := f.toInt_lt
  have h2 := f.le_toInt
  rw [Int32.toInt_add, nI_toInt (by omega), Int.bmod_def]
  by_cases c : f.toInt + (m : Int) < 2 ^ 31
  · left
    split <;> omega
  · right
    split <;> omega
theorem shL_ov {o : oS} {lane m : Nat} {f : Int32} (hG : shG o) (hm : m < 1000) : shL o lane (f + nI m).toInt = shL o lane (f.toInt + (m : Int)) := by
  cases o with
  | none => rfl
  | some v =>
    obtain ⟨l, n, c⟩ := v
    have hn := (hG l n c rfl).2
    unfold shL
    rcases add_ov f m hm with e | ⟨e1, e2⟩
    · rw [e]
    · by_cases cl : l = lane
      · simp only [if_pos cl]
        rw [if_neg (by omega), if_neg (by omega)]
      · simp only [if_neg cl]
theorem shL_0 {o : oS} {lane : Nat} {z : Int} (hG : shG o) (h : shL o lane z = 0) : ∃ l n c, o = some (l, n, c) ∧ l = lane ∧ 0 ≤ z ∧ z + 4 ≤ n ∧ n ≤ 40 := by
  cases o with
  | none => cases h
  | some v =>
    obtain ⟨l, n, c⟩ := v
    have hn := (hG l n c rfl).2
    unfold shL at h
    by_cases cl : l = lane
    · simp only [if_pos cl] at h
      by_cases cz : 0 ≤ z ∧ z + 4 ≤ (n : Int)
      · exact ⟨l, n, c, rfl, cl, cz.1, cz.2, hn⟩
      · rw [if_neg cz] at h; cases h
    · simp only [if_neg cl] at h; cases h
theorem f_ix {f : Int32} {m : Nat} (hm : m < 1000) (h0 : 0 ≤ f.toInt + (m : Int)) (h1 : f.toInt + (m : Int) + 4 ≤ 40) : f + nI m = nI (f.toInt + (m : Int)).toNat := by
  apply Int32.toInt_inj.mp
  rw [nI_toInt (by omega)]
  rcases add_ov f m hm with e | ⟨e1, e2⟩
  · rw [e]; omega
  · omega
section READ
variable {mi : Nat → Nat → Int32} {ml : Nat → Nat → Int64} {m : kMem} {Q : Option Value → kMem → Prop} {S : gS} {T U : tT} {b p n k l w lane : Nat} {o : oS} {x y z u f : Int32}
theorem C_writeB (h : CI S mi) (hg : gOK S) (hy : gwB S.1 x y z u = true → ∀ mi', CI (gwT S.1 x y z u, S.2) mi' → fC mi mi' → Q (some (.int (nI (S.1 0 4 + 1)))) (mi', ml, MR, 95)) (hn : ¬ gwB S.1 x y z u = true → ∀ r : Int32, r < 0 → Q (some (.int r)) (mi, ml, MR, 95)) : kJ 63 0 [some (.ref 0), some (.int x), some (.int y), some (.int z), some (.int u)] [] (mi, ml, MR, 95) Q := by
  by_cases c : gwB S.1 x y z u = true
  · have hy2 := hy c
    obtain ⟨h5, a, b, d, e, ha, hb, hd, he, rfl, rfl, rfl, rfl, eT⟩ := gwB_y hg.1.1 c
    rw [eT] at hy2
    exact C_write_y h hg h5 ha hb hd he hy2
  · rcases gwB_n hg.1.1 c with d | ⟨d, e⟩
    · rw [C_write_n h hg d]; exact hn c _ (by decide)
    · rw [C_write_f h hg e d]; exact hn c _ (by decide)
theorem R_writeB (h : kRR (mi 84) T) (ho : tOK T) (hy : gwB T x y z u = true → ∀ A', kRR A' (gwT T x y z u) → (∀ j, 74 ≤ j → A' j = mi 84 j) → Q (some (.int (nI (T 0 4 + 1)))) (kRow mi 84 A', ml, MR, 95)) (hn : ¬ gwB T x y z u = true → ∀ r : Int32, r < 0 → Q (some (.int r)) (mi, ml, MR, 95)) : kJ 158 0 [some (.ref 83), some (.int x), some (.int y), some (.int z), some (.int u), none] [] (mi, ml, MR, 95) Q := by
  by_cases c : gwB T x y z u = true
  · have hy2 := hy c
    obtain ⟨h5, a, b, d, e, ha, hb, hd, he, rfl, rfl, rfl, rfl, eT⟩ := gwB_y ho c
    rw [eT] at hy2
    exact R_write_y h ho h5 ha hb hd he hy2
  · rcases gwB_n ho c with d | ⟨d, e⟩
    · rw [R_write_n h ho d]; exact hn c _ (by decide)
    · rw [R_write_f h ho e d]; exact hn c _ (by decide)
theorem J_letter (hk : k < 4) (h : cSh o k mi) (hG : shG o) (hl : lane < 3) : kJ 33 0 [some (.ref (75 + 2 * k)), some (.int (nI lane)), some (.int x)] [] (mi, ml, MR, 95) Q = Q (some (.int (nI (shL o lane x.toInt)))) (mi, ml, MR, 95) := by
  obtain ⟨q1, q2, q3, q4, q5⟩ := shq hk
  have hJ : ∀ Q', kJ 34 0 [some (.ref (75 + 2 * k)), some (.int x), some (.int (nI 4))] [] (mi, ml, MR, 95) Q' = Q' (some (.int (nI (shF o x.toInt 4)))) (mi, ml, MR, 95) := fun Q' => J_cells hk h hG (by decide)
  cases o with
  | none =>
    have h2 : mi (75 + 2 * k) 0 = (-1) := h
    simp only [↓s33_0, ↓s33_1, ↓s33_4, ↓s33_7, ↓s33_8, ↓s33_11, ↓s33_12, ↓s33_15, ↓s33_16, ↓s33_17, ↓s33_18, ↓s33_19, ↓s33_20, ↓s33_23, ↓J_nothing q2, ↓hJ, kNLn, kNLi, kNLr, va_rf_s, kOl_n, kOl_s, kap_n, kap_c, kb0, kb1, kbif, zif, z0, z1, Bool.false_eq_true, eq_self, not_true_eq_false, not_false_eq_true, if_true, if_false, and_self, true_and, false_and, and_true, and_false, q2, h2, m1_r, shF, shL]
  | some v =>
    obtain ⟨l, n, c⟩ := v
    have hn := (hG l n c rfl)
    have h2 : mi (75 + 2 * k) 0 = nI n := h.1
    have h3 : mi (75 + 2 * k) 2 = nI l := h.2.1
    have nm := n_m1 (by omega : n < 2 ^ 31)
    have el := nI_lit (by omega : l < 2 ^ 31) (by omega : lane < 2 ^ 31)
    by_cases cl : l = lane
    · simp only [↓s33_0, ↓s33_1, ↓s33_4, ↓s33_7, ↓s33_8, ↓s33_11, ↓s33_12, ↓s33_15, ↓s33_16, ↓s33_17, ↓s33_18, ↓s33_19, ↓s33_20, ↓s33_23, ↓J_nothing q2, ↓hJ, kNLn, kNLi, kNLr, va_rf_s, kOl_n, kOl_s, kap_n, kap_c, kb0, kb1, kbif, zif, z0, z1, Bool.false_eq_true, eq_self, not_true_eq_false, not_false_eq_true, if_true, if_false, and_self, true_and, false_and, and_true, and_false, q2, h2, h3, nm, el, cl, shF, shL]
      rfl
    · simp only [↓s33_0, ↓s33_1, ↓s33_4, ↓s33_7, ↓s33_8, ↓s33_11, ↓s33_12, ↓s33_15, ↓s33_16, ↓s33_17, ↓s33_18, ↓s33_19, ↓s33_20, ↓s33_23, ↓J_nothing q2, ↓hJ, kNLn, kNLi, kNLr, va_rf_s, kOl_n, kOl_s, kap_n, kap_c, kb0, kb1, kbif, zif, z0, z1, Bool.false_eq_true, eq_self, not_true_eq_false, not_false_eq_true, if_true, if_false, and_self, true_and, false_and, and_true, and_false, q2, h2, h3, nm, el, cl, shF, shL]
theorem CI_torn {e : Nat} (h : CI S mi) : CI (S.1, S.2.1, S.2.2.1, S.2.2.2.1, S.2.2.2.2.1, e) (kup mi 0 10 (nI e)) :=
  ⟨kCR_eq (fun q a b => kup_ne (by omega)) h.1, fun j hj => cImg_eq (kup_ne (by decide)) (fun q a b => kup_ne (by omega)) (h.2.1 j hj), ⟨by rw [kup_ne (by decide)]; exact h.2.2.1.1, fun j hj => by rw [kup_ne (by decide)]; exact h.2.2.1.2 j hj⟩, by rw [kup_eq, pk_un (by decide)]; exact h.2.2.2.1, fun j hj => cSh_eq (kup_ne (by omega)) (kup_ne (by omega)) (h.2.2.2.2.1 j hj), by rw [kup_eq, pk_us]⟩
theorem RI_torn {e : Nat} (h : RI S mi) (hg : gOK S) : RI (S.1, S.2.1, S.2.2.1, S.2.2.2.1, S.2.2.2.2.1, e) (kup mi 83 26 (nI e)) :=
  ⟨by rw [kup_ne (by decide)]; exact h.1, fun j hj => rImg_eq (kup_ne (by decide)) (fun i _ _ => by rw [kup_ne (by decide)]) (fun U hU => (hg.2.1 j hj U hU).1) (h.2.1 j hj), ⟨by rw [kup_eq, pk_un (by decide)]; exact h.2.2.1.1, fun j hj => by rw [kup_ne (by decide)]; exact h.2.2.1.2 j hj⟩, by rw [kup_eq, pk_un (by decide)]; exact h.2.2.2.1, fun j hj => rSh_eq (by rw [kup_ne (by decide)]) (by rw [kup_ne (by decide)]) (fun i _ _ => by rw [kup_ne (by decide)]) (fun l n c ec => (hg.2.2.2.2.1 j hj l n c ec).2) (h.2.2.2.2.1 j hj), by rw [kup_eq, pk_us]⟩
theorem kCR_bk {A T : tT} (h : kCR 1 T mi) (e : tExt A T) : kCR 1 A (kup mi 1 4 (nI (A 0 4))) := by
  obtain ⟨⟨h0, h4, h11, h12, h13⟩, hr⟩ := h
  refine ⟨⟨?_, ?_, ?_, ?_, ?_⟩, fun r j h1 h2 h3 => ?_⟩
  · rw [kup_eq, pk_un (by decide), h0, e.1 0 (by decide)]
  · rw [kup_eq, pk_us]
  · rw [kup_eq, pk_un (by decide), h11, e.1 11 (by decide)]
  · rw [kup_eq, pk_un (by decide), h12, e.1 12 (by decide)]
  · rw [kup_eq, pk_un (by decide), h13, e.1 13 (by decide)]
  · rw [kup_ne (by omega), ← e.2.2 r j h1 h3]
    refine hr r j h1 h2 ?_
    have a := e.2.1
    have a0 := e.1 0 (by decide)
    have a13 := e.1 13 (by decide)
    unfold tcnt at h3 ⊢
    split
    · next c => rw [if_pos c] at h3; omega
    · next c =>
      rw [if_neg c] at h3
      split
      · next d => rw [if_pos d] at h3; omega
      · next d => rw [if_neg d] at h3; omega
theorem C_readE {e c i : Nat} {l6 l10 l11 : Option Value} (he : e ≠ 0) (he3 : e ≤ 3) (hQ : Q (some (.int (nI c))) (kup mi 0 10 (nI e), ml, MR, 95)) : kJ 87 57 [some (.ref 0), some (.int (nI k)), some (.int (nI lane)), some (.int f), some (.int (nI n)), some (.ref (75 + 2 * k)), l6, some (.int (nI c)), some (.int (nI e)), some (.int (nI i)), l10, l11] [] (mi, ml, MR, 95) Q := by
  have e0 : ¬ nI e = 0 := nI_ne0 (by omega) (by omega)
  rw [s87_57]
  by_cases c : nI n ≤ nI i
  · simp only [↓s87_0, ↓s87_1, ↓s87_2, ↓s87_3, ↓s87_6, ↓s87_9, ↓s87_10, ↓s87_11, ↓s87_12, ↓s87_15, ↓s87_18, ↓s87_20, ↓s87_21, ↓s87_23, ↓s87_26, ↓s87_29, ↓s87_30, ↓s87_31, ↓s87_32, ↓s87_35, ↓s87_36, ↓s87_37, ↓s87_39, ↓s87_40, ↓s87_43, ↓s87_46, ↓s87_48, ↓s87_49, ↓s87_51, ↓s87_52, ↓s87_54, ↓s87_55, ↓s87_59, ↓s87_61, ↓s87_64, ↓s87_66, ↓s87_69, ↓s87_70, ↓s87_71, ↓s87_73, ↓s87_74, ↓s87_75, ↓s87_77, ↓s87_79, ↓s87_80, ↓s87_82, ↓s87_85, ↓s87_87, ↓s87_89, ↓s87_92, ↓s87_93, ↓s87_95, ↓s87_98, ↓s87_100, ↓s87_101, ↓s87_103, ↓s87_106, ↓s87_108, ↓s87_109, ↓s87_110, ↓s87_111, ↓s87_113, ↓s87_116, ↓s87_118, ↓s87_119, ↓s87_120, ↓s87_121, ↓s87_123, ↓s87_126, ↓s87_128, ↓s87_129, ↓s87_130, ↓s87_131, ↓s87_134, ↓s87_136, ↓s87_138, ↓s87_141, ↓s87_142, ↓s87_145, ↓s87_147, ↓s87_150, ↓s87_152, ↓s87_154, ↓s87_155, ↓s87_156, ↓s87_159, ↓s87_162, ↓s87_165, ↓s87_166, ↓s87_168, ↓s87_171, ↓s87_173, kNLn, kNLi, kNLr, va_rf_s, kOl_n, kOl_s, kap_n, kap_c, kb0, kb1, kbif, zif, z0, z1, Bool.false_eq_true, eq_self, not_true_eq_false, not_false_eq_true, if_true, if_false, and_self, true_and, false_and, and_true, and_false, c, ki_0]
    exact hQ
  · simp only [↓s87_0, ↓s87_1, ↓s87_2, ↓s87_3, ↓s87_6, ↓s87_9, ↓s87_10, ↓s87_11, ↓s87_12, ↓s87_15, ↓s87_18, ↓s87_20, ↓s87_21, ↓s87_23, ↓s87_26, ↓s87_29, ↓s87_30, ↓s87_31, ↓s87_32, ↓s87_35, ↓s87_36, ↓s87_37, ↓s87_39, ↓s87_40, ↓s87_43, ↓s87_46, ↓s87_48, ↓s87_49, ↓s87_51, ↓s87_52, ↓s87_54, ↓s87_55, ↓s87_59, ↓s87_61, ↓s87_64, ↓s87_66, ↓s87_69, ↓s87_70, ↓s87_71, ↓s87_73, ↓s87_74, ↓s87_75, ↓s87_77, ↓s87_79, ↓s87_80, ↓s87_82, ↓s87_85, ↓s87_87, ↓s87_89, ↓s87_92, ↓s87_93, ↓s87_95, ↓s87_98, ↓s87_100, ↓s87_101, ↓s87_103, ↓s87_106, ↓s87_108, ↓s87_109, ↓s87_110, ↓s87_111, ↓s87_113, ↓s87_116, ↓s87_118, ↓s87_119, ↓s87_120, ↓s87_121, ↓s87_123, ↓s87_126, ↓s87_128, ↓s87_129, ↓s87_130, ↓s87_131, ↓s87_134, ↓s87_136, ↓s87_138, ↓s87_141, ↓s87_142, ↓s87_145, ↓s87_147, ↓s87_150, ↓s87_152, ↓s87_154, ↓s87_155, ↓s87_156, ↓s87_159, ↓s87_162, ↓s87_165, ↓s87_166, ↓s87_168, ↓s87_171, ↓s87_173, kNLn, kNLi, kNLr, va_rf_s, kOl_n, kOl_s, kap_n, kap_c, kb0, kb1, kbif, zif, z0, z1, Bool.false_eq_true, eq_self, not_true_eq_false, not_false_eq_true, if_true, if_false, and_self, true_and, false_and, and_true, and_false, c, e0, ki_0]
    exact hQ
theorem C_readL (hk : k < 4) (hl : lane < 3) (hn : n ≤ 10) (h : CI S mi) (hg : gOK S)
    (hQ1 : ∀ i, grd (S.2.2.2.2.1 k) lane f n 0 S.1 = .inl i → ∀ mi', CI S mi' → fC mi mi' → Q (some (.int ((-20) - nI i))) (mi', ml, MR, 95))
    (hQ2 : ∀ T' c e, grd (S.2.2.2.2.1 k) lane f n 0 S.1 = .inr (T', c, e) → ∀ mi', CI (T', S.2.1, S.2.2.1, S.2.2.2.1, S.2.2.2.2.1, e) mi' → fC mi mi' → Q (some (.int (nI c))) (mi', ml, MR, 95)) :
    ∀ (kk i : Nat) (T : tT) (mi1 : Nat → Nat → Int32) (l10 l11 : Option Value), i + kk = n → CI (T, S.2) mi1 → fC mi mi1 → gOK (T, S.2) → tExt S.1 T → grd (S.2.2.2.2.1 k) lane f kk i T = grd (S.2.2.2.2.1 k) lane f n 0 S.1 → kJ 87 57 [some (.ref 0), some (.int (nI k)), some (.int (nI lane)), some (.int f), some (.int (nI n)), some (.ref (75 + 2 * k)), some (.int (nI (S.1 0 4))), some (.int (nI i)), some (.int (nI 0)), some (.int (nI i)), l10, l11] [] (mi1, ml, MR, 95) Q := by
  have hG : shG (S.2.2.2.2.1 k) := hg.2.2.2.2.1 k hk
  obtain ⟨q1, q2, q3, q4, q5⟩ := shq hk
  intro kk
  induction kk with
  | zero =>
    intro i T mi1 l10 l11 hi h1 f1 g1 x1 eG
    have hge : nI n ≤ nI i := nI_le (by omega) (by omega)
    rw [s87_57]
    simp only [↓s87_0, ↓s87_1, ↓s87_2, ↓s87_3, ↓s87_6, ↓s87_9, ↓s87_10, ↓s87_11, ↓s87_12, ↓s87_15, ↓s87_18, ↓s87_20, ↓s87_21, ↓s87_23, ↓s87_26, ↓s87_29, ↓s87_30, ↓s87_31, ↓s87_32, ↓s87_35, ↓s87_36, ↓s87_37, ↓s87_39, ↓s87_40, ↓s87_43, ↓s87_46, ↓s87_48, ↓s87_49, ↓s87_51, ↓s87_52, ↓s87_54, ↓s87_55, ↓s87_59, ↓s87_61, ↓s87_64, ↓s87_66, ↓s87_69, ↓s87_70, ↓s87_71, ↓s87_73, ↓s87_74, ↓s87_75, ↓s87_77, ↓s87_79, ↓s87_80, ↓s87_82, ↓s87_85, ↓s87_87, ↓s87_89, ↓s87_92, ↓s87_93, ↓s87_95, ↓s87_98, ↓s87_100, ↓s87_101, ↓s87_103, ↓s87_106, ↓s87_108, ↓s87_109, ↓s87_110, ↓s87_111, ↓s87_113, ↓s87_116, ↓s87_118, ↓s87_119, ↓s87_120, ↓s87_121, ↓s87_123, ↓s87_126, ↓s87_128, ↓s87_129, ↓s87_130, ↓s87_131, ↓s87_134, ↓s87_136, ↓s87_138, ↓s87_141, ↓s87_142, ↓s87_145, ↓s87_147, ↓s87_150, ↓s87_152, ↓s87_154, ↓s87_155, ↓s87_156, ↓s87_159, ↓s87_162, ↓s87_165, ↓s87_166, ↓s87_168, ↓s87_171, ↓s87_173, kNLn, kNLi, kNLr, va_rf_s, kOl_n, kOl_s, kap_n, kap_c, kb0, kb1, kbif, zif, z0, z1, Bool.false_eq_true, eq_self, not_true_eq_false, not_false_eq_true, if_true, if_false, and_self, true_and, false_and, and_true, and_false, hge, ki_0]
    exact hQ2 T i 0 eG.symm _ (CI_torn (S := (T, S.2)) h1) (fC_tr f1 (fun q hq => kup_ne (by omega)))
  | succ kk ih =>
    intro i T mi1 l10 l11 hi h1 f1 g1 x1 eG
    have hlt : ¬ nI n ≤ nI i := nI_ge (by omega) (by omega)
    have hs := h1.2.2.2.2.1 k hk
    have hJ : ∀ Q', kJ 33 0 [some (.ref (75 + 2 * k)), some (.int (nI lane)), some (.int (f + nI (4 * i)))] [] (mi1, ml, MR, 95) Q' = Q' (some (.int (nI (shL (S.2.2.2.2.1 k) lane (f.toInt + ((4 * i : Nat) : Int)))))) (mi1, ml, MR, 95) := fun Q' => by rw [J_letter hk hs hG hl, shL_ov hG (by omega)]
    by_cases ce : shL (S.2.2.2.2.1 k) lane (f.toInt + ((4 * i : Nat) : Int)) = 0
    · obtain ⟨l', n', c', eo, el, z0, z4, n40⟩ := shL_0 hG ce
      rw [eo] at hs
      have ix := f_ix (f := f) (m := 4 * i) (by omega) z0 (by omega)
      have hjn : (f.toInt + ((4 * i : Nat) : Int)).toNat + 4 ≤ n' := by omega
      have eU : grd (S.2.2.2.2.1 k) lane f (kk + 1) i T = (if gwB T (c' (f.toInt + ((4 * i : Nat) : Int)).toNat) (c' ((f.toInt + ((4 * i : Nat) : Int)).toNat + 1)) (c' ((f.toInt + ((4 * i : Nat) : Int)).toNat + 2)) (c' ((f.toInt + ((4 * i : Nat) : Int)).toNat + 3)) = true then grd (S.2.2.2.2.1 k) lane f kk (i + 1) (gwT T (c' (f.toInt + ((4 * i : Nat) : Int)).toNat) (c' ((f.toInt + ((4 * i : Nat) : Int)).toNat + 1)) (c' ((f.toInt + ((4 * i : Nat) : Int)).toNat + 2)) (c' ((f.toInt + ((4 * i : Nat) : Int)).toNat + 3))) else .inl i) := by
        conv => lhs; unfold grd
        rw [if_pos ce, eo]
        rfl
      revert eU hjn ix
      generalize (f.toInt + ((4 * i : Nat) : Int)).toNat = j
      intro ix hjn eU
      have hc0 : (nI j).toNatClampNeg = j := nI_clamp (by omega)
      have hc1 : (nI (j + 1)).toNatClampNeg = j + 1 := nI_clamp (by omega)
      have hc2 : (nI (j + 2)).toNatClampNeg = j + 2 := nI_clamp (by omega)
      have hc3 : (nI (j + 3)).toNatClampNeg = j + 3 := nI_clamp (by omega)
      have hv0 : vp_in (nI j) 40 := vp_in_nI (by omega) (by decide)
      have hv1 : vp_in (nI (j + 1)) 40 := vp_in_nI (by omega) (by decide)
      have hv2 : vp_in (nI (j + 2)) 40 := vp_in_nI (by omega) (by decide)
      have hv3 : vp_in (nI (j + 3)) 40 := vp_in_nI (by omega) (by decide)
      have r0 := hs.2.2 j (by omega)
      have r1 := hs.2.2 (j + 1) (by omega)
      have r2 := hs.2.2 (j + 2) (by omega)
      have r3 := hs.2.2 (j + 3) (by omega)
      rw [s87_57]
      simp only [↓s87_0, ↓s87_1, ↓s87_2, ↓s87_3, ↓s87_6, ↓s87_9, ↓s87_10, ↓s87_11, ↓s87_12, ↓s87_15, ↓s87_18, ↓s87_20, ↓s87_21, ↓s87_23, ↓s87_26, ↓s87_29, ↓s87_30, ↓s87_31, ↓s87_32, ↓s87_35, ↓s87_36, ↓s87_37, ↓s87_39, ↓s87_40, ↓s87_43, ↓s87_46, ↓s87_48, ↓s87_49, ↓s87_51, ↓s87_52, ↓s87_54, ↓s87_55, ↓s87_59, ↓s87_61, ↓s87_64, ↓s87_66, ↓s87_69, ↓s87_70, ↓s87_71, ↓s87_73, ↓s87_74, ↓s87_75, ↓s87_77, ↓s87_79, ↓s87_80, ↓s87_82, ↓s87_85, ↓s87_87, ↓s87_89, ↓s87_92, ↓s87_93, ↓s87_95, ↓s87_98, ↓s87_100, ↓s87_101, ↓s87_103, ↓s87_106, ↓s87_108, ↓s87_109, ↓s87_110, ↓s87_111, ↓s87_113, ↓s87_116, ↓s87_118, ↓s87_119, ↓s87_120, ↓s87_121, ↓s87_123, ↓s87_126, ↓s87_128, ↓s87_129, ↓s87_130, ↓s87_131, ↓s87_134, ↓s87_136, ↓s87_138, ↓s87_141, ↓s87_142, ↓s87_145, ↓s87_147, ↓s87_150, ↓s87_152, ↓s87_154, ↓s87_155, ↓s87_156, ↓s87_159, ↓s87_162, ↓s87_165, ↓s87_166, ↓s87_168, ↓s87_171, ↓s87_173, pk_mul, ↓hJ, ce, kNLn, kNLi, kNLr, va_rf_s, kOl_n, kOl_s, kap_n, kap_c, kb0, kb1, kbif, zif, z0, z1, Bool.false_eq_true, eq_self, not_true_eq_false, not_false_eq_true, if_true, if_false, and_self, true_and, false_and, and_true, and_false, hlt, ki_0, q2, q3, q4, q5, ix, nI_add, hc0, hc1, hc2, hc3, hv0, hv1, hv2, hv3, r0, r1, r2, r3]
      refine C_writeB (S := (T, S.2)) h1 g1 (fun hb mi2 h2 f2 => ?_) (fun hb r hr => ?_)
      · have p1 : ¬ nI (T 0 4 + 1) < 0 := nI_pos (by have := g1.1.1.2.1; omega)
        have p2 : 0 ≤ nI (T 0 4 + 1) := Int32.not_lt.mp p1
        simp only [↓s87_0, ↓s87_1, ↓s87_2, ↓s87_3, ↓s87_6, ↓s87_9, ↓s87_10, ↓s87_11, ↓s87_12, ↓s87_15, ↓s87_18, ↓s87_20, ↓s87_21, ↓s87_23, ↓s87_26, ↓s87_29, ↓s87_30, ↓s87_31, ↓s87_32, ↓s87_35, ↓s87_36, ↓s87_37, ↓s87_39, ↓s87_40, ↓s87_43, ↓s87_46, ↓s87_48, ↓s87_49, ↓s87_51, ↓s87_52, ↓s87_54, ↓s87_55, ↓s87_59, ↓s87_61, ↓s87_64, ↓s87_66, ↓s87_69, ↓s87_70, ↓s87_71, ↓s87_73, ↓s87_74, ↓s87_75, ↓s87_77, ↓s87_79, ↓s87_80, ↓s87_82, ↓s87_85, ↓s87_87, ↓s87_89, ↓s87_92, ↓s87_93, ↓s87_95, ↓s87_98, ↓s87_100, ↓s87_101, ↓s87_103, ↓s87_106, ↓s87_108, ↓s87_109, ↓s87_110, ↓s87_111, ↓s87_113, ↓s87_116, ↓s87_118, ↓s87_119, ↓s87_120, ↓s87_121, ↓s87_123, ↓s87_126, ↓s87_128, ↓s87_129, ↓s87_130, ↓s87_131, ↓s87_134, ↓s87_136, ↓s87_138, ↓s87_141, ↓s87_142, ↓s87_145, ↓s87_147, ↓s87_150, ↓s87_152, ↓s87_154, ↓s87_155, ↓s87_156, ↓s87_159, ↓s87_162, ↓s87_165, ↓s87_166, ↓s87_168, ↓s87_171, ↓s87_173, kNLn, kNLi, kNLr, va_rf_s, kOl_n, kOl_s, kap_n, kap_c, kb0, kb1, kbif, zif, z0, z1, Bool.false_eq_true, eq_self, not_true_eq_false, not_false_eq_true, if_true, if_false, and_self, true_and, false_and, and_true, and_false, p1, p2, nI_add]
        rw [if_pos hb] at eU
        refine ih (i + 1) _ mi2 _ _ (by omega) h2 (fC_tr f1 f2) ⟨gwT_good g1.1 hb, g1.2⟩ ?_ (eU.symm.trans eG)
        obtain ⟨h5, a, b, c, d, ha, hb', hc, hd, -, -, -, -, e⟩ := gwB_y g1.1.1 hb
        rw [e]
        exact tExt_add x1
      · have p2 : ¬ 0 ≤ r := Int32.not_le.mpr hr
        simp only [↓s87_0, ↓s87_1, ↓s87_2, ↓s87_3, ↓s87_6, ↓s87_9, ↓s87_10, ↓s87_11, ↓s87_12, ↓s87_15, ↓s87_18, ↓s87_20, ↓s87_21, ↓s87_23, ↓s87_26, ↓s87_29, ↓s87_30, ↓s87_31, ↓s87_32, ↓s87_35, ↓s87_36, ↓s87_37, ↓s87_39, ↓s87_40, ↓s87_43, ↓s87_46, ↓s87_48, ↓s87_49, ↓s87_51, ↓s87_52, ↓s87_54, ↓s87_55, ↓s87_59, ↓s87_61, ↓s87_64, ↓s87_66, ↓s87_69, ↓s87_70, ↓s87_71, ↓s87_73, ↓s87_74, ↓s87_75, ↓s87_77, ↓s87_79, ↓s87_80, ↓s87_82, ↓s87_85, ↓s87_87, ↓s87_89, ↓s87_92, ↓s87_93, ↓s87_95, ↓s87_98, ↓s87_100, ↓s87_101, ↓s87_103, ↓s87_106, ↓s87_108, ↓s87_109, ↓s87_110, ↓s87_111, ↓s87_113, ↓s87_116, ↓s87_118, ↓s87_119, ↓s87_120, ↓s87_121, ↓s87_123, ↓s87_126, ↓s87_128, ↓s87_129, ↓s87_130, ↓s87_131, ↓s87_134, ↓s87_136, ↓s87_138, ↓s87_141, ↓s87_142, ↓s87_145, ↓s87_147, ↓s87_150, ↓s87_152, ↓s87_154, ↓s87_155, ↓s87_156, ↓s87_159, ↓s87_162, ↓s87_165, ↓s87_166, ↓s87_168, ↓s87_171, ↓s87_173, kNLn, kNLi, kNLr, va_rf_s, kOl_n, kOl_s, kap_n, kap_c, kb0, kb1, kbif, zif, z0, z1, Bool.false_eq_true, eq_self, not_true_eq_false, not_false_eq_true, if_true, if_false, and_self, true_and, false_and, and_true, and_false, hr, p2, ki_0, ki_1, mr_0_0]
        rw [if_neg hb] at eU
        refine hQ1 i (eG.symm.trans eU) _ (CI_T (S := (T, S.2)) (T := S.1) h1 (kCR_bk h1.1 x1) (fun q hq => kup_ne (by omega))) (fC_tr f1 (fun q hq => kup_ne (by omega)))
    · have e3 := shL_le (o := S.2.2.2.2.1 k) (lane := lane) (z := f.toInt + ((4 * i : Nat) : Int))
      have eU : grd (S.2.2.2.2.1 k) lane f (kk + 1) i T = .inr (T, i, shL (S.2.2.2.2.1 k) lane (f.toInt + ((4 * i : Nat) : Int))) := by
        conv => lhs; unfold grd
        rw [if_neg ce]
      have e0 : ¬ nI (shL (S.2.2.2.2.1 k) lane (f.toInt + ((4 * i : Nat) : Int))) = 0 := nI_ne0 (by omega) (by omega)
      rw [s87_57]
      simp only [↓s87_0, ↓s87_1, ↓s87_2, ↓s87_3, ↓s87_6, ↓s87_9, ↓s87_10, ↓s87_11, ↓s87_12, ↓s87_15, ↓s87_18, ↓s87_20, ↓s87_21, ↓s87_23, ↓s87_26, ↓s87_29, ↓s87_30, ↓s87_31, ↓s87_32, ↓s87_35, ↓s87_36, ↓s87_37, ↓s87_39, ↓s87_40, ↓s87_43, ↓s87_46, ↓s87_48, ↓s87_49, ↓s87_51, ↓s87_52, ↓s87_54, ↓s87_55, ↓s87_59, ↓s87_61, ↓s87_64, ↓s87_66, ↓s87_69, ↓s87_70, ↓s87_71, ↓s87_73, ↓s87_74, ↓s87_75, ↓s87_77, ↓s87_79, ↓s87_80, ↓s87_82, ↓s87_85, ↓s87_87, ↓s87_89, ↓s87_92, ↓s87_93, ↓s87_95, ↓s87_98, ↓s87_100, ↓s87_101, ↓s87_103, ↓s87_106, ↓s87_108, ↓s87_109, ↓s87_110, ↓s87_111, ↓s87_113, ↓s87_116, ↓s87_118, ↓s87_119, ↓s87_120, ↓s87_121, ↓s87_123, ↓s87_126, ↓s87_128, ↓s87_129, ↓s87_130, ↓s87_131, ↓s87_134, ↓s87_136, ↓s87_138, ↓s87_141, ↓s87_142, ↓s87_145, ↓s87_147, ↓s87_150, ↓s87_152, ↓s87_154, ↓s87_155, ↓s87_156, ↓s87_159, ↓s87_162, ↓s87_165, ↓s87_166, ↓s87_168, ↓s87_171, ↓s87_173, pk_mul, ↓hJ, kNLn, kNLi, kNLr, va_rf_s, kOl_n, kOl_s, kap_n, kap_c, kb0, kb1, kbif, zif, z0, z1, Bool.false_eq_true, eq_self, not_true_eq_false, not_false_eq_true, if_true, if_false, and_self, true_and, false_and, and_true, and_false, hlt, ki_0, q2, e0, nI_add]
      exact C_readE ce e3 (hQ2 T i _ (eG.symm.trans eU) _ (CI_torn (S := (T, S.2)) h1) (fC_tr f1 (fun q hq => kup_ne (by omega))))
theorem C_read_y (hk : k < 4) (hl : lane < 3) (hn : n ≤ 10) (h : CI S mi) (hg : gOK S)
    (hQ1 : ∀ i, grd (S.2.2.2.2.1 k) lane f n 0 S.1 = .inl i → ∀ mi', CI S mi' → fC mi mi' → Q (some (.int ((-20) - nI i))) (mi', ml, MR, 95))
    (hQ2 : ∀ T' c e, grd (S.2.2.2.2.1 k) lane f n 0 S.1 = .inr (T', c, e) → ∀ mi', CI (T', S.2.1, S.2.2.1, S.2.2.2.1, S.2.2.2.2.1, e) mi' → fC mi mi' → Q (some (.int (nI c))) (mi', ml, MR, 95)) :
    kJ 87 0 [some (.ref 0), some (.int (nI k)), some (.int (nI lane)), some (.int f), some (.int (nI n)), none, none, none, none, none, none, none] [] (mi, ml, MR, 95) Q := by
  obtain ⟨q1, q2, q3, q4, q5⟩ := shq hk
  have c1 : gin (nI k) 4 = true := gin_nI hk (by decide)
  have c2 : gin (nI lane) 3 = true := gin_nI hl (by decide)
  have c3 : gin (nI n) 11 = true := gin_nI (by omega) (by decide)
  have hc : (nI k).toNatClampNeg = k := nI_clamp (by omega)
  have hv : vp_in (nI k) 4 := vp_in_nI (by omega) (by decide)
  simp only [↓s87_0, ↓s87_1, ↓s87_2, ↓s87_3, ↓s87_6, ↓s87_9, ↓s87_10, ↓s87_11, ↓s87_12, ↓s87_15, ↓s87_18, ↓s87_20, ↓s87_21, ↓s87_23, ↓s87_26, ↓s87_29, ↓s87_30, ↓s87_31, ↓s87_32, ↓s87_35, ↓s87_36, ↓s87_37, ↓s87_39, ↓s87_40, ↓s87_43, ↓s87_46, ↓s87_48, ↓s87_49, ↓s87_51, ↓s87_52, ↓s87_54, ↓s87_55, ↓s87_59, ↓s87_61, ↓s87_64, ↓s87_66, ↓s87_69, ↓s87_70, ↓s87_71, ↓s87_73, ↓s87_74, ↓s87_75, ↓s87_77, ↓s87_79, ↓s87_80, ↓s87_82, ↓s87_85, ↓s87_87, ↓s87_89, ↓s87_92, ↓s87_93, ↓s87_95, ↓s87_98, ↓s87_100, ↓s87_101, ↓s87_103, ↓s87_106, ↓s87_108, ↓s87_109, ↓s87_110, ↓s87_111, ↓s87_113, ↓s87_116, ↓s87_118, ↓s87_119, ↓s87_120, ↓s87_121, ↓s87_123, ↓s87_126, ↓s87_128, ↓s87_129, ↓s87_130, ↓s87_131, ↓s87_134, ↓s87_136, ↓s87_138, ↓s87_141, ↓s87_142, ↓s87_145, ↓s87_147, ↓s87_150, ↓s87_152, ↓s87_154, ↓s87_155, ↓s87_156, ↓s87_159, ↓s87_162, ↓s87_165, ↓s87_166, ↓s87_168, ↓s87_171, ↓s87_173, ↓J_w3, ↓J_w2, ↓J_w10, kNLn, kNLi, kNLr, va_rf_s, kOl_n, kOl_s, kap_n, kap_c, kb0, kb1, kbif, zif, z0, z1, Bool.false_eq_true, eq_self, not_true_eq_false, not_false_eq_true, if_true, if_false, and_self, true_and, false_and, and_true, and_false, c1, c2, c3, ki_0, ki_1, ki_46, kl_46, mr_0_0, mr_0_6, hc, hv, q1, or_true, true_or, h.1.1.2.1]
  exact C_readL hk hl hn h hg hQ1 hQ2 n 0 S.1 mi none none (by omega) h fC_rf hg tExt_rf rfl
end READ

end
