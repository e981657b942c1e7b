/-! by a seed: drift; count; images -/
theorem nI_bv (x : Int32) : x = nI x.toBitVec.toNat := by
  apply Int32.toBitVec_inj.mp
  show x.toBitVec = BitVec.ofNat 32 x.toBitVec.toNat
  rw [BitVec.ofNat_toNat, BitVec.setWidth_eq]
def gotI (s : Int32) : Int32 := ush s (nI 16) &&& nI 32767
def gotN (s : Int32) : Nat := (gotI s).toBitVec.toNat
theorem got_nI (s : Int32) : gotI s = nI (gotN s) := nI_bv _
theorem got_lt (s : Int32) : gotN s < 32768 := by
  have h : (gotI s).toBitVec.toNat = (ush s (nI 16)).toBitVec.toNat &&& 32767 := by
    show ((ush s (nI 16)).toBitVec &&& (nI 32767).toBitVec).toNat = _
    rw [BitVec.toNat_and]
    rfl
  have h2 : (ush s (nI 16)).toBitVec.toNat &&& 32767 ≤ 32767 := Nat.and_le_right
  unfold gotN
  omega
theorem got_sh (s : Int32) : (s >>> (nI 16 &&& 31)) &&& nI 32767 = gotI s := by
  apply Int32.toBitVec_inj.mp
  have e1 : ((s >>> (nI 16 &&& 31)) &&& nI 32767).toBitVec = s.toBitVec.sshiftRight 16 &&& 32767#32 := by
    rw [Int32.toBitVec_and, Int32.toBitVec_shiftRight]
    rfl
  have e2 : (gotI s).toBitVec = s.toBitVec >>> 16 &&& 32767#32 := by
    unfold gotI ush
    rw [Int32.toBitVec_and]
    rfl
  rw [e1, e2]
  apply BitVec.eq_of_getLsbD_eq
  intro i hi
  rw [BitVec.getLsbD_and, BitVec.getLsbD_and]
  by_cases c : i < 15
  · rw [BitVec.getLsbD_sshiftRight, BitVec.getLsbD_ushiftRight]
    simp [show 16 + i < 32 by omega, show ¬ 32 ≤ i by omega]
  · have e : (32767#32).getLsbD i = false := by
      have h : ∀ j, j < 17 → (32767#32).getLsbD (15 + j) = false := by decide
      have := h (i - 15) (by omega)
      rw [show 15 + (i - 15) = i by omega] at this
      exact this
    rw [e, Bool.and_false, Bool.and_false]
def tagain (U : tT) (i t : Nat) : tT := tup (tup (tup U 7 i t) 8 i (U 2 (U 4 i))) 9 i 0
theorem tagain_r {U : tT} {i t : Nat} : ∀ r k, tagain U i t r k = tup (tup (tup U 8 i (U 2 (U 4 i))) 9 i 0) 7 i t r k := by
  intro r k
  unfold tagain tup
  by_cases h7 : r = 7 ∧ k = i
  · rw [if_neg (by omega), if_neg (by omega), if_pos h7, if_pos h7]
  · by_cases h8 : r = 8 ∧ k = i
    · rw [if_neg (by omega), if_pos h8, if_neg h7, if_neg (by omega), if_pos h8]
    · by_cases h9 : r = 9 ∧ k = i
      · rw [if_pos h9, if_neg h7, if_pos h9]
      · rw [if_neg h9, if_neg h8, if_neg h7, if_neg h7, if_neg h9, if_neg h8]
theorem tagain_ok {U : tT} {i t : Nat} (h : tOK U) (hi : i < U 0 4) (ht : t < 19) : tOK (tagain U i t) :=
  tOK_upL (tOK_upL (tOK_upL h (Or.inl ⟨rfl, by omega⟩)) (Or.inr (Or.inl ⟨rfl, (h.2.2.2.2.2.1 _ (h.2.2.2.2.2.2.1 i hi).1).2.1⟩))) (by omega)
theorem tagain_0 {U : tT} {i t k : Nat} : tagain U i t 0 k = U 0 k := by
  unfold tagain
  rw [tup_n (by omega), tup_n (by omega), tup_n (by omega)]
def sdI (s : Int32) : Int32 := s * 1103515245 + nI 12345
def tdriU (s : Int32) (U : tT) : tT := tagain U (gotN (sdI s) % U 0 4) (gotN (sdI s) / 8 % 19)
def tdriF : Nat → Int32 → tT → Nat → tT × Nat
  | 0, _, U, c => (U, c)
  | k + 1, s, U, c => tdriF k (sdI s) (tD (tdriU s U)) (c + tarr 1 (tdriU s U))
section DRIFT
variable {mi : Nat → Nat → Int32} {ml : Nat → Nat → Int64} {m : kMem} {Q : Option Value → kMem → Prop} {S : gS} {T U : tT} {b p n f t a v d i : Nat}
theorem tdriU_ok {s : Int32} (h : tOK U) (hl : 0 < U 0 4) : tOK (tdriU s U) := tagain_ok h (Nat.mod_lt _ hl) (Nat.mod_lt _ (by decide))
theorem kCR_again (h : kCR b U mi) (ho : tOK U) (hi : i < U 0 4) : kCR b (tagain U i t) (kWA b i (U 4 i) (nI t) mi) := by
  have hd : mi (b + 2) (U 4 i) = nI (U 2 (U 4 i)) := kCR_row h (r := 2) (by omega) (by omega) (by rw [tcnt_p (by omega)]; exact (ho.2.2.2.2.2.2.1 i hi).1)
  unfold kWA
  rw [hd]
  exact kCR_up (r := 9) (kCR_up (r := 8) (kCR_up (r := 7) h (by omega)) (by omega)) (by omega)
theorem kFr_again {x : Int32} : kFr b mi (kWA b i f x mi) := by
  unfold kWA
  exact kFr_up (kFr_up (kFr_up kFr_rf (by omega)) (by omega)) (by omega)
def gdri (r : tT × Nat) (z : Int32) : Int32 := if z = 0 then nI (tmoods r.1) else nI r.2
theorem B_drift {x y z : Int32} (hg : gOK S) : bB 82 [some (.ref 0), some (.int x), some (.int y), some (.int z), none, none, none, none, none] 188 [some (.ref 83), some (.int x), some (.int y), some (.int z), none, none, none, none] S := by
  have ho := hg.1.1
  have o2 := ho.2.1
  have hd12 := hg.1.2
  have e60 : ((60 : Int64)).toInt = ((61 : Nat) : Int) - 1 := by decide
  have n8 : ¬ nI 8 = 0 := by decide
  have n19 : ¬ nI 19 = 0 := by decide
  by_cases c : gin y 61 = true ∧ y ≠ nI 0
  · have hcw : nI 1 ≤ y ∧ y ≤ nI 60 := by rw [gin_w1 (by decide)]; exact c
    have hwj : ∀ (m : kMem) Q', kJ 90 0 [some (.int y), some (.int (nI 1)), some (.int (nI 60))] [] m Q' = Q' (some (.int (nI 1))) m := fun m Q' => by rw [J_within, if_pos hcw]
    have hrj : ∀ (m : kMem) Q', kJ 107 0 [some (.long y.toInt64), none, some (.long 1), none, some (.long 60), none] [] m Q' = Q' (some (.int (nI 1))) m := fun m Q' => by rw [R_in]; simp only [gin_r1 e60]; rw [if_pos c]
    by_cases e : gin z 2 = true
    · by_cases l0 : S.1 0 4 = 0
      · refine bB_e hg (-2) (fun mi ml Q h => ?_) (fun mi ml Q h => ?_)
        · have h4 := h.1.1.2.1
          rw [l0] at h4
          have hlt : ¬ 0 < nI 0 := by decide
          simp only [↓s82_0, ↓s82_1, ↓s82_2, ↓s82_4, ↓s82_7, ↓s82_10, ↓s82_11, ↓s82_12, ↓s82_13, ↓s82_16, ↓s82_19, ↓s82_20, ↓s82_21, ↓s82_22, ↓s82_25, ↓s82_28, ↓s82_31, ↓s82_33, ↓s82_34, ↓s82_35, ↓s82_38, ↓s82_39, ↓s82_42, ↓s82_45, ↓s82_46, ↓s82_48, ↓s82_49, ↓s82_51, ↓s82_52, ↓s82_56, ↓s82_57, ↓s82_60, ↓s82_62, ↓s82_64, ↓s82_65, ↓s82_68, ↓s82_69, ↓s82_71, ↓s82_73, ↓s82_75, ↓s82_76, ↓s82_79, ↓s82_80, ↓s82_82, ↓s82_83, ↓s82_86, ↓s82_88, ↓s82_89, ↓s82_92, ↓s82_95, ↓s82_96, ↓s82_98, ↓s82_100, ↓s82_101, ↓s82_103, ↓s82_104, ↓s82_107, ↓s82_108, ↓s82_111, ↓s82_114, ↓s82_116, ↓s82_117, ↓s82_120, ↓s82_121, ↓s82_124, ↓s82_126, ↓s82_127, ↓s82_130, ↓s82_133, ↓s82_135, ↓s82_136, ↓s82_137, ↓s82_139, ↓s82_142, ↓s82_145, ↓s82_146, ↓s82_149, ↓s82_150, ↓s82_153, ↓s82_156, ↓s82_159, ↓s82_161, ↓hwj, ↓J_w1, kNLn, kNLi, kNLr, va_rf_s, kOl_n, kOl_s, kap_n, kap_c, kb0, kb1, kbif, zif, z0, z1, Bool.false_eq_true, eq_self, not_true_eq_false, not_false_eq_true, if_true, if_false, and_self, true_and, false_and, and_true, and_false, e, ki_0, ki_1, mr_0_0, h4, hlt]
        · have h4 := h.1.1.2.1
          rw [l0] at h4
          have c52 : (nI 52).toNatClampNeg = 52 := rfl
          have v52 : vp_in (nI 52) 222 := vp_in_nI (by decide) (by decide)
          simp only [↓s188_0, ↓s188_1, ↓s188_2, ↓s188_3, ↓s188_6, ↓s188_9, ↓s188_12, ↓s188_13, ↓s188_16, ↓s188_19, ↓s188_20, ↓s188_21, ↓s188_22, ↓s188_25, ↓s188_27, ↓s188_28, ↓s188_31, ↓s188_33, ↓s188_34, ↓s188_35, ↓s188_37, ↓s188_38, ↓s188_41, ↓s188_42, ↓s188_46, ↓s188_47, ↓s188_50, ↓s188_52, ↓s188_55, ↓s188_56, ↓s188_59, ↓s188_60, ↓s188_62, ↓s188_64, ↓s188_66, ↓s188_67, ↓s188_70, ↓s188_71, ↓s188_73, ↓s188_75, ↓s188_76, ↓s188_79, ↓s188_81, ↓s188_82, ↓s188_83, ↓s188_85, ↓s188_86, ↓s188_88, ↓s188_89, ↓s188_90, ↓s188_91, ↓s188_93, ↓s188_94, ↓s188_97, ↓s188_98, ↓s188_101, ↓s188_104, ↓s188_105, ↓s188_107, ↓s188_108, ↓s188_109, ↓s188_112, ↓s188_113, ↓s188_115, ↓s188_116, ↓s188_118, ↓s188_120, ↓s188_121, ↓s188_123, ↓s188_124, ↓s188_127, ↓s188_128, ↓s188_129, ↓s188_132, ↓s188_135, ↓s188_138, ↓s188_139, ↓s188_142, ↓s188_143, ↓s188_146, ↓s188_149, ↓s188_150, ↓s188_153, ↓hrj, ↓R_isPart, kNLn, kNLi, kNLr, va_rf_s, kOl_n, kOl_s, kap_n, kap_c, kb0, kb1, kbif, zif, z0, z1, Bool.false_eq_true, eq_self, not_true_eq_false, not_false_eq_true, if_true, if_false, and_self, true_and, false_and, and_true, and_false, e, ki_83, ki_84, kl_84, mr_83_0, c52, v52, h4]
      · obtain ⟨n, hn, rfl⟩ := gin_of c.1 (by decide)
        have hl0 : ¬ nI (S.1 0 4) = 0 := fun z => l0 (by rw [kz (by omega)] at z; exact z)
        have step : ∀ (U : tT) (s : Int32), U 0 4 = S.1 0 4 → gotN (sdI s) % S.1 0 4 < U 0 4 := fun U s eU => by rw [eU]; exact Nat.mod_lt _ (by omega)
        refine bB_w hg (gdri (tdriF n x S.1 0) z) (fun mi ml Q h hQ => ?_) (fun mi ml Q h hQ => ?_)
        · have hgt : 0 < nI (S.1 0 4) := by
            have : nI 0 < nI (S.1 0 4) := Int32.not_le.mp (nI_ge (by omega) (by omega))
            exact this
          simp only [↓s82_0, ↓s82_1, ↓s82_2, ↓s82_4, ↓s82_7, ↓s82_10, ↓s82_11, ↓s82_12, ↓s82_13, ↓s82_16, ↓s82_19, ↓s82_20, ↓s82_21, ↓s82_22, ↓s82_25, ↓s82_28, ↓s82_31, ↓s82_33, ↓s82_34, ↓s82_35, ↓s82_38, ↓s82_39, ↓s82_42, ↓s82_45, ↓s82_46, ↓s82_48, ↓s82_49, ↓s82_51, ↓s82_52, ↓s82_56, ↓s82_57, ↓s82_60, ↓s82_62, ↓s82_64, ↓s82_65, ↓s82_68, ↓s82_69, ↓s82_71, ↓s82_73, ↓s82_75, ↓s82_76, ↓s82_79, ↓s82_80, ↓s82_82, ↓s82_83, ↓s82_86, ↓s82_88, ↓s82_89, ↓s82_92, ↓s82_95, ↓s82_96, ↓s82_98, ↓s82_100, ↓s82_101, ↓s82_103, ↓s82_104, ↓s82_107, ↓s82_108, ↓s82_111, ↓s82_114, ↓s82_116, ↓s82_117, ↓s82_120, ↓s82_121, ↓s82_124, ↓s82_126, ↓s82_127, ↓s82_130, ↓s82_133, ↓s82_135, ↓s82_136, ↓s82_137, ↓s82_139, ↓s82_142, ↓s82_145, ↓s82_146, ↓s82_149, ↓s82_150, ↓s82_153, ↓s82_156, ↓s82_159, ↓s82_161, ↓hwj, ↓J_w1, kNLn, kNLi, kNLr, va_rf_s, kOl_n, kOl_s, kap_n, kap_c, kb0, kb1, kbif, zif, z0, z1, Bool.false_eq_true, eq_self, not_true_eq_false, not_false_eq_true, if_true, if_false, and_self, true_and, false_and, and_true, and_false, e, ki_0, ki_1, ki_14, mr_0_0, mr_0_1, h.1.1.2.1, hgt]
          refine C_copy_14_1 h.1 ho (fun mi0 h0 f0 => ?_)
          simp only [↓s82_0, ↓s82_1, ↓s82_2, ↓s82_4, ↓s82_7, ↓s82_10, ↓s82_11, ↓s82_12, ↓s82_13, ↓s82_16, ↓s82_19, ↓s82_20, ↓s82_21, ↓s82_22, ↓s82_25, ↓s82_28, ↓s82_31, ↓s82_33, ↓s82_34, ↓s82_35, ↓s82_38, ↓s82_39, ↓s82_42, ↓s82_45, ↓s82_46, ↓s82_48, ↓s82_49, ↓s82_51, ↓s82_52, ↓s82_56, ↓s82_57, ↓s82_60, ↓s82_62, ↓s82_64, ↓s82_65, ↓s82_68, ↓s82_69, ↓s82_71, ↓s82_73, ↓s82_75, ↓s82_76, ↓s82_79, ↓s82_80, ↓s82_82, ↓s82_83, ↓s82_86, ↓s82_88, ↓s82_89, ↓s82_92, ↓s82_95, ↓s82_96, ↓s82_98, ↓s82_100, ↓s82_101, ↓s82_103, ↓s82_104, ↓s82_107, ↓s82_108, ↓s82_111, ↓s82_114, ↓s82_116, ↓s82_117, ↓s82_120, ↓s82_121, ↓s82_124, ↓s82_126, ↓s82_127, ↓s82_130, ↓s82_133, ↓s82_135, ↓s82_136, ↓s82_137, ↓s82_139, ↓s82_142, ↓s82_145, ↓s82_146, ↓s82_149, ↓s82_150, ↓s82_153, ↓s82_156, ↓s82_159, ↓s82_161, kNLn, kNLi, kNLr, va_rf_s, kOl_n, kOl_s, kap_n, kap_c, kb0, kb1, kbif]
          have loop : ∀ (k d cm : Nat) (s : Int32) (U : tT) (mi1 : Nat → Nat → Int32) (l7 l8 : Option Value), d + k = n → kNL l7 = true → tOK U → U 0 12 + k < 1999 → U 0 4 = S.1 0 4 → tdriF k s U cm = tdriF n x S.1 0 → kCR 14 U mi1 → wC mi mi1 → kJ 82 54 [some (.ref 0), some (.int x), some (.int (nI n)), some (.int z), some (.int (nI cm)), some (.int s), some (.int (nI d)), l7, l8] [] (mi1, ml, MR, 95) Q := by
            intro k
            induction k with
            | zero =>
              intro d cm s U mi1 l7 l8 hk h7 oU dU eU eF hU fU
              have hge : nI n ≤ nI d := nI_le (by omega) (by omega)
              have h9 := hQ mi1 fU
              rw [← eF] at h9
              rw [s82_54]
              simp only [↓s82_0, ↓s82_1, ↓s82_2, ↓s82_4, ↓s82_7, ↓s82_10, ↓s82_11, ↓s82_12, ↓s82_13, ↓s82_16, ↓s82_19, ↓s82_20, ↓s82_21, ↓s82_22, ↓s82_25, ↓s82_28, ↓s82_31, ↓s82_33, ↓s82_34, ↓s82_35, ↓s82_38, ↓s82_39, ↓s82_42, ↓s82_45, ↓s82_46, ↓s82_48, ↓s82_49, ↓s82_51, ↓s82_52, ↓s82_56, ↓s82_57, ↓s82_60, ↓s82_62, ↓s82_64, ↓s82_65, ↓s82_68, ↓s82_69, ↓s82_71, ↓s82_73, ↓s82_75, ↓s82_76, ↓s82_79, ↓s82_80, ↓s82_82, ↓s82_83, ↓s82_86, ↓s82_88, ↓s82_89, ↓s82_92, ↓s82_95, ↓s82_96, ↓s82_98, ↓s82_100, ↓s82_101, ↓s82_103, ↓s82_104, ↓s82_107, ↓s82_108, ↓s82_111, ↓s82_114, ↓s82_116, ↓s82_117, ↓s82_120, ↓s82_121, ↓s82_124, ↓s82_126, ↓s82_127, ↓s82_130, ↓s82_133, ↓s82_135, ↓s82_136, ↓s82_137, ↓s82_139, ↓s82_142, ↓s82_145, ↓s82_146, ↓s82_149, ↓s82_150, ↓s82_153, ↓s82_156, ↓s82_159, ↓s82_161, ↓J_moods kPost_14 hU oU, kNLn, kNLi, kNLr, va_rf_s, kOl_n, kOl_s, kap_n, kap_c, kb0, kb1, kbif, zif, z0, z1, Bool.false_eq_true, eq_self, not_true_eq_false, not_false_eq_true, if_true, if_false, and_self, true_and, false_and, and_true, and_false, ki_0, ki_14, mr_0_1, hge]
              simp only [gdri, tdriF, qif] at h9
              exact h9
            | succ k ih =>
              intro d cm s U mi1 l7 l8 hk h7 oU dU eU eF hU fU
              have hlt : ¬ nI n ≤ nI d := nI_ge (by omega) (by omega)
              have h11 := kCR1_w h.1 fU
              have hil := step U s eU
              have hg32 := got_lt (sdI s)
              have hid : ush (s * 1103515245 + nI 12345) (nI 16) &&& nI 32767 = nI (gotN (sdI s)) := got_nI (sdI s)
              have hid2 : ((s * 1103515245 + nI 12345).toUInt32 >>> ((nI 16).toUInt32 &&& Int32.toUInt32 31)).toInt32 &&& nI 32767 = nI (gotN (sdI s)) := hid
              have hrm := pk_rem (a := gotN (sdI s)) (d := S.1 0 4) (by omega) (by omega) (by omega)
              have hdv := pk_div (a := gotN (sdI s)) (d := 8) (by omega) (by decide) (by decide)
              have hr2 := pk_rem (a := gotN (sdI s) / 8) (d := 19) (by omega) (by decide) (by decide)
              have r4 : mi1 (14 + 4) (gotN (sdI s) % S.1 0 4) = nI (U 4 (gotN (sdI s) % S.1 0 4)) := kCR_row hU (r := 4) (by omega) (by omega) (by rw [tcnt_l (by omega) (by omega)]; exact hil)
              have hfr := (oU.2.2.2.2.2.2.1 _ hil).1
              have o5 := oU.1
              have eU1 : tdriU s U = tagain U (gotN (sdI s) % S.1 0 4) (gotN (sdI s) / 8 % 19) := by unfold tdriU; rw [eU]
              have hw : ∀ Q', kJ 13 0 [some (.ref 14), some (.int (nI (gotN (sdI s) % S.1 0 4))), some (.int (nI (gotN (sdI s) / 8 % 19)))] [] (mi1, ml, MR, 95) Q' = Q' none (kWA 14 (gotN (sdI s) % S.1 0 4) (U 4 (gotN (sdI s) % S.1 0 4)) (nI (gotN (sdI s) / 8 % 19)) mi1, ml, MR, 95) := fun Q' => J_again kPost_14 (by omega) (by omega) r4
              have h2 := kCR_again (t := gotN (sdI s) / 8 % 19) hU oU hil
              have oA : tOK (tdriU s U) := tdriU_ok oU (by omega)
              rw [← eU1] at h2
              have dA : tdriU s U 0 12 = U 0 12 := tagain_0
              have lA : tdriU s U 0 4 = U 0 4 := tagain_0
              rw [s82_54]
              simp only [↓s82_0, ↓s82_1, ↓s82_2, ↓s82_4, ↓s82_7, ↓s82_10, ↓s82_11, ↓s82_12, ↓s82_13, ↓s82_16, ↓s82_19, ↓s82_20, ↓s82_21, ↓s82_22, ↓s82_25, ↓s82_28, ↓s82_31, ↓s82_33, ↓s82_34, ↓s82_35, ↓s82_38, ↓s82_39, ↓s82_42, ↓s82_45, ↓s82_46, ↓s82_48, ↓s82_49, ↓s82_51, ↓s82_52, ↓s82_56, ↓s82_57, ↓s82_60, ↓s82_62, ↓s82_64, ↓s82_65, ↓s82_68, ↓s82_69, ↓s82_71, ↓s82_73, ↓s82_75, ↓s82_76, ↓s82_79, ↓s82_80, ↓s82_82, ↓s82_83, ↓s82_86, ↓s82_88, ↓s82_89, ↓s82_92, ↓s82_95, ↓s82_96, ↓s82_98, ↓s82_100, ↓s82_101, ↓s82_103, ↓s82_104, ↓s82_107, ↓s82_108, ↓s82_111, ↓s82_114, ↓s82_116, ↓s82_117, ↓s82_120, ↓s82_121, ↓s82_124, ↓s82_126, ↓s82_127, ↓s82_130, ↓s82_133, ↓s82_135, ↓s82_136, ↓s82_137, ↓s82_139, ↓s82_142, ↓s82_145, ↓s82_146, ↓s82_149, ↓s82_150, ↓s82_153, ↓s82_156, ↓s82_159, ↓s82_161, ↓hw, ↓J_came kPost_14 h2 oA, kNLn, kNLi, kNLr, va_rf_s, kOl_n, kOl_s, kap_n, kap_c, kb0, kb1, kbif, zif, z0, z1, Bool.false_eq_true, eq_self, not_true_eq_false, not_false_eq_true, if_true, if_false, and_self, true_and, false_and, and_true, and_false, h7, ki_0, ki_1, ki_14, mr_0_0, mr_0_1, hlt, h11.1.2.1, hid2, hl0, n8, n19, hrm, hdv, hr2]
              refine J_pass kPost_14 h2 oA (by decide) (fun mi3 h3 f3 => ?_)
              have o3 : tOK (tpass 1 (tdriU s U)) := tpass_ok oA (by omega)
              simp only [↓s82_0, ↓s82_1, ↓s82_2, ↓s82_4, ↓s82_7, ↓s82_10, ↓s82_11, ↓s82_12, ↓s82_13, ↓s82_16, ↓s82_19, ↓s82_20, ↓s82_21, ↓s82_22, ↓s82_25, ↓s82_28, ↓s82_31, ↓s82_33, ↓s82_34, ↓s82_35, ↓s82_38, ↓s82_39, ↓s82_42, ↓s82_45, ↓s82_46, ↓s82_48, ↓s82_49, ↓s82_51, ↓s82_52, ↓s82_56, ↓s82_57, ↓s82_60, ↓s82_62, ↓s82_64, ↓s82_65, ↓s82_68, ↓s82_69, ↓s82_71, ↓s82_73, ↓s82_75, ↓s82_76, ↓s82_79, ↓s82_80, ↓s82_82, ↓s82_83, ↓s82_86, ↓s82_88, ↓s82_89, ↓s82_92, ↓s82_95, ↓s82_96, ↓s82_98, ↓s82_100, ↓s82_101, ↓s82_103, ↓s82_104, ↓s82_107, ↓s82_108, ↓s82_111, ↓s82_114, ↓s82_116, ↓s82_117, ↓s82_120, ↓s82_121, ↓s82_124, ↓s82_126, ↓s82_127, ↓s82_130, ↓s82_133, ↓s82_135, ↓s82_136, ↓s82_137, ↓s82_139, ↓s82_142, ↓s82_145, ↓s82_146, ↓s82_149, ↓s82_150, ↓s82_153, ↓s82_156, ↓s82_159, ↓s82_161, ↓J_came kPost_14 h3 o3, kNLn, kNLi, kNLr, va_rf_s, kOl_n, kOl_s, kap_n, kap_c, kb0, kb1, kbif, ki_0, ki_14, mr_0_1, tcam_pass oA, nI_sub, nI_add]
              exact ih (d + 1) _ _ (tD (tdriU s U)) mi3 _ _ (by omega) rfl o3 (by rw [tD_12]; omega) ((tD_n oA (by omega) (by omega)).trans (lA.trans eU)) eF h3 (wC_tr fU (wC_tr (wC_14 kFr_again) (wC_14 f3)))
          exact loop n 0 0 x S.1 mi0 none none (by omega) rfl ho (by omega) rfl rfl h0 (wC_14 f0)
        · have hne : ¬ nI (S.1 0 4) = 0 := hl0
          have c52 : (nI 52).toNatClampNeg = 52 := rfl
          have v52 : vp_in (nI 52) 222 := vp_in_nI (by decide) (by decide)
          simp only [↓s188_0, ↓s188_1, ↓s188_2, ↓s188_3, ↓s188_6, ↓s188_9, ↓s188_12, ↓s188_13, ↓s188_16, ↓s188_19, ↓s188_20, ↓s188_21, ↓s188_22, ↓s188_25, ↓s188_27, ↓s188_28, ↓s188_31, ↓s188_33, ↓s188_34, ↓s188_35, ↓s188_37, ↓s188_38, ↓s188_41, ↓s188_42, ↓s188_46, ↓s188_47, ↓s188_50, ↓s188_52, ↓s188_55, ↓s188_56, ↓s188_59, ↓s188_60, ↓s188_62, ↓s188_64, ↓s188_66, ↓s188_67, ↓s188_70, ↓s188_71, ↓s188_73, ↓s188_75, ↓s188_76, ↓s188_79, ↓s188_81, ↓s188_82, ↓s188_83, ↓s188_85, ↓s188_86, ↓s188_88, ↓s188_89, ↓s188_90, ↓s188_91, ↓s188_93, ↓s188_94, ↓s188_97, ↓s188_98, ↓s188_101, ↓s188_104, ↓s188_105, ↓s188_107, ↓s188_108, ↓s188_109, ↓s188_112, ↓s188_113, ↓s188_115, ↓s188_116, ↓s188_118, ↓s188_120, ↓s188_121, ↓s188_123, ↓s188_124, ↓s188_127, ↓s188_128, ↓s188_129, ↓s188_132, ↓s188_135, ↓s188_138, ↓s188_139, ↓s188_142, ↓s188_143, ↓s188_146, ↓s188_149, ↓s188_150, ↓s188_153, ↓hrj, ↓R_isPart, kNLn, kNLi, kNLr, va_rf_s, kOl_n, kOl_s, kap_n, kap_c, kb0, kb1, kbif, zif, z0, z1, Bool.false_eq_true, eq_self, not_true_eq_false, not_false_eq_true, if_true, if_false, and_self, true_and, false_and, and_true, and_false, e, ki_83, ki_84, kl_84, mr_83_0, c52, v52, h.1.1.2.1, hne]
          refine R_startsT h.1 ho (fun mi0 h0 f0 => ?_)
          simp only [↓s188_0, ↓s188_1, ↓s188_2, ↓s188_3, ↓s188_6, ↓s188_9, ↓s188_12, ↓s188_13, ↓s188_16, ↓s188_19, ↓s188_20, ↓s188_21, ↓s188_22, ↓s188_25, ↓s188_27, ↓s188_28, ↓s188_31, ↓s188_33, ↓s188_34, ↓s188_35, ↓s188_37, ↓s188_38, ↓s188_41, ↓s188_42, ↓s188_46, ↓s188_47, ↓s188_50, ↓s188_52, ↓s188_55, ↓s188_56, ↓s188_59, ↓s188_60, ↓s188_62, ↓s188_64, ↓s188_66, ↓s188_67, ↓s188_70, ↓s188_71, ↓s188_73, ↓s188_75, ↓s188_76, ↓s188_79, ↓s188_81, ↓s188_82, ↓s188_83, ↓s188_85, ↓s188_86, ↓s188_88, ↓s188_89, ↓s188_90, ↓s188_91, ↓s188_93, ↓s188_94, ↓s188_97, ↓s188_98, ↓s188_101, ↓s188_104, ↓s188_105, ↓s188_107, ↓s188_108, ↓s188_109, ↓s188_112, ↓s188_113, ↓s188_115, ↓s188_116, ↓s188_118, ↓s188_120, ↓s188_121, ↓s188_123, ↓s188_124, ↓s188_127, ↓s188_128, ↓s188_129, ↓s188_132, ↓s188_135, ↓s188_138, ↓s188_139, ↓s188_142, ↓s188_143, ↓s188_146, ↓s188_149, ↓s188_150, ↓s188_153, kNLn, kNLi, kNLr, va_rf_s, kOl_n, kOl_s, kap_n, kap_c, kb0, kb1, kbif]
          have loop : ∀ (k d cm B : Nat) (s : Int32) (U : tT) (mi1 : Nat → Nat → Int32) (l6 l7 : Option Value), d + k = n → kNL l6 = true → tOK U → U 0 12 + k < 1999 → U 0 4 = S.1 0 4 → tdriF k s U cm = tdriF n x S.1 0 → kRM mi1 U cm B → kFq mi mi1 → kJ 188 44 [some (.ref 83), some (.int x), some (.int (nI n)), some (.int z), some (.int s), some (.int (nI d)), l6, l7] [] (mi1, ml, MR, 95) Q := by
            intro k
            induction k with
            | zero =>
              intro d cm B s U mi1 l6 l7 hk h6 oU dU eU eF hU fU
              have hge : nI n ≤ nI d := nI_le (by omega) (by omega)
              have h9 := hQ mi1 (wR_q fU)
              rw [← eF] at h9
              rw [s188_44]
              simp only [↓s188_0, ↓s188_1, ↓s188_2, ↓s188_3, ↓s188_6, ↓s188_9, ↓s188_12, ↓s188_13, ↓s188_16, ↓s188_19, ↓s188_20, ↓s188_21, ↓s188_22, ↓s188_25, ↓s188_27, ↓s188_28, ↓s188_31, ↓s188_33, ↓s188_34, ↓s188_35, ↓s188_37, ↓s188_38, ↓s188_41, ↓s188_42, ↓s188_46, ↓s188_47, ↓s188_50, ↓s188_52, ↓s188_55, ↓s188_56, ↓s188_59, ↓s188_60, ↓s188_62, ↓s188_64, ↓s188_66, ↓s188_67, ↓s188_70, ↓s188_71, ↓s188_73, ↓s188_75, ↓s188_76, ↓s188_79, ↓s188_81, ↓s188_82, ↓s188_83, ↓s188_85, ↓s188_86, ↓s188_88, ↓s188_89, ↓s188_90, ↓s188_91, ↓s188_93, ↓s188_94, ↓s188_97, ↓s188_98, ↓s188_101, ↓s188_104, ↓s188_105, ↓s188_107, ↓s188_108, ↓s188_109, ↓s188_112, ↓s188_113, ↓s188_115, ↓s188_116, ↓s188_118, ↓s188_120, ↓s188_121, ↓s188_123, ↓s188_124, ↓s188_127, ↓s188_128, ↓s188_129, ↓s188_132, ↓s188_135, ↓s188_138, ↓s188_139, ↓s188_142, ↓s188_143, ↓s188_146, ↓s188_149, ↓s188_150, ↓s188_153, ↓R_moods hU.1 oU, kNLn, kNLi, kNLr, va_rf_s, kOl_n, kOl_s, kap_n, kap_c, kb0, kb1, kbif, zif, z0, z1, Bool.false_eq_true, eq_self, not_true_eq_false, not_false_eq_true, if_true, if_false, and_self, true_and, false_and, and_true, and_false, ki_83, hge, hU.2.1]
              simp only [gdri, tdriF, qif] at h9
              exact h9
            | succ k ih =>
              intro d cm B s U mi1 l6 l7 hk h6 oU dU eU eF hU fU
              have hlt : ¬ nI n ≤ nI d := nI_ge (by omega) (by omega)
              have h84 : kRR (mi1 84) S.1 := by rw [fU.1 84 (by omega) (by omega)]; exact h.1
              have hil := step U s eU
              have hg32 := got_lt (sdI s)
              have hid : ((s * 1103515245 + nI 12345) >>> (nI 16 &&& 31)) &&& nI 32767 = nI (gotN (sdI s)) := (got_sh (sdI s)).trans (got_nI (sdI s))
              have hrm := pk_rem (a := gotN (sdI s)) (d := S.1 0 4) (by omega) (by omega) (by omega)
              have hdv := pk_div (a := gotN (sdI s)) (d := 8) (by omega) (by decide) (by decide)
              have hr2 := pk_rem (a := gotN (sdI s) / 8) (d := 19) (by omega) (by decide) (by decide)
              have hfr := (oU.2.2.2.2.2.2.1 _ hil).1
              have eU1 : tdriU s U = tagain U (gotN (sdI s) % S.1 0 4) (gotN (sdI s) / 8 % 19) := by unfold tdriU; rw [eU]
              have oA : tOK (tdriU s U) := tdriU_ok oU (by omega)
              have dA : tdriU s U 0 12 = U 0 12 := tagain_0
              have lA : tdriU s U 0 4 = U 0 4 := tagain_0
              have g0 : ∀ Q', kJ 134 0 [some (.ref 83), some (.int (nI (gotN (sdI s) % S.1 0 4))), some (.int (nI 0))] [] (mi1, ml, MR, 95) Q' = Q' (some (.int (nI (U 4 (gotN (sdI s) % S.1 0 4))))) (mi1, ml, MR, 95) := fun Q' => R_ofL hU.1 oU hil (w := 0) (by decide)
              have g1 : ∀ Q', kJ 132 0 [some (.ref 83), some (.int (nI (U 4 (gotN (sdI s) % S.1 0 4)))), some (.int (nI 1))] [] (mi1, ml, MR, 95) Q' = Q' (some (.int (nI (U 2 (U 4 (gotN (sdI s) % S.1 0 4)))))) (mi1, ml, MR, 95) := fun Q' => R_of hU.1 oU hfr (w := 1) (by decide)
              have s4 : ∀ (mi1 : Nat → Nat → Int32) (v : Int32) Q', kJ 135 0 [some (.ref 83), some (.int (nI (gotN (sdI s) % S.1 0 4))), some (.int (nI 4)), some (.int v)] [] (mi1, ml, MR, 95) Q' = Q' none (kup mi1 85 (16 + 6 * (gotN (sdI s) % S.1 0 4) + 4) v, ml, MR, 95) := fun mi1 v Q' => R_setL (by omega) (by decide)
              have s5 : ∀ (mi1 : Nat → Nat → Int32) (v : Int32) Q', kJ 135 0 [some (.ref 83), some (.int (nI (gotN (sdI s) % S.1 0 4))), some (.int (nI 5)), some (.int v)] [] (mi1, ml, MR, 95) Q' = Q' none (kup mi1 85 (16 + 6 * (gotN (sdI s) % S.1 0 4) + 5) v, ml, MR, 95) := fun mi1 v Q' => R_setL (by omega) (by decide)
              have s3 : ∀ (mi1 : Nat → Nat → Int32) (v : Int32) Q', kJ 135 0 [some (.ref 83), some (.int (nI (gotN (sdI s) % S.1 0 4))), some (.int (nI 3)), some (.int v)] [] (mi1, ml, MR, 95) Q' = Q' none (kup mi1 85 (16 + 6 * (gotN (sdI s) % S.1 0 4) + 3) v, ml, MR, 95) := fun mi1 v Q' => R_setL (by omega) (by decide)
              have a1 := kRR_upL (v := U 2 (U 4 (gotN (sdI s) % S.1 0 4))) oU hU.1 hil (w := 4) (by decide)
              have b1 : tOK (tup U 8 (gotN (sdI s) % S.1 0 4) (U 2 (U 4 (gotN (sdI s) % S.1 0 4)))) := tOK_upL oU (Or.inr (Or.inl ⟨rfl, (oU.2.2.2.2.2.1 _ hfr).2.1⟩))
              have a2 := kRR_upL (v := 0) b1 a1 (i := gotN (sdI s) % S.1 0 4) (w := 5) (by rw [tup_n (by omega)]; exact hil) (by decide)
              have b2 : tOK (tup (tup U 8 (gotN (sdI s) % S.1 0 4) (U 2 (U 4 (gotN (sdI s) % S.1 0 4)))) 9 (gotN (sdI s) % S.1 0 4) 0) := tOK_upL b1 (by omega)
              have a3 := kRR_upL (v := gotN (sdI s) / 8 % 19) b2 a2 (i := gotN (sdI s) % S.1 0 4) (w := 3) (by rw [tup_n (by omega), tup_n (by omega)]; exact hil) (by decide)
              have a4 := kRR_eq (U := tdriU s U) (fun r k => by rw [eU1]; exact tagain_r r k) a3
              rw [s188_44]
              simp only [↓s188_0, ↓s188_1, ↓s188_2, ↓s188_3, ↓s188_6, ↓s188_9, ↓s188_12, ↓s188_13, ↓s188_16, ↓s188_19, ↓s188_20, ↓s188_21, ↓s188_22, ↓s188_25, ↓s188_27, ↓s188_28, ↓s188_31, ↓s188_33, ↓s188_34, ↓s188_35, ↓s188_37, ↓s188_38, ↓s188_41, ↓s188_42, ↓s188_46, ↓s188_47, ↓s188_50, ↓s188_52, ↓s188_55, ↓s188_56, ↓s188_59, ↓s188_60, ↓s188_62, ↓s188_64, ↓s188_66, ↓s188_67, ↓s188_70, ↓s188_71, ↓s188_73, ↓s188_75, ↓s188_76, ↓s188_79, ↓s188_81, ↓s188_82, ↓s188_83, ↓s188_85, ↓s188_86, ↓s188_88, ↓s188_89, ↓s188_90, ↓s188_91, ↓s188_93, ↓s188_94, ↓s188_97, ↓s188_98, ↓s188_101, ↓s188_104, ↓s188_105, ↓s188_107, ↓s188_108, ↓s188_109, ↓s188_112, ↓s188_113, ↓s188_115, ↓s188_116, ↓s188_118, ↓s188_120, ↓s188_121, ↓s188_123, ↓s188_124, ↓s188_127, ↓s188_128, ↓s188_129, ↓s188_132, ↓s188_135, ↓s188_138, ↓s188_139, ↓s188_142, ↓s188_143, ↓s188_146, ↓s188_149, ↓s188_150, ↓s188_153, ↓g0, ↓g1, ↓s4, ↓s5, ↓s3, kNLn, kNLi, kNLr, va_rf_s, kOl_n, kOl_s, kap_n, kap_c, kb0, kb1, kbif, zif, z0, z1, Bool.false_eq_true, eq_self, not_true_eq_false, not_false_eq_true, if_true, if_false, and_self, true_and, false_and, and_true, and_false, h6, ki_83, ki_84, kl_84, mr_83_0, c52, v52, hlt, h84.1.2.1, hid, hl0, n8, n19, hrm, hdv, hr2]
              refine R_day (T := tdriU s U) (A := cm) (B := B) ⟨?_, ?_, ?_⟩ oA (by omega) (fun mi3 h3 f3 => ?_)
              · rw [kup_eq, kup_eq, kup_eq]; exact a4
              · rw [kup_ne (by decide), kup_ne (by decide), kup_ne (by decide)]; exact hU.2.1
              · rw [kup_ne (by decide), kup_ne (by decide), kup_ne (by decide)]; exact hU.2.2
              · simp only [↓s188_0, ↓s188_1, ↓s188_2, ↓s188_3, ↓s188_6, ↓s188_9, ↓s188_12, ↓s188_13, ↓s188_16, ↓s188_19, ↓s188_20, ↓s188_21, ↓s188_22, ↓s188_25, ↓s188_27, ↓s188_28, ↓s188_31, ↓s188_33, ↓s188_34, ↓s188_35, ↓s188_37, ↓s188_38, ↓s188_41, ↓s188_42, ↓s188_46, ↓s188_47, ↓s188_50, ↓s188_52, ↓s188_55, ↓s188_56, ↓s188_59, ↓s188_60, ↓s188_62, ↓s188_64, ↓s188_66, ↓s188_67, ↓s188_70, ↓s188_71, ↓s188_73, ↓s188_75, ↓s188_76, ↓s188_79, ↓s188_81, ↓s188_82, ↓s188_83, ↓s188_85, ↓s188_86, ↓s188_88, ↓s188_89, ↓s188_90, ↓s188_91, ↓s188_93, ↓s188_94, ↓s188_97, ↓s188_98, ↓s188_101, ↓s188_104, ↓s188_105, ↓s188_107, ↓s188_108, ↓s188_109, ↓s188_112, ↓s188_113, ↓s188_115, ↓s188_116, ↓s188_118, ↓s188_120, ↓s188_121, ↓s188_123, ↓s188_124, ↓s188_127, ↓s188_128, ↓s188_129, ↓s188_132, ↓s188_135, ↓s188_138, ↓s188_139, ↓s188_142, ↓s188_143, ↓s188_146, ↓s188_149, ↓s188_150, ↓s188_153, kNLn, kNLi, kNLr, va_rf_s, kOl_n, kOl_s, kap_n, kap_c, kb0, kb1, kbif, nI_add]
                exact ih (d + 1) _ _ _ (tD (tdriU s U)) mi3 _ _ (by omega) rfl (tD_ok oA (by omega)) (by rw [tD_12]; omega) ((tD_n oA (by omega) (by omega)).trans (lA.trans eU)) eF h3 (kFq_tr fU (kFq_tr (kFq_up (kFq_up (kFq_up kFq_rf))) f3))
          exact loop n 0 0 0 x S.1 mi0 none none (by omega) rfl ho (by omega) rfl rfl h0 f0
    · refine bB_e hg (-1) (fun mi ml Q h => ?_) (fun mi ml Q h => ?_)
      · simp only [↓s82_0, ↓s82_1, ↓s82_2, ↓s82_4, ↓s82_7, ↓s82_10, ↓s82_11, ↓s82_12, ↓s82_13, ↓s82_16, ↓s82_19, ↓s82_20, ↓s82_21, ↓s82_22, ↓s82_25, ↓s82_28, ↓s82_31, ↓s82_33, ↓s82_34, ↓s82_35, ↓s82_38, ↓s82_39, ↓s82_42, ↓s82_45, ↓s82_46, ↓s82_48, ↓s82_49, ↓s82_51, ↓s82_52, ↓s82_56, ↓s82_57, ↓s82_60, ↓s82_62, ↓s82_64, ↓s82_65, ↓s82_68, ↓s82_69, ↓s82_71, ↓s82_73, ↓s82_75, ↓s82_76, ↓s82_79, ↓s82_80, ↓s82_82, ↓s82_83, ↓s82_86, ↓s82_88, ↓s82_89, ↓s82_92, ↓s82_95, ↓s82_96, ↓s82_98, ↓s82_100, ↓s82_101, ↓s82_103, ↓s82_104, ↓s82_107, ↓s82_108, ↓s82_111, ↓s82_114, ↓s82_116, ↓s82_117, ↓s82_120, ↓s82_121, ↓s82_124, ↓s82_126, ↓s82_127, ↓s82_130, ↓s82_133, ↓s82_135, ↓s82_136, ↓s82_137, ↓s82_139, ↓s82_142, ↓s82_145, ↓s82_146, ↓s82_149, ↓s82_150, ↓s82_153, ↓s82_156, ↓s82_159, ↓s82_161, ↓hwj, ↓J_w1, kNLn, kNLi, kNLr, va_rf_s, kOl_n, kOl_s, kap_n, kap_c, kb0, kb1, kbif, zif, z0, z1, Bool.false_eq_true, eq_self, not_true_eq_false, not_false_eq_true, if_true, if_false, and_self, true_and, false_and, and_true, and_false, e]
      · simp only [↓s188_0, ↓s188_1, ↓s188_2, ↓s188_3, ↓s188_6, ↓s188_9, ↓s188_12, ↓s188_13, ↓s188_16, ↓s188_19, ↓s188_20, ↓s188_21, ↓s188_22, ↓s188_25, ↓s188_27, ↓s188_28, ↓s188_31, ↓s188_33, ↓s188_34, ↓s188_35, ↓s188_37, ↓s188_38, ↓s188_41, ↓s188_42, ↓s188_46, ↓s188_47, ↓s188_50, ↓s188_52, ↓s188_55, ↓s188_56, ↓s188_59, ↓s188_60, ↓s188_62, ↓s188_64, ↓s188_66, ↓s188_67, ↓s188_70, ↓s188_71, ↓s188_73, ↓s188_75, ↓s188_76, ↓s188_79, ↓s188_81, ↓s188_82, ↓s188_83, ↓s188_85, ↓s188_86, ↓s188_88, ↓s188_89, ↓s188_90, ↓s188_91, ↓s188_93, ↓s188_94, ↓s188_97, ↓s188_98, ↓s188_101, ↓s188_104, ↓s188_105, ↓s188_107, ↓s188_108, ↓s188_109, ↓s188_112, ↓s188_113, ↓s188_115, ↓s188_116, ↓s188_118, ↓s188_120, ↓s188_121, ↓s188_123, ↓s188_124, ↓s188_127, ↓s188_128, ↓s188_129, ↓s188_132, ↓s188_135, ↓s188_138, ↓s188_139, ↓s188_142, ↓s188_143, ↓s188_146, ↓s188_149, ↓s188_150, ↓s188_153, ↓hrj, ↓R_isPart, kNLn, kNLi, kNLr, va_rf_s, kOl_n, kOl_s, kap_n, kap_c, kb0, kb1, kbif, zif, z0, z1, Bool.false_eq_true, eq_self, not_true_eq_false, not_false_eq_true, if_true, if_false, and_self, true_and, false_and, and_true, and_false, e]
  · have hcw : ¬ (nI 1 ≤ y ∧ y ≤ nI 60) := by rw [gin_w1 (by decide)]; exact c
    have hwj : ∀ (m : kMem) Q', kJ 90 0 [some (.int y), some (.int (nI 1)), some (.int (nI 60))] [] m Q' = Q' (some (.int (nI 0))) m := fun m Q' => by rw [J_within, if_neg hcw]
    have hrj : ∀ (m : kMem) Q', kJ 107 0 [some (.long y.toInt64), none, some (.long 1), none, some (.long 60), none] [] m Q' = Q' (some (.int (nI 0))) m := fun m Q' => by rw [R_in]; simp only [gin_r1 e60]; rw [if_neg c]
    refine bB_e hg (-1) (fun mi ml Q h => ?_) (fun mi ml Q h => ?_)
    · simp only [↓s82_0, ↓s82_1, ↓s82_2, ↓s82_4, ↓s82_7, ↓s82_10, ↓s82_11, ↓s82_12, ↓s82_13, ↓s82_16, ↓s82_19, ↓s82_20, ↓s82_21, ↓s82_22, ↓s82_25, ↓s82_28, ↓s82_31, ↓s82_33, ↓s82_34, ↓s82_35, ↓s82_38, ↓s82_39, ↓s82_42, ↓s82_45, ↓s82_46, ↓s82_48, ↓s82_49, ↓s82_51, ↓s82_52, ↓s82_56, ↓s82_57, ↓s82_60, ↓s82_62, ↓s82_64, ↓s82_65, ↓s82_68, ↓s82_69, ↓s82_71, ↓s82_73, ↓s82_75, ↓s82_76, ↓s82_79, ↓s82_80, ↓s82_82, ↓s82_83, ↓s82_86, ↓s82_88, ↓s82_89, ↓s82_92, ↓s82_95, ↓s82_96, ↓s82_98, ↓s82_100, ↓s82_101, ↓s82_103, ↓s82_104, ↓s82_107, ↓s82_108, ↓s82_111, ↓s82_114, ↓s82_116, ↓s82_117, ↓s82_120, ↓s82_121, ↓s82_124, ↓s82_126, ↓s82_127, ↓s82_130, ↓s82_133, ↓s82_135, ↓s82_136, ↓s82_137, ↓s82_139, ↓s82_142, ↓s82_145, ↓s82_146, ↓s82_149, ↓s82_150, ↓s82_153, ↓s82_156, ↓s82_159, ↓s82_161, ↓hwj, kNLn, kNLi, kNLr, va_rf_s, kOl_n, kOl_s, kap_n, kap_c, kb0, kb1, kbif, zif, z0, z1, Bool.false_eq_true, eq_self, not_true_eq_false, not_false_eq_true, if_true, if_false, and_self, true_and, false_and, and_true, and_false]
    · simp only [↓s188_0, ↓s188_1, ↓s188_2, ↓s188_3, ↓s188_6, ↓s188_9, ↓s188_12, ↓s188_13, ↓s188_16, ↓s188_19, ↓s188_20, ↓s188_21, ↓s188_22, ↓s188_25, ↓s188_27, ↓s188_28, ↓s188_31, ↓s188_33, ↓s188_34, ↓s188_35, ↓s188_37, ↓s188_38, ↓s188_41, ↓s188_42, ↓s188_46, ↓s188_47, ↓s188_50, ↓s188_52, ↓s188_55, ↓s188_56, ↓s188_59, ↓s188_60, ↓s188_62, ↓s188_64, ↓s188_66, ↓s188_67, ↓s188_70, ↓s188_71, ↓s188_73, ↓s188_75, ↓s188_76, ↓s188_79, ↓s188_81, ↓s188_82, ↓s188_83, ↓s188_85, ↓s188_86, ↓s188_88, ↓s188_89, ↓s188_90, ↓s188_91, ↓s188_93, ↓s188_94, ↓s188_97, ↓s188_98, ↓s188_101, ↓s188_104, ↓s188_105, ↓s188_107, ↓s188_108, ↓s188_109, ↓s188_112, ↓s188_113, ↓s188_115, ↓s188_116, ↓s188_118, ↓s188_120, ↓s188_121, ↓s188_123, ↓s188_124, ↓s188_127, ↓s188_128, ↓s188_129, ↓s188_132, ↓s188_135, ↓s188_138, ↓s188_139, ↓s188_142, ↓s188_143, ↓s188_146, ↓s188_149, ↓s188_150, ↓s188_153, ↓hrj, kNLn, kNLi, kNLr, va_rf_s, kOl_n, kOl_s, kap_n, kap_c, kb0, kb1, kbif, zif, z0, z1, Bool.false_eq_true, eq_self, not_true_eq_false, not_false_eq_true, if_true, if_false, and_self, true_and, false_and, and_true, and_false]
end DRIFT
