/-! copies of a Post -/
theorem mr_1_1 : MR 1 1 = some 2 := by decide +kernel
theorem mr_1_2 : MR 1 2 = some 3 := by decide +kernel
theorem mr_1_3 : MR 1 3 = some 4 := by decide +kernel
theorem mr_1_5 : MR 1 5 = some 5 := by decide +kernel
theorem mr_1_6 : MR 1 6 = some 6 := by decide +kernel
theorem mr_1_7 : MR 1 7 = some 7 := by decide +kernel
theorem mr_1_8 : MR 1 8 = some 8 := by decide +kernel
theorem mr_1_9 : MR 1 9 = some 9 := by decide +kernel
theorem mr_1_10 : MR 1 10 = some 10 := by decide +kernel
theorem mr_1_14 : MR 1 14 = some 11 := by decide +kernel
theorem mr_1_15 : MR 1 15 = some 12 := by decide +kernel
theorem mr_1_16 : MR 1 16 = some 13 := by decide +kernel
theorem mr_14_1 : MR 14 1 = some 15 := by decide +kernel
theorem mr_14_2 : MR 14 2 = some 16 := by decide +kernel
theorem mr_14_3 : MR 14 3 = some 17 := by decide +kernel
theorem mr_14_5 : MR 14 5 = some 18 := by decide +kernel
theorem mr_14_6 : MR 14 6 = some 19 := by decide +kernel
theorem mr_14_7 : MR 14 7 = some 20 := by decide +kernel
theorem mr_14_8 : MR 14 8 = some 21 := by decide +kernel
theorem mr_14_9 : MR 14 9 = some 22 := by decide +kernel
theorem mr_14_10 : MR 14 10 = some 23 := by decide +kernel
theorem mr_14_14 : MR 14 14 = some 24 := by decide +kernel
theorem mr_14_15 : MR 14 15 = some 25 := by decide +kernel
theorem mr_14_16 : MR 14 16 = some 26 := by decide +kernel
theorem mr_30_1 : MR 30 1 = some 31 := by decide +kernel
theorem mr_30_2 : MR 30 2 = some 32 := by decide +kernel
theorem mr_30_3 : MR 30 3 = some 33 := by decide +kernel
theorem mr_30_5 : MR 30 5 = some 34 := by decide +kernel
theorem mr_30_6 : MR 30 6 = some 35 := by decide +kernel
theorem mr_30_7 : MR 30 7 = some 36 := by decide +kernel
theorem mr_30_8 : MR 30 8 = some 37 := by decide +kernel
theorem mr_30_9 : MR 30 9 = some 38 := by decide +kernel
theorem mr_30_10 : MR 30 10 = some 39 := by decide +kernel
theorem mr_30_14 : MR 30 14 = some 40 := by decide +kernel
theorem mr_30_15 : MR 30 15 = some 41 := by decide +kernel
theorem mr_30_16 : MR 30 16 = some 42 := by decide +kernel
theorem mr_49_1 : MR 49 1 = some 50 := by decide +kernel
theorem mr_49_2 : MR 49 2 = some 51 := by decide +kernel
theorem mr_49_3 : MR 49 3 = some 52 := by decide +kernel
theorem mr_49_5 : MR 49 5 = some 53 := by decide +kernel
theorem mr_49_6 : MR 49 6 = some 54 := by decide +kernel
theorem mr_49_7 : MR 49 7 = some 55 := by decide +kernel
theorem mr_49_8 : MR 49 8 = some 56 := by decide +kernel
theorem mr_49_9 : MR 49 9 = some 57 := by decide +kernel
theorem mr_49_10 : MR 49 10 = some 58 := by decide +kernel
theorem mr_49_14 : MR 49 14 = some 59 := by decide +kernel
theorem mr_49_15 : MR 49 15 = some 60 := by decide +kernel
theorem mr_49_16 : MR 49 16 = some 61 := by decide +kernel
theorem mr_62_1 : MR 62 1 = some 63 := by decide +kernel
theorem mr_62_2 : MR 62 2 = some 64 := by decide +kernel
theorem mr_62_3 : MR 62 3 = some 65 := by decide +kernel
theorem mr_62_5 : MR 62 5 = some 66 := by decide +kernel
theorem mr_62_6 : MR 62 6 = some 67 := by decide +kernel
theorem mr_62_7 : MR 62 7 = some 68 := by decide +kernel
theorem mr_62_8 : MR 62 8 = some 69 := by decide +kernel
theorem mr_62_9 : MR 62 9 = some 70 := by decide +kernel
theorem mr_62_10 : MR 62 10 = some 71 := by decide +kernel
theorem mr_62_14 : MR 62 14 = some 72 := by decide +kernel
theorem mr_62_15 : MR 62 15 = some 73 := by decide +kernel
theorem mr_62_16 : MR 62 16 = some 74 := by decide +kernel
theorem kup_ap {f : Nat → Nat → Int32} {q k a : Nat} {v : Int32} : kup f q k v a = if a = q then upd (f q) k v else f a := rfl
theorem kRow_ap {α : Type} {f : Nat → Nat → α} {q a : Nat} {g : Nat → α} : kRow f q g a = if a = q then g else f a := rfl
theorem upd_ap {f : Nat → Int32} {k j : Nat} {v : Int32} : upd f k v j = if j = k then v else f j := rfl
section COPY
variable {mi : Nat → Nat → Int32} {ml : Nat → Nat → Int64} {m : kMem} {Q : Option Value → kMem → Prop} {T : tT}
theorem C_copy_14_1 (h : kCR 1 T mi) (ho : tOK T) (hQ : ∀ mi', kCR 14 T mi' → kFr 14 mi mi' → Q none (mi', ml, MR, 95)) : kJ 6 0 [some (.ref 14), some (.ref 1)] [] (mi, ml, MR, 95) Q := by
  have z0 : ¬ nI 0 < 0 := by decide
  have z5 : ¬ nI 5 < 0 := by decide
  have z6 : ¬ nI 6 < 0 := by decide
  have k0 : (nI 0).toNatClampNeg = 0 := rfl
  have k5 : (nI 5).toNatClampNeg = 5 := rfl
  have k6 : (nI 6).toNatClampNeg = 6 := rfl
  simp only [↓s6_0, ↓s6_1, ↓s6_2, ↓s6_5, ↓s6_8, ↓s6_9, ↓s6_12, ↓s6_13, ↓s6_14, ↓s6_17, ↓s6_18, ↓s6_19, ↓s6_22, ↓s6_23, ↓s6_26, ↓s6_27, ↓s6_28, ↓s6_31, ↓s6_32, ↓s6_33, ↓s6_36, ↓s6_37, ↓s6_40, ↓s6_41, ↓s6_42, ↓s6_45, ↓s6_46, ↓s6_47, ↓s6_50, ↓s6_51, ↓s6_52, ↓s6_55, ↓s6_58, ↓s6_59, ↓s6_62, ↓s6_63, ↓s6_64, ↓s6_67, ↓s6_68, ↓s6_70, ↓s6_73, ↓s6_74, ↓s6_77, ↓s6_78, ↓s6_79, ↓s6_82, ↓s6_83, ↓s6_85, ↓s6_88, ↓s6_89, ↓s6_92, ↓s6_93, ↓s6_94, ↓s6_97, ↓s6_98, ↓s6_100, ↓s6_103, ↓s6_104, ↓s6_107, ↓s6_108, ↓s6_109, ↓s6_112, ↓s6_113, ↓s6_115, ↓s6_118, ↓s6_119, ↓s6_122, ↓s6_123, ↓s6_124, ↓s6_127, ↓s6_128, ↓s6_130, ↓s6_133, ↓s6_134, ↓s6_137, ↓s6_138, ↓s6_139, ↓s6_142, ↓s6_143, ↓s6_145, ↓s6_148, ↓s6_149, ↓s6_150, ↓s6_153, ↓s6_156, ↓s6_157, ↓s6_158, ↓s6_161, ↓s6_164, ↓s6_165, ↓s6_166, ↓s6_169, ↓s6_172, ↓s6_173, ↓s6_176, ↓s6_177, ↓s6_178, ↓s6_181, ↓s6_182, ↓s6_184, ↓s6_187, ↓s6_188, ↓s6_191, ↓s6_192, ↓s6_193, ↓s6_196, ↓s6_197, ↓s6_199, ↓s6_202, ↓s6_203, ↓s6_206, ↓s6_207, ↓s6_208, ↓s6_211, ↓s6_212, ↓s6_214, ↓s6_217, kNLn, kNLi, kNLr, va_rf_s, kOl_n, kOl_s, kap_n, kap_c, kb0, kb1, kbif, ki_14, ki_15, ki_16, ki_17, ki_18, ki_19, ki_20, ki_21, ki_22, ki_23, ki_24, ki_25, ki_26, ki_1, ki_2, ki_3, ki_4, ki_5, ki_6, ki_7, ki_8, ki_9, ki_10, ki_11, ki_12, ki_13, kl_15, kl_16, kl_17, kl_18, kl_19, kl_20, kl_21, kl_22, kl_23, kl_24, kl_25, kl_26, kl_2, kl_3, kl_4, kl_5, kl_6, kl_7, kl_8, kl_9, kl_10, kl_11, kl_12, kl_13, mr_14_1, mr_14_2, mr_14_3, mr_14_5, mr_14_6, mr_14_7, mr_14_8, mr_14_9, mr_14_10, mr_14_14, mr_14_15, mr_14_16, mr_1_1, mr_1_2, mr_1_3, mr_1_5, mr_1_6, mr_1_7, mr_1_8, mr_1_9, mr_1_10, mr_1_14, mr_1_15, mr_1_16, z0, z5, z6, k0, k5, k6, not_false_eq_true, Nat.zero_add, Nat.le_refl]
  refine hQ _ ⟨⟨?_, ?_, ?_, ?_, ?_⟩, fun r k h1 h2 h3 => ?_⟩ (fun q hq => ?_)
  · simp [kRow_ap, kup_ap, upd_ap]; exact h.1.1
  · simp [kRow_ap, kup_ap, upd_ap]; exact h.1.2.1
  · simp [kRow_ap, kup_ap, upd_ap]; exact h.1.2.2.1
  · simp [kRow_ap, kup_ap, upd_ap]; exact h.1.2.2.2.1
  · simp [kRow_ap, kup_ap, upd_ap]; exact h.1.2.2.2.2
  · have h9 := h.2 r k h1 h2 h3
    have hk6 := tcnt_le ho r
    have hk5 : r ≤ 3 → k < 5 := fun hr => by rw [tcnt_p hr] at h3; have := ho.1; omega
    refine Eq.trans ?_ h9
    have hr : r = 1 ∨ r = 2 ∨ r = 3 ∨ r = 4 ∨ r = 5 ∨ r = 6 ∨ r = 7 ∨ r = 8 ∨ r = 9 ∨ r = 10 ∨ r = 11 ∨ r = 12 := by omega
    rcases hr with rfl | rfl | rfl | rfl | rfl | rfl | rfl | rfl | rfl | rfl | rfl | rfl
    all_goals simp [kRow_ap, kup_ap]
    all_goals exact sb_cpy0 (by omega)
  · simp only [kRow_ap, kup_ap]
    repeat rw [if_neg (by omega)]
theorem C_copy_1_30 (h : kCR 30 T mi) (ho : tOK T) (hQ : ∀ mi', kCR 1 T mi' → kFr 1 mi mi' → Q none (mi', ml, MR, 95)) : kJ 6 0 [some (.ref 1), some (.ref 30)] [] (mi, ml, MR, 95) Q := by
  have z0 : ¬ nI 0 < 0 := by decide
  have z5 : ¬ nI 5 < 0 := by decide
  have z6 : ¬ nI 6 < 0 := by decide
  have k0 : (nI 0).toNatClampNeg = 0 := rfl
  have k5 : (nI 5).toNatClampNeg = 5 := rfl
  have k6 : (nI 6).toNatClampNeg = 6 := rfl
  simp only [↓s6_0, ↓s6_1, ↓s6_2, ↓s6_5, ↓s6_8, ↓s6_9, ↓s6_12, ↓s6_13, ↓s6_14, ↓s6_17, ↓s6_18, ↓s6_19, ↓s6_22, ↓s6_23, ↓s6_26, ↓s6_27, ↓s6_28, ↓s6_31, ↓s6_32, ↓s6_33, ↓s6_36, ↓s6_37, ↓s6_40, ↓s6_41, ↓s6_42, ↓s6_45, ↓s6_46, ↓s6_47, ↓s6_50, ↓s6_51, ↓s6_52, ↓s6_55, ↓s6_58, ↓s6_59, ↓s6_62, ↓s6_63, ↓s6_64, ↓s6_67, ↓s6_68, ↓s6_70, ↓s6_73, ↓s6_74, ↓s6_77, ↓s6_78, ↓s6_79, ↓s6_82, ↓s6_83, ↓s6_85, ↓s6_88, ↓s6_89, ↓s6_92, ↓s6_93, ↓s6_94, ↓s6_97, ↓s6_98, ↓s6_100, ↓s6_103, ↓s6_104, ↓s6_107, ↓s6_108, ↓s6_109, ↓s6_112, ↓s6_113, ↓s6_115, ↓s6_118, ↓s6_119, ↓s6_122, ↓s6_123, ↓s6_124, ↓s6_127, ↓s6_128, ↓s6_130, ↓s6_133, ↓s6_134, ↓s6_137, ↓s6_138, ↓s6_139, ↓s6_142, ↓s6_143, ↓s6_145, ↓s6_148, ↓s6_149, ↓s6_150, ↓s6_153, ↓s6_156, ↓s6_157, ↓s6_158, ↓s6_161, ↓s6_164, ↓s6_165, ↓s6_166, ↓s6_169, ↓s6_172, ↓s6_173, ↓s6_176, ↓s6_177, ↓s6_178, ↓s6_181, ↓s6_182, ↓s6_184, ↓s6_187, ↓s6_188, ↓s6_191, ↓s6_192, ↓s6_193, ↓s6_196, ↓s6_197, ↓s6_199, ↓s6_202, ↓s6_203, ↓s6_206, ↓s6_207, ↓s6_208, ↓s6_211, ↓s6_212, ↓s6_214, ↓s6_217, kNLn, kNLi, kNLr, va_rf_s, kOl_n, kOl_s, kap_n, kap_c, kb0, kb1, kbif, ki_1, ki_2, ki_3, ki_4, ki_5, ki_6, ki_7, ki_8, ki_9, ki_10, ki_11, ki_12, ki_13, ki_30, ki_31, ki_32, ki_33, ki_34, ki_35, ki_36, ki_37, ki_38, ki_39, ki_40, ki_41, ki_42, kl_2, kl_3, kl_4, kl_5, kl_6, kl_7, kl_8, kl_9, kl_10, kl_11, kl_12, kl_13, kl_31, kl_32, kl_33, kl_34, kl_35, kl_36, kl_37, kl_38, kl_39, kl_40, kl_41, kl_42, mr_1_1, mr_1_2, mr_1_3, mr_1_5, mr_1_6, mr_1_7, mr_1_8, mr_1_9, mr_1_10, mr_1_14, mr_1_15, mr_1_16, mr_30_1, mr_30_2, mr_30_3, mr_30_5, mr_30_6, mr_30_7, mr_30_8, mr_30_9, mr_30_10, mr_30_14, mr_30_15, mr_30_16, z0, z5, z6, k0, k5, k6, not_false_eq_true, Nat.zero_add, Nat.le_refl]
  refine hQ _ ⟨⟨?_, ?_, ?_, ?_, ?_⟩, fun r k h1 h2 h3 => ?_⟩ (fun q hq => ?_)
  · simp [kRow_ap, kup_ap, upd_ap]; exact h.1.1
  · simp [kRow_ap, kup_ap, upd_ap]; exact h.1.2.1
  · simp [kRow_ap, kup_ap, upd_ap]; exact h.1.2.2.1
  · simp [kRow_ap, kup_ap, upd_ap]; exact h.1.2.2.2.1
  · simp [kRow_ap, kup_ap, upd_ap]; exact h.1.2.2.2.2
  · have h9 := h.2 r k h1 h2 h3
    have hk6 := tcnt_le ho r
    have hk5 : r ≤ 3 → k < 5 := fun hr => by rw [tcnt_p hr] at h3; have := ho.1; omega
    refine Eq.trans ?_ h9
    have hr : r = 1 ∨ r = 2 ∨ r = 3 ∨ r = 4 ∨ r = 5 ∨ r = 6 ∨ r = 7 ∨ r = 8 ∨ r = 9 ∨ r = 10 ∨ r = 11 ∨ r = 12 := by omega
    rcases hr with rfl | rfl | rfl | rfl | rfl | rfl | rfl | rfl | rfl | rfl | rfl | rfl
    all_goals simp [kRow_ap, kup_ap]
    all_goals exact sb_cpy0 (by omega)
  · simp only [kRow_ap, kup_ap]
    repeat rw [if_neg (by omega)]
theorem C_copy_49_1 (h : kCR 1 T mi) (ho : tOK T) (hQ : ∀ mi', kCR 49 T mi' → kFr 49 mi mi' → Q none (mi', ml, MR, 95)) : kJ 6 0 [some (.ref 49), some (.ref 1)] [] (mi, ml, MR, 95) Q := by
  have z0 : ¬ nI 0 < 0 := by decide
  have z5 : ¬ nI 5 < 0 := by decide
  have z6 : ¬ nI 6 < 0 := by decide
  have k0 : (nI 0).toNatClampNeg = 0 := rfl
  have k5 : (nI 5).toNatClampNeg = 5 := rfl
  have k6 : (nI 6).toNatClampNeg = 6 := rfl
  simp only [↓s6_0, ↓s6_1, ↓s6_2, ↓s6_5, ↓s6_8, ↓s6_9, ↓s6_12, ↓s6_13, ↓s6_14, ↓s6_17, ↓s6_18, ↓s6_19, ↓s6_22, ↓s6_23, ↓s6_26, ↓s6_27, ↓s6_28, ↓s6_31, ↓s6_32, ↓s6_33, ↓s6_36, ↓s6_37, ↓s6_40, ↓s6_41, ↓s6_42, ↓s6_45, ↓s6_46, ↓s6_47, ↓s6_50, ↓s6_51, ↓s6_52, ↓s6_55, ↓s6_58, ↓s6_59, ↓s6_62, ↓s6_63, ↓s6_64, ↓s6_67, ↓s6_68, ↓s6_70, ↓s6_73, ↓s6_74, ↓s6_77, ↓s6_78, ↓s6_79, ↓s6_82, ↓s6_83, ↓s6_85, ↓s6_88, ↓s6_89, ↓s6_92, ↓s6_93, ↓s6_94, ↓s6_97, ↓s6_98, ↓s6_100, ↓s6_103, ↓s6_104, ↓s6_107, ↓s6_108, ↓s6_109, ↓s6_112, ↓s6_113, ↓s6_115, ↓s6_118, ↓s6_119, ↓s6_122, ↓s6_123, ↓s6_124, ↓s6_127, ↓s6_128, ↓s6_130, ↓s6_133, ↓s6_134, ↓s6_137, ↓s6_138, ↓s6_139, ↓s6_142, ↓s6_143, ↓s6_145, ↓s6_148, ↓s6_149, ↓s6_150, ↓s6_153, ↓s6_156, ↓s6_157, ↓s6_158, ↓s6_161, ↓s6_164, ↓s6_165, ↓s6_166, ↓s6_169, ↓s6_172, ↓s6_173, ↓s6_176, ↓s6_177, ↓s6_178, ↓s6_181, ↓s6_182, ↓s6_184, ↓s6_187, ↓s6_188, ↓s6_191, ↓s6_192, ↓s6_193, ↓s6_196, ↓s6_197, ↓s6_199, ↓s6_202, ↓s6_203, ↓s6_206, ↓s6_207, ↓s6_208, ↓s6_211, ↓s6_212, ↓s6_214, ↓s6_217, kNLn, kNLi, kNLr, va_rf_s, kOl_n, kOl_s, kap_n, kap_c, kb0, kb1, kbif, ki_49, ki_50, ki_51, ki_52, ki_53, ki_54, ki_55, ki_56, ki_57, ki_58, ki_59, ki_60, ki_61, ki_1, ki_2, ki_3, ki_4, ki_5, ki_6, ki_7, ki_8, ki_9, ki_10, ki_11, ki_12, ki_13, kl_50, kl_51, kl_52, kl_53, kl_54, kl_55, kl_56, kl_57, kl_58, kl_59, kl_60, kl_61, kl_2, kl_3, kl_4, kl_5, kl_6, kl_7, kl_8, kl_9, kl_10, kl_11, kl_12, kl_13, mr_49_1, mr_49_2, mr_49_3, mr_49_5, mr_49_6, mr_49_7, mr_49_8, mr_49_9, mr_49_10, mr_49_14, mr_49_15, mr_49_16, mr_1_1, mr_1_2, mr_1_3, mr_1_5, mr_1_6, mr_1_7, mr_1_8, mr_1_9, mr_1_10, mr_1_14, mr_1_15, mr_1_16, z0, z5, z6, k0, k5, k6, not_false_eq_true, Nat.zero_add, Nat.le_refl]
  refine hQ _ ⟨⟨?_, ?_, ?_, ?_, ?_⟩, fun r k h1 h2 h3 => ?_⟩ (fun q hq => ?_)
  · simp [kRow_ap, kup_ap, upd_ap]; exact h.1.1
  · simp [kRow_ap, kup_ap, upd_ap]; exact h.1.2.1
  · simp [kRow_ap, kup_ap, upd_ap]; exact h.1.2.2.1
  · simp [kRow_ap, kup_ap, upd_ap]; exact h.1.2.2.2.1
  · simp [kRow_ap, kup_ap, upd_ap]; exact h.1.2.2.2.2
  · have h9 := h.2 r k h1 h2 h3
    have hk6 := tcnt_le ho r
    have hk5 : r ≤ 3 → k < 5 := fun hr => by rw [tcnt_p hr] at h3; have := ho.1; omega
    refine Eq.trans ?_ h9
    have hr : r = 1 ∨ r = 2 ∨ r = 3 ∨ r = 4 ∨ r = 5 ∨ r = 6 ∨ r = 7 ∨ r = 8 ∨ r = 9 ∨ r = 10 ∨ r = 11 ∨ r = 12 := by omega
    rcases hr with rfl | rfl | rfl | rfl | rfl | rfl | rfl | rfl | rfl | rfl | rfl | rfl
    all_goals simp [kRow_ap, kup_ap]
    all_goals exact sb_cpy0 (by omega)
  · simp only [kRow_ap, kup_ap]
    repeat rw [if_neg (by omega)]
theorem C_copy_62_1 (h : kCR 1 T mi) (ho : tOK T) (hQ : ∀ mi', kCR 62 T mi' → kFr 62 mi mi' → Q none (mi', ml, MR, 95)) : kJ 6 0 [some (.ref 62), some (.ref 1)] [] (mi, ml, MR, 95) Q := by
  have z0 : ¬ nI 0 < 0 := by decide
  have z5 : ¬ nI 5 < 0 := by decide
  have z6 : ¬ nI 6 < 0 := by decide
  have k0 : (nI 0).toNatClampNeg = 0 := rfl
  have k5 : (nI 5).toNatClampNeg = 5 := rfl
  have k6 : (nI 6).toNatClampNeg = 6 := rfl
  simp only [↓s6_0, ↓s6_1, ↓s6_2, ↓s6_5, ↓s6_8, ↓s6_9, ↓s6_12, ↓s6_13, ↓s6_14, ↓s6_17, ↓s6_18, ↓s6_19, ↓s6_22, ↓s6_23, ↓s6_26, ↓s6_27, ↓s6_28, ↓s6_31, ↓s6_32, ↓s6_33, ↓s6_36, ↓s6_37, ↓s6_40, ↓s6_41, ↓s6_42, ↓s6_45, ↓s6_46, ↓s6_47, ↓s6_50, ↓s6_51, ↓s6_52, ↓s6_55, ↓s6_58, ↓s6_59, ↓s6_62, ↓s6_63, ↓s6_64, ↓s6_67, ↓s6_68, ↓s6_70, ↓s6_73, ↓s6_74, ↓s6_77, ↓s6_78, ↓s6_79, ↓s6_82, ↓s6_83, ↓s6_85, ↓s6_88, ↓s6_89, ↓s6_92, ↓s6_93, ↓s6_94, ↓s6_97, ↓s6_98, ↓s6_100, ↓s6_103, ↓s6_104, ↓s6_107, ↓s6_108, ↓s6_109, ↓s6_112, ↓s6_113, ↓s6_115, ↓s6_118, ↓s6_119, ↓s6_122, ↓s6_123, ↓s6_124, ↓s6_127, ↓s6_128, ↓s6_130, ↓s6_133, ↓s6_134, ↓s6_137, ↓s6_138, ↓s6_139, ↓s6_142, ↓s6_143, ↓s6_145, ↓s6_148, ↓s6_149, ↓s6_150, ↓s6_153, ↓s6_156, ↓s6_157, ↓s6_158, ↓s6_161, ↓s6_164, ↓s6_165, ↓s6_166, ↓s6_169, ↓s6_172, ↓s6_173, ↓s6_176, ↓s6_177, ↓s6_178, ↓s6_181, ↓s6_182, ↓s6_184, ↓s6_187, ↓s6_188, ↓s6_191, ↓s6_192, ↓s6_193, ↓s6_196, ↓s6_197, ↓s6_199, ↓s6_202, ↓s6_203, ↓s6_206, ↓s6_207, ↓s6_208, ↓s6_211, ↓s6_212, ↓s6_214, ↓s6_217, kNLn, kNLi, kNLr, va_rf_s, kOl_n, kOl_s, kap_n, kap_c, kb0, kb1, kbif, ki_62, ki_63, ki_64, ki_65, ki_66, ki_67, ki_68, ki_69, ki_70, ki_71, ki_72, ki_73, ki_74, ki_1, ki_2, ki_3, ki_4, ki_5, ki_6, ki_7, ki_8, ki_9, ki_10, ki_11, ki_12, ki_13, kl_63, kl_64, kl_65, kl_66, kl_67, kl_68, kl_69, kl_70, kl_71, kl_72, kl_73, kl_74, kl_2, kl_3, kl_4, kl_5, kl_6, kl_7, kl_8, kl_9, kl_10, kl_11, kl_12, kl_13, mr_62_1, mr_62_2, mr_62_3, mr_62_5, mr_62_6, mr_62_7, mr_62_8, mr_62_9, mr_62_10, mr_62_14, mr_62_15, mr_62_16, mr_1_1, mr_1_2, mr_1_3, mr_1_5, mr_1_6, mr_1_7, mr_1_8, mr_1_9, mr_1_10, mr_1_14, mr_1_15, mr_1_16, z0, z5, z6, k0, k5, k6, not_false_eq_true, Nat.zero_add, Nat.le_refl]
  refine hQ _ ⟨⟨?_, ?_, ?_, ?_, ?_⟩, fun r k h1 h2 h3 => ?_⟩ (fun q hq => ?_)
  · simp [kRow_ap, kup_ap, upd_ap]; exact h.1.1
  · simp [kRow_ap, kup_ap, upd_ap]; exact h.1.2.1
  · simp [kRow_ap, kup_ap, upd_ap]; exact h.1.2.2.1
  · simp [kRow_ap, kup_ap, upd_ap]; exact h.1.2.2.2.1
  · simp [kRow_ap, kup_ap, upd_ap]; exact h.1.2.2.2.2
  · have h9 := h.2 r k h1 h2 h3
    have hk6 := tcnt_le ho r
    have hk5 : r ≤ 3 → k < 5 := fun hr => by rw [tcnt_p hr] at h3; have := ho.1; omega
    refine Eq.trans ?_ h9
    have hr : r = 1 ∨ r = 2 ∨ r = 3 ∨ r = 4 ∨ r = 5 ∨ r = 6 ∨ r = 7 ∨ r = 8 ∨ r = 9 ∨ r = 10 ∨ r = 11 ∨ r = 12 := by omega
    rcases hr with rfl | rfl | rfl | rfl | rfl | rfl | rfl | rfl | rfl | rfl | rfl | rfl
    all_goals simp [kRow_ap, kup_ap]
    all_goals exact sb_cpy0 (by omega)
  · simp only [kRow_ap, kup_ap]
    repeat rw [if_neg (by omega)]
theorem C_copy_1_49 (h : kCR 49 T mi) (ho : tOK T) (hQ : ∀ mi', kCR 1 T mi' → kFr 1 mi mi' → Q none (mi', ml, MR, 95)) : kJ 6 0 [some (.ref 1), some (.ref 49)] [] (mi, ml, MR, 95) Q := by
  have z0 : ¬ nI 0 < 0 := by decide
  have z5 : ¬ nI 5 < 0 := by decide
  have z6 : ¬ nI 6 < 0 := by decide
  have k0 : (nI 0).toNatClampNeg = 0 := rfl
  have k5 : (nI 5).toNatClampNeg = 5 := rfl
  have k6 : (nI 6).toNatClampNeg = 6 := rfl
  simp only [↓s6_0, ↓s6_1, ↓s6_2, ↓s6_5, ↓s6_8, ↓s6_9, ↓s6_12, ↓s6_13, ↓s6_14, ↓s6_17, ↓s6_18, ↓s6_19, ↓s6_22, ↓s6_23, ↓s6_26, ↓s6_27, ↓s6_28, ↓s6_31, ↓s6_32, ↓s6_33, ↓s6_36, ↓s6_37, ↓s6_40, ↓s6_41, ↓s6_42, ↓s6_45, ↓s6_46, ↓s6_47, ↓s6_50, ↓s6_51, ↓s6_52, ↓s6_55, ↓s6_58, ↓s6_59, ↓s6_62, ↓s6_63, ↓s6_64, ↓s6_67, ↓s6_68, ↓s6_70, ↓s6_73, ↓s6_74, ↓s6_77, ↓s6_78, ↓s6_79, ↓s6_82, ↓s6_83, ↓s6_85, ↓s6_88, ↓s6_89, ↓s6_92, ↓s6_93, ↓s6_94, ↓s6_97, ↓s6_98, ↓s6_100, ↓s6_103, ↓s6_104, ↓s6_107, ↓s6_108, ↓s6_109, ↓s6_112, ↓s6_113, ↓s6_115, ↓s6_118, ↓s6_119, ↓s6_122, ↓s6_123, ↓s6_124, ↓s6_127, ↓s6_128, ↓s6_130, ↓s6_133, ↓s6_134, ↓s6_137, ↓s6_138, ↓s6_139, ↓s6_142, ↓s6_143, ↓s6_145, ↓s6_148, ↓s6_149, ↓s6_150, ↓s6_153, ↓s6_156, ↓s6_157, ↓s6_158, ↓s6_161, ↓s6_164, ↓s6_165, ↓s6_166, ↓s6_169, ↓s6_172, ↓s6_173, ↓s6_176, ↓s6_177, ↓s6_178, ↓s6_181, ↓s6_182, ↓s6_184, ↓s6_187, ↓s6_188, ↓s6_191, ↓s6_192, ↓s6_193, ↓s6_196, ↓s6_197, ↓s6_199, ↓s6_202, ↓s6_203, ↓s6_206, ↓s6_207, ↓s6_208, ↓s6_211, ↓s6_212, ↓s6_214, ↓s6_217, kNLn, kNLi, kNLr, va_rf_s, kOl_n, kOl_s, kap_n, kap_c, kb0, kb1, kbif, ki_1, ki_2, ki_3, ki_4, ki_5, ki_6, ki_7, ki_8, ki_9, ki_10, ki_11, ki_12, ki_13, ki_49, ki_50, ki_51, ki_52, ki_53, ki_54, ki_55, ki_56, ki_57, ki_58, ki_59, ki_60, ki_61, kl_2, kl_3, kl_4, kl_5, kl_6, kl_7, kl_8, kl_9, kl_10, kl_11, kl_12, kl_13, kl_50, kl_51, kl_52, kl_53, kl_54, kl_55, kl_56, kl_57, kl_58, kl_59, kl_60, kl_61, mr_1_1, mr_1_2, mr_1_3, mr_1_5, mr_1_6, mr_1_7, mr_1_8, mr_1_9, mr_1_10, mr_1_14, mr_1_15, mr_1_16, mr_49_1, mr_49_2, mr_49_3, mr_49_5, mr_49_6, mr_49_7, mr_49_8, mr_49_9, mr_49_10, mr_49_14, mr_49_15, mr_49_16, z0, z5, z6, k0, k5, k6, not_false_eq_true, Nat.zero_add, Nat.le_refl]
  refine hQ _ ⟨⟨?_, ?_, ?_, ?_, ?_⟩, fun r k h1 h2 h3 => ?_⟩ (fun q hq => ?_)
  · simp [kRow_ap, kup_ap, upd_ap]; exact h.1.1
  · simp [kRow_ap, kup_ap, upd_ap]; exact h.1.2.1
  · simp [kRow_ap, kup_ap, upd_ap]; exact h.1.2.2.1
  · simp [kRow_ap, kup_ap, upd_ap]; exact h.1.2.2.2.1
  · simp [kRow_ap, kup_ap, upd_ap]; exact h.1.2.2.2.2
  · have h9 := h.2 r k h1 h2 h3
    have hk6 := tcnt_le ho r
    have hk5 : r ≤ 3 → k < 5 := fun hr => by rw [tcnt_p hr] at h3; have := ho.1; omega
    refine Eq.trans ?_ h9
    have hr : r = 1 ∨ r = 2 ∨ r = 3 ∨ r = 4 ∨ r = 5 ∨ r = 6 ∨ r = 7 ∨ r = 8 ∨ r = 9 ∨ r = 10 ∨ r = 11 ∨ r = 12 := by omega
    rcases hr with rfl | rfl | rfl | rfl | rfl | rfl | rfl | rfl | rfl | rfl | rfl | rfl
    all_goals simp [kRow_ap, kup_ap]
    all_goals exact sb_cpy0 (by omega)
  · simp only [kRow_ap, kup_ap]
    repeat rw [if_neg (by omega)]
theorem C_copy_1_62 (h : kCR 62 T mi) (ho : tOK T) (hQ : ∀ mi', kCR 1 T mi' → kFr 1 mi mi' → Q none (mi', ml, MR, 95)) : kJ 6 0 [some (.ref 1), some (.ref 62)] [] (mi, ml, MR, 95) Q := by
  have z0 : ¬ nI 0 < 0 := by decide
  have z5 : ¬ nI 5 < 0 := by decide
  have z6 : ¬ nI 6 < 0 := by decide
  have k0 : (nI 0).toNatClampNeg = 0 := rfl
  have k5 : (nI 5).toNatClampNeg = 5 := rfl
  have k6 : (nI 6).toNatClampNeg = 6 := rfl
  simp only [↓s6_0, ↓s6_1, ↓s6_2, ↓s6_5, ↓s6_8, ↓s6_9, ↓s6_12, ↓s6_13, ↓s6_14, ↓s6_17, ↓s6_18, ↓s6_19, ↓s6_22, ↓s6_23, ↓s6_26, ↓s6_27, ↓s6_28, ↓s6_31, ↓s6_32, ↓s6_33, ↓s6_36, ↓s6_37, ↓s6_40, ↓s6_41, ↓s6_42, ↓s6_45, ↓s6_46, ↓s6_47, ↓s6_50, ↓s6_51, ↓s6_52, ↓s6_55, ↓s6_58, ↓s6_59, ↓s6_62, ↓s6_63, ↓s6_64, ↓s6_67, ↓s6_68, ↓s6_70, ↓s6_73, ↓s6_74, ↓s6_77, ↓s6_78, ↓s6_79, ↓s6_82, ↓s6_83, ↓s6_85, ↓s6_88, ↓s6_89, ↓s6_92, ↓s6_93, ↓s6_94, ↓s6_97, ↓s6_98, ↓s6_100, ↓s6_103, ↓s6_104, ↓s6_107, ↓s6_108, ↓s6_109, ↓s6_112, ↓s6_113, ↓s6_115, ↓s6_118, ↓s6_119, ↓s6_122, ↓s6_123, ↓s6_124, ↓s6_127, ↓s6_128, ↓s6_130, ↓s6_133, ↓s6_134, ↓s6_137, ↓s6_138, ↓s6_139, ↓s6_142, ↓s6_143, ↓s6_145, ↓s6_148, ↓s6_149, ↓s6_150, ↓s6_153, ↓s6_156, ↓s6_157, ↓s6_158, ↓s6_161, ↓s6_164, ↓s6_165, ↓s6_166, ↓s6_169, ↓s6_172, ↓s6_173, ↓s6_176, ↓s6_177, ↓s6_178, ↓s6_181, ↓s6_182, ↓s6_184, ↓s6_187, ↓s6_188, ↓s6_191, ↓s6_192, ↓s6_193, ↓s6_196, ↓s6_197, ↓s6_199, ↓s6_202, ↓s6_203, ↓s6_206, ↓s6_207, ↓s6_208, ↓s6_211, ↓s6_212, ↓s6_214, ↓s6_217, kNLn, kNLi, kNLr, va_rf_s, kOl_n, kOl_s, kap_n, kap_c, kb0, kb1, kbif, ki_1, ki_2, ki_3, ki_4, ki_5, ki_6, ki_7, ki_8, ki_9, ki_10, ki_11, ki_12, ki_13, ki_62, ki_63, ki_64, ki_65, ki_66, ki_67, ki_68, ki_69, ki_70, ki_71, ki_72, ki_73, ki_74, kl_2, kl_3, kl_4, kl_5, kl_6, kl_7, kl_8, kl_9, kl_10, kl_11, kl_12, kl_13, kl_63, kl_64, kl_65, kl_66, kl_67, kl_68, kl_69, kl_70, kl_71, kl_72, kl_73, kl_74, mr_1_1, mr_1_2, mr_1_3, mr_1_5, mr_1_6, mr_1_7, mr_1_8, mr_1_9, mr_1_10, mr_1_14, mr_1_15, mr_1_16, mr_62_1, mr_62_2, mr_62_3, mr_62_5, mr_62_6, mr_62_7, mr_62_8, mr_62_9, mr_62_10, mr_62_14, mr_62_15, mr_62_16, z0, z5, z6, k0, k5, k6, not_false_eq_true, Nat.zero_add, Nat.le_refl]
  refine hQ _ ⟨⟨?_, ?_, ?_, ?_, ?_⟩, fun r k h1 h2 h3 => ?_⟩ (fun q hq => ?_)
  · simp [kRow_ap, kup_ap, upd_ap]; exact h.1.1
  · simp [kRow_ap, kup_ap, upd_ap]; exact h.1.2.1
  · simp [kRow_ap, kup_ap, upd_ap]; exact h.1.2.2.1
  · simp [kRow_ap, kup_ap, upd_ap]; exact h.1.2.2.2.1
  · simp [kRow_ap, kup_ap, upd_ap]; exact h.1.2.2.2.2
  · have h9 := h.2 r k h1 h2 h3
    have hk6 := tcnt_le ho r
    have hk5 : r ≤ 3 → k < 5 := fun hr => by rw [tcnt_p hr] at h3; have := ho.1; omega
    refine Eq.trans ?_ h9
    have hr : r = 1 ∨ r = 2 ∨ r = 3 ∨ r = 4 ∨ r = 5 ∨ r = 6 ∨ r = 7 ∨ r = 8 ∨ r = 9 ∨ r = 10 ∨ r = 11 ∨ r = 12 := by omega
    rcases hr with rfl | rfl | rfl | rfl | rfl | rfl | rfl | rfl | rfl | rfl | rfl | rfl
    all_goals simp [kRow_ap, kup_ap]
    all_goals exact sb_cpy0 (by omega)
  · simp only [kRow_ap, kup_ap]
    repeat rw [if_neg (by omega)]
end COPY
