/-! Post's days, by the mathematical value -/
theorem n00 : (nI 0 = nI 1) = False := by decide
theorem n10 : (nI 1 = nI 0) = False := by decide
theorem z0 : (nI 0 = 0) = True := by decide
theorem z1 : (nI 1 = 0) = False := by decide
theorem zif {c : Prop} [Decidable c] : ((if c then nI 1 else nI 0) = 0) = ¬ c := by
  split
  · next h => simp [z1, h]
  · next h => simp [z0, h]
theorem kq_0_1 {b j : Nat} {f : Nat → Nat → Int32} {v : Int32} : kup f (b) j v (b + 1) = f (b + 1) := kup_ne (by omega)
theorem kq_0_2 {b j : Nat} {f : Nat → Nat → Int32} {v : Int32} : kup f (b) j v (b + 2) = f (b + 2) := kup_ne (by omega)
theorem kq_0_3 {b j : Nat} {f : Nat → Nat → Int32} {v : Int32} : kup f (b) j v (b + 3) = f (b + 3) := kup_ne (by omega)
theorem kq_0_4 {b j : Nat} {f : Nat → Nat → Int32} {v : Int32} : kup f (b) j v (b + 4) = f (b + 4) := kup_ne (by omega)
theorem kq_0_5 {b j : Nat} {f : Nat → Nat → Int32} {v : Int32} : kup f (b) j v (b + 5) = f (b + 5) := kup_ne (by omega)
theorem kq_0_6 {b j : Nat} {f : Nat → Nat → Int32} {v : Int32} : kup f (b) j v (b + 6) = f (b + 6) := kup_ne (by omega)
theorem kq_0_7 {b j : Nat} {f : Nat → Nat → Int32} {v : Int32} : kup f (b) j v (b + 7) = f (b + 7) := kup_ne (by omega)
theorem kq_0_8 {b j : Nat} {f : Nat → Nat → Int32} {v : Int32} : kup f (b) j v (b + 8) = f (b + 8) := kup_ne (by omega)
theorem kq_0_9 {b j : Nat} {f : Nat → Nat → Int32} {v : Int32} : kup f (b) j v (b + 9) = f (b + 9) := kup_ne (by omega)
theorem kq_0_10 {b j : Nat} {f : Nat → Nat → Int32} {v : Int32} : kup f (b) j v (b + 10) = f (b + 10) := kup_ne (by omega)
theorem kq_0_11 {b j : Nat} {f : Nat → Nat → Int32} {v : Int32} : kup f (b) j v (b + 11) = f (b + 11) := kup_ne (by omega)
theorem kq_0_12 {b j : Nat} {f : Nat → Nat → Int32} {v : Int32} : kup f (b) j v (b + 12) = f (b + 12) := kup_ne (by omega)
theorem kq_1_0 {b j : Nat} {f : Nat → Nat → Int32} {v : Int32} : kup f (b + 1) j v (b) = f (b) := kup_ne (by omega)
theorem kq_1_2 {b j : Nat} {f : Nat → Nat → Int32} {v : Int32} : kup f (b + 1) j v (b + 2) = f (b + 2) := kup_ne (by omega)
theorem kq_1_3 {b j : Nat} {f : Nat → Nat → Int32} {v : Int32} : kup f (b + 1) j v (b + 3) = f (b + 3) := kup_ne (by omega)
theorem kq_1_4 {b j : Nat} {f : Nat → Nat → Int32} {v : Int32} : kup f (b + 1) j v (b + 4) = f (b + 4) := kup_ne (by omega)
theorem kq_1_5 {b j : Nat} {f : Nat → Nat → Int32} {v : Int32} : kup f (b + 1) j v (b + 5) = f (b + 5) := kup_ne (by omega)
theorem kq_1_6 {b j : Nat} {f : Nat → Nat → Int32} {v : Int32} : kup f (b + 1) j v (b + 6) = f (b + 6) := kup_ne (by omega)
theorem kq_1_7 {b j : Nat} {f : Nat → Nat → Int32} {v : Int32} : kup f (b + 1) j v (b + 7) = f (b + 7) := kup_ne (by omega)
theorem kq_1_8 {b j : Nat} {f : Nat → Nat → Int32} {v : Int32} : kup f (b + 1) j v (b + 8) = f (b + 8) := kup_ne (by omega)
theorem kq_1_9 {b j : Nat} {f : Nat → Nat → Int32} {v : Int32} : kup f (b + 1) j v (b + 9) = f (b + 9) := kup_ne (by omega)
theorem kq_1_10 {b j : Nat} {f : Nat → Nat → Int32} {v : Int32} : kup f (b + 1) j v (b + 10) = f (b + 10) := kup_ne (by omega)
theorem kq_1_11 {b j : Nat} {f : Nat → Nat → Int32} {v : Int32} : kup f (b + 1) j v (b + 11) = f (b + 11) := kup_ne (by omega)
theorem kq_1_12 {b j : Nat} {f : Nat → Nat → Int32} {v : Int32} : kup f (b + 1) j v (b + 12) = f (b + 12) := kup_ne (by omega)
theorem kq_2_0 {b j : Nat} {f : Nat → Nat → Int32} {v : Int32} : kup f (b + 2) j v (b) = f (b) := kup_ne (by omega)
theorem kq_2_1 {b j : Nat} {f : Nat → Nat → Int32} {v : Int32} : kup f (b + 2) j v (b + 1) = f (b + 1) := kup_ne (by omega)
theorem kq_2_3 {b j : Nat} {f : Nat → Nat → Int32} {v : Int32} : kup f (b + 2) j v (b + 3) = f (b + 3) := kup_ne (by omega)
theorem kq_2_4 {b j : Nat} {f : Nat → Nat → Int32} {v : Int32} : kup f (b + 2) j v (b + 4) = f (b + 4) := kup_ne (by omega)
theorem kq_2_5 {b j : Nat} {f : Nat → Nat → Int32} {v : Int32} : kup f (b + 2) j v (b + 5) = f (b + 5) := kup_ne (by omega)
theorem kq_2_6 {b j : Nat} {f : Nat → Nat → Int32} {v : Int32} : kup f (b + 2) j v (b + 6) = f (b + 6) := kup_ne (by omega)
theorem kq_2_7 {b j : Nat} {f : Nat → Nat → Int32} {v : Int32} : kup f (b + 2) j v (b + 7) = f (b + 7) := kup_ne (by omega)
theorem kq_2_8 {b j : Nat} {f : Nat → Nat → Int32} {v : Int32} : kup f (b + 2) j v (b + 8) = f (b + 8) := kup_ne (by omega)
theorem kq_2_9 {b j : Nat} {f : Nat → Nat → Int32} {v : Int32} : kup f (b + 2) j v (b + 9) = f (b + 9) := kup_ne (by omega)
theorem kq_2_10 {b j : Nat} {f : Nat → Nat → Int32} {v : Int32} : kup f (b + 2) j v (b + 10) = f (b + 10) := kup_ne (by omega)
theorem kq_2_11 {b j : Nat} {f : Nat → Nat → Int32} {v : Int32} : kup f (b + 2) j v (b + 11) = f (b + 11) := kup_ne (by omega)
theorem kq_2_12 {b j : Nat} {f : Nat → Nat → Int32} {v : Int32} : kup f (b + 2) j v (b + 12) = f (b + 12) := kup_ne (by omega)
theorem kq_3_0 {b j : Nat} {f : Nat → Nat → Int32} {v : Int32} : kup f (b + 3) j v (b) = f (b) := kup_ne (by omega)
theorem kq_3_1 {b j : Nat} {f : Nat → Nat → Int32} {v : Int32} : kup f (b + 3) j v (b + 1) = f (b + 1) := kup_ne (by omega)
theorem kq_3_2 {b j : Nat} {f : Nat → Nat → Int32} {v : Int32} : kup f (b + 3) j v (b + 2) = f (b + 2) := kup_ne (by omega)
theorem kq_3_4 {b j : Nat} {f : Nat → Nat → Int32} {v : Int32} : kup f (b + 3) j v (b + 4) = f (b + 4) := kup_ne (by omega)
theorem kq_3_5 {b j : Nat} {f : Nat → Nat → Int32} {v : Int32} : kup f (b + 3) j v (b + 5) = f (b + 5) := kup_ne (by omega)
theorem kq_3_6 {b j : Nat} {f : Nat → Nat → Int32} {v : Int32} : kup f (b + 3) j v (b + 6) = f (b + 6) := kup_ne (by omega)
theorem kq_3_7 {b j : Nat} {f : Nat → Nat → Int32} {v : Int32} : kup f (b + 3) j v (b + 7) = f (b + 7) := kup_ne (by omega)
theorem kq_3_8 {b j : Nat} {f : Nat → Nat → Int32} {v : Int32} : kup f (b + 3) j v (b + 8) = f (b + 8) := kup_ne (by omega)
theorem kq_3_9 {b j : Nat} {f : Nat → Nat → Int32} {v : Int32} : kup f (b + 3) j v (b + 9) = f (b + 9) := kup_ne (by omega)
theorem kq_3_10 {b j : Nat} {f : Nat → Nat → Int32} {v : Int32} : kup f (b + 3) j v (b + 10) = f (b + 10) := kup_ne (by omega)
theorem kq_3_11 {b j : Nat} {f : Nat → Nat → Int32} {v : Int32} : kup f (b + 3) j v (b + 11) = f (b + 11) := kup_ne (by omega)
theorem kq_3_12 {b j : Nat} {f : Nat → Nat → Int32} {v : Int32} : kup f (b + 3) j v (b + 12) = f (b + 12) := kup_ne (by omega)
theorem kq_4_0 {b j : Nat} {f : Nat → Nat → Int32} {v : Int32} : kup f (b + 4) j v (b) = f (b) := kup_ne (by omega)
theorem kq_4_1 {b j : Nat} {f : Nat → Nat → Int32} {v : Int32} : kup f (b + 4) j v (b + 1) = f (b + 1) := kup_ne (by omega)
theorem kq_4_2 {b j : Nat} {f : Nat → Nat → Int32} {v : Int32} : kup f (b + 4) j v (b + 2) = f (b + 2) := kup_ne (by omega)
theorem kq_4_3 {b j : Nat} {f : Nat → Nat → Int32} {v : Int32} : kup f (b + 4) j v (b + 3) = f (b + 3) := kup_ne (by omega)
theorem kq_4_5 {b j : Nat} {f : Nat → Nat → Int32} {v : Int32} : kup f (b + 4) j v (b + 5) = f (b + 5) := kup_ne (by omega)
theorem kq_4_6 {b j : Nat} {f : Nat → Nat → Int32} {v : Int32} : kup f (b + 4) j v (b + 6) = f (b + 6) := kup_ne (by omega)
theorem kq_4_7 {b j : Nat} {f : Nat → Nat → Int32} {v : Int32} : kup f (b + 4) j v (b + 7) = f (b + 7) := kup_ne (by omega)
theorem kq_4_8 {b j : Nat} {f : Nat → Nat → Int32} {v : Int32} : kup f (b + 4) j v (b + 8) = f (b + 8) := kup_ne (by omega)
theorem kq_4_9 {b j : Nat} {f : Nat → Nat → Int32} {v : Int32} : kup f (b + 4) j v (b + 9) = f (b + 9) := kup_ne (by omega)
theorem kq_4_10 {b j : Nat} {f : Nat → Nat → Int32} {v : Int32} : kup f (b + 4) j v (b + 10) = f (b + 10) := kup_ne (by omega)
theorem kq_4_11 {b j : Nat} {f : Nat → Nat → Int32} {v : Int32} : kup f (b + 4) j v (b + 11) = f (b + 11) := kup_ne (by omega)
theorem kq_4_12 {b j : Nat} {f : Nat → Nat → Int32} {v : Int32} : kup f (b + 4) j v (b + 12) = f (b + 12) := kup_ne (by omega)
theorem kq_5_0 {b j : Nat} {f : Nat → Nat → Int32} {v : Int32} : kup f (b + 5) j v (b) = f (b) := kup_ne (by omega)
theorem kq_5_1 {b j : Nat} {f : Nat → Nat → Int32} {v : Int32} : kup f (b + 5) j v (b + 1) = f (b + 1) := kup_ne (by omega)
theorem kq_5_2 {b j : Nat} {f : Nat → Nat → Int32} {v : Int32} : kup f (b + 5) j v (b + 2) = f (b + 2) := kup_ne (by omega)
theorem kq_5_3 {b j : Nat} {f : Nat → Nat → Int32} {v : Int32} : kup f (b + 5) j v (b + 3) = f (b + 3) := kup_ne (by omega)
theorem kq_5_4 {b j : Nat} {f : Nat → Nat → Int32} {v : Int32} : kup f (b + 5) j v (b + 4) = f (b + 4) := kup_ne (by omega)
theorem kq_5_6 {b j : Nat} {f : Nat → Nat → Int32} {v : Int32} : kup f (b + 5) j v (b + 6) = f (b + 6) := kup_ne (by omega)
theorem kq_5_7 {b j : Nat} {f : Nat → Nat → Int32} {v : Int32} : kup f (b + 5) j v (b + 7) = f (b + 7) := kup_ne (by omega)
theorem kq_5_8 {b j : Nat} {f : Nat → Nat → Int32} {v : Int32} : kup f (b + 5) j v (b + 8) = f (b + 8) := kup_ne (by omega)
theorem kq_5_9 {b j : Nat} {f : Nat → Nat → Int32} {v : Int32} : kup f (b + 5) j v (b + 9) = f (b + 9) := kup_ne (by omega)
theorem kq_5_10 {b j : Nat} {f : Nat → Nat → Int32} {v : Int32} : kup f (b + 5) j v (b + 10) = f (b + 10) := kup_ne (by omega)
theorem kq_5_11 {b j : Nat} {f : Nat → Nat → Int32} {v : Int32} : kup f (b + 5) j v (b + 11) = f (b + 11) := kup_ne (by omega)
theorem kq_5_12 {b j : Nat} {f : Nat → Nat → Int32} {v : Int32} : kup f (b + 5) j v (b + 12) = f (b + 12) := kup_ne (by omega)
theorem kq_6_0 {b j : Nat} {f : Nat → Nat → Int32} {v : Int32} : kup f (b + 6) j v (b) = f (b) := kup_ne (by omega)
theorem kq_6_1 {b j : Nat} {f : Nat → Nat → Int32} {v : Int32} : kup f (b + 6) j v (b + 1) = f (b + 1) := kup_ne (by omega)
theorem kq_6_2 {b j : Nat} {f : Nat → Nat → Int32} {v : Int32} : kup f (b + 6) j v (b + 2) = f (b + 2) := kup_ne (by omega)
theorem kq_6_3 {b j : Nat} {f : Nat → Nat → Int32} {v : Int32} : kup f (b + 6) j v (b + 3) = f (b + 3) := kup_ne (by omega)
theorem kq_6_4 {b j : Nat} {f : Nat → Nat → Int32} {v : Int32} : kup f (b + 6) j v (b + 4) = f (b + 4) := kup_ne (by omega)
theorem kq_6_5 {b j : Nat} {f : Nat → Nat → Int32} {v : Int32} : kup f (b + 6) j v (b + 5) = f (b + 5) := kup_ne (by omega)
theorem kq_6_7 {b j : Nat} {f : Nat → Nat → Int32} {v : Int32} : kup f (b + 6) j v (b + 7) = f (b + 7) := kup_ne (by omega)
theorem kq_6_8 {b j : Nat} {f : Nat → Nat → Int32} {v : Int32} : kup f (b + 6) j v (b + 8) = f (b + 8) := kup_ne (by omega)
theorem kq_6_9 {b j : Nat} {f : Nat → Nat → Int32} {v : Int32} : kup f (b + 6) j v (b + 9) = f (b + 9) := kup_ne (by omega)
theorem kq_6_10 {b j : Nat} {f : Nat → Nat → Int32} {v : Int32} : kup f (b + 6) j v (b + 10) = f (b + 10) := kup_ne (by omega)
theorem kq_6_11 {b j : Nat} {f : Nat → Nat → Int32} {v : Int32} : kup f (b + 6) j v (b + 11) = f (b + 11) := kup_ne (by omega)
theorem kq_6_12 {b j : Nat} {f : Nat → Nat → Int32} {v : Int32} : kup f (b + 6) j v (b + 12) = f (b + 12) := kup_ne (by omega)
theorem kq_7_0 {b j : Nat} {f : Nat → Nat → Int32} {v : Int32} : kup f (b + 7) j v (b) = f (b) := kup_ne (by omega)
theorem kq_7_1 {b j : Nat} {f : Nat → Nat → Int32} {v : Int32} : kup f (b + 7) j v (b + 1) = f (b + 1) := kup_ne (by omega)
theorem kq_7_2 {b j : Nat} {f : Nat → Nat → Int32} {v : Int32} : kup f (b + 7) j v (b + 2) = f (b + 2) := kup_ne (by omega)
theorem kq_7_3 {b j : Nat} {f : Nat → Nat → Int32} {v : Int32} : kup f (b + 7) j v (b + 3) = f (b + 3) := kup_ne (by omega)
theorem kq_7_4 {b j : Nat} {f : Nat → Nat → Int32} {v : Int32} : kup f (b + 7) j v (b + 4) = f (b + 4) := kup_ne (by omega)
theorem kq_7_5 {b j : Nat} {f : Nat → Nat → Int32} {v : Int32} : kup f (b + 7) j v (b + 5) = f (b + 5) := kup_ne (by omega)
theorem kq_7_6 {b j : Nat} {f : Nat → Nat → Int32} {v : Int32} : kup f (b + 7) j v (b + 6) = f (b + 6) := kup_ne (by omega)
theorem kq_7_8 {b j : Nat} {f : Nat → Nat → Int32} {v : Int32} : kup f (b + 7) j v (b + 8) = f (b + 8) := kup_ne (by omega)
theorem kq_7_9 {b j : Nat} {f : Nat → Nat → Int32} {v : Int32} : kup f (b + 7) j v (b + 9) = f (b + 9) := kup_ne (by omega)
theorem kq_7_10 {b j : Nat} {f : Nat → Nat → Int32} {v : Int32} : kup f (b + 7) j v (b + 10) = f (b + 10) := kup_ne (by omega)
theorem kq_7_11 {b j : Nat} {f : Nat → Nat → Int32} {v : Int32} : kup f (b + 7) j v (b + 11) = f (b + 11) := kup_ne (by omega)
theorem kq_7_12 {b j : Nat} {f : Nat → Nat → Int32} {v : Int32} : kup f (b + 7) j v (b + 12) = f (b + 12) := kup_ne (by omega)
theorem kq_8_0 {b j : Nat} {f : Nat → Nat → Int32} {v : Int32} : kup f (b + 8) j v (b) = f (b) := kup_ne (by omega)
theorem kq_8_1 {b j : Nat} {f : Nat → Nat → Int32} {v : Int32} : kup f (b + 8) j v (b + 1) = f (b + 1) := kup_ne (by omega)
theorem kq_8_2 {b j : Nat} {f : Nat → Nat → Int32} {v : Int32} : kup f (b + 8) j v (b + 2) = f (b + 2) := kup_ne (by omega)
theorem kq_8_3 {b j : Nat} {f : Nat → Nat → Int32} {v : Int32} : kup f (b + 8) j v (b + 3) = f (b + 3) := kup_ne (by omega)
theorem kq_8_4 {b j : Nat} {f : Nat → Nat → Int32} {v : Int32} : kup f (b + 8) j v (b + 4) = f (b + 4) := kup_ne (by omega)
theorem kq_8_5 {b j : Nat} {f : Nat → Nat → Int32} {v : Int32} : kup f (b + 8) j v (b + 5) = f (b + 5) := kup_ne (by omega)
theorem kq_8_6 {b j : Nat} {f : Nat → Nat → Int32} {v : Int32} : kup f (b + 8) j v (b + 6) = f (b + 6) := kup_ne (by omega)
theorem kq_8_7 {b j : Nat} {f : Nat → Nat → Int32} {v : Int32} : kup f (b + 8) j v (b + 7) = f (b + 7) := kup_ne (by omega)
theorem kq_8_9 {b j : Nat} {f : Nat → Nat → Int32} {v : Int32} : kup f (b + 8) j v (b + 9) = f (b + 9) := kup_ne (by omega)
theorem kq_8_10 {b j : Nat} {f : Nat → Nat → Int32} {v : Int32} : kup f (b + 8) j v (b + 10) = f (b + 10) := kup_ne (by omega)
theorem kq_8_11 {b j : Nat} {f : Nat → Nat → Int32} {v : Int32} : kup f (b + 8) j v (b + 11) = f (b + 11) := kup_ne (by omega)
theorem kq_8_12 {b j : Nat} {f : Nat → Nat → Int32} {v : Int32} : kup f (b + 8) j v (b + 12) = f (b + 12) := kup_ne (by omega)
theorem kq_9_0 {b j : Nat} {f : Nat → Nat → Int32} {v : Int32} : kup f (b + 9) j v (b) = f (b) := kup_ne (by omega)
theorem kq_9_1 {b j : Nat} {f : Nat → Nat → Int32} {v : Int32} : kup f (b + 9) j v (b + 1) = f (b + 1) := kup_ne (by omega)
theorem kq_9_2 {b j : Nat} {f : Nat → Nat → Int32} {v : Int32} : kup f (b + 9) j v (b + 2) = f (b + 2) := kup_ne (by omega)
theorem kq_9_3 {b j : Nat} {f : Nat → Nat → Int32} {v : Int32} : kup f (b + 9) j v (b + 3) = f (b + 3) := kup_ne (by omega)
theorem kq_9_4 {b j : Nat} {f : Nat → Nat → Int32} {v : Int32} : kup f (b + 9) j v (b + 4) = f (b + 4) := kup_ne (by omega)
theorem kq_9_5 {b j : Nat} {f : Nat → Nat → Int32} {v : Int32} : kup f (b + 9) j v (b + 5) = f (b + 5) := kup_ne (by omega)
theorem kq_9_6 {b j : Nat} {f : Nat → Nat → Int32} {v : Int32} : kup f (b + 9) j v (b + 6) = f (b + 6) := kup_ne (by omega)
theorem kq_9_7 {b j : Nat} {f : Nat → Nat → Int32} {v : Int32} : kup f (b + 9) j v (b + 7) = f (b + 7) := kup_ne (by omega)
theorem kq_9_8 {b j : Nat} {f : Nat → Nat → Int32} {v : Int32} : kup f (b + 9) j v (b + 8) = f (b + 8) := kup_ne (by omega)
theorem kq_9_10 {b j : Nat} {f : Nat → Nat → Int32} {v : Int32} : kup f (b + 9) j v (b + 10) = f (b + 10) := kup_ne (by omega)
theorem kq_9_11 {b j : Nat} {f : Nat → Nat → Int32} {v : Int32} : kup f (b + 9) j v (b + 11) = f (b + 11) := kup_ne (by omega)
theorem kq_9_12 {b j : Nat} {f : Nat → Nat → Int32} {v : Int32} : kup f (b + 9) j v (b + 12) = f (b + 12) := kup_ne (by omega)
theorem kq_10_0 {b j : Nat} {f : Nat → Nat → Int32} {v : Int32} : kup f (b + 10) j v (b) = f (b) := kup_ne (by omega)
theorem kq_10_1 {b j : Nat} {f : Nat → Nat → Int32} {v : Int32} : kup f (b + 10) j v (b + 1) = f (b + 1) := kup_ne (by omega)
theorem kq_10_2 {b j : Nat} {f : Nat → Nat → Int32} {v : Int32} : kup f (b + 10) j v (b + 2) = f (b + 2) := kup_ne (by omega)
theorem kq_10_3 {b j : Nat} {f : Nat → Nat → Int32} {v : Int32} : kup f (b + 10) j v (b + 3) = f (b + 3) := kup_ne (by omega)
theorem kq_10_4 {b j : Nat} {f : Nat → Nat → Int32} {v : Int32} : kup f (b + 10) j v (b + 4) = f (b + 4) := kup_ne (by omega)
theorem kq_10_5 {b j : Nat} {f : Nat → Nat → Int32} {v : Int32} : kup f (b + 10) j v (b + 5) = f (b + 5) := kup_ne (by omega)
theorem kq_10_6 {b j : Nat} {f : Nat → Nat → Int32} {v : Int32} : kup f (b + 10) j v (b + 6) = f (b + 6) := kup_ne (by omega)
theorem kq_10_7 {b j : Nat} {f : Nat → Nat → Int32} {v : Int32} : kup f (b + 10) j v (b + 7) = f (b + 7) := kup_ne (by omega)
theorem kq_10_8 {b j : Nat} {f : Nat → Nat → Int32} {v : Int32} : kup f (b + 10) j v (b + 8) = f (b + 8) := kup_ne (by omega)
theorem kq_10_9 {b j : Nat} {f : Nat → Nat → Int32} {v : Int32} : kup f (b + 10) j v (b + 9) = f (b + 9) := kup_ne (by omega)
theorem kq_10_11 {b j : Nat} {f : Nat → Nat → Int32} {v : Int32} : kup f (b + 10) j v (b + 11) = f (b + 11) := kup_ne (by omega)
theorem kq_10_12 {b j : Nat} {f : Nat → Nat → Int32} {v : Int32} : kup f (b + 10) j v (b + 12) = f (b + 12) := kup_ne (by omega)
theorem kq_11_0 {b j : Nat} {f : Nat → Nat → Int32} {v : Int32} : kup f (b + 11) j v (b) = f (b) := kup_ne (by omega)
theorem kq_11_1 {b j : Nat} {f : Nat → Nat → Int32} {v : Int32} : kup f (b + 11) j v (b + 1) = f (b + 1) := kup_ne (by omega)
theorem kq_11_2 {b j : Nat} {f : Nat → Nat → Int32} {v : Int32} : kup f (b + 11) j v (b + 2) = f (b + 2) := kup_ne (by omega)
theorem kq_11_3 {b j : Nat} {f : Nat → Nat → Int32} {v : Int32} : kup f (b + 11) j v (b + 3) = f (b + 3) := kup_ne (by omega)
theorem kq_11_4 {b j : Nat} {f : Nat → Nat → Int32} {v : Int32} : kup f (b + 11) j v (b + 4) = f (b + 4) := kup_ne (by omega)
theorem kq_11_5 {b j : Nat} {f : Nat → Nat → Int32} {v : Int32} : kup f (b + 11) j v (b + 5) = f (b + 5) := kup_ne (by omega)
theorem kq_11_6 {b j : Nat} {f : Nat → Nat → Int32} {v : Int32} : kup f (b + 11) j v (b + 6) = f (b + 6) := kup_ne (by omega)
theorem kq_11_7 {b j : Nat} {f : Nat → Nat → Int32} {v : Int32} : kup f (b + 11) j v (b + 7) = f (b + 7) := kup_ne (by omega)
theorem kq_11_8 {b j : Nat} {f : Nat → Nat → Int32} {v : Int32} : kup f (b + 11) j v (b + 8) = f (b + 8) := kup_ne (by omega)
theorem kq_11_9 {b j : Nat} {f : Nat → Nat → Int32} {v : Int32} : kup f (b + 11) j v (b + 9) = f (b + 9) := kup_ne (by omega)
theorem kq_11_10 {b j : Nat} {f : Nat → Nat → Int32} {v : Int32} : kup f (b + 11) j v (b + 10) = f (b + 10) := kup_ne (by omega)
theorem kq_11_12 {b j : Nat} {f : Nat → Nat → Int32} {v : Int32} : kup f (b + 11) j v (b + 12) = f (b + 12) := kup_ne (by omega)
theorem kq_12_0 {b j : Nat} {f : Nat → Nat → Int32} {v : Int32} : kup f (b + 12) j v (b) = f (b) := kup_ne (by omega)
theorem kq_12_1 {b j : Nat} {f : Nat → Nat → Int32} {v : Int32} : kup f (b + 12) j v (b + 1) = f (b + 1) := kup_ne (by omega)
theorem kq_12_2 {b j : Nat} {f : Nat → Nat → Int32} {v : Int32} : kup f (b + 12) j v (b + 2) = f (b + 2) := kup_ne (by omega)
theorem kq_12_3 {b j : Nat} {f : Nat → Nat → Int32} {v : Int32} : kup f (b + 12) j v (b + 3) = f (b + 3) := kup_ne (by omega)
theorem kq_12_4 {b j : Nat} {f : Nat → Nat → Int32} {v : Int32} : kup f (b + 12) j v (b + 4) = f (b + 4) := kup_ne (by omega)
theorem kq_12_5 {b j : Nat} {f : Nat → Nat → Int32} {v : Int32} : kup f (b + 12) j v (b + 5) = f (b + 5) := kup_ne (by omega)
theorem kq_12_6 {b j : Nat} {f : Nat → Nat → Int32} {v : Int32} : kup f (b + 12) j v (b + 6) = f (b + 6) := kup_ne (by omega)
theorem kq_12_7 {b j : Nat} {f : Nat → Nat → Int32} {v : Int32} : kup f (b + 12) j v (b + 7) = f (b + 7) := kup_ne (by omega)
theorem kq_12_8 {b j : Nat} {f : Nat → Nat → Int32} {v : Int32} : kup f (b + 12) j v (b + 8) = f (b + 8) := kup_ne (by omega)
theorem kq_12_9 {b j : Nat} {f : Nat → Nat → Int32} {v : Int32} : kup f (b + 12) j v (b + 9) = f (b + 9) := kup_ne (by omega)
theorem kq_12_10 {b j : Nat} {f : Nat → Nat → Int32} {v : Int32} : kup f (b + 12) j v (b + 10) = f (b + 10) := kup_ne (by omega)
theorem kq_12_11 {b j : Nat} {f : Nat → Nat → Int32} {v : Int32} : kup f (b + 12) j v (b + 11) = f (b + 11) := kup_ne (by omega)
section POST
variable {mi : Nat → Nat → Int32} {ml : Nat → Nat → Int64} {m : kMem} {Q : Option Value → kMem → Prop} {b i k t p n : Nat} {T : tT}
theorem kup_bb {f : Nat → Nat → Int32} {r s j : Nat} {v : Int32} (h : s ≠ r) : kup f (b + r) j v (b + s) = f (b + s) := kup_ne (by omega)
theorem kup_b0 {f : Nat → Nat → Int32} {r j : Nat} {v : Int32} (h : 0 < r) : kup f (b + r) j v b = f b := kup_ne (by omega)
theorem kup_at {f : Nat → Nat → Int32} {q j : Nat} {v : Int32} : kup f q j v q j = v := by rw [kup_eq]; exact pk_us
theorem kCR_row (h : kCR b T mi) {r j : Nat} (h1 : 1 ≤ r) (h2 : r ≤ 12) (h3 : j < tcnt T r) : mi (b + r) j = nI (T r j) := h.2 r j h1 h2 h3
theorem tcnt_p {T : tT} {r : Nat} (h2 : r ≤ 3) : tcnt T r = T 0 0 := if_pos h2
theorem tcnt_l {T : tT} {r : Nat} (h1 : 4 ≤ r) (h2 : r ≤ 9) : tcnt T r = T 0 4 := by unfold tcnt; rw [if_neg (by omega), if_pos h2]
theorem tcnt_s {T : tT} {r : Nat} (h1 : 10 ≤ r) : tcnt T r = T 0 13 := by unfold tcnt; rw [if_neg (by omega), if_neg (by omega)]
theorem J_wayT (hp : kPost b) (h : kCR b T mi) (ho : tOK T) (hi : i < T 0 4) : kJ 9 0 [some (.ref b), some (.int (nI i))] [] (mi, ml, MR, 95) Q = Q (some (.int (if tway T i = true then nI 1 else nI 0))) (mi, ml, MR, 95) := by
  have hi6 : i < 6 := Nat.lt_of_lt_of_le hi ho.2.1
  rw [J_way hp hi6, kCR_row h (r := 9) (by omega) (by omega) (by rw [tcnt_l (by omega) (by omega)]; exact hi)]
  have hl := (ho.2.2.2.2.2.2.1 i hi).2.2.2.2.2
  have e : (nI (T 9 i) = 0 ∨ nI (T 9 i) = nI 1) ↔ tway T i = true := by
    rw [kz (by omega), nI_eq (by omega) (by omega)]
    unfold tway
    rw [decide_eq_true_iff]
    omega
  by_cases c : tway T i = true
  · rw [if_pos c, if_pos (e.mpr c)]
  · rw [if_neg c, if_neg (fun z => c (e.mp z))]
theorem J_headsT (hp : kPost b) (h : kCR b T mi) (ho : tOK T) (hi : i < T 0 4) : kJ 10 0 [some (.ref b), some (.int (nI i))] [] (mi, ml, MR, 95) Q = Q (some (.int (nI (twhom T i)))) (mi, ml, MR, 95) := by
  have hi6 : i < 6 := Nat.lt_of_lt_of_le hi ho.2.1
  have hl := (ho.2.2.2.2.2.2.1 i hi).2.2.2.2.2
  rw [J_heads hp hi6, kCR_row h (r := 9) (by omega) (by omega) (by rw [tcnt_l (by omega) (by omega)]; exact hi), kCR_row h (r := 6) (by omega) (by omega) (by rw [tcnt_l (by omega) (by omega)]; exact hi), kCR_row h (r := 5) (by omega) (by omega) (by rw [tcnt_l (by omega) (by omega)]; exact hi)]
  unfold twhom
  by_cases c : T 9 i = 0
  · rw [if_pos c, if_pos (by rw [c]; rfl)]
  · rw [if_neg c, if_neg (fun z => c (by rw [kz (by omega)] at z; exact z))]
theorem J_feltI {k t : Int32} : kJ 96 0 [some (.int k), some (.int t), none] [] m Q = Q (some (.int (feltI k t))) m := J_felt
theorem J_sendsI {k t : Int32} : kJ 97 0 [some (.int k), some (.int t)] [] m Q = Q (some (.int (sendsI k t))) m := J_sends
theorem J_altI {k t : Int32} : kJ 98 0 [some (.int k), some (.int t)] [] m Q = Q (some (.int (altI k t))) m := J_altered
theorem J_nearI {a g : Int32} (hp : kPost b) : kJ 24 0 [some (.ref b), some (.int a), some (.int g)] [] (mi, ml, MR, 95) Q = Q (some (.int (nearI a g (mi b 11)))) (mi, ml, MR, 95) := J_nearer hp
theorem J_cheerI {v : Int32} (hp : kPost b) (hi : p < 5) : kJ 26 0 [some (.ref b), some (.int (nI p)), some (.int v), none] [] (mi, ml, MR, 95) Q = Q none (kup mi (b + 3) p (chI (mi (b + 3) p) v), ml, MR, 95) := J_cheer hp hi
theorem J_bring (hp : kPost b) (h : kCR b T mi) (ho : tOK T) (hi : i < T 0 4) (hw : T 9 i < 2) (hQ : ∀ mi', kCR b (tread T i) mi' → kFr b mi mi' → Q none (mi', ml, MR, 95)) : kJ 25 0 [some (.ref b), some (.int (nI i)), none, none, none] [] (mi, ml, MR, 95) Q := by
  have hp0 := hp
  obtain ⟨pis, ⟨r1, r2, r3, r4, r5, r6, r7, r8, r9, r10, r11, r12⟩, ⟨a1, a2, a3, a4, a5, a6, a7, a8, a9, a10, a11, a12⟩, e1, e2, e3, e4, e5, e6, e7, e8, e9, e10, e11, e12⟩ := hp
  have hi6 : i < 6 := Nat.lt_of_lt_of_le hi ho.2.1
  have hwl := twhom_lt ho hi
  have hp5 : twhom T i < 5 := Nat.lt_of_lt_of_le hwl ho.1
  obtain ⟨hk4, -, hm20⟩ := ho.2.2.2.2.2.1 _ hwl
  obtain ⟨-, -, -, ht18, -, -⟩ := ho.2.2.2.2.2.2.1 i hi
  have hleg := kCR_row h (r := 9) (j := i) (by omega) (by omega) (by rw [tcnt_l (by omega) (by omega)]; exact hi)
  have htone := kCR_row h (r := 7) (j := i) (by omega) (by omega) (by rw [tcnt_l (by omega) (by omega)]; exact hi)
  have hkind := kCR_row h (r := 1) (j := twhom T i) (by omega) (by omega) (by rw [tcnt_p (by omega)]; exact hwl)
  have hmood := kCR_row h (r := 3) (j := twhom T i) (by omega) (by omega) (by rw [tcnt_p (by omega)]; exact hwl)
  have hc : (nI i).toNatClampNeg = i := nI_clamp (by omega)
  have hv : vp_in (nI i) 6 := vp_in_nI hi6 (by decide)
  have hc2 : (nI (twhom T i)).toNatClampNeg = twhom T i := nI_clamp (by omega)
  have hv2 : vp_in (nI (twhom T i)) 5 := vp_in_nI hp5 (by decide)
  have hn2 : ¬ nI 2 = 0 := by decide
  rcases (by omega : T 9 i = 0 ∨ T 9 i = 1) with hl | hl
  · rw [hl] at hleg
    have hf := felt_ok _ (by omega : T 3 (twhom T i) < 21) _ hk4 (T 7 i) (by omega)
    have hs := sends_ok _ hk4 (T 7 i) (by omega)
    have ha := alt_ok _ hk4 (T 7 i) (by omega)
    simp only [↓s25_0, ↓s25_1, ↓s25_2, ↓s25_5, ↓s25_6, ↓s25_7, ↓s25_10, ↓s25_11, ↓s25_12, ↓s25_13, ↓s25_14, ↓s25_15, ↓s25_18, ↓s25_19, ↓s25_20, ↓s25_23, ↓s25_25, ↓s25_26, ↓s25_29, ↓s25_30, ↓s25_31, ↓s25_32, ↓s25_35, ↓s25_36, ↓s25_37, ↓s25_39, ↓s25_40, ↓s25_41, ↓s25_44, ↓s25_45, ↓s25_48, ↓s25_49, ↓s25_50, ↓s25_51, ↓s25_52, ↓s25_53, ↓s25_54, ↓s25_56, ↓s25_59, ↓s25_60, ↓s25_61, ↓s25_64, ↓s25_65, ↓s25_66, ↓s25_69, ↓s25_72, ↓s25_73, ↓s25_76, ↓s25_77, ↓s25_78, ↓s25_79, ↓s25_82, ↓s25_83, ↓s25_84, ↓s25_87, ↓s25_88, ↓s25_89, ↓s25_92, ↓s25_93, ↓s25_94, ↓s25_95, ↓s25_98, ↓s25_99, ↓s25_102, ↓s25_103, ↓s25_104, ↓s25_105, ↓J_headsT hp0 h ho hi, ↓J_feltI, ↓J_cheerI hp0 hp5, ↓J_sendsI, ↓J_altI, kNLn, kNLi, kNLr, va_rf_s, kOl_n, kOl_s, kap_n, kap_c, kb0, kb1, kbif, pis, r1, r2, r3, r4, r5, r6, r7, r8, r9, r10, r11, r12, a1, a2, a3, a4, a5, a6, a7, a8, a9, a10, a11, a12, e1, e2, e3, e4, e5, e6, e7, e8, e9, e10, e11, e12, hc, hv, hc2, hv2, hleg, htone, hkind, hmood, hn2, n00, if_false, true_and, kq_0_1, kq_0_2, kq_0_3, kq_0_4, kq_0_5, kq_0_6, kq_0_7, kq_0_8, kq_0_9, kq_0_10, kq_0_11, kq_0_12, kq_1_0, kq_1_2, kq_1_3, kq_1_4, kq_1_5, kq_1_6, kq_1_7, kq_1_8, kq_1_9, kq_1_10, kq_1_11, kq_1_12, kq_2_0, kq_2_1, kq_2_3, kq_2_4, kq_2_5, kq_2_6, kq_2_7, kq_2_8, kq_2_9, kq_2_10, kq_2_11, kq_2_12, kq_3_0, kq_3_1, kq_3_2, kq_3_4, kq_3_5, kq_3_6, kq_3_7, kq_3_8, kq_3_9, kq_3_10, kq_3_11, kq_3_12, kq_4_0, kq_4_1, kq_4_2, kq_4_3, kq_4_5, kq_4_6, kq_4_7, kq_4_8, kq_4_9, kq_4_10, kq_4_11, kq_4_12, kq_5_0, kq_5_1, kq_5_2, kq_5_3, kq_5_4, kq_5_6, kq_5_7, kq_5_8, kq_5_9, kq_5_10, kq_5_11, kq_5_12, kq_6_0, kq_6_1, kq_6_2, kq_6_3, kq_6_4, kq_6_5, kq_6_7, kq_6_8, kq_6_9, kq_6_10, kq_6_11, kq_6_12, kq_7_0, kq_7_1, kq_7_2, kq_7_3, kq_7_4, kq_7_5, kq_7_6, kq_7_8, kq_7_9, kq_7_10, kq_7_11, kq_7_12, kq_8_0, kq_8_1, kq_8_2, kq_8_3, kq_8_4, kq_8_5, kq_8_6, kq_8_7, kq_8_9, kq_8_10, kq_8_11, kq_8_12, kq_9_0, kq_9_1, kq_9_2, kq_9_3, kq_9_4, kq_9_5, kq_9_6, kq_9_7, kq_9_8, kq_9_10, kq_9_11, kq_9_12, kq_10_0, kq_10_1, kq_10_2, kq_10_3, kq_10_4, kq_10_5, kq_10_6, kq_10_7, kq_10_8, kq_10_9, kq_10_11, kq_10_12, kq_11_0, kq_11_1, kq_11_2, kq_11_3, kq_11_4, kq_11_5, kq_11_6, kq_11_7, kq_11_8, kq_11_9, kq_11_10, kq_11_12, kq_12_0, kq_12_1, kq_12_2, kq_12_3, kq_12_4, kq_12_5, kq_12_6, kq_12_7, kq_12_8, kq_12_9, kq_12_10, kq_12_11, not_false_eq_true, hf, hs, ha, zif, Decidable.not_not]
    unfold tread at hQ
    simp only [hl] at hQ
    by_cases hsd : sends (T 1 (twhom T i)) (T 7 i) = true
    · rw [if_neg (by simpa using hsd)]
      rw [if_neg (by decide), if_pos hsd] at hQ
      exact hQ _ (kCR_up (kCR_up (kCR_up h (by omega)) (by omega)) (by omega)) (kFr_up (kFr_up (kFr_up kFr_rf (by omega)) (by omega)) (by omega))
    · rw [if_pos (by simpa using hsd)]
      rw [if_neg (by decide), if_neg hsd] at hQ
      exact hQ _ (kCR_up (kCR_up h (by omega)) (by omega)) (kFr_up (kFr_up kFr_rf (by omega)) (by omega))
  · rw [hl] at hleg
    have hf := felt_ok2 _ (by omega : T 3 (twhom T i) < 21) _ hk4 (T 7 i) (by omega)
    simp only [↓s25_0, ↓s25_1, ↓s25_2, ↓s25_5, ↓s25_6, ↓s25_7, ↓s25_10, ↓s25_11, ↓s25_12, ↓s25_13, ↓s25_14, ↓s25_15, ↓s25_18, ↓s25_19, ↓s25_20, ↓s25_23, ↓s25_25, ↓s25_26, ↓s25_29, ↓s25_30, ↓s25_31, ↓s25_32, ↓s25_35, ↓s25_36, ↓s25_37, ↓s25_39, ↓s25_40, ↓s25_41, ↓s25_44, ↓s25_45, ↓s25_48, ↓s25_49, ↓s25_50, ↓s25_51, ↓s25_52, ↓s25_53, ↓s25_54, ↓s25_56, ↓s25_59, ↓s25_60, ↓s25_61, ↓s25_64, ↓s25_65, ↓s25_66, ↓s25_69, ↓s25_72, ↓s25_73, ↓s25_76, ↓s25_77, ↓s25_78, ↓s25_79, ↓s25_82, ↓s25_83, ↓s25_84, ↓s25_87, ↓s25_88, ↓s25_89, ↓s25_92, ↓s25_93, ↓s25_94, ↓s25_95, ↓s25_98, ↓s25_99, ↓s25_102, ↓s25_103, ↓s25_104, ↓s25_105, ↓J_headsT hp0 h ho hi, ↓J_feltI, ↓J_cheerI hp0 hp5, kNLn, kNLi, kNLr, va_rf_s, kOl_n, kOl_s, kap_n, kap_c, kb0, kb1, kbif, pis, r1, r2, r3, r4, r5, r6, r7, r8, r9, r10, r11, r12, a1, a2, a3, a4, a5, a6, a7, a8, a9, a10, a11, a12, e1, e2, e3, e4, e5, e6, e7, e8, e9, e10, e11, e12, hc, hv, hc2, hv2, hleg, htone, hkind, hmood, hn2, if_true, true_and, kq_0_1, kq_0_2, kq_0_3, kq_0_4, kq_0_5, kq_0_6, kq_0_7, kq_0_8, kq_0_9, kq_0_10, kq_0_11, kq_0_12, kq_1_0, kq_1_2, kq_1_3, kq_1_4, kq_1_5, kq_1_6, kq_1_7, kq_1_8, kq_1_9, kq_1_10, kq_1_11, kq_1_12, kq_2_0, kq_2_1, kq_2_3, kq_2_4, kq_2_5, kq_2_6, kq_2_7, kq_2_8, kq_2_9, kq_2_10, kq_2_11, kq_2_12, kq_3_0, kq_3_1, kq_3_2, kq_3_4, kq_3_5, kq_3_6, kq_3_7, kq_3_8, kq_3_9, kq_3_10, kq_3_11, kq_3_12, kq_4_0, kq_4_1, kq_4_2, kq_4_3, kq_4_5, kq_4_6, kq_4_7, kq_4_8, kq_4_9, kq_4_10, kq_4_11, kq_4_12, kq_5_0, kq_5_1, kq_5_2, kq_5_3, kq_5_4, kq_5_6, kq_5_7, kq_5_8, kq_5_9, kq_5_10, kq_5_11, kq_5_12, kq_6_0, kq_6_1, kq_6_2, kq_6_3, kq_6_4, kq_6_5, kq_6_7, kq_6_8, kq_6_9, kq_6_10, kq_6_11, kq_6_12, kq_7_0, kq_7_1, kq_7_2, kq_7_3, kq_7_4, kq_7_5, kq_7_6, kq_7_8, kq_7_9, kq_7_10, kq_7_11, kq_7_12, kq_8_0, kq_8_1, kq_8_2, kq_8_3, kq_8_4, kq_8_5, kq_8_6, kq_8_7, kq_8_9, kq_8_10, kq_8_11, kq_8_12, kq_9_0, kq_9_1, kq_9_2, kq_9_3, kq_9_4, kq_9_5, kq_9_6, kq_9_7, kq_9_8, kq_9_10, kq_9_11, kq_9_12, kq_10_0, kq_10_1, kq_10_2, kq_10_3, kq_10_4, kq_10_5, kq_10_6, kq_10_7, kq_10_8, kq_10_9, kq_10_11, kq_10_12, kq_11_0, kq_11_1, kq_11_2, kq_11_3, kq_11_4, kq_11_5, kq_11_6, kq_11_7, kq_11_8, kq_11_9, kq_11_10, kq_11_12, kq_12_0, kq_12_1, kq_12_2, kq_12_3, kq_12_4, kq_12_5, kq_12_6, kq_12_7, kq_12_8, kq_12_9, kq_12_10, kq_12_11, not_false_eq_true, hf]
    unfold tread at hQ
    simp only [hl] at hQ
    exact hQ _ (kCR_up (kCR_up h (by omega)) (by omega)) (kFr_up (kFr_up kFr_rf (by omega)) (by omega))
/-- the loop over the letters -/
theorem J_passOne (hp : kPost b) (h : kCR b T mi) (ho : tOK T) (hQ : ∀ mi', kCR b (tday T) mi' → kFr b mi mi' → Q (some (.int (nI (trdF T (T 0 4))))) (mi', ml, MR, 95)) : kJ 23 0 [some (.ref b), none, none, none] [] (mi, ml, MR, 95) Q := by
  have hp0 := hp
  obtain ⟨pis, ⟨r1, r2, r3, r4, r5, r6, r7, r8, r9, r10, r11, r12⟩, ⟨a1, a2, a3, a4, a5, a6, a7, a8, a9, a10, a11, a12⟩, e1, e2, e3, e4, e5, e6, e7, e8, e9, e10, e11, e12⟩ := hp
  simp only [↓s23_0, ↓s23_1, ↓s23_2, ↓s23_3, ↓s23_5, ↓s23_6, ↓s23_9, ↓s23_12, ↓s23_13, ↓s23_14, ↓s23_17, ↓s23_20, ↓s23_21, ↓s23_24, ↓s23_25, ↓s23_26, ↓s23_29, ↓s23_30, ↓s23_31, ↓s23_32, ↓s23_35, ↓s23_36, ↓s23_37, ↓s23_38, ↓s23_41, ↓s23_42, ↓s23_43, ↓s23_44, ↓s23_47, ↓s23_48, ↓s23_49, ↓s23_52, ↓s23_53, ↓s23_54, ↓s23_55, ↓s23_58, ↓s23_59, ↓s23_60, ↓s23_63, ↓s23_66, ↓s23_69, ↓s23_72, ↓s23_73, kNLn, kNLi, kNLr, va_rf_s, kOl_n, kOl_s, kap_n, kap_c, kb0, kb1, kbif]
  have loop : ∀ (n i : Nat) (mi1 : Nat → Nat → Int32) (l3 : Option Value), i + n = T 0 4 → kNL l3 = true → kCR b (tdayF T i) mi1 → kFr b mi mi1 → kJ 23 4 [some (.ref b), some (.int (nI (trdF T i))), some (.int (nI i)), l3] [] (mi1, ml, MR, 95) Q := by
    intro n
    induction n with
    | zero =>
      intro i mi1 l3 hn h3 h1 hf1
      have ok := tdayF_ok ho i (by omega)
      have hlet : mi1 b 4 = nI (T 0 4) := by
        rw [h1.1.2.1, ok.2 0 4 (by omega) (by omega) (by omega) (by omega)]
      rw [s23_4]
      have e : i = T 0 4 := by omega
      simp only [↓s23_0, ↓s23_1, ↓s23_2, ↓s23_3, ↓s23_5, ↓s23_6, ↓s23_9, ↓s23_12, ↓s23_13, ↓s23_14, ↓s23_17, ↓s23_20, ↓s23_21, ↓s23_24, ↓s23_25, ↓s23_26, ↓s23_29, ↓s23_30, ↓s23_31, ↓s23_32, ↓s23_35, ↓s23_36, ↓s23_37, ↓s23_38, ↓s23_41, ↓s23_42, ↓s23_43, ↓s23_44, ↓s23_47, ↓s23_48, ↓s23_49, ↓s23_52, ↓s23_53, ↓s23_54, ↓s23_55, ↓s23_58, ↓s23_59, ↓s23_60, ↓s23_63, ↓s23_66, ↓s23_69, ↓s23_72, ↓s23_73, kNLn, kNLi, kNLr, va_rf_s, kOl_n, kOl_s, kap_n, kap_c, kb0, kb1, kbif, pis, r1, r2, r3, r4, r5, r6, r7, r8, r9, r10, r11, r12, a1, a2, a3, a4, a5, a6, a7, a8, a9, a10, a11, a12, e1, e2, e3, e4, e5, e6, e7, e8, e9, e10, e11, e12, hlet]
      rw [if_pos (by rw [e]; exact Int32.le_refl _)]
      subst e
      exact hQ mi1 h1 hf1
    | succ n ih =>
      intro i mi1 l3 hn h3 h1 hf1
      have ok := tdayF_ok ho i (by omega)
      have ek : ∀ r k, r ≠ 3 → r ≠ 7 → r ≠ 8 → r ≠ 9 → tdayF T i r k = T r k := ok.2
      have hlet : mi1 b 4 = nI (T 0 4) := by
        rw [h1.1.2.1, ek 0 4 (by omega) (by omega) (by omega) (by omega)]
      have hpace : mi1 b 11 = nI (T 0 11) := by
        rw [h1.1.2.2.1, ek 0 11 (by omega) (by omega) (by omega) (by omega)]
      have hi : i < tdayF T i 0 4 := by rw [ek 0 4 (by omega) (by omega) (by omega) (by omega)]; omega
      have hi6 : i < 6 := by have := ho.2.1; omega
      have hlt : ¬ nI (T 0 4) ≤ nI i := nI_ge (by omega) (by have := ho.2.1; omega)
      have hc : (nI i).toNatClampNeg = i := nI_clamp (by omega)
      have hv : vp_in (nI i) 6 := vp_in_nI hi6 (by decide)
      have hwl := twhom_lt ok.1 hi
      have hp5 : twhom (tdayF T i) i < 5 := Nat.lt_of_lt_of_le hwl ok.1.1
      have hc2 : (nI (twhom (tdayF T i) i)).toNatClampNeg = twhom (tdayF T i) i := nI_clamp (by omega)
      have hv2 : vp_in (nI (twhom (tdayF T i) i)) 5 := vp_in_nI hp5 (by decide)
      have hat := kCR_row h1 (r := 8) (j := i) (by omega) (by omega) (by rw [tcnt_l (by omega) (by omega)]; exact hi)
      have hdoor := kCR_row h1 (r := 2) (j := twhom (tdayF T i) i) (by omega) (by omega) (by rw [tcnt_p (by omega)]; exact hwl)
      have hg10 := (ok.1.2.2.2.2.2.1 _ hwl).2.1
      have ha10 := (ok.1.2.2.2.2.2.2.1 i hi).2.2.2.2.1
      have hnr := near_ok _ ha10 _ hg10 (T 0 11) (by have := ho.2.2.2.1; omega)
      have hnl := near_lt _ ha10 _ hg10 (T 0 11) (by have := ho.2.2.2.1; omega)
      have e1 : nI i + nI 1 = nI (i + 1) := nI_add i 1
      rw [s23_4]
      simp only [↓s23_0, ↓s23_1, ↓s23_2, ↓s23_3, ↓s23_5, ↓s23_6, ↓s23_9, ↓s23_12, ↓s23_13, ↓s23_14, ↓s23_17, ↓s23_20, ↓s23_21, ↓s23_24, ↓s23_25, ↓s23_26, ↓s23_29, ↓s23_30, ↓s23_31, ↓s23_32, ↓s23_35, ↓s23_36, ↓s23_37, ↓s23_38, ↓s23_41, ↓s23_42, ↓s23_43, ↓s23_44, ↓s23_47, ↓s23_48, ↓s23_49, ↓s23_52, ↓s23_53, ↓s23_54, ↓s23_55, ↓s23_58, ↓s23_59, ↓s23_60, ↓s23_63, ↓s23_66, ↓s23_69, ↓s23_72, ↓s23_73, ↓J_wayT hp0 h1 ok.1 hi, ↓J_headsT hp0 h1 ok.1 hi, ↓J_nearI hp0, kNLn, kNLi, kNLr, va_rf_s, kOl_n, kOl_s, kap_n, kap_c, kb0, kb1, kbif, pis, r1, r2, r3, r4, r5, r6, r7, r8, r9, r10, r11, r12, a1, a2, a3, a4, a5, a6, a7, a8, a9, a10, a11, a12, e1, e2, e3, e4, e5, e6, e7, e8, e9, e10, e11, e12, hlet, hlt, if_false, zif, hc, hv, hc2, hv2, hat, hdoor, hpace, hnr, true_and, kq_0_1, kq_0_2, kq_0_3, kq_0_4, kq_0_5, kq_0_6, kq_0_7, kq_0_8, kq_0_9, kq_0_10, kq_0_11, kq_0_12, kq_1_0, kq_1_2, kq_1_3, kq_1_4, kq_1_5, kq_1_6, kq_1_7, kq_1_8, kq_1_9, kq_1_10, kq_1_11, kq_1_12, kq_2_0, kq_2_1, kq_2_3, kq_2_4, kq_2_5, kq_2_6, kq_2_7, kq_2_8, kq_2_9, kq_2_10, kq_2_11, kq_2_12, kq_3_0, kq_3_1, kq_3_2, kq_3_4, kq_3_5, kq_3_6, kq_3_7, kq_3_8, kq_3_9, kq_3_10, kq_3_11, kq_3_12, kq_4_0, kq_4_1, kq_4_2, kq_4_3, kq_4_5, kq_4_6, kq_4_7, kq_4_8, kq_4_9, kq_4_10, kq_4_11, kq_4_12, kq_5_0, kq_5_1, kq_5_2, kq_5_3, kq_5_4, kq_5_6, kq_5_7, kq_5_8, kq_5_9, kq_5_10, kq_5_11, kq_5_12, kq_6_0, kq_6_1, kq_6_2, kq_6_3, kq_6_4, kq_6_5, kq_6_7, kq_6_8, kq_6_9, kq_6_10, kq_6_11, kq_6_12, kq_7_0, kq_7_1, kq_7_2, kq_7_3, kq_7_4, kq_7_5, kq_7_6, kq_7_8, kq_7_9, kq_7_10, kq_7_11, kq_7_12, kq_8_0, kq_8_1, kq_8_2, kq_8_3, kq_8_4, kq_8_5, kq_8_6, kq_8_7, kq_8_9, kq_8_10, kq_8_11, kq_8_12, kq_9_0, kq_9_1, kq_9_2, kq_9_3, kq_9_4, kq_9_5, kq_9_6, kq_9_7, kq_9_8, kq_9_10, kq_9_11, kq_9_12, kq_10_0, kq_10_1, kq_10_2, kq_10_3, kq_10_4, kq_10_5, kq_10_6, kq_10_7, kq_10_8, kq_10_9, kq_10_11, kq_10_12, kq_11_0, kq_11_1, kq_11_2, kq_11_3, kq_11_4, kq_11_5, kq_11_6, kq_11_7, kq_11_8, kq_11_9, kq_11_10, kq_11_12, kq_12_0, kq_12_1, kq_12_2, kq_12_3, kq_12_4, kq_12_5, kq_12_6, kq_12_7, kq_12_8, kq_12_9, kq_12_10, kq_12_11, kup_at, h3, e1]
      have eT : tdayF T (i + 1) = if tway (tdayF T i) i then tgo (tdayF T i) i else tdayF T i := rfl
      have eR : trdF T (i + 1) = trdF T i + (if tway (tdayF T i) i ∧ tnear (tdayF T i 8 i) (tdayF T i 2 (twhom (tdayF T i) i)) (T 0 11) = tdayF T i 2 (twhom (tdayF T i) i) then 1 else 0) := rfl
      by_cases hw : tway (tdayF T i) i = true
      · rw [if_neg (by simpa using hw)]
        rw [if_pos hw] at eT
        have h1' : kCR b (tup (tdayF T i) 8 i (tnear (tdayF T i 8 i) (tdayF T i 2 (twhom (tdayF T i) i)) (T 0 11))) (kup mi1 (b + 8) i (nI (tnear (tdayF T i 8 i) (tdayF T i 2 (twhom (tdayF T i) i)) (T 0 11)))) := kCR_up h1 (by omega)
        have ep : tdayF T i 0 11 = T 0 11 := ek 0 11 (by omega) (by omega) (by omega) (by omega)
        by_cases hg : tnear (tdayF T i 8 i) (tdayF T i 2 (twhom (tdayF T i) i)) (T 0 11) = tdayF T i 2 (twhom (tdayF T i) i)
        · rw [if_pos (by rw [hg])]
          rw [if_pos ⟨hw, hg⟩] at eR
          have eT2 : tdayF T (i + 1) = tread (tup (tdayF T i) 8 i (tnear (tdayF T i 8 i) (tdayF T i 2 (twhom (tdayF T i) i)) (T 0 11))) i := by
            rw [eT]
            unfold tgo
            simp only
            rw [ep, if_pos hg]
          refine J_bring hp0 h1' (tOK_upL ok.1 (Or.inr (Or.inl ⟨rfl, hnl⟩))) (by rw [tup_n (by omega)]; exact hi) (by rw [tup_n (by omega)]; exact of_decide_eq_true hw) (fun mi2 h2 f2 => ?_)
          have e2 : nI (trdF T i) + nI 1 = nI (trdF T (i + 1)) := by rw [eR]; exact nI_add _ 1
          rw [e2]
          rw [← eT2] at h2
          exact ih (i + 1) mi2 _ (by omega) rfl h2 (kFr_tr hf1 (kFr_tr (kFr_up kFr_rf (by omega)) f2))
        · rw [if_neg (fun z => hg ((nI_eq (by omega) (by omega)).mp z))]
          rw [if_neg (fun z => hg z.2)] at eR
          have eT2 : tdayF T (i + 1) = tup (tdayF T i) 8 i (tnear (tdayF T i 8 i) (tdayF T i 2 (twhom (tdayF T i) i)) (T 0 11)) := by
            rw [eT]
            unfold tgo
            simp only
            rw [ep, if_neg hg]
          rw [← eT2] at h1'
          have := ih (i + 1) _ (some (.int (nI (tdayF T i 2 (twhom (tdayF T i) i))))) (by omega) rfl h1' (kFr_tr hf1 (kFr_up kFr_rf (by omega)))
          rw [eR] at this
          exact this
      · rw [if_pos hw]
        rw [if_neg hw] at eT
        rw [if_neg (fun z => hw z.1)] at eR
        have := ih (i + 1) mi1 l3 (by omega) h3 (by rw [eT]; exact h1) hf1
        rw [eR] at this
        exact this
  exact loop (T 0 4) 0 mi none (by omega) rfl h kFr_rf
/-- is any letter on its way -/
def tanyF (T : tT) : Nat → Bool
  | 0 => false
  | i + 1 => tanyF T i || tway T i
theorem J_any (hp : kPost b) (h : kCR b T mi) (ho : tOK T) : kJ 19 0 [some (.ref b), none] [] (mi, ml, MR, 95) Q = Q (some (.int (if tanyF T (T 0 4) = true then nI 1 else nI 0))) (mi, ml, MR, 95) := by
  have hp0 := hp
  obtain ⟨pis, ⟨r1, r2, r3, r4, r5, r6, r7, r8, r9, r10, r11, r12⟩, ⟨a1, a2, a3, a4, a5, a6, a7, a8, a9, a10, a11, a12⟩, e1, e2, e3, e4, e5, e6, e7, e8, e9, e10, e11, e12⟩ := hp
  simp only [↓s19_0, ↓s19_1, ↓s19_3, ↓s19_4, ↓s19_7, ↓s19_10, ↓s19_11, ↓s19_12, ↓s19_15, ↓s19_18, ↓s19_19, ↓s19_20, ↓s19_23, ↓s19_26, ↓s19_27, kNLn, kNLi, kNLr, va_rf_s, kOl_n, kOl_s, kap_n, kap_c, kb0, kb1, kbif]
  have loop : ∀ (n i : Nat), i + n = T 0 4 → tanyF T i = false → kJ 19 2 [some (.ref b), some (.int (nI i))] [] (mi, ml, MR, 95) Q = Q (some (.int (if tanyF T (T 0 4) = true then nI 1 else nI 0))) (mi, ml, MR, 95) := by
    intro n
    induction n with
    | zero =>
      intro i hn hf
      have e : i = T 0 4 := by omega
      rw [s19_2]
      simp only [↓s19_0, ↓s19_1, ↓s19_3, ↓s19_4, ↓s19_7, ↓s19_10, ↓s19_11, ↓s19_12, ↓s19_15, ↓s19_18, ↓s19_19, ↓s19_20, ↓s19_23, ↓s19_26, ↓s19_27, kNLn, kNLi, kNLr, va_rf_s, kOl_n, kOl_s, kap_n, kap_c, kb0, kb1, kbif, pis, r1, r2, r3, r4, r5, r6, r7, r8, r9, r10, r11, r12, a1, a2, a3, a4, a5, a6, a7, a8, a9, a10, a11, a12, e1, e2, e3, e4, e5, e6, e7, e8, e9, e10, e11, e12, h.1.2.1]
      rw [if_pos (by rw [e]; exact Int32.le_refl _), if_neg (by rw [← e, hf]; decide)]
    | succ n ih =>
      intro i hn hf
      have hlt : ¬ nI (T 0 4) ≤ nI i := nI_ge (by omega) (by have := ho.2.1; omega)
      have e1 : nI i + nI 1 = nI (i + 1) := nI_add i 1
      rw [s19_2]
      simp only [↓s19_0, ↓s19_1, ↓s19_3, ↓s19_4, ↓s19_7, ↓s19_10, ↓s19_11, ↓s19_12, ↓s19_15, ↓s19_18, ↓s19_19, ↓s19_20, ↓s19_23, ↓s19_26, ↓s19_27, ↓J_wayT hp0 h ho (by omega : i < T 0 4), kNLn, kNLi, kNLr, va_rf_s, kOl_n, kOl_s, kap_n, kap_c, kb0, kb1, kbif, pis, r1, r2, r3, r4, r5, r6, r7, r8, r9, r10, r11, r12, a1, a2, a3, a4, a5, a6, a7, a8, a9, a10, a11, a12, e1, e2, e3, e4, e5, e6, e7, e8, e9, e10, e11, e12, h.1.2.1, hlt, if_false, zif, e1]
      by_cases hw : tway T i = true
      · rw [if_neg (by simpa using hw)]
        have hall : ∀ k, tanyF T (i + 1 + k) = true := by
          intro k
          induction k with
          | zero => show (tanyF T i || tway T i) = true; rw [hw, Bool.or_true]
          | succ k ih2 => show (tanyF T (i + 1 + k) || _) = true; rw [ih2, Bool.true_or]
        have e2 : tanyF T (T 0 4) = true := by
          have := hall n
          rw [show i + 1 + n = T 0 4 by omega] at this
          exact this
        rw [if_pos e2]
      · rw [if_pos hw]
        exact ih (i + 1) (by omega) (by show (tanyF T i || tway T i) = false; rw [hf, Bool.false_or]; exact Bool.eq_false_iff.mpr hw)
  exact loop (T 0 4) 0 (by omega) rfl
theorem tany_none {T : tT} : ∀ {n : Nat}, tanyF T n = false → ∀ i, i < n → tway T i = false := by
  intro n
  induction n with
  | zero => intro _ i hi; omega
  | succ n ih =>
    intro h i hi
    have h' : (tanyF T n || tway T n) = false := h
    rw [Bool.or_eq_false_iff] at h'
    by_cases hin : i = n
    · subst hin; exact h'.2
    · exact ih h'.1 i (by omega)
theorem tdayF_none {T : tT} {n : Nat} (h : ∀ i, i < n → tway T i = false) : tdayF T n = T := by
  induction n with
  | zero => rfl
  | succ n ih =>
    have e := ih (fun i hi => h i (by omega))
    show (if tway (tdayF T n) n then tgo (tdayF T n) n else tdayF T n) = T
    rw [e, if_neg (by rw [h n (by omega)]; decide)]
theorem tday_none {T : tT} (h : tanyF T (T 0 4) = false) : tday T = T := tdayF_none (tany_none h)
/-- n days of letters -/
def tdays : Nat → tT → tT
  | 0, T => T
  | n + 1, T => tdays n (tday T)
theorem tdays_ok {T : tT} (h : tOK T) (n : Nat) : tOK (tdays n T) ∧ tKeep T (tdays n T) := by
  induction n generalizing T with
  | zero => exact ⟨h, tKeep_rf⟩
  | succ n ih =>
    have h1 := tday_ok h
    have h2 := ih h1.1
    exact ⟨h2.1, tKeep_tr h1.2 h2.2⟩
theorem tdays_none {T : tT} (h : tanyF T (T 0 4) = false) (n : Nat) : tdays n T = T := by
  induction n with
  | zero => rfl
  | succ n ih => show tdays n (tday T) = T; rw [tday_none h]; exact ih
/-- n days, and the date -/
def tpass (n : Nat) (T : tT) : tT := tup (tdays n T) 0 12 (T 0 12 + n)
theorem kCR_day {v : Nat} (h : kCR b T mi) : kCR b (tup T 0 12 v) (kup mi b 12 (nI v)) := by
  obtain ⟨⟨h0, h4, h11, h12, h13⟩, hrow⟩ := h
  refine ⟨?_, fun a j h1 h2 h3 => ?_⟩
  · rw [kup_eq, pk_un (by omega), pk_un (by omega), pk_un (by omega), pk_us, pk_un (by omega), tup_n (by omega), tup_n (by omega), tup_n (by omega), tup_s, tup_n (by omega)]
    exact ⟨h0, h4, h11, rfl, h13⟩
  · have e : tcnt (tup T 0 12 v) a = tcnt T a := by
      unfold tcnt
      rw [tup_n (by omega), tup_n (by omega), tup_n (by omega)]
    rw [e] at h3
    rw [kup_ne (by omega), tup_n (by omega)]
    exact hrow a j h1 h2 h3
theorem tOK_day {v : Nat} (h : tOK T) (hv : v < 2000) : tOK (tup T 0 12 v) := by
  obtain ⟨h1, h2, h3, h4, h5, h6, h7, h8⟩ := h
  have e : ∀ r j, ¬ (r = 0 ∧ j = 12) → tup T 0 12 v r j = T r j := fun r j hr => tup_n hr
  refine ⟨by rw [e 0 0 (by omega)]; exact h1, by rw [e 0 4 (by omega)]; exact h2, by rw [e 0 13 (by omega)]; exact h3, by rw [e 0 11 (by omega)]; exact h4, by rw [tup_s]; exact hv, fun p hp => ?_, fun i hi => ?_, fun j hj => ?_⟩
  · rw [e 0 0 (by omega)] at hp
    rw [e 1 p (by omega), e 2 p (by omega), e 3 p (by omega)]
    exact h6 p hp
  · rw [e 0 4 (by omega)] at hi
    rw [e 0 0 (by omega), e 4 i (by omega), e 5 i (by omega), e 6 i (by omega), e 7 i (by omega), e 8 i (by omega), e 9 i (by omega)]
    exact h7 i hi
  · rw [e 0 13 (by omega)] at hj
    rw [e 0 0 (by omega), e 10 j (by omega), e 11 j (by omega), e 12 j (by omega)]
    exact h8 j hj
theorem tpass_ok (h : tOK T) (hd : T 0 12 + n < 2000) : tOK (tpass n T) := tOK_day (tdays_ok h n).1 hd
theorem tmoodF_day {v : Nat} : ∀ k, tmoodF (tup T 0 12 v) k = tmoodF T k := by
  intro k
  induction k with
  | zero => rfl
  | succ k ih => show tmoodF _ k + _ = tmoodF _ k + _; rw [ih, tup_n (by omega)]
theorem tmoods_day {v : Nat} : tmoods (tup T 0 12 v) = tmoods T := by
  unfold tmoods
  rw [tmoodF_day, tup_n (by omega)]
theorem J_pass (hp : kPost b) (h : kCR b T mi) (ho : tOK T) (hn : n < 100) (hQ : ∀ mi', kCR b (tpass n T) mi' → kFr b mi mi' → Q none (mi', ml, MR, 95)) : kJ 20 0 [some (.ref b), some (.int (nI n)), none] [] (mi, ml, MR, 95) Q := by
  have hp0 := hp
  obtain ⟨pis, ⟨r1, r2, r3, r4, r5, r6, r7, r8, r9, r10, r11, r12⟩, ⟨a1, a2, a3, a4, a5, a6, a7, a8, a9, a10, a11, a12⟩, e1, e2, e3, e4, e5, e6, e7, e8, e9, e10, e11, e12⟩ := hp
  simp only [↓s20_0, ↓s20_1, ↓s20_3, ↓s20_4, ↓s20_7, ↓s20_8, ↓s20_11, ↓s20_14, ↓s20_15, ↓s20_18, ↓s20_19, ↓s20_22, ↓s20_25, ↓s20_26, ↓s20_27, ↓s20_30, ↓s20_31, ↓s20_32, ↓s20_35, kNLn, kNLi, kNLr, va_rf_s, kOl_n, kOl_s, kap_n, kap_c, kb0, kb1, kbif]
  have fin : ∀ (mi1 : Nat → Nat → Int32) (l2 : Option Value), kCR b (tdays n T) mi1 → kFr b mi mi1 → kJ 20 25 [some (.ref b), some (.int (nI n)), l2] [] (mi1, ml, MR, 95) Q := by
    intro mi1 l2 h1 f1
    have hd : mi1 b 12 = nI (T 0 12) := by rw [h1.1.2.2.2.1, (tdays_ok ho n).2 0 12 (by omega) (by omega) (by omega) (by omega)]
    simp only [↓s20_0, ↓s20_1, ↓s20_3, ↓s20_4, ↓s20_7, ↓s20_8, ↓s20_11, ↓s20_14, ↓s20_15, ↓s20_18, ↓s20_19, ↓s20_22, ↓s20_25, ↓s20_26, ↓s20_27, ↓s20_30, ↓s20_31, ↓s20_32, ↓s20_35, kNLn, kNLi, kNLr, va_rf_s, kOl_n, kOl_s, kap_n, kap_c, kb0, kb1, kbif, pis, r1, r2, r3, r4, r5, r6, r7, r8, r9, r10, r11, r12, a1, a2, a3, a4, a5, a6, a7, a8, a9, a10, a11, a12, e1, e2, e3, e4, e5, e6, e7, e8, e9, e10, e11, e12, hd, nI_add]
    exact hQ _ (kCR_day h1) (kFr_up0 f1)
  have loop : ∀ (k i : Nat) (T1 : tT) (mi1 : Nat → Nat → Int32), i + k = n → tOK T1 → tdays k T1 = tdays n T → kCR b T1 mi1 → kFr b mi mi1 → kJ 20 2 [some (.ref b), some (.int (nI n)), some (.int (nI i))] [] (mi1, ml, MR, 95) Q := by
    intro k
    induction k with
    | zero =>
      intro i T1 mi1 hk o1 e1 h1 f1
      rw [s20_2]
      simp only [↓s20_0, ↓s20_1, ↓s20_3, ↓s20_4, ↓s20_7, ↓s20_8, ↓s20_11, ↓s20_14, ↓s20_15, ↓s20_18, ↓s20_19, ↓s20_22, ↓s20_26, ↓s20_27, ↓s20_30, ↓s20_31, ↓s20_32, ↓s20_35, kNLn, kNLi, kNLr, va_rf_s, kOl_n, kOl_s, kap_n, kap_c, kb0, kb1, kbif]
      rw [if_pos (by rw [show i = n by omega]; exact Int32.le_refl _)]
      have e2 : T1 = tdays n T := e1
      rw [e2] at h1
      exact fin mi1 _ h1 f1
    | succ k ih =>
      intro i T1 mi1 hk o1 e1 h1 f1
      have hlt : ¬ nI n ≤ nI i := nI_ge (by omega) (by omega)
      have e3 : nI i + nI 1 = nI (i + 1) := nI_add i 1
      rw [s20_2]
      simp only [↓s20_0, ↓s20_1, ↓s20_3, ↓s20_4, ↓s20_7, ↓s20_8, ↓s20_11, ↓s20_14, ↓s20_15, ↓s20_18, ↓s20_19, ↓s20_22, ↓s20_26, ↓s20_27, ↓s20_30, ↓s20_31, ↓s20_32, ↓s20_35, ↓J_any hp0 h1 o1, kNLn, kNLi, kNLr, va_rf_s, kOl_n, kOl_s, kap_n, kap_c, kb0, kb1, kbif, pis, r1, r2, r3, r4, r5, r6, r7, r8, r9, r10, r11, r12, a1, a2, a3, a4, a5, a6, a7, a8, a9, a10, a11, a12, e1, e2, e3, e4, e5, e6, e7, e8, e9, e10, e11, e12, hlt, if_false, zif, e3]
      by_cases ha : tanyF T1 (T1 0 4) = true
      · rw [if_neg (by simpa using ha)]
        refine J_passOne hp0 h1 o1 (fun mi2 h2 f2 => ?_)
        simp only [↓s20_0, ↓s20_1, ↓s20_3, ↓s20_4, ↓s20_7, ↓s20_8, ↓s20_11, ↓s20_14, ↓s20_15, ↓s20_18, ↓s20_19, ↓s20_22, ↓s20_26, ↓s20_27, ↓s20_30, ↓s20_31, ↓s20_32, ↓s20_35, kNLn, kNLi, kNLr, va_rf_s, kOl_n, kOl_s, kap_n, kap_c, kb0, kb1, kbif, pis, r1, r2, r3, r4, r5, r6, r7, r8, r9, r10, r11, r12, a1, a2, a3, a4, a5, a6, a7, a8, a9, a10, a11, a12, e1, e2, e3, e4, e5, e6, e7, e8, e9, e10, e11, e12, e3]
        exact ih (i + 1) (tday T1) mi2 (by omega) (tday_ok o1).1 e1 h2 (kFr_tr f1 f2)
      · rw [if_pos ha]
        have ha' : tanyF T1 (T1 0 4) = false := Bool.eq_false_iff.mpr ha
        rw [tdays_none ha'] at e1
        rw [e1] at h1
        exact fin mi1 _ h1 f1
  exact loop n 0 T mi (by omega) ho rfl h kFr_rf
theorem J_sum {q c : Nat} {f : Nat → Nat} (hq : kIs 95 q 10 = true) (hc : c ≤ kAl q) (hl : kAl q ≤ 2000) (h : ∀ j, j < c → mi q j = nI (f j)) (g : Nat → Nat) (g0 : g 0 = 0) (gs : ∀ j, g (j + 1) = g j + f j) : kJ 94 0 [some (.ref q), some (.int (nI c)), none, none] [] (mi, ml, MR, 95) Q = Q (some (.int (nI (g c)))) (mi, ml, MR, 95) := by
  simp only [↓s94_0, ↓s94_1, ↓s94_2, ↓s94_3, ↓s94_5, ↓s94_6, ↓s94_9, ↓s94_10, ↓s94_11, ↓s94_12, ↓s94_13, ↓s94_14, ↓s94_15, ↓s94_18, ↓s94_21, ↓s94_22, kNLn, kNLi, kNLr, va_rf_s, kOl_n, kOl_s, kap_n, kap_c, kb0, kb1, kbif]
  have loop : ∀ (k i : Nat), i + k = c → kJ 94 4 [some (.ref q), some (.int (nI c)), some (.int (nI (g i))), some (.int (nI i))] [] (mi, ml, MR, 95) Q = Q (some (.int (nI (g c)))) (mi, ml, MR, 95) := by
    intro k
    induction k with
    | zero =>
      intro i hk
      rw [s94_4]
      simp only [↓s94_0, ↓s94_1, ↓s94_2, ↓s94_3, ↓s94_5, ↓s94_6, ↓s94_9, ↓s94_10, ↓s94_11, ↓s94_12, ↓s94_13, ↓s94_14, ↓s94_15, ↓s94_18, ↓s94_21, ↓s94_22, kNLn, kNLi, kNLr, va_rf_s, kOl_n, kOl_s, kap_n, kap_c, kb0, kb1, kbif]
      rw [if_pos (by rw [show i = c by omega]; exact Int32.le_refl _), show i = c by omega]
    | succ k ih =>
      intro i hk
      have hlt : ¬ nI c ≤ nI i := nI_ge (by omega) (by omega)
      have hcl : (nI i).toNatClampNeg = i := nI_clamp (by omega)
      have hv : vp_in (nI i) (kAl q) := vp_in_nI (by omega) (by omega)
      rw [s94_4]
      simp only [↓s94_0, ↓s94_1, ↓s94_2, ↓s94_3, ↓s94_5, ↓s94_6, ↓s94_9, ↓s94_10, ↓s94_11, ↓s94_12, ↓s94_13, ↓s94_14, ↓s94_15, ↓s94_18, ↓s94_21, ↓s94_22, kNLn, kNLi, kNLr, va_rf_s, kOl_n, kOl_s, kap_n, kap_c, kb0, kb1, kbif, hq, hlt, if_false, hcl, hv, true_and, h i (by omega), nI_add]
      rw [← gs i]
      exact ih (i + 1) (by omega)
  have := loop c 0 (by omega)
  rw [g0] at this
  exact this
theorem J_moods (hp : kPost b) (h : kCR b T mi) (ho : tOK T) : kJ 15 0 [some (.ref b)] [] (mi, ml, MR, 95) Q = Q (some (.int (nI (tmoods T)))) (mi, ml, MR, 95) := by
  have hp0 := hp
  obtain ⟨pis, ⟨r1, r2, r3, r4, r5, r6, r7, r8, r9, r10, r11, r12⟩, ⟨a1, a2, a3, a4, a5, a6, a7, a8, a9, a10, a11, a12⟩, e1, e2, e3, e4, e5, e6, e7, e8, e9, e10, e11, e12⟩ := hp
  have hs : ∀ Q', kJ 94 0 [some (.ref (b + 3)), some (.int (nI (T 0 0))), none, none] [] (mi, ml, MR, 95) Q' = Q' (some (.int (nI (tmoods T)))) (mi, ml, MR, 95) := fun Q' => J_sum (f := fun p => T 3 p) a3 (by rw [e3]; exact ho.1) (by omega) (fun j hj => kCR_row h (by omega) (by omega) (by rw [tcnt_p (by omega)]; exact hj)) (tmoodF T) rfl (fun _ => rfl)
  simp only [↓s15_0, ↓s15_1, ↓s15_4, ↓s15_5, ↓s15_8, ↓s15_11, kNLn, kNLi, kNLr, va_rf_s, kOl_n, kOl_s, kap_n, kap_c, kb0, kb1, kbif, pis, r1, r2, r3, r4, r5, r6, r7, r8, r9, r10, r11, r12, a1, a2, a3, a4, a5, a6, a7, a8, a9, a10, a11, a12, e1, e2, e3, e4, e5, e6, e7, e8, e9, e10, e11, e12, h.1.1, ↓hs]
theorem J_behind (hp : kPost b) (h : kCR b T mi) (ho : tOK T) (hn : n < 100) (hd : T 0 12 + n < 2000) (hQ : ∀ mi', kCR b (tpass n T) mi' → kFr b mi mi' → Q (some (.int (nI (tmoods (tdays n T))))) (mi', ml, MR, 95)) : kJ 21 0 [some (.ref b), some (.int (nI n))] [] (mi, ml, MR, 95) Q := by
  have hp0 := hp
  obtain ⟨pis, ⟨r1, r2, r3, r4, r5, r6, r7, r8, r9, r10, r11, r12⟩, ⟨a1, a2, a3, a4, a5, a6, a7, a8, a9, a10, a11, a12⟩, e1, e2, e3, e4, e5, e6, e7, e8, e9, e10, e11, e12⟩ := hp
  simp only [↓s21_0, ↓s21_1, ↓s21_2, ↓s21_5, ↓s21_6, ↓s21_9, kNLn, kNLi, kNLr, va_rf_s, kOl_n, kOl_s, kap_n, kap_c, kb0, kb1, kbif, pis, r1, r2, r3, r4, r5, r6, r7, r8, r9, r10, r11, r12, a1, a2, a3, a4, a5, a6, a7, a8, a9, a10, a11, a12, e1, e2, e3, e4, e5, e6, e7, e8, e9, e10, e11, e12]
  refine J_pass hp0 h ho hn (fun mi2 h2 f2 => ?_)
  have o2 : tOK (tpass n T) := tpass_ok ho hd
  simp only [↓s21_0, ↓s21_1, ↓s21_2, ↓s21_5, ↓s21_6, ↓s21_9, kNLn, kNLi, kNLr, va_rf_s, kOl_n, kOl_s, kap_n, kap_c, kb0, kb1, kbif, pis, r1, r2, r3, r4, r5, r6, r7, r8, r9, r10, r11, r12, a1, a2, a3, a4, a5, a6, a7, a8, a9, a10, a11, a12, e1, e2, e3, e4, e5, e6, e7, e8, e9, e10, e11, e12, ↓J_moods hp0 h2 o2]
  have e : tmoods (tpass n T) = tmoods (tdays n T) := tmoods_day
  rw [e]
  exact hQ mi2 h2 f2
end POST
