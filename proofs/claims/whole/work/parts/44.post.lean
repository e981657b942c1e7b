/-! Post's days, by the mathematical value -/
theorem n00 : (nI 0 = nI 1) = False := by decide
theorem n10 : (nI 1 = nI 0) = False := by decide
theorem z0 : (nI 0 = 0) = True := by decide
theorem z1 : (nI 1 = 0) = False := by decide
theorem zif {c : Prop} [Decidable c] : ((if c then nI 1 else nI 0) = 0) = ¬ c := by
  split
  · next h => simp [z1, h]
  · next h => simp [z0, h]
theorem kq_0_1 {b j : Nat} {f : Nat → Nat → Int32} {v : Int32} : kup f (b) j v (b + 1) = f (b + 1) := kup_ne (by omega)
theorem kq_0_2 {b j : Nat} {f : Nat → Nat → Int32} {v : Int32} : kup f (b) j v (b + 2) = f (b + 2) := kup_ne (by omega)
theorem kq_0_3 {b j : Nat} {f : Nat → Nat → Int32} {v : Int32} : kup f (b) j v (b + 3) = f (b + 3) := kup_ne (by omega)
theorem kq_0_4 {b j : Nat} {f : Nat → Nat → Int32} {v : Int32} : kup f (b) j v (b + 4) = f (b + 4) := kup_ne (by omega)
theorem kq_0_5 {b j : Nat} {f : Nat → Nat → Int32} {v : Int32} : kup f (b) j v (b + 5) = f (b + 5) := kup_ne (by omega)
theorem kq_0_6 {b j : Nat} {f : Nat → Nat → Int32} {v : Int32} : kup f (b) j v (b + 6) = f (b + 6) := kup_ne (by omega)
theorem kq_0_7 {b j : Nat} {f : Nat → Nat → Int32} {v : Int32} : kup f (b) j v (b + 7) = f (b + 7) := kup_ne (by omega)
theorem kq_0_8 {b j : Nat} {f : Nat → Nat → Int32} {v : Int32} : kup f (b) j v (b + 8) = f (b + 8) := kup_ne (by omega)
theorem kq_0_9 {b j : Nat} {f : Nat → Nat → Int32} {v : Int32} : kup f (b) j v (b + 9) = f (b + 9) := kup_ne (by omega)
theorem kq_0_10 {b j : Nat} {f : Nat → Nat → Int32} {v : Int32} : kup f (b) j v (b + 10) = f (b + 10) := kup_ne (by omega)
theorem kq_0_11 {b j : Nat} {f : Nat → Nat → Int32} {v : Int32} : kup f (b) j v (b + 11) = f (b + 11) := kup_ne (by omega)
theorem kq_0_12 {b j : Nat} {f : Nat → Nat → Int32} {v : Int32} : kup f (b) j v (b + 12) = f (b + 12) := kup_ne (by omega)
theorem kq_1_0 {b j : Nat} {f : Nat → Nat → Int32} {v : Int32} : kup f (b + 1) j v (b) = f (b) := kup_ne (by omega)
theorem kq_1_2 {b j : Nat} {f : Nat → Nat → Int32} {v : Int32} : kup f (b + 1) j v (b + 2) = f (b + 2) := kup_ne (by omega)
theorem kq_1_3 {b j : Nat} {f : Nat → Nat → Int32} {v : Int32} : kup f (b + 1) j v (b + 3) = f (b + 3) := kup_ne (by omega)
theorem kq_1_4 {b j : Nat} {f : Nat → Nat → Int32} {v : Int32} : kup f (b + 1) j v (b + 4) = f (b + 4) := kup_ne (by omega)
theorem kq_1_5 {b j : Nat} {f : Nat → Nat → Int32} {v : Int32} : kup f (b + 1) j v (b + 5) = f (b + 5) := kup_ne (by omega)
theorem kq_1_6 {b j : Nat} {f : Nat → Nat → Int32} {v : Int32} : kup f (b + 1) j v (b + 6) = f (b + 6) := kup_ne (by omega)
theorem kq_1_7 {b j : Nat} {f : Nat → Nat → Int32} {v : Int32} : kup f (b + 1) j v (b + 7) = f (b + 7) := kup_ne (by omega)
theorem kq_1_8 {b j : Nat} {f : Nat → Nat → Int32} {v : Int32} : kup f (b + 1) j v (b + 8) = f (b + 8) := kup_ne (by omega)
theorem kq_1_9 {b j : Nat} {f : Nat → Nat → Int32} {v : Int32} : kup f (b + 1) j v (b + 9) = f (b + 9) := kup_ne (by omega)
theorem kq_1_10 {b j : Nat} {f : Nat → Nat → Int32} {v : Int32} : kup f (b + 1) j v (b + 10) = f (b + 10) := kup_ne (by omega)
theorem kq_1_11 {b j : Nat} {f : Nat → Nat → Int32} {v : Int32} : kup f (b + 1) j v (b + 11) = f (b + 11) := kup_ne (by omega)
theorem kq_1_12 {b j : Nat} {f : Nat → Nat → Int32} {v : Int32} : kup f (b + 1) j v (b + 12) = f (b + 12) := kup_ne (by omega)
theorem kq_2_0 {b j : Nat} {f : Nat → Nat → Int32} {v : Int32} : kup f (b + 2) j v (b) = f (b) := kup_ne (by omega)
theorem kq_2_1 {b j : Nat} {f : Nat → Nat → Int32} {v : Int32} : kup f (b + 2) j v (b + 1) = f (b + 1) := kup_ne (by omega)
theorem kq_2_3 {b j : Nat} {f : Nat → Nat → Int32} {v : Int32} : kup f (b + 2) j v (b + 3) = f (b + 3) := kup_ne (by omega)
theorem kq_2_4 {b j : Nat} {f : Nat → Nat → Int32} {v : Int32} : kup f (b + 2) j v (b + 4) = f (b + 4) := kup_ne (by omega)
theorem kq_2_5 {b j : Nat} {f : Nat → Nat → Int32} {v : Int32} : kup f (b + 2) j v (b + 5) = f (b + 5) := kup_ne (by omega)
theorem kq_2_6 {b j : Nat} {f : Nat → Nat → Int32} {v : Int32} : kup f (b + 2) j v (b + 6) = f (b + 6) := kup_ne (by omega)
theorem kq_2_7 {b j : Nat} {f : Nat → Nat → Int32} {v : Int32} : kup f (b + 2) j v (b + 7) = f (b + 7) := kup_ne (by omega)
theorem kq_2_8 {b j : Nat} {f : Nat → Nat → Int32} {v : Int32} : kup f (b + 2) j v (b + 8) = f (b + 8) := kup_ne (by omega)
theorem kq_2_9 {b j : Nat} {f : Nat → Nat → Int32} {v : Int32} : kup f (b + 2) j v (b + 9) = f (b + 9) := kup_ne (by omega)
theorem kq_2_10 {b j : Nat} {f : Nat → Nat → Int32} {v : Int32} : kup f (b + 2) j v (b + 10) = f (b + 10) := kup_ne (by omega)
theorem kq_2_11 {b j : Nat} {f : Nat → Nat → Int32} {v : Int32} : kup f (b + 2) j v (b + 11) = f (b + 11) := kup_ne (by omega)
theorem kq_2_12 {b j : Nat} {f : Nat → Nat → Int32} {v : Int32} : kup f (b + 2) j v (b + 12) = f (b + 12) := kup_ne (by omega)
theorem kq_3_0 {b j : Nat} {f : Nat → Nat → Int32} {v : Int32} : kup f (b + 3) j v (b) = f (b) := kup_ne (by omega)
theorem kq_3_1 {b j : Nat} {f : Nat → Nat → Int32} {v : Int32} : kup f (b + 3) j v (b + 1) = f (b + 1) := kup_ne (by omega)
theorem kq_3_2 {b j : Nat} {f : Nat → Nat → Int32} {v : Int32} : kup f (b + 3) j v (b + 2) = f (b + 2) := kup_ne (by omega)
theorem kq_3_4 {b j : Nat} {f : Nat → Nat → Int32} {v : Int32} : kup f (b + 3) j v (b + 4) = f (b + 4) := kup_ne (by omega)
theorem kq_3_5 {b j : Nat} {f : Nat → Nat → Int32} {v : Int32} : kup f (b + 3) j v (b + 5) = f (b + 5) := kup_ne (by omega)
theorem kq_3_6 {b j : Nat} {f : Nat → Nat → Int32} {v : Int32} : kup f (b + 3) j v (b + 6) = f (b + 6) := kup_ne (by omega)
theorem kq_3_7 {b j : Nat} {f : Nat → Nat → Int32} {v : Int32} : kup f (b + 3) j v (b + 7) = f (b + 7) := kup_ne (by omega)
theorem kq_3_8 {b j : Nat} {f : Nat → Nat → Int32} {v : Int32} : kup f (b + 3) j v (b + 8) = f (b + 8) := kup_ne (by omega)
theorem kq_3_9 {b j : Nat} {f : Nat → Nat → Int32} {v : Int32} : kup f (b + 3) j v (b + 9) = f (b + 9) := kup_ne (by omega)
theorem kq_3_10 {b j : Nat} {f : Nat → Nat → Int32} {v : Int32} : kup f (b + 3) j v (b + 10) = f (b + 10) := kup_ne (by omega)
theorem kq_3_11 {b j : Nat} {f : Nat → Nat → Int32} {v : Int32} : kup f (b + 3) j v (b + 11) = f (b + 11) := kup_ne (by omega)
theorem kq_3_12 {b j : Nat} {f : Nat → Nat → Int32} {v : Int32} : kup f (b + 3) j v (b + 12) = f (b + 12) := kup_ne (by omega)
theorem kq_4_0 {b j : Nat} {f : Nat → Nat → Int32} {v : Int32} : kup f (b + 4) j v (b) = f (b) := kup_ne (by omega)
theorem kq_4_1 {b j : Nat} {f : Nat → Nat → Int32} {v : Int32} : kup f (b + 4) j v (b + 1) = f (b + 1) := kup_ne (by omega)
theorem kq_4_2 {b j : Nat} {f : Nat → Nat → Int32} {v : Int32} : kup f (b + 4) j v (b + 2) = f (b + 2) := kup_ne (by omega)
theorem kq_4_3 {b j : Nat} {f : Nat → Nat → Int32} {v : Int32} : kup f (b + 4) j v (b + 3) = f (b + 3) := kup_ne (by omega)
theorem kq_4_5 {b j : Nat} {f : Nat → Nat → Int32} {v : Int32} : kup f (b + 4) j v (b + 5) = f (b + 5) := kup_ne (by omega)
theorem kq_4_6 {b j : Nat} {f : Nat → Nat → Int32} {v : Int32} : kup f (b + 4) j v (b + 6) = f (b + 6) := kup_ne (by omega)
theorem kq_4_7 {b j : Nat} {f : Nat → Nat → Int32} {v : Int32} : kup f (b + 4) j v (b + 7) = f (b + 7) := kup_ne (by omega)
theorem kq_4_8 {b j : Nat} {f : Nat → Nat → Int32} {v : Int32} : kup f (b + 4) j v (b + 8) = f (b + 8) := kup_ne (by omega)
theorem kq_4_9 {b j : Nat} {f : Nat → Nat → Int32} {v : Int32} : kup f (b + 4) j v (b + 9) = f (b + 9) := kup_ne (by omega)
theorem kq_4_10 {b j : Nat} {f : Nat → Nat → Int32} {v : Int32} : kup f (b + 4) j v (b + 10) = f (b + 10) := kup_ne (by omega)
theorem kq_4_11 {b j : Nat} {f : Nat → Nat → Int32} {v : Int32} : kup f (b + 4) j v (b + 11) = f (b + 11) := kup_ne (by omega)
theorem kq_4_12 {b j : Nat} {f : Nat → Nat → Int32} {v : Int32} : kup f (b + 4) j v (b + 12) = f (b + 12) := kup_ne (by omega)
theorem kq_5_0 {b j : Nat} {f : Nat → Nat → Int32} {v : Int32} : kup f (b + 5) j v (b) = f (b) := kup_ne (by omega)
theorem kq_5_1 {b j : Nat} {f : Nat → Nat → Int32} {v : Int32} : kup f (b + 5) j v (b + 1) = f (b + 1) := kup_ne (by omega)
theorem kq_5_2 {b j : Nat} {f : Nat → Nat → Int32} {v : Int32} : kup f (b + 5) j v (b + 2) = f (b + 2) := kup_ne (by omega)
theorem kq_5_3 {b j : Nat} {f : Nat → Nat → Int32} {v : Int32} : kup f (b + 5) j v (b + 3) = f (b + 3) := kup_ne (by omega)
theorem kq_5_4 {b j : Nat} {f : Nat → Nat → Int32} {v : Int32} : kup f (b + 5) j v (b + 4) = f (b + 4) := kup_ne (by omega)
theorem kq_5_6 {b j : Nat} {f : Nat → Nat → Int32} {v : Int32} : kup f (b + 5) j v (b + 6) = f (b + 6) := kup_ne (by omega)
theorem kq_5_7 {b j : Nat} {f : Nat → Nat → Int32} {v : Int32} : kup f (b + 5) j v (b + 7) = f (b + 7) := kup_ne (by omega)
theorem kq_5_8 {b j : Nat} {f : Nat → Nat → Int32} {v : Int32} : kup f (b + 5) j v (b + 8) = f (b + 8) := kup_ne (by omega)
theorem kq_5_9 {b j : Nat} {f : Nat → Nat → Int32} {v : Int32} : kup f (b + 5) j v (b + 9) = f (b + 9) := kup_ne (by omega)
theorem kq_5_10 {b j : Nat} {f : Nat → Nat → Int32} {v : Int32} : kup f (b + 5) j v (b + 10) = f (b + 10) := kup_ne (by omega)
theorem kq_5_11 {b j : Nat} {f : Nat → Nat → Int32} {v : Int32} : kup f (b + 5) j v (b + 11) = f (b + 11) := kup_ne (by omega)
theorem kq_5_12 {b j : Nat} {f : Nat → Nat → Int32} {v : Int32} : kup f (b + 5) j v (b + 12) = f (b + 12) := kup_ne (by omega)
theorem kq_6_0 {b j : Nat} {f : Nat → Nat → Int32} {v : Int32} : kup f (b + 6) j v (b) = f (b) := kup_ne (by omega)
theorem kq_6_1 {b j : Nat} {f : Nat → Nat → Int32} {v : Int32} : kup f (b + 6) j v (b + 1) = f (b + 1) := kup_ne (by omega)
theorem kq_6_2 {b j : Nat} {f : Nat → Nat → Int32} {v : Int32} : kup f (b + 6) j v (b + 2) = f (b + 2) := kup_ne (by omega)
theorem kq_6_3 {b j : Nat} {f : Nat → Nat → Int32} {v : Int32} : kup f (b + 6) j v (b + 3) = f (b + 3) := kup_ne (by omega)
theorem kq_6_4 {b j : Nat} {f : Nat → Nat → Int32} {v : Int32} : kup f (b + 6) j v (b + 4) = f (b + 4) := kup_ne (by omega)
theorem kq_6_5 {b j : Nat} {f : Nat → Nat → Int32} {v : Int32} : kup f (b + 6) j v (b + 5) = f (b + 5) := kup_ne (by omega)
theorem kq_6_7 {b j : Nat} {f : Nat → Nat → Int32} {v : Int32} : kup f (b + 6) j v (b + 7) = f (b + 7) := kup_ne (by omega)
theorem kq_6_8 {b j : Nat} {f : Nat → Nat → Int32} {v : Int32} : kup f (b + 6) j v (b + 8) = f (b + 8) := kup_ne (by omega)
theorem kq_6_9 {b j : Nat} {f : Nat → Nat → Int32} {v : Int32} : kup f (b + 6) j v (b + 9) = f (b + 9) := kup_ne (by omega)
theorem kq_6_10 {b j : Nat} {f : Nat → Nat → Int32} {v : Int32} : kup f (b + 6) j v (b + 10) = f (b + 10) := kup_ne (by omega)
theorem kq_6_11 {b j : Nat} {f : Nat → Nat → Int32} {v : Int32} : kup f (b + 6) j v (b + 11) = f (b + 11) := kup_ne (by omega)
theorem kq_6_12 {b j : Nat} {f : Nat → Nat → Int32} {v : Int32} : kup f (b + 6) j v (b + 12) = f (b + 12) := kup_ne (by omega)
theorem kq_7_0 {b j : Nat} {f : Nat → Nat → Int32} {v : Int32} : kup f (b + 7) j v (b) = f (b) := kup_ne (by omega)
theorem kq_7_1 {b j : Nat} {f : Nat → Nat → Int32} {v : Int32} : kup f (b + 7) j v (b + 1) = f (b + 1) := kup_ne (by omega)
theorem kq_7_2 {b j : Nat} {f : Nat → Nat → Int32} {v : Int32} : kup f (b + 7) j v (b + 2) = f (b + 2) := kup_ne (by omega)
theorem kq_7_3 {b j : Nat} {f : Nat → Nat → Int32} {v : Int32} : kup f (b + 7) j v (b + 3) = f (b + 3) := kup_ne (by omega)
theorem kq_7_4 {b j : Nat} {f : Nat → Nat → Int32} {v : Int32} : kup f (b + 7) j v (b + 4) = f (b + 4) := kup_ne (by omega)
theorem kq_7_5 {b j : Nat} {f : Nat → Nat → Int32} {v : Int32} : kup f (b + 7) j v (b + 5) = f (b + 5) := kup_ne (by omega)
theorem kq_7_6 {b j : Nat} {f : Nat → Nat → Int32} {v : Int32} : kup f (b + 7) j v (b + 6) = f (b + 6) := kup_ne (by omega)
theorem kq_7_8 {b j : Nat} {f : Nat → Nat → Int32} {v : Int32} : kup f (b + 7) j v (b + 8) = f (b + 8) := kup_ne (by omega)
theorem kq_7_9 {b j : Nat} {f : Nat → Nat → Int32} {v : Int32} : kup f (b + 7) j v (b + 9) = f (b + 9) := kup_ne (by omega)
theorem kq_7_10 {b j : Nat} {f : Nat → Nat → Int32} {v : Int32} : kup f (b + 7) j v (b + 10) = f (b + 10) := kup_ne (by omega)
theorem kq_7_11 {b j : Nat} {f : Nat → Nat → Int32} {v : Int32} : kup f (b + 7) j v (b + 11) = f (b + 11) := kup_ne (by omega)
theorem kq_7_12 {b j : Nat} {f : Nat → Nat → Int32} {v : Int32} : kup f (b + 7) j v (b + 12) = f (b + 12) := kup_ne (by omega)
theorem kq_8_0 {b j : Nat} {f : Nat → Nat → Int32} {v : Int32} : kup f (b + 8) j v (b) = f (b) := kup_ne (by omega)
theorem kq_8_1 {b j : Nat} {f : Nat → Nat → Int32} {v : Int32} : kup f (b + 8) j v (b + 1) = f (b + 1) := kup_ne (by omega)
theorem kq_8_2 {b j : Nat} {f : Nat → Nat → Int32} {v : Int32} : kup f (b + 8) j v (b + 2) = f (b + 2) := kup_ne (by omega)
theorem kq_8_3 {b j : Nat} {f : Nat → Nat → Int32} {v : Int32} : kup f (b + 8) j v (b + 3) = f (b + 3) := kup_ne (by omega)
theorem kq_8_4 {b j : Nat} {f : Nat → Nat → Int32} {v : Int32} : kup f (b + 8) j v (b + 4) = f (b + 4) := kup_ne (by omega)
theorem kq_8_5 {b j : Nat} {f : Nat → Nat → Int32} {v : Int32} : kup f (b + 8) j v (b + 5) = f (b + 5) := kup_ne (by omega)
theorem kq_8_6 {b j : Nat} {f : Nat → Nat → Int32} {v : Int32} : kup f (b + 8) j v (b + 6) = f (b + 6) := kup_ne (by omega)
theorem kq_8_7 {b j : Nat} {f : Nat → Nat → Int32} {v : Int32} : kup f (b + 8) j v (b + 7) = f (b + 7) := kup_ne (by omega)
theorem kq_8_9 {b j : Nat} {f : Nat → Nat → Int32} {v : Int32} : kup f (b + 8) j v (b + 9) = f (b + 9) := kup_ne (by omega)
theorem kq_8_10 {b j : Nat} {f : Nat → Nat → Int32} {v : Int32} : kup f (b + 8) j v (b + 10) = f (b + 10) := kup_ne (by omega)
theorem kq_8_11 {b j : Nat} {f : Nat → Nat → Int32} {v : Int32} : kup f (b + 8) j v (b + 11) = f (b + 11) := kup_ne (by omega)
theorem kq_8_12 {b j : Nat} {f : Nat → Nat → Int32} {v : Int32} : kup f (b + 8) j v (b + 12) = f (b + 12) := kup_ne (by omega)
theorem kq_9_0 {b j : Nat} {f : Nat → Nat → Int32} {v : Int32} : kup f (b + 9) j v (b) = f (b) := kup_ne (by omega)
theorem kq_9_1 {b j : Nat} {f : Nat → Nat → Int32} {v : Int32} : kup f (b + 9) j v (b + 1) = f (b + 1) := kup_ne (by omega)
theorem kq_9_2 {b j : Nat} {f : Nat → Nat → Int32} {v : Int32} : kup f (b + 9) j v (b + 2) = f (b + 2) := kup_ne (by omega)
theorem kq_9_3 {b j : Nat} {f : Nat → Nat → Int32} {v : Int32} : kup f (b + 9) j v (b + 3) = f (b + 3) := kup_ne (by omega)
theorem kq_9_4 {b j : Nat} {f : Nat → Nat → Int32} {v : Int32} : kup f (b + 9) j v (b + 4) = f (b + 4) := kup_ne (by omega)
theorem kq_9_5 {b j : Nat} {f : Nat → Nat → Int32} {v : Int32} : kup f (b + 9) j v (b + 5) = f (b + 5) := kup_ne (by omega)
theorem kq_9_6 {b j : Nat} {f : Nat → Nat → Int32} {v : Int32} : kup f (b + 9) j v (b + 6) = f (b + 6) := kup_ne (by omega)
theorem kq_9_7 {b j : Nat} {f : Nat → Nat → Int32} {v : Int32} : kup f (b + 9) j v (b + 7) = f (b + 7) := kup_ne (by omega)
theorem kq_9_8 {b j : Nat} {f : Nat → Nat → Int32} {v : Int32} : kup f (b + 9) j v (b + 8) = f (b + 8) := kup_ne (by omega)
theorem kq_9_10 {b j : Nat} {f : Nat → Nat → Int32} {v : Int32} : kup f (b + 9) j v (b + 10) = f (b + 10) := kup_ne (by omega)
theorem kq_9_11 {b j : Nat} {f : Nat → Nat → Int32} {v : Int32} : kup f (b + 9) j v (b + 11) = f (b + 11) := kup_ne (by omega)
theorem kq_9_12 {b j : Nat} {f : Nat → Nat → Int32} {v : Int32} : kup f (b + 9) j v (b + 12) = f (b + 12) := kup_ne (by omega)
theorem kq_10_0 {b j : Nat} {f : Nat → Nat → Int32} {v : Int32} : kup f (b + 10) j v (b) = f (b) := kup_ne (by omega)
theorem kq_10_1 {b j : Nat} {f : Nat → Nat → Int32} {v : Int32} : kup f (b + 10) j v (b + 1) = f (b + 1) := kup_ne (by omega)
theorem kq_10_2 {b j : Nat} {f : Nat → Nat → Int32} {v : Int32} : kup f (b + 10) j v (b + 2) = f (b + 2) := kup_ne (by omega)
theorem kq_10_3 {b j : Nat} {f : Nat → Nat → Int32} {v : Int32} : kup f (b + 10) j v (b + 3) = f (b + 3) := kup_ne (by omega)
theorem kq_10_4 {b j : Nat} {f : Nat → Nat → Int32} {v : Int32} : kup f (b + 10) j v (b + 4) = f (b + 4) := kup_ne (by omega)
theorem kq_10_5 {b j : Nat} {f : Nat → Nat → Int32} {v : Int32} : kup f (b + 10) j v (b + 5) = f (b + 5) := kup_ne (by omega)
theorem kq_10_6 {b j : Nat} {f : Nat → Nat → Int32} {v : Int32} : kup f (b + 10) j v (b + 6) = f (b + 6) := kup_ne (by omega)
theorem kq_10_7 {b j : Nat} {f : Nat → Nat → Int32} {v : Int32} : kup f (b + 10) j v (b + 7) = f (b + 7) := kup_ne (by omega)
theorem kq_10_8 {b j : Nat} {f : Nat → Nat → Int32} {v : Int32} : kup f (b + 10) j v (b + 8) = f (b + 8) := kup_ne (by omega)
theorem kq_10_9 {b j : Nat} {f : Nat → Nat → Int32} {v : Int32} : kup f (b + 10) j v (b + 9) = f (b + 9) := kup_ne (by omega)
theorem kq_10_11 {b j : Nat} {f : Nat → Nat → Int32} {v : Int32} : kup f (b + 10) j v (b + 11) = f (b + 11) := kup_ne (by omega)
theorem kq_10_12 {b j : Nat} {f : Nat → Nat → Int32} {v : Int32} : kup f (b + 10) j v (b + 12) = f (b + 12) := kup_ne (by omega)
theorem kq_11_0 {b j : Nat} {f : Nat → Nat → Int32} {v : Int32} : kup f (b + 11) j v (b) = f (b) := kup_ne (by omega)
theorem kq_11_1 {b j : Nat} {f : Nat → Nat → Int32} {v : Int32} : kup f (b + 11) j v (b + 1) = f (b + 1) := kup_ne (by omega)
theorem kq_11_2 {b j : Nat} {f : Nat → Nat → Int32} {v : Int32} : kup f (b + 11) j v (b + 2) = f (b + 2) := kup_ne (by omega)
theorem kq_11_3 {b j : Nat} {f : Nat → Nat → Int32} {v : Int32} : kup f (b + 11) j v (b + 3) = f (b + 3) := kup_ne (by omega)
theorem kq_11_4 {b j : Nat} {f : Nat → Nat → Int32} {v : Int32} : kup f (b + 11) j v (b + 4) = f (b + 4) := kup_ne (by omega)
theorem kq_11_5 {b j : Nat} {f : Nat → Nat → Int32} {v : Int32} : kup f (b + 11) j v (b + 5) = f (b + 5) := kup_ne (by omega)
theorem kq_11_6 {b j : Nat} {f : Nat → Nat → Int32} {v : Int32} : kup f (b + 11) j v (b + 6) = f (b + 6) := kup_ne (by omega)
theorem kq_11_7 {b j : Nat} {f : Nat → Nat → Int32} {v : Int32} : kup f (b + 11) j v (b + 7) = f (b + 7) := kup_ne (by omega)
theorem kq_11_8 {b j : Nat} {f : Nat → Nat → Int32} {v : Int32} : kup f (b + 11) j v (b + 8) = f (b + 8) := kup_ne (by omega)
theorem kq_11_9 {b j : Nat} {f : Nat → Nat → Int32} {v : Int32} : kup f (b + 11) j v (b + 9) = f (b + 9) := kup_ne (by omega)
theorem kq_11_10 {b j : Nat} {f : Nat → Nat → Int32} {v : Int32} : kup f (b + 11) j v (b + 10) = f (b + 10) := kup_ne (by omega)
theorem kq_11_12 {b j : Nat} {f : Nat → Nat → Int32} {v : Int32} : kup f (b + 11) j v (b + 12) = f (b + 12) := kup_ne (by omega)
theorem kq_12_0 {b j : Nat} {f : Nat → Nat → Int32} {v : Int32} : kup f (b + 12) j v (b) = f (b) := kup_ne (by omega)
theorem kq_12_1 {b j : Nat} {f : Nat → Nat → Int32} {v : Int32} : kup f (b + 12) j v (b + 1) = f (b + 1) := kup_ne (by omega)
theorem kq_12_2 {b j : Nat} {f : Nat → Nat → Int32} {v : Int32} : kup f (b + 12) j v (b + 2) = f (b + 2) := kup_ne (by omega)
theorem kq_12_3 {b j : Nat} {f : Nat → Nat → Int32} {v : Int32} : kup f (b + 12) j v (b + 3) = f (b + 3) := kup_ne (by omega)
theorem kq_12_4 {b j : Nat} {f : Nat → Nat → Int32} {v : Int32} : kup f (b + 12) j v (b + 4) = f (b + 4) := kup_ne (by omega)
theorem kq_12_5 {b j : Nat} {f : Nat → Nat → Int32} {v : Int32} : kup f (b + 12) j v (b + 5) = f (b + 5) := kup_ne (by omega)
theorem kq_12_6 {b j : Nat} {f : Nat → Nat → Int32} {v : Int32} : kup f (b + 12) j v (b + 6) = f (b + 6) := kup_ne (by omega)
theorem kq_12_7 {b j : Nat} {f : Nat → Nat → Int32} {v : Int32} : kup f (b + 12) j v (b + 7) = f (b + 7) := kup_ne (by omega)
theorem kq_12_8 {b j : Nat} {f : Nat → Nat → Int32} {v : Int32} : kup f (b + 12) j v (b + 8) = f (b + 8) := kup_ne (by omega)
theorem kq_12_9 {b j : Nat} {f : Nat → Nat → Int32} {v : Int32} : kup f (b + 12) j v (b + 9) = f (b + 9) := kup_ne (by omega)
theorem kq_12_10 {b j : Nat} {f : Nat → Nat → Int32} {v : Int32} : kup f (b + 12) j v (b + 10) = f (b + 10) := kup_ne (by omega)
theorem kq_12_11 {b j : Nat} {f : Nat → Nat → Int32} {v : Int32} : kup f (b + 12) j v (b + 11) = f (b + 11) := kup_ne (by omega)
section POST
variable {mi : Nat → Nat → Int32} {ml : Nat → Nat → Int64} {m : kMem} {Q : Option Value → kMem → Prop} {b i k t p n : Nat} {T : tT}
theorem kup_bb {f : Nat → Nat → Int32} {r s j : Nat} {v : Int32} (h : s ≠ r) : kup f (b + r) j v (b + s) = f (b + s) := kup_ne (by omega)
theorem kup_b0 {f : Nat → Nat → Int32} {r j : Nat} {v : Int32} (h : 0 < r) : kup f (b + r) j v b = f b := kup_ne (by omega)
theorem kup_at {f : Nat → Nat → Int32} {q j : Nat} {v : Int32} : kup f q j v q j = v := by rw [kup_eq]; exact pk_us
theorem kCR_row (h : kCR b T mi) {r j : Nat} (h1 : 1 ≤ r) (h2 : r ≤ 12) (h3 : j < tcnt T r) : mi (b + r) j = nI (T r j) := h.2 r j h1 h2 h3
theorem tcnt_p {T : tT} {r : Nat} (h2 : r ≤ 3) : tcnt T r = T 0 0 := if_pos h2
theorem tcnt_l {T : tT} {r : Nat} (h1 : 4 ≤ r) (h2 : r ≤ 9) : tcnt T r = T 0 4 := by unfold tcnt; rw [if_neg (by omega), if_pos h2]
theorem tcnt_s {T : tT} {r : Nat} (h1 : 10 ≤ r) : tcnt T r = T 0 13 := by unfold tcnt; rw [if_neg (by omega), if_neg (by omega)]
theorem J_wayT (hp : kPost b) (h : kCR b T mi) (ho : tOK T) (hi : i < T 0 4) : kJ 9 0 [some (.ref b), some (.int (nI i))] [] (mi, ml, MR, 95) Q = Q (some (.int (if tway T i = true then nI 1 else nI 0))) (mi, ml, MR, 95) := by
  have hi6 : i < 6 := Nat.lt_of_lt_of_le hi ho.2.1
  rw [J_way hp hi6, kCR_row h (r := 9) (by omega) (by omega) (by rw [tcnt_l (by omega) (by omega)]; exact hi)]
  have hl := (ho.2.2.2.2.2.2.1 i hi).2.2.2.2.2
  have e : (nI (T 9 i) = 0 ∨ nI (T 9 i) = nI 1) ↔ tway T i = true := by
    rw [kz (by omega), nI_eq (by omega) (by omega)]
    unfold tway
    rw [decide_eq_true_iff]
    omega
  by_cases c : tway T i = true
  · rw [if_pos c, if_pos (e.mpr c)]
  · rw [if_neg c, if_neg (fun z => c (e.mp z))]
theorem J_headsT (hp : kPost b) (h : kCR b T mi) (ho : tOK T) (hi : i < T 0 4) : kJ 10 0 [some (.ref b), some (.int (nI i))] [] (mi, ml, MR, 95) Q = Q (some (.int (nI (twhom T i)))) (mi, ml, MR, 95) := by
  have hi6 : i < 6 := Nat.lt_of_lt_of_le hi ho.2.1
  have hl := (ho.2.2.2.2.2.2.1 i hi).2.2.2.2.2
  rw [J_heads hp hi6, kCR_row h (r := 9) (by omega) (by omega) (by rw [tcnt_l (by omega) (by omega)]; exact hi), kCR_row h (r := 6) (by omega) (by omega) (by rw [tcnt_l (by omega) (by omega)]; exact hi), kCR_row h (r := 5) (by omega) (by omega) (by rw [tcnt_l (by omega) (by omega)]; exact hi)]
  unfold twhom
  by_cases c : T 9 i = 0
  · rw [if_pos c, if_pos (by rw [c]; rfl)]
  · rw [if_neg c, if_neg (fun z => c (by rw [kz (by omega)] at z; exact z))]
theorem J_feltI {k t : Int32} : kJ 96 0 [some (.int k), some (.int t), none] [] m Q = Q (some (.int (feltI k t))) m := J_felt
theorem J_sendsI {k t : Int32} : kJ 97 0 [some (.int k), some (.int t)] [] m Q = Q (some (.int (sendsI k t))) m := J_sends
theorem J_altI {k t : Int32} : kJ 98 0 [some (.int k), some (.int t)] [] m Q = Q (some (.int (altI k t))) m := J_altered
theorem J_nearI {a g : Int32} (hp : kPost b) : kJ 24 0 [some (.ref b), some (.int a), some (.int g)] [] (mi, ml, MR, 95) Q = Q (some (.int (nearI a g (mi b 11)))) (mi, ml, MR, 95) := J_nearer hp
theorem J_cheerI {v : Int32} (hp : kPost b) (hi : p < 5) : kJ 26 0 [some (.ref b), some (.int (nI p)), some (.int v), none] [] (mi, ml, MR, 95) Q = Q none (kup mi (b + 3) p (chI (mi (b + 3) p) v), ml, MR, 95) := J_cheer hp hi
theorem J_bring (hp : kPost b) (h : kCR b T mi) (ho : tOK T) (hi : i < T 0 4) (hw : T 9 i < 2) (hQ : ∀ mi', kCR b (tread T i) mi' → kFr b mi mi' → Q none (mi', ml, MR, 95)) : kJ 25 0 [some (.ref b), some (.int (nI i)), none, none, none] [] (mi, ml, MR, 95) Q := by
  have hp0 := hp
  obtain ⟨pis, ⟨r1, r2, r3, r4, r5, r6, r7, r8, r9, r10, r11, r12⟩, ⟨a1, a2, a3, a4, a5, a6, a7, a8, a9, a10, a11, a12⟩, e1, e2, e3, e4, e5, e6, e7, e8, e9, e10, e11, e12⟩ := hp
  have hi6 : i < 6 := Nat.lt_of_lt_of_le hi ho.2.1
  have hwl := twhom_lt ho hi
  have hp5 : twhom T i < 5 := Nat.lt_of_lt_of_le hwl ho.1
  obtain ⟨hk4, -, hm20⟩ := ho.2.2.2.2.2.1 _ hwl
  obtain ⟨-, -, -, ht18, -, -⟩ := ho.2.2.2.2.2.2.1 i hi
  have hleg := kCR_row h (r := 9) (j := i) (by omega) (by omega) (by rw [tcnt_l (by omega) (by omega)]; exact hi)
  have htone := kCR_row h (r := 7) (j := i) (by omega) (by omega) (by rw [tcnt_l (by omega) (by omega)]; exact hi)
  have hkind := kCR_row h (r := 1) (j := twhom T i) (by omega) (by omega) (by rw [tcnt_p (by omega)]; exact hwl)
  have hmood := kCR_row h (r := 3) (j := twhom T i) (by omega) (by omega) (by rw [tcnt_p (by omega)]; exact hwl)
  have hc : (nI i).toNatClampNeg = i := nI_clamp (by omega)
  have hv : vp_in (nI i) 6 := vp_in_nI hi6 (by decide)
  have hc2 : (nI (twhom T i)).toNatClampNeg = twhom T i := nI_clamp (by omega)
  have hv2 : vp_in (nI (twhom T i)) 5 := vp_in_nI hp5 (by decide)
  have hn2 : ¬ nI 2 = 0 := by decide
  rcases (by omega : T 9 i = 0 ∨ T 9 i = 1) with hl | hl
  · rw [hl] at hleg
    have hf := felt_ok _ (by omega : T 3 (twhom T i) < 21) _ hk4 (T 7 i) (by omega)
    have hs := sends_ok _ hk4 (T 7 i) (by omega)
    have ha := alt_ok _ hk4 (T 7 i) (by omega)
    simp only [↓s25_0, ↓s25_1, ↓s25_2, ↓s25_5, ↓s25_6, ↓s25_7, ↓s25_10, ↓s25_11, ↓s25_12, ↓s25_13, ↓s25_14, ↓s25_15, ↓s25_18, ↓s25_19, ↓s25_20, ↓s25_23, ↓s25_25, ↓s25_26, ↓s25_29, ↓s25_30, ↓s25_31, ↓s25_32, ↓s25_35, ↓s25_36, ↓s25_37, ↓s25_39, ↓s25_40, ↓s25_41, ↓s25_44, ↓s25_45, ↓s25_48, ↓s25_49, ↓s25_50, ↓s25_51, ↓s25_52, ↓s25_53, ↓s25_54, ↓s25_56, ↓s25_59, ↓s25_60, ↓s25_61, ↓s25_64, ↓s25_65, ↓s25_66, ↓s25_69, ↓s25_72, ↓s25_73, ↓s25_76, ↓s25_77, ↓s25_78, ↓s25_79, ↓s25_82, ↓s25_83, ↓s25_84, ↓s25_87, ↓s25_88, ↓s25_89, ↓s25_92, ↓s25_93, ↓s25_94, ↓s25_95, ↓s25_98, ↓s25_99, ↓s25_102, ↓s25_103, ↓s25_104, ↓s25_105, ↓J_headsT hp0 h ho hi, ↓J_feltI, ↓J_cheerI hp0 hp5, ↓J_sendsI, ↓J_altI, kNLn, kNLi, kNLr, va_rf_s, kOl_n, kOl_s, kap_n, kap_c, kb0, kb1, kbif, pis, r1, r2, r3, r4, r5, r6, r7, r8, r9, r10, r11, r12, a1, a2, a3, a4, a5, a6, a7, a8, a9, a10, a11, a12, e1, e2, e3, e4, e5, e6, e7, e8, e9, e10, e11, e12, hc, hv, hc2, hv2, hleg, htone, hkind, hmood, hn2, n00, if_false, true_and, kq_0_1, kq_0_2, kq_0_3, kq_0_4, kq_0_5, kq_0_6, kq_0_7, kq_0_8, kq_0_9, kq_0_10, kq_0_11, kq_0_12, kq_1_0, kq_1_2, kq_1_3, kq_1_4, kq_1_5, kq_1_6, kq_1_7, kq_1_8, kq_1_9, kq_1_10, kq_1_11, kq_1_12, kq_2_0, kq_2_1, kq_2_3, kq_2_4, kq_2_5, kq_2_6, kq_2_7, kq_2_8, kq_2_9, kq_2_10, kq_2_11, kq_2_12, kq_3_0, kq_3_1, kq_3_2, kq_3_4, kq_3_5, kq_3_6, kq_3_7, kq_3_8, kq_3_9, kq_3_10, kq_3_11, kq_3_12, kq_4_0, kq_4_1, kq_4_2, kq_4_3, kq_4_5, kq_4_6, kq_4_7, kq_4_8, kq_4_9, kq_4_10, kq_4_11, kq_4_12, kq_5_0, kq_5_1, kq_5_2, kq_5_3, kq_5_4, kq_5_6, kq_5_7, kq_5_8, kq_5_9, kq_5_10, kq_5_11, kq_5_12, kq_6_0, kq_6_1, kq_6_2, kq_6_3, kq_6_4, kq_6_5, kq_6_7, kq_6_8, kq_6_9, kq_6_10, kq_6_11, kq_6_12, kq_7_0, kq_7_1, kq_7_2, kq_7_3, kq_7_4, kq_7_5, kq_7_6, kq_7_8, kq_7_9, kq_7_10, kq_7_11, kq_7_12, kq_8_0, kq_8_1, kq_8_2, kq_8_3, kq_8_4, kq_8_5, kq_8_6, kq_8_7, kq_8_9, kq_8_10, kq_8_11, kq_8_12, kq_9_0, kq_9_1, kq_9_2, kq_9_3, kq_9_4, kq_9_5, kq_9_6, kq_9_7, kq_9_8, kq_9_10, kq_9_11, kq_9_12, kq_10_0, kq_10_1, kq_10_2, kq_10_3, kq_10_4, kq_10_5, kq_10_6, kq_10_7, kq_10_8, kq_10_9, kq_10_11, kq_10_12, kq_11_0, kq_11_1, kq_11_2, kq_11_3, kq_11_4, kq_11_5, kq_11_6, kq_11_7, kq_11_8, kq_11_9, kq_11_10, kq_11_12, kq_12_0, kq_12_1, kq_12_2, kq_12_3, kq_12_4, kq_12_5, kq_12_6, kq_12_7, kq_12_8, kq_12_9, kq_12_10, kq_12_11, not_false_eq_true, hf, hs, ha, zif, Decidable.not_not]
    unfold tread at hQ
    simp only [hl] at hQ
    by_cases hsd : sends (T 1 (twhom T i)) (T 7 i) = true
    · rw [if_neg (by simpa using hsd)]
      rw [if_neg (by decide), if_pos hsd] at hQ
      exact hQ _ (kCR_up (kCR_up (kCR_up h (by omega)) (by omega)) (by omega)) (kFr_up (kFr_up (kFr_up kFr_rf (by omega)) (by omega)) (by omega))
    · rw [if_pos (by simpa using hsd)]
      rw [if_neg (by decide), if_neg hsd] at hQ
      exact hQ _ (kCR_up (kCR_up h (by omega)) (by omega)) (kFr_up (kFr_up kFr_rf (by omega)) (by omega))
  · rw [hl] at hleg
    have hf := felt_ok2 _ (by omega : T 3 (twhom T i) < 21) _ hk4 (T 7 i) (by omega)
    simp only [↓s25_0, ↓s25_1, ↓s25_2, ↓s25_5, ↓s25_6, ↓s25_7, ↓s25_10, ↓s25_11, ↓s25_12, ↓s25_13, ↓s25_14, ↓s25_15, ↓s25_18, ↓s25_19, ↓s25_20, ↓s25_23, ↓s25_25, ↓s25_26, ↓s25_29, ↓s25_30, ↓s25_31, ↓s25_32, ↓s25_35, ↓s25_36, ↓s25_37, ↓s25_39, ↓s25_40, ↓s25_41, ↓s25_44, ↓s25_45, ↓s25_48, ↓s25_49, ↓s25_50, ↓s25_51, ↓s25_52, ↓s25_53, ↓s25_54, ↓s25_56, ↓s25_59, ↓s25_60, ↓s25_61, ↓s25_64, ↓s25_65, ↓s25_66, ↓s25_69, ↓s25_72, ↓s25_73, ↓s25_76, ↓s25_77, ↓s25_78, ↓s25_79, ↓s25_82, ↓s25_83, ↓s25_84, ↓s25_87, ↓s25_88, ↓s25_89, ↓s25_92, ↓s25_93, ↓s25_94, ↓s25_95, ↓s25_98, ↓s25_99, ↓s25_102, ↓s25_103, ↓s25_104, ↓s25_105, ↓J_headsT hp0 h ho hi, ↓J_feltI, ↓J_cheerI hp0 hp5, kNLn, kNLi, kNLr, va_rf_s, kOl_n, kOl_s, kap_n, kap_c, kb0, kb1, kbif, pis, r1, r2, r3, r4, r5, r6, r7, r8, r9, r10, r11, r12, a1, a2, a3, a4, a5, a6, a7, a8, a9, a10, a11, a12, e1, e2, e3, e4, e5, e6, e7, e8, e9, e10, e11, e12, hc, hv, hc2, hv2, hleg, htone, hkind, hmood, hn2, if_true, true_and, kq_0_1, kq_0_2, kq_0_3, kq_0_4, kq_0_5, kq_0_6, kq_0_7, kq_0_8, kq_0_9, kq_0_10, kq_0_11, kq_0_12, kq_1_0, kq_1_2, kq_1_3, kq_1_4, kq_1_5, kq_1_6, kq_1_7, kq_1_8, kq_1_9, kq_1_10, kq_1_11, kq_1_12, kq_2_0, kq_2_1, kq_2_3, kq_2_4, kq_2_5, kq_2_6, kq_2_7, kq_2_8, kq_2_9, kq_2_10, kq_2_11, kq_2_12, kq_3_0, kq_3_1, kq_3_2, kq_3_4, kq_3_5, kq_3_6, kq_3_7, kq_3_8, kq_3_9, kq_3_10, kq_3_11, kq_3_12, kq_4_0, kq_4_1, kq_4_2, kq_4_3, kq_4_5, kq_4_6, kq_4_7, kq_4_8, kq_4_9, kq_4_10, kq_4_11, kq_4_12, kq_5_0, kq_5_1, kq_5_2, kq_5_3, kq_5_4, kq_5_6, kq_5_7, kq_5_8, kq_5_9, kq_5_10, kq_5_11, kq_5_12, kq_6_0, kq_6_1, kq_6_2, kq_6_3, kq_6_4, kq_6_5, kq_6_7, kq_6_8, kq_6_9, kq_6_10, kq_6_11, kq_6_12, kq_7_0, kq_7_1, kq_7_2, kq_7_3, kq_7_4, kq_7_5, kq_7_6, kq_7_8, kq_7_9, kq_7_10, kq_7_11, kq_7_12, kq_8_0, kq_8_1, kq_8_2, kq_8_3, kq_8_4, kq_8_5, kq_8_6, kq_8_7, kq_8_9, kq_8_10, kq_8_11, kq_8_12, kq_9_0, kq_9_1, kq_9_2, kq_9_3, kq_9_4, kq_9_5, kq_9_6, kq_9_7, kq_9_8, kq_9_10, kq_9_11, kq_9_12, kq_10_0, kq_10_1, kq_10_2, kq_10_3, kq_10_4, kq_10_5, kq_10_6, kq_10_7, kq_10_8, kq_10_9, kq_10_11, kq_10_12, kq_11_0, kq_11_1, kq_11_2, kq_11_3, kq_11_4, kq_11_5, kq_11_6, kq_11_7, kq_11_8, kq_11_9, kq_11_10, kq_11_12, kq_12_0, kq_12_1, kq_12_2, kq_12_3, kq_12_4, kq_12_5, kq_12_6, kq_12_7, kq_12_8, kq_12_9, kq_12_10, kq_12_11, not_false_eq_true, hf]
    unfold tread at hQ
    simp only [hl] at hQ
    exact hQ _ (kCR_up (kCR_up h (by omega)) (by omega)) (kFr_up (kFr_up kFr_rf (by omega)) (by omega))
/-- the loop over the letters -/
theorem J_passOne (hp : kPost b) (h : kCR b T mi) (ho : tOK T) (hQ : ∀ mi', kCR b (tday T) mi' → kFr b mi mi' → Q (some (.int (nI (trdF T (T 0 4))))) (mi', ml, MR, 95)) : kJ 23 0 [some (.ref b), none, none, none] [] (mi, ml, MR, 95) Q := by
  have hp0 := hp
  obtain ⟨pis, ⟨r1, r2, r3, r4, r5, r6, r7, r8, r9, r10, r11, r12⟩, ⟨a1, a2, a3, a4, a5, a6, a7, a8, a9, a10, a11, a12⟩, e1, e2, e3, e4, e5, e6, e7, e8, e9, e10, e11, e12⟩ := hp
  simp only [↓s23_0, ↓s23_1, ↓s23_2, ↓s23_3, ↓s23_5, ↓s23_6, ↓s23_9, ↓s23_12, ↓s23_13, ↓s23_14, ↓s23_17, ↓s23_20, ↓s23_21, ↓s23_24, ↓s23_25, ↓s23_26, ↓s23_29, ↓s23_30, ↓s23_31, ↓s23_32, ↓s23_35, ↓s23_36, ↓s23_37, ↓s23_38, ↓s23_41, ↓s23_42, ↓s23_43, ↓s23_44, ↓s23_47, ↓s23_48, ↓s23_49, ↓s23_52, ↓s23_53, ↓s23_54, ↓s23_55, ↓s23_58, ↓s23_59, ↓s23_60, ↓s23_63, ↓s23_66, ↓s23_69, ↓s23_72, ↓s23_73, kNLn, kNLi, kNLr, va_rf_s, kOl_n, kOl_s, kap_n, kap_c, kb0, kb1, kbif]
  have loop : ∀ (n i : Nat) (mi1 : Nat → Nat → Int32) (l3 : Option Value), i + n = T 0 4 → kNL l3 = true → kCR b (tdayF T i) mi1 → kFr b mi mi1 → kJ 23 4 [some (.ref b), some (.int (nI (trdF T i))), some (.int (nI i)), l3] [] (mi1, ml, MR, 95) Q := by
    intro n
    induction n with
    | zero =>
      intro i mi1 l3 hn h3 h1 hf1
      have ok := tdayF_ok ho i (by omega)
      have hlet : mi1 b 4 = nI (T 0 4) := by
        rw [h1.1.2.1, ok.2 0 4 (by omega) (by omega) (by omega) (by omega)]
      rw [s23_4]
      have e : i = T 0 4 := by omega
      simp only [↓s23_0, ↓s23_1, ↓s23_2, ↓s23_3, ↓s23_5, ↓s23_6, ↓s23_9, ↓s23_12, ↓s23_13, ↓s23_14, ↓s23_17, ↓s23_20, ↓s23_21, ↓s23_24, ↓s23_25, ↓s23_26, ↓s23_29, ↓s23_30, ↓s23_31, ↓s23_32, ↓s23_35, ↓s23_36, ↓s23_37, ↓s23_38, ↓s23_41, ↓s23_42, ↓s23_43, ↓s23_44, ↓s23_47, ↓s23_48, ↓s23_49, ↓s23_52, ↓s23_53, ↓s23_54, ↓s23_55, ↓s23_58, ↓s23_59, ↓s23_60, ↓s23_63, ↓s23_66, ↓s23_69, ↓s23_72, ↓s23_73, kNLn, kNLi, kNLr, va_rf_s, kOl_n, kOl_s, kap_n, kap_c, kb0, kb1, kbif, pis, r1, r2, r3, r4, r5, r6, r7, r8, r9, r10, r11, r12, a1, a2, a3, a4, a5, a6, a7, a8, a9, a10, a11, a12, e1, e2, e3, e4, e5, e6, e7, e8, e9, e10, e11, e12, hlet]
      rw [if_pos (by rw [e]; exact Int32.le_refl _)]
      subst e
      exact hQ mi1 h1 hf1
    | succ n ih =>
      intro i mi1 l3 hn h3 h1 hf1
      have ok := tdayF_ok ho i (by omega)
      have ek : ∀ r k, r ≠ 3 → r ≠ 7 → r ≠ 8 → r ≠ 9 → tdayF T i r k = T r k := ok.2
      have hlet : mi1 b 4 = nI (T 0 4) := by
        rw [h1.1.2.1, ek 0 4 (by omega) (by omega) (by omega) (by omega)]
      have hpace : mi1 b 11 = nI (T 0 11) := by
        rw [h1.1.2.2.1, ek 0 11 (by omega) (by omega) (by omega) (by omega)]
      have hi : i < tdayF T i 0 4 := by rw [ek 0 4 (by omega) (by omega) (by omega) (by omega)]; omega
      have hi6 : i < 6 := by have := ho.2.1; omega
      have hlt : ¬ nI (T 0 4) ≤ nI i := nI_ge (by omega) (by have := ho.2.1; omega)
      have hc : (nI i).toNatClampNeg = i := nI_clamp (by omega)
      have hv : vp_in (nI i) 6 := vp_in_nI hi6 (by decide)
      have hwl := twhom_lt ok.1 hi
      have hp5 : twhom (tdayF T i) i < 5 := Nat.lt_of_lt_of_le hwl ok.1.1
      have hc2 : (nI (twhom (tdayF T i) i)).toNatClampNeg = twhom (tdayF T i) i := nI_clamp (by omega)
      have hv2 : vp_in (nI (twhom (tdayF T i) i)) 5 := vp_in_nI hp5 (by decide)
      have hat := kCR_row h1 (r := 8) (j := i) (by omega) (by omega) (by rw [tcnt_l (by omega) (by omega)]; exact hi)
      have hdoor := kCR_row h1 (r := 2) (j := twhom (tdayF T i) i) (by omega) (by omega) (by rw [tcnt_p (by omega)]; exact hwl)
      have hg10 := (ok.1.2.2.2.2.2.1 _ hwl).2.1
      have ha10 := (ok.1.2.2.2.2.2.2.1 i hi).2.2.2.2.1
      have hnr := near_ok _ ha10 _ hg10 (T 0 11) (by have := ho.2.2.2.1; omega)
      have hnl := near_lt _ ha10 _ hg10 (T 0 11) (by have := ho.2.2.2.1; omega)
      have e1 : nI i + nI 1 = nI (i + 1) := nI_add i 1
      rw [s23_4]
      simp only [↓s23_0, ↓s23_1, ↓s23_2, ↓s23_3, ↓s23_5, ↓s23_6, ↓s23_9, ↓s23_12, ↓s23_13, ↓s23_14, ↓s23_17, ↓s23_20, ↓s23_21, ↓s23_24, ↓s23_25, ↓s23_26, ↓s23_29, ↓s23_30, ↓s23_31, ↓s23_32, ↓s23_35, ↓s23_36, ↓s23_37, ↓s23_38, ↓s23_41, ↓s23_42, ↓s23_43, ↓s23_44, ↓s23_47, ↓s23_48, ↓s23_49, ↓s23_52, ↓s23_53, ↓s23_54, ↓s23_55, ↓s23_58, ↓s23_59, ↓s23_60, ↓s23_63, ↓s23_66, ↓s23_69, ↓s23_72, ↓s23_73, ↓J_wayT hp0 h1 ok.1 hi, ↓J_headsT hp0 h1 ok.1 hi, ↓J_nearI hp0, kNLn, kNLi, kNLr, va_rf_s, kOl_n, kOl_s, kap_n, kap_c, kb0, kb1, kbif, pis, r1, r2, r3, r4, r5, r6, r7, r8, r9, r10, r11, r12, a1, a2, a3, a4, a5, a6, a7, a8, a9, a10, a11, a12, e1, e2, e3, e4, e5, e6, e7, e8, e9, e10, e11, e12, hlet, hlt, if_false, zif, hc, hv, hc2, hv2, hat, hdoor, hpace, hnr, true_and, kq_0_1, kq_0_2, kq_0_3, kq_0_4, kq_0_5, kq_0_6, kq_0_7, kq_0_8, kq_0_9, kq_0_10, kq_0_11, kq_0_12, kq_1_0, kq_1_2, kq_1_3, kq_1_4, kq_1_5, kq_1_6, kq_1_7, kq_1_8, kq_1_9, kq_1_10, kq_1_11, kq_1_12, kq_2_0, kq_2_1, kq_2_3, kq_2_4, kq_2_5, kq_2_6, kq_2_7, kq_2_8, kq_2_9, kq_2_10, kq_2_11, kq_2_12, kq_3_0, kq_3_1, kq_3_2, kq_3_4, kq_3_5, kq_3_6, kq_3_7, kq_3_8, kq_3_9, kq_3_10, kq_3_11, kq_3_12, kq_4_0, kq_4_1, kq_4_2, kq_4_3, kq_4_5, kq_4_6, kq_4_7, kq_4_8, kq_4_9, kq_4_10, kq_4_11, kq_4_12, kq_5_0, kq_5_1, kq_5_2, kq_5_3, kq_5_4, kq_5_6, kq_5_7, kq_5_8, kq_5_9, kq_5_10, kq_5_11, kq_5_12, kq_6_0, kq_6_1, kq_6_2, kq_6_3, kq_6_4, kq_6_5, kq_6_7, kq_6_8, kq_6_9, kq_6_10, kq_6_11, kq_6_12, kq_7_0, kq_7_1, kq_7_2, kq_7_3, kq_7_4, kq_7_5, kq_7_6, kq_7_8, kq_7_9, kq_7_10, kq_7_11, kq_7_12, kq_8_0, kq_8_1, kq_8_2, kq_8_3, kq_8_4, kq_8_5, kq_8_6, kq_8_7, kq_8_9, kq_8_10, kq_8_11, kq_8_12, kq_9_0, kq_9_1, kq_9_2, kq_9_3, kq_9_4, kq_9_5, kq_9_6, kq_9_7, kq_9_8, kq_9_10, kq_9_11, kq_9_12, kq_10_0, kq_10_1, kq_10_2, kq_10_3, kq_10_4, kq_10_5, kq_10_6, kq_10_7, kq_10_8, kq_10_9, kq_10_11, kq_10_12, kq_11_0, kq_11_1, kq_11_2, kq_11_3, kq_11_4, kq_11_5, kq_11_6, kq_11_7, kq_11_8, kq_11_9, kq_11_10, kq_11_12, kq_12_0, kq_12_1, kq_12_2, kq_12_3, kq_12_4, kq_12_5, kq_12_6, kq_12_7, kq_12_8, kq_12_9, kq_12_10, kq_12_11, kup_at, h3, e1]
      trace_state
      sorry
  exact loop (T 0 4) 0 mi none (by omega) rfl h kFr_rf
end POST
