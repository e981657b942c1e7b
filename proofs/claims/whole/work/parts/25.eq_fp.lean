theorem d100_0 : decode (mB 100) 0 = .ok (.lconst 1, 1) := by decide +kernel
theorem s100_0 {l0 l1 l2 l3 l4 l5 : Option Value} {st : List Value} {m : kMem} {Q : Option Value → kMem → Prop} : kJ 100 0 [l0, l1, l2, l3, l4, l5] st m Q = kJ 100 1 [l0, l1, l2, l3, l4, l5] (.long 1 :: st) m Q := kJ_next d100_0 rfl
theorem d100_1 : decode (mB 100) 1 = .ok (.lstore_n 3, 1) := by decide +kernel
theorem s100_1 {l0 l1 l2 l3 l4 l5 : Option Value} {st : List Value} {x : Int64} {m : kMem} {Q : Option Value → kMem → Prop} (hp : kNL l2 = true) : kJ 100 1 [l0, l1, l2, l3, l4, l5] (.long x :: st) m Q = kJ 100 2 [l0, l1, l2, some (.long x), none, l5] st m Q := kJ_next d100_1 (kg_stl (Nat.le_of_ble_eq_true rfl) hp)
theorem d100_2 : decode (mB 100) 2 = .ok (.iconst 1, 1) := by decide +kernel
theorem s100_2 {l0 l1 l2 l3 l4 l5 : Option Value} {st : List Value} {m : kMem} {Q : Option Value → kMem → Prop} : kJ 100 2 [l0, l1, l2, l3, l4, l5] st m Q = kJ 100 3 [l0, l1, l2, l3, l4, l5] (.int (nI 1) :: st) m Q := kJ_next d100_2 rfl
theorem d100_3 : decode (mB 100) 3 = .ok (.istore 5, 2) := by decide +kernel
theorem s100_3 {l0 l1 l2 l3 l4 l5 : Option Value} {st : List Value} {x : Int32} {m : kMem} {Q : Option Value → kMem → Prop} (hp : kNL l4 = true) : kJ 100 3 [l0, l1, l2, l3, l4, l5] (.int x :: st) m Q = kJ 100 5 [l0, l1, l2, l3, l4, some (.int x)] st m Q := kJ_next d100_3 (kg_sti (Nat.le_of_ble_eq_true rfl) hp)
theorem d100_5 : decode (mB 100) 5 = .ok (.iload 5, 2) := by decide +kernel
theorem s100_5 {l0 l1 l2 l3 l4 : Option Value} {st : List Value} {x : Int32} {m : kMem} {Q : Option Value → kMem → Prop} : kJ 100 5 [l0, l1, l2, l3, l4, some (.int x)] st m Q = kJ 100 7 [l0, l1, l2, l3, l4, some (.int x)] (.int x :: st) m Q := kJ_next d100_5 rfl
theorem d100_7 : decode (mB 100) 7 = .ok (.iload_n 2, 1) := by decide +kernel
theorem s100_7 {l0 l1 l3 l4 l5 : Option Value} {st : List Value} {x : Int32} {m : kMem} {Q : Option Value → kMem → Prop} : kJ 100 7 [l0, l1, some (.int x), l3, l4, l5] st m Q = kJ 100 8 [l0, l1, some (.int x), l3, l4, l5] (.int x :: st) m Q := kJ_next d100_7 rfl
theorem d100_8 : decode (mB 100) 8 = .ok (.if_icmp .gt 23, 3) := by decide +kernel
theorem s100_8 {l0 l1 l2 l3 l4 l5 : Option Value} {st : List Value} {a b : Int32} {m : kMem} {Q : Option Value → kMem → Prop} : kJ 100 8 [l0, l1, l2, l3, l4, l5] (.int b :: .int a :: st) m Q = (if b < a then kJ 100 31 [l0, l1, l2, l3, l4, l5] st m Q else kJ 100 11 [l0, l1, l2, l3, l4, l5] st m Q) := kJ_if d100_8 rfl (fun h => kJ_next d100_8 h) (fun h => kJ_next d100_8 h)
theorem d100_11 : decode (mB 100) 11 = .ok (.lload_n 3, 1) := by decide +kernel
theorem s100_11 {l0 l1 l2 l4 l5 : Option Value} {st : List Value} {x : Int64} {m : kMem} {Q : Option Value → kMem → Prop} : kJ 100 11 [l0, l1, l2, some (.long x), l4, l5] st m Q = kJ 100 12 [l0, l1, l2, some (.long x), l4, l5] (.long x :: st) m Q := kJ_next d100_11 rfl
theorem d100_12 : decode (mB 100) 12 = .ok (.iload_n 1, 1) := by decide +kernel
theorem s100_12 {l0 l2 l3 l4 l5 : Option Value} {st : List Value} {x : Int32} {m : kMem} {Q : Option Value → kMem → Prop} : kJ 100 12 [l0, some (.int x), l2, l3, l4, l5] st m Q = kJ 100 13 [l0, some (.int x), l2, l3, l4, l5] (.int x :: st) m Q := kJ_next d100_12 rfl
theorem d100_13 : decode (mB 100) 13 = .ok (.iload_n 2, 1) := by decide +kernel
theorem s100_13 {l0 l1 l3 l4 l5 : Option Value} {st : List Value} {x : Int32} {m : kMem} {Q : Option Value → kMem → Prop} : kJ 100 13 [l0, l1, some (.int x), l3, l4, l5] st m Q = kJ 100 14 [l0, l1, some (.int x), l3, l4, l5] (.int x :: st) m Q := kJ_next d100_13 rfl
theorem d100_14 : decode (mB 100) 14 = .ok (.isub, 1) := by decide +kernel
theorem s100_14 {l0 l1 l2 l3 l4 l5 : Option Value} {st : List Value} {a b : Int32} {m : kMem} {Q : Option Value → kMem → Prop} : kJ 100 14 [l0, l1, l2, l3, l4, l5] (.int b :: .int a :: st) m Q = kJ 100 15 [l0, l1, l2, l3, l4, l5] (.int (a - b) :: st) m Q := kJ_next d100_14 rfl
theorem d100_15 : decode (mB 100) 15 = .ok (.iload 5, 2) := by decide +kernel
theorem s100_15 {l0 l1 l2 l3 l4 : Option Value} {st : List Value} {x : Int32} {m : kMem} {Q : Option Value → kMem → Prop} : kJ 100 15 [l0, l1, l2, l3, l4, some (.int x)] st m Q = kJ 100 17 [l0, l1, l2, l3, l4, some (.int x)] (.int x :: st) m Q := kJ_next d100_15 rfl
theorem d100_17 : decode (mB 100) 17 = .ok (.iadd, 1) := by decide +kernel
theorem s100_17 {l0 l1 l2 l3 l4 l5 : Option Value} {st : List Value} {a b : Int32} {m : kMem} {Q : Option Value → kMem → Prop} : kJ 100 17 [l0, l1, l2, l3, l4, l5] (.int b :: .int a :: st) m Q = kJ 100 18 [l0, l1, l2, l3, l4, l5] (.int (a + b) :: st) m Q := kJ_next d100_17 rfl
theorem d100_18 : decode (mB 100) 18 = .ok (.i2l, 1) := by decide +kernel
theorem s100_18 {l0 l1 l2 l3 l4 l5 : Option Value} {st : List Value} {a : Int32} {m : kMem} {Q : Option Value → kMem → Prop} : kJ 100 18 [l0, l1, l2, l3, l4, l5] (.int a :: st) m Q = kJ 100 19 [l0, l1, l2, l3, l4, l5] (.long a.toInt64 :: st) m Q := kJ_next d100_18 rfl
theorem d100_19 : decode (mB 100) 19 = .ok (.lmul, 1) := by decide +kernel
theorem s100_19 {l0 l1 l2 l3 l4 l5 : Option Value} {st : List Value} {a b : Int64} {m : kMem} {Q : Option Value → kMem → Prop} : kJ 100 19 [l0, l1, l2, l3, l4, l5] (.long b :: .long a :: st) m Q = kJ 100 20 [l0, l1, l2, l3, l4, l5] (.long (a * b) :: st) m Q := kJ_next d100_19 rfl
theorem d100_20 : decode (mB 100) 20 = .ok (.iload 5, 2) := by decide +kernel
theorem s100_20 {l0 l1 l2 l3 l4 : Option Value} {st : List Value} {x : Int32} {m : kMem} {Q : Option Value → kMem → Prop} : kJ 100 20 [l0, l1, l2, l3, l4, some (.int x)] st m Q = kJ 100 22 [l0, l1, l2, l3, l4, some (.int x)] (.int x :: st) m Q := kJ_next d100_20 rfl
theorem d100_22 : decode (mB 100) 22 = .ok (.i2l, 1) := by decide +kernel
theorem s100_22 {l0 l1 l2 l3 l4 l5 : Option Value} {st : List Value} {a : Int32} {m : kMem} {Q : Option Value → kMem → Prop} : kJ 100 22 [l0, l1, l2, l3, l4, l5] (.int a :: st) m Q = kJ 100 23 [l0, l1, l2, l3, l4, l5] (.long a.toInt64 :: st) m Q := kJ_next d100_22 rfl
theorem d100_23 : decode (mB 100) 23 = .ok (.ldiv, 1) := by decide +kernel
theorem s100_23 {l0 l1 l2 l3 l4 l5 : Option Value} {st : List Value} {a b : Int64} {m : kMem} {Q : Option Value → kMem → Prop} (hb : ¬ b = 0) : kJ 100 23 [l0, l1, l2, l3, l4, l5] (.long b :: .long a :: st) m Q = kJ 100 24 [l0, l1, l2, l3, l4, l5] (.long (a / b) :: st) m Q := kJ_next d100_23 (kg_ldiv hb)
theorem d100_24 : decode (mB 100) 24 = .ok (.lstore_n 3, 1) := by decide +kernel
theorem s100_24 {l0 l1 l2 l3 l4 l5 : Option Value} {st : List Value} {x : Int64} {m : kMem} {Q : Option Value → kMem → Prop} (hp : kNL l2 = true) : kJ 100 24 [l0, l1, l2, l3, l4, l5] (.long x :: st) m Q = kJ 100 25 [l0, l1, l2, some (.long x), none, l5] st m Q := kJ_next d100_24 (kg_stl (Nat.le_of_ble_eq_true rfl) hp)
theorem d100_25 : decode (mB 100) 25 = .ok (.iinc 5 1, 3) := by decide +kernel
theorem s100_25 {l0 l1 l2 l3 l4 : Option Value} {st : List Value} {x : Int32} {m : kMem} {Q : Option Value → kMem → Prop} (hp : kNL l4 = true) : kJ 100 25 [l0, l1, l2, l3, l4, some (.int x)] st m Q = kJ 100 28 [l0, l1, l2, l3, l4, some (.int (x + (nI 1)))] st m Q := kJ_next d100_25 (kg_inc rfl (Nat.le_of_ble_eq_true rfl) hp)
theorem d100_28 : decode (mB 100) 28 = .ok (.goto (-23), 3) := by decide +kernel
theorem s100_28 {l0 l1 l2 l3 l4 l5 : Option Value} {st : List Value} {m : kMem} {Q : Option Value → kMem → Prop} : kJ 100 28 [l0, l1, l2, l3, l4, l5] st m Q = kJ 100 5 [l0, l1, l2, l3, l4, l5] st m Q := kJ_next d100_28 rfl
theorem d100_31 : decode (mB 100) 31 = .ok (.lload_n 3, 1) := by decide +kernel
theorem s100_31 {l0 l1 l2 l4 l5 : Option Value} {st : List Value} {x : Int64} {m : kMem} {Q : Option Value → kMem → Prop} : kJ 100 31 [l0, l1, l2, some (.long x), l4, l5] st m Q = kJ 100 32 [l0, l1, l2, some (.long x), l4, l5] (.long x :: st) m Q := kJ_next d100_31 rfl
theorem d100_32 : decode (mB 100) 32 = .ok (.bipush 10, 2) := by decide +kernel
theorem s100_32 {l0 l1 l2 l3 l4 l5 : Option Value} {st : List Value} {m : kMem} {Q : Option Value → kMem → Prop} : kJ 100 32 [l0, l1, l2, l3, l4, l5] st m Q = kJ 100 34 [l0, l1, l2, l3, l4, l5] (.int (nI 10) :: st) m Q := kJ_next d100_32 rfl
theorem d100_34 : decode (mB 100) 34 = .ok (.iload_n 0, 1) := by decide +kernel
theorem s100_34 {l1 l2 l3 l4 l5 : Option Value} {st : List Value} {x : Int32} {m : kMem} {Q : Option Value → kMem → Prop} : kJ 100 34 [some (.int x), l1, l2, l3, l4, l5] st m Q = kJ 100 35 [some (.int x), l1, l2, l3, l4, l5] (.int x :: st) m Q := kJ_next d100_34 rfl
theorem d100_35 : decode (mB 100) 35 = .ok (.isub, 1) := by decide +kernel
theorem s100_35 {l0 l1 l2 l3 l4 l5 : Option Value} {st : List Value} {a b : Int32} {m : kMem} {Q : Option Value → kMem → Prop} : kJ 100 35 [l0, l1, l2, l3, l4, l5] (.int b :: .int a :: st) m Q = kJ 100 36 [l0, l1, l2, l3, l4, l5] (.int (a - b) :: st) m Q := kJ_next d100_35 rfl
theorem d100_36 : decode (mB 100) 36 = .ok (.i2l, 1) := by decide +kernel
theorem s100_36 {l0 l1 l2 l3 l4 l5 : Option Value} {st : List Value} {a : Int32} {m : kMem} {Q : Option Value → kMem → Prop} : kJ 100 36 [l0, l1, l2, l3, l4, l5] (.int a :: st) m Q = kJ 100 37 [l0, l1, l2, l3, l4, l5] (.long a.toInt64 :: st) m Q := kJ_next d100_36 rfl
theorem d100_37 : decode (mB 100) 37 = .ok (.iload_n 2, 1) := by decide +kernel
theorem s100_37 {l0 l1 l3 l4 l5 : Option Value} {st : List Value} {x : Int32} {m : kMem} {Q : Option Value → kMem → Prop} : kJ 100 37 [l0, l1, some (.int x), l3, l4, l5] st m Q = kJ 100 38 [l0, l1, some (.int x), l3, l4, l5] (.int x :: st) m Q := kJ_next d100_37 rfl
theorem d100_38 : decode (mB 100) 38 = .ok (.invokestatic 200, 3) := by decide +kernel
theorem s100_38 {l0 l1 l2 l3 l4 l5 : Option Value} {v0 : Int32} {v1 : Int64} {v2 : Int64} {m : kMem} {Q : Option Value → kMem → Prop} : kJ 100 38 [l0, l1, l2, l3, l4, l5] [.int v0, .long v1, .long v2] m Q = kJ 99 0 [some (.long v1), none, some (.int v0), none, none, none] [] m (fun v m2 => kJ 100 41 [l0, l1, l2, l3, l4, l5] (v.toList ++ [.long v2]) m2 Q) := kJ_call d100_38 (kg_calls 99 2 rfl rfl (Nat.le_of_ble_eq_true rfl) (Nat.le_of_ble_eq_true rfl) (Nat.le_of_ble_eq_true rfl) (Nat.le_of_ble_eq_true rfl))
theorem d100_41 : decode (mB 100) 41 = .ok (.lmul, 1) := by decide +kernel
theorem s100_41 {l0 l1 l2 l3 l4 l5 : Option Value} {st : List Value} {a b : Int64} {m : kMem} {Q : Option Value → kMem → Prop} : kJ 100 41 [l0, l1, l2, l3, l4, l5] (.long b :: .long a :: st) m Q = kJ 100 42 [l0, l1, l2, l3, l4, l5] (.long (a * b) :: st) m Q := kJ_next d100_41 rfl
theorem d100_42 : decode (mB 100) 42 = .ok (.iload_n 0, 1) := by decide +kernel
theorem s100_42 {l1 l2 l3 l4 l5 : Option Value} {st : List Value} {x : Int32} {m : kMem} {Q : Option Value → kMem → Prop} : kJ 100 42 [some (.int x), l1, l2, l3, l4, l5] st m Q = kJ 100 43 [some (.int x), l1, l2, l3, l4, l5] (.int x :: st) m Q := kJ_next d100_42 rfl
theorem d100_43 : decode (mB 100) 43 = .ok (.i2l, 1) := by decide +kernel
theorem s100_43 {l0 l1 l2 l3 l4 l5 : Option Value} {st : List Value} {a : Int32} {m : kMem} {Q : Option Value → kMem → Prop} : kJ 100 43 [l0, l1, l2, l3, l4, l5] (.int a :: st) m Q = kJ 100 44 [l0, l1, l2, l3, l4, l5] (.long a.toInt64 :: st) m Q := kJ_next d100_43 rfl
theorem d100_44 : decode (mB 100) 44 = .ok (.iload_n 1, 1) := by decide +kernel
theorem s100_44 {l0 l2 l3 l4 l5 : Option Value} {st : List Value} {x : Int32} {m : kMem} {Q : Option Value → kMem → Prop} : kJ 100 44 [l0, some (.int x), l2, l3, l4, l5] st m Q = kJ 100 45 [l0, some (.int x), l2, l3, l4, l5] (.int x :: st) m Q := kJ_next d100_44 rfl
theorem d100_45 : decode (mB 100) 45 = .ok (.iload_n 2, 1) := by decide +kernel
theorem s100_45 {l0 l1 l3 l4 l5 : Option Value} {st : List Value} {x : Int32} {m : kMem} {Q : Option Value → kMem → Prop} : kJ 100 45 [l0, l1, some (.int x), l3, l4, l5] st m Q = kJ 100 46 [l0, l1, some (.int x), l3, l4, l5] (.int x :: st) m Q := kJ_next d100_45 rfl
theorem d100_46 : decode (mB 100) 46 = .ok (.isub, 1) := by decide +kernel
theorem s100_46 {l0 l1 l2 l3 l4 l5 : Option Value} {st : List Value} {a b : Int32} {m : kMem} {Q : Option Value → kMem → Prop} : kJ 100 46 [l0, l1, l2, l3, l4, l5] (.int b :: .int a :: st) m Q = kJ 100 47 [l0, l1, l2, l3, l4, l5] (.int (a - b) :: st) m Q := kJ_next d100_46 rfl
theorem d100_47 : decode (mB 100) 47 = .ok (.invokestatic 200, 3) := by decide +kernel
theorem s100_47 {l0 l1 l2 l3 l4 l5 : Option Value} {v0 : Int32} {v1 : Int64} {v2 : Int64} {m : kMem} {Q : Option Value → kMem → Prop} : kJ 100 47 [l0, l1, l2, l3, l4, l5] [.int v0, .long v1, .long v2] m Q = kJ 99 0 [some (.long v1), none, some (.int v0), none, none, none] [] m (fun v m2 => kJ 100 50 [l0, l1, l2, l3, l4, l5] (v.toList ++ [.long v2]) m2 Q) := kJ_call d100_47 (kg_calls 99 2 rfl rfl (Nat.le_of_ble_eq_true rfl) (Nat.le_of_ble_eq_true rfl) (Nat.le_of_ble_eq_true rfl) (Nat.le_of_ble_eq_true rfl))
theorem d100_50 : decode (mB 100) 50 = .ok (.lmul, 1) := by decide +kernel
theorem s100_50 {l0 l1 l2 l3 l4 l5 : Option Value} {st : List Value} {a b : Int64} {m : kMem} {Q : Option Value → kMem → Prop} : kJ 100 50 [l0, l1, l2, l3, l4, l5] (.long b :: .long a :: st) m Q = kJ 100 51 [l0, l1, l2, l3, l4, l5] (.long (a * b) :: st) m Q := kJ_next d100_50 rfl
theorem d100_51 : decode (mB 100) 51 = .ok (.lreturn, 1) := by decide +kernel
theorem s100_51 {l0 l1 l2 l3 l4 l5 : Option Value} {x : Int64} {m : kMem} {Q : Option Value → kMem → Prop} : kJ 100 51 [l0, l1, l2, l3, l4, l5] [.long x] m Q = Q (some (.long x)) m := kJ_ret d100_51 rfl
theorem d101_0 : decode (mB 101) 0 = .ok (.lload_n 0, 1) := by decide +kernel
theorem s101_0 {l1 l2 l3 l4 l5 l6 : Option Value} {st : List Value} {x : Int64} {m : kMem} {Q : Option Value → kMem → Prop} : kJ 101 0 [some (.long x), l1, l2, l3, l4, l5, l6] st m Q = kJ 101 1 [some (.long x), l1, l2, l3, l4, l5, l6] (.long x :: st) m Q := kJ_next d101_0 rfl
theorem d101_1 : decode (mB 101) 1 = .ok (.lload_n 2, 1) := by decide +kernel
theorem s101_1 {l0 l1 l3 l4 l5 l6 : Option Value} {st : List Value} {x : Int64} {m : kMem} {Q : Option Value → kMem → Prop} : kJ 101 1 [l0, l1, some (.long x), l3, l4, l5, l6] st m Q = kJ 101 2 [l0, l1, some (.long x), l3, l4, l5, l6] (.long x :: st) m Q := kJ_next d101_1 rfl
theorem d101_2 : decode (mB 101) 2 = .ok (.invokestatic 269, 3) := by decide +kernel
theorem s101_2 {l0 l1 l2 l3 l4 l5 l6 : Option Value} {v0 : Int64} {v1 : Int64} {m : kMem} {Q : Option Value → kMem → Prop} : kJ 101 2 [l0, l1, l2, l3, l4, l5, l6] [.long v0, .long v1] m Q = kJ 102 0 [some (.long v1), none, some (.long v0), none, none, none, none, none, none, none, none] [] m (fun v m2 => kJ 101 5 [l0, l1, l2, l3, l4, l5, l6] (v.toList ++ []) m2 Q) := kJ_call d101_2 (kg_calls 102 2 rfl rfl (Nat.le_of_ble_eq_true rfl) (Nat.le_of_ble_eq_true rfl) (Nat.le_of_ble_eq_true rfl) (Nat.le_of_ble_eq_true rfl))
theorem d101_5 : decode (mB 101) 5 = .ok (.lstore 5, 2) := by decide +kernel
theorem s101_5 {l0 l1 l2 l3 l4 l5 l6 : Option Value} {st : List Value} {x : Int64} {m : kMem} {Q : Option Value → kMem → Prop} (hp : kNL l4 = true) : kJ 101 5 [l0, l1, l2, l3, l4, l5, l6] (.long x :: st) m Q = kJ 101 7 [l0, l1, l2, l3, l4, some (.long x), none] st m Q := kJ_next d101_5 (kg_stl (Nat.le_of_ble_eq_true rfl) hp)
theorem d101_7 : decode (mB 101) 7 = .ok (.lload 5, 2) := by decide +kernel
theorem s101_7 {l0 l1 l2 l3 l4 l6 : Option Value} {st : List Value} {x : Int64} {m : kMem} {Q : Option Value → kMem → Prop} : kJ 101 7 [l0, l1, l2, l3, l4, some (.long x), l6] st m Q = kJ 101 9 [l0, l1, l2, l3, l4, some (.long x), l6] (.long x :: st) m Q := kJ_next d101_7 rfl
theorem d101_9 : decode (mB 101) 9 = .ok (.lconst 0, 1) := by decide +kernel
theorem s101_9 {l0 l1 l2 l3 l4 l5 l6 : Option Value} {st : List Value} {m : kMem} {Q : Option Value → kMem → Prop} : kJ 101 9 [l0, l1, l2, l3, l4, l5, l6] st m Q = kJ 101 10 [l0, l1, l2, l3, l4, l5, l6] (.long 0 :: st) m Q := kJ_next d101_9 rfl
theorem d101_10 : decode (mB 101) 10 = .ok (.lcmp, 1) := by decide +kernel
theorem s101_10 {l0 l1 l2 l3 l4 l5 l6 : Option Value} {st : List Value} {a b : Int64} {m : kMem} {Q : Option Value → kMem → Prop} : kJ 101 10 [l0, l1, l2, l3, l4, l5, l6] (.long b :: .long a :: st) m Q = kJ 101 11 [l0, l1, l2, l3, l4, l5, l6] (.int (lg_cmp a b) :: st) m Q := kJ_next d101_10 rfl
theorem d101_11 : decode (mB 101) 11 = .ok (.ifCond .gt 14, 3) := by decide +kernel
theorem s101_11 {l0 l1 l2 l3 l4 l5 l6 : Option Value} {st : List Value} {a : Int32} {m : kMem} {Q : Option Value → kMem → Prop} : kJ 101 11 [l0, l1, l2, l3, l4, l5, l6] (.int a :: st) m Q = (if 0 < a then kJ 101 25 [l0, l1, l2, l3, l4, l5, l6] st m Q else kJ 101 14 [l0, l1, l2, l3, l4, l5, l6] st m Q) := kJ_if d101_11 rfl (fun h => kJ_next d101_11 h) (fun h => kJ_next d101_11 h)
theorem d101_14 : decode (mB 101) 14 = .ok (.iload 4, 2) := by decide +kernel
theorem s101_14 {l0 l1 l2 l3 l5 l6 : Option Value} {st : List Value} {x : Int32} {m : kMem} {Q : Option Value → kMem → Prop} : kJ 101 14 [l0, l1, l2, l3, some (.int x), l5, l6] st m Q = kJ 101 16 [l0, l1, l2, l3, some (.int x), l5, l6] (.int x :: st) m Q := kJ_next d101_14 rfl
theorem d101_16 : decode (mB 101) 16 = .ok (.ifCond .ne 7, 3) := by decide +kernel
theorem s101_16 {l0 l1 l2 l3 l4 l5 l6 : Option Value} {st : List Value} {a : Int32} {m : kMem} {Q : Option Value → kMem → Prop} : kJ 101 16 [l0, l1, l2, l3, l4, l5, l6] (.int a :: st) m Q = (if a = 0 then kJ 101 19 [l0, l1, l2, l3, l4, l5, l6] st m Q else kJ 101 23 [l0, l1, l2, l3, l4, l5, l6] st m Q) := kJ_if d101_16 rfl (fun h => kJ_next d101_16 h) (fun h => kJ_next d101_16 h)
theorem d101_19 : decode (mB 101) 19 = .ok (.lload_n 0, 1) := by decide +kernel
theorem s101_19 {l1 l2 l3 l4 l5 l6 : Option Value} {st : List Value} {x : Int64} {m : kMem} {Q : Option Value → kMem → Prop} : kJ 101 19 [some (.long x), l1, l2, l3, l4, l5, l6] st m Q = kJ 101 20 [some (.long x), l1, l2, l3, l4, l5, l6] (.long x :: st) m Q := kJ_next d101_19 rfl
theorem d101_20 : decode (mB 101) 20 = .ok (.goto 4, 3) := by decide +kernel
theorem s101_20 {l0 l1 l2 l3 l4 l5 l6 : Option Value} {st : List Value} {m : kMem} {Q : Option Value → kMem → Prop} : kJ 101 20 [l0, l1, l2, l3, l4, l5, l6] st m Q = kJ 101 24 [l0, l1, l2, l3, l4, l5, l6] st m Q := kJ_next d101_20 rfl
theorem d101_23 : decode (mB 101) 23 = .ok (.lload_n 2, 1) := by decide +kernel
theorem s101_23 {l0 l1 l3 l4 l5 l6 : Option Value} {st : List Value} {x : Int64} {m : kMem} {Q : Option Value → kMem → Prop} : kJ 101 23 [l0, l1, some (.long x), l3, l4, l5, l6] st m Q = kJ 101 24 [l0, l1, some (.long x), l3, l4, l5, l6] (.long x :: st) m Q := kJ_next d101_23 rfl
theorem d101_24 : decode (mB 101) 24 = .ok (.lreturn, 1) := by decide +kernel
theorem s101_24 {l0 l1 l2 l3 l4 l5 l6 : Option Value} {x : Int64} {m : kMem} {Q : Option Value → kMem → Prop} : kJ 101 24 [l0, l1, l2, l3, l4, l5, l6] [.long x] m Q = Q (some (.long x)) m := kJ_ret d101_24 rfl
theorem d101_25 : decode (mB 101) 25 = .ok (.iload 4, 2) := by decide +kernel
theorem s101_25 {l0 l1 l2 l3 l5 l6 : Option Value} {st : List Value} {x : Int32} {m : kMem} {Q : Option Value → kMem → Prop} : kJ 101 25 [l0, l1, l2, l3, some (.int x), l5, l6] st m Q = kJ 101 27 [l0, l1, l2, l3, some (.int x), l5, l6] (.int x :: st) m Q := kJ_next d101_25 rfl
theorem d101_27 : decode (mB 101) 27 = .ok (.ifCond .ne 10, 3) := by decide +kernel
theorem s101_27 {l0 l1 l2 l3 l4 l5 l6 : Option Value} {st : List Value} {a : Int32} {m : kMem} {Q : Option Value → kMem → Prop} : kJ 101 27 [l0, l1, l2, l3, l4, l5, l6] (.int a :: st) m Q = (if a = 0 then kJ 101 30 [l0, l1, l2, l3, l4, l5, l6] st m Q else kJ 101 37 [l0, l1, l2, l3, l4, l5, l6] st m Q) := kJ_if d101_27 rfl (fun h => kJ_next d101_27 h) (fun h => kJ_next d101_27 h)
theorem d101_30 : decode (mB 101) 30 = .ok (.lload_n 0, 1) := by decide +kernel
theorem s101_30 {l1 l2 l3 l4 l5 l6 : Option Value} {st : List Value} {x : Int64} {m : kMem} {Q : Option Value → kMem → Prop} : kJ 101 30 [some (.long x), l1, l2, l3, l4, l5, l6] st m Q = kJ 101 31 [some (.long x), l1, l2, l3, l4, l5, l6] (.long x :: st) m Q := kJ_next d101_30 rfl
theorem d101_31 : decode (mB 101) 31 = .ok (.lload 5, 2) := by decide +kernel
theorem s101_31 {l0 l1 l2 l3 l4 l6 : Option Value} {st : List Value} {x : Int64} {m : kMem} {Q : Option Value → kMem → Prop} : kJ 101 31 [l0, l1, l2, l3, l4, some (.long x), l6] st m Q = kJ 101 33 [l0, l1, l2, l3, l4, some (.long x), l6] (.long x :: st) m Q := kJ_next d101_31 rfl
theorem d101_33 : decode (mB 101) 33 = .ok (.ldiv, 1) := by decide +kernel
theorem s101_33 {l0 l1 l2 l3 l4 l5 l6 : Option Value} {st : List Value} {a b : Int64} {m : kMem} {Q : Option Value → kMem → Prop} (hb : ¬ b = 0) : kJ 101 33 [l0, l1, l2, l3, l4, l5, l6] (.long b :: .long a :: st) m Q = kJ 101 34 [l0, l1, l2, l3, l4, l5, l6] (.long (a / b) :: st) m Q := kJ_next d101_33 (kg_ldiv hb)
theorem d101_34 : decode (mB 101) 34 = .ok (.goto 7, 3) := by decide +kernel
theorem s101_34 {l0 l1 l2 l3 l4 l5 l6 : Option Value} {st : List Value} {m : kMem} {Q : Option Value → kMem → Prop} : kJ 101 34 [l0, l1, l2, l3, l4, l5, l6] st m Q = kJ 101 41 [l0, l1, l2, l3, l4, l5, l6] st m Q := kJ_next d101_34 rfl
theorem d101_37 : decode (mB 101) 37 = .ok (.lload_n 2, 1) := by decide +kernel
theorem s101_37 {l0 l1 l3 l4 l5 l6 : Option Value} {st : List Value} {x : Int64} {m : kMem} {Q : Option Value → kMem → Prop} : kJ 101 37 [l0, l1, some (.long x), l3, l4, l5, l6] st m Q = kJ 101 38 [l0, l1, some (.long x), l3, l4, l5, l6] (.long x :: st) m Q := kJ_next d101_37 rfl
theorem d101_38 : decode (mB 101) 38 = .ok (.lload 5, 2) := by decide +kernel
theorem s101_38 {l0 l1 l2 l3 l4 l6 : Option Value} {st : List Value} {x : Int64} {m : kMem} {Q : Option Value → kMem → Prop} : kJ 101 38 [l0, l1, l2, l3, l4, some (.long x), l6] st m Q = kJ 101 40 [l0, l1, l2, l3, l4, some (.long x), l6] (.long x :: st) m Q := kJ_next d101_38 rfl
theorem d101_40 : decode (mB 101) 40 = .ok (.ldiv, 1) := by decide +kernel
theorem s101_40 {l0 l1 l2 l3 l4 l5 l6 : Option Value} {st : List Value} {a b : Int64} {m : kMem} {Q : Option Value → kMem → Prop} (hb : ¬ b = 0) : kJ 101 40 [l0, l1, l2, l3, l4, l5, l6] (.long b :: .long a :: st) m Q = kJ 101 41 [l0, l1, l2, l3, l4, l5, l6] (.long (a / b) :: st) m Q := kJ_next d101_40 (kg_ldiv hb)
theorem d101_41 : decode (mB 101) 41 = .ok (.lreturn, 1) := by decide +kernel
theorem s101_41 {l0 l1 l2 l3 l4 l5 l6 : Option Value} {x : Int64} {m : kMem} {Q : Option Value → kMem → Prop} : kJ 101 41 [l0, l1, l2, l3, l4, l5, l6] [.long x] m Q = Q (some (.long x)) m := kJ_ret d101_41 rfl
theorem d102_0 : decode (mB 102) 0 = .ok (.lload_n 0, 1) := by decide +kernel
theorem s102_0 {l1 l2 l3 l4 l5 l6 l7 l8 l9 l10 : Option Value} {st : List Value} {x : Int64} {m : kMem} {Q : Option Value → kMem → Prop} : kJ 102 0 [some (.long x), l1, l2, l3, l4, l5, l6, l7, l8, l9, l10] st m Q = kJ 102 1 [some (.long x), l1, l2, l3, l4, l5, l6, l7, l8, l9, l10] (.long x :: st) m Q := kJ_next d102_0 rfl
theorem d102_1 : decode (mB 102) 1 = .ok (.lstore 4, 2) := by decide +kernel
theorem s102_1 {l0 l1 l2 l3 l4 l5 l6 l7 l8 l9 l10 : Option Value} {st : List Value} {x : Int64} {m : kMem} {Q : Option Value → kMem → Prop} (hp : kNL l3 = true) : kJ 102 1 [l0, l1, l2, l3, l4, l5, l6, l7, l8, l9, l10] (.long x :: st) m Q = kJ 102 3 [l0, l1, l2, l3, some (.long x), none, l6, l7, l8, l9, l10] st m Q := kJ_next d102_1 (kg_stl (Nat.le_of_ble_eq_true rfl) hp)
theorem d102_3 : decode (mB 102) 3 = .ok (.lload_n 2, 1) := by decide +kernel
theorem s102_3 {l0 l1 l3 l4 l5 l6 l7 l8 l9 l10 : Option Value} {st : List Value} {x : Int64} {m : kMem} {Q : Option Value → kMem → Prop} : kJ 102 3 [l0, l1, some (.long x), l3, l4, l5, l6, l7, l8, l9, l10] st m Q = kJ 102 4 [l0, l1, some (.long x), l3, l4, l5, l6, l7, l8, l9, l10] (.long x :: st) m Q := kJ_next d102_3 rfl
theorem d102_4 : decode (mB 102) 4 = .ok (.lstore 6, 2) := by decide +kernel
theorem s102_4 {l0 l1 l2 l3 l4 l5 l6 l7 l8 l9 l10 : Option Value} {st : List Value} {x : Int64} {m : kMem} {Q : Option Value → kMem → Prop} (hp : kNL l5 = true) : kJ 102 4 [l0, l1, l2, l3, l4, l5, l6, l7, l8, l9, l10] (.long x :: st) m Q = kJ 102 6 [l0, l1, l2, l3, l4, l5, some (.long x), none, l8, l9, l10] st m Q := kJ_next d102_4 (kg_stl (Nat.le_of_ble_eq_true rfl) hp)
theorem d102_6 : decode (mB 102) 6 = .ok (.iconst 0, 1) := by decide +kernel
theorem s102_6 {l0 l1 l2 l3 l4 l5 l6 l7 l8 l9 l10 : Option Value} {st : List Value} {m : kMem} {Q : Option Value → kMem → Prop} : kJ 102 6 [l0, l1, l2, l3, l4, l5, l6, l7, l8, l9, l10] st m Q = kJ 102 7 [l0, l1, l2, l3, l4, l5, l6, l7, l8, l9, l10] (.int (nI 0) :: st) m Q := kJ_next d102_6 rfl
theorem d102_7 : decode (mB 102) 7 = .ok (.istore 8, 2) := by decide +kernel
theorem s102_7 {l0 l1 l2 l3 l4 l5 l6 l7 l8 l9 l10 : Option Value} {st : List Value} {x : Int32} {m : kMem} {Q : Option Value → kMem → Prop} (hp : kNL l7 = true) : kJ 102 7 [l0, l1, l2, l3, l4, l5, l6, l7, l8, l9, l10] (.int x :: st) m Q = kJ 102 9 [l0, l1, l2, l3, l4, l5, l6, l7, some (.int x), l9, l10] st m Q := kJ_next d102_7 (kg_sti (Nat.le_of_ble_eq_true rfl) hp)
theorem d102_9 : decode (mB 102) 9 = .ok (.iload 8, 2) := by decide +kernel
theorem s102_9 {l0 l1 l2 l3 l4 l5 l6 l7 l9 l10 : Option Value} {st : List Value} {x : Int32} {m : kMem} {Q : Option Value → kMem → Prop} : kJ 102 9 [l0, l1, l2, l3, l4, l5, l6, l7, some (.int x), l9, l10] st m Q = kJ 102 11 [l0, l1, l2, l3, l4, l5, l6, l7, some (.int x), l9, l10] (.int x :: st) m Q := kJ_next d102_9 rfl
theorem d102_11 : decode (mB 102) 11 = .ok (.sipush 200, 3) := by decide +kernel
theorem s102_11 {l0 l1 l2 l3 l4 l5 l6 l7 l8 l9 l10 : Option Value} {st : List Value} {m : kMem} {Q : Option Value → kMem → Prop} : kJ 102 11 [l0, l1, l2, l3, l4, l5, l6, l7, l8, l9, l10] st m Q = kJ 102 14 [l0, l1, l2, l3, l4, l5, l6, l7, l8, l9, l10] (.int (nI 200) :: st) m Q := kJ_next d102_11 rfl
theorem d102_14 : decode (mB 102) 14 = .ok (.if_icmp .ge 31, 3) := by decide +kernel
theorem s102_14 {l0 l1 l2 l3 l4 l5 l6 l7 l8 l9 l10 : Option Value} {st : List Value} {a b : Int32} {m : kMem} {Q : Option Value → kMem → Prop} : kJ 102 14 [l0, l1, l2, l3, l4, l5, l6, l7, l8, l9, l10] (.int b :: .int a :: st) m Q = (if b ≤ a then kJ 102 45 [l0, l1, l2, l3, l4, l5, l6, l7, l8, l9, l10] st m Q else kJ 102 17 [l0, l1, l2, l3, l4, l5, l6, l7, l8, l9, l10] st m Q) := kJ_if d102_14 rfl (fun h => kJ_next d102_14 h) (fun h => kJ_next d102_14 h)
theorem d102_17 : decode (mB 102) 17 = .ok (.lload 6, 2) := by decide +kernel
theorem s102_17 {l0 l1 l2 l3 l4 l5 l7 l8 l9 l10 : Option Value} {st : List Value} {x : Int64} {m : kMem} {Q : Option Value → kMem → Prop} : kJ 102 17 [l0, l1, l2, l3, l4, l5, some (.long x), l7, l8, l9, l10] st m Q = kJ 102 19 [l0, l1, l2, l3, l4, l5, some (.long x), l7, l8, l9, l10] (.long x :: st) m Q := kJ_next d102_17 rfl
theorem d102_19 : decode (mB 102) 19 = .ok (.lconst 0, 1) := by decide +kernel
theorem s102_19 {l0 l1 l2 l3 l4 l5 l6 l7 l8 l9 l10 : Option Value} {st : List Value} {m : kMem} {Q : Option Value → kMem → Prop} : kJ 102 19 [l0, l1, l2, l3, l4, l5, l6, l7, l8, l9, l10] st m Q = kJ 102 20 [l0, l1, l2, l3, l4, l5, l6, l7, l8, l9, l10] (.long 0 :: st) m Q := kJ_next d102_19 rfl
theorem d102_20 : decode (mB 102) 20 = .ok (.lcmp, 1) := by decide +kernel
theorem s102_20 {l0 l1 l2 l3 l4 l5 l6 l7 l8 l9 l10 : Option Value} {st : List Value} {a b : Int64} {m : kMem} {Q : Option Value → kMem → Prop} : kJ 102 20 [l0, l1, l2, l3, l4, l5, l6, l7, l8, l9, l10] (.long b :: .long a :: st) m Q = kJ 102 21 [l0, l1, l2, l3, l4, l5, l6, l7, l8, l9, l10] (.int (lg_cmp a b) :: st) m Q := kJ_next d102_20 rfl
theorem d102_21 : decode (mB 102) 21 = .ok (.ifCond .eq 24, 3) := by decide +kernel
theorem s102_21 {l0 l1 l2 l3 l4 l5 l6 l7 l8 l9 l10 : Option Value} {st : List Value} {a : Int32} {m : kMem} {Q : Option Value → kMem → Prop} : kJ 102 21 [l0, l1, l2, l3, l4, l5, l6, l7, l8, l9, l10] (.int a :: st) m Q = (if a = 0 then kJ 102 45 [l0, l1, l2, l3, l4, l5, l6, l7, l8, l9, l10] st m Q else kJ 102 24 [l0, l1, l2, l3, l4, l5, l6, l7, l8, l9, l10] st m Q) := kJ_if d102_21 rfl (fun h => kJ_next d102_21 h) (fun h => kJ_next d102_21 h)
theorem d102_24 : decode (mB 102) 24 = .ok (.lload 4, 2) := by decide +kernel
theorem s102_24 {l0 l1 l2 l3 l5 l6 l7 l8 l9 l10 : Option Value} {st : List Value} {x : Int64} {m : kMem} {Q : Option Value → kMem → Prop} : kJ 102 24 [l0, l1, l2, l3, some (.long x), l5, l6, l7, l8, l9, l10] st m Q = kJ 102 26 [l0, l1, l2, l3, some (.long x), l5, l6, l7, l8, l9, l10] (.long x :: st) m Q := kJ_next d102_24 rfl
theorem d102_26 : decode (mB 102) 26 = .ok (.lload 6, 2) := by decide +kernel
theorem s102_26 {l0 l1 l2 l3 l4 l5 l7 l8 l9 l10 : Option Value} {st : List Value} {x : Int64} {m : kMem} {Q : Option Value → kMem → Prop} : kJ 102 26 [l0, l1, l2, l3, l4, l5, some (.long x), l7, l8, l9, l10] st m Q = kJ 102 28 [l0, l1, l2, l3, l4, l5, some (.long x), l7, l8, l9, l10] (.long x :: st) m Q := kJ_next d102_26 rfl
theorem d102_28 : decode (mB 102) 28 = .ok (.lrem, 1) := by decide +kernel
theorem s102_28 {l0 l1 l2 l3 l4 l5 l6 l7 l8 l9 l10 : Option Value} {st : List Value} {a b : Int64} {m : kMem} {Q : Option Value → kMem → Prop} (hb : ¬ b = 0) : kJ 102 28 [l0, l1, l2, l3, l4, l5, l6, l7, l8, l9, l10] (.long b :: .long a :: st) m Q = kJ 102 29 [l0, l1, l2, l3, l4, l5, l6, l7, l8, l9, l10] (.long (a - a / b * b) :: st) m Q := kJ_next d102_28 (kg_lrem hb)
theorem d102_29 : decode (mB 102) 29 = .ok (.lstore 9, 2) := by decide +kernel
theorem s102_29 {l0 l1 l2 l3 l4 l5 l6 l7 l8 l9 l10 : Option Value} {st : List Value} {x : Int64} {m : kMem} {Q : Option Value → kMem → Prop} (hp : kNL l8 = true) : kJ 102 29 [l0, l1, l2, l3, l4, l5, l6, l7, l8, l9, l10] (.long x :: st) m Q = kJ 102 31 [l0, l1, l2, l3, l4, l5, l6, l7, l8, some (.long x), none] st m Q := kJ_next d102_29 (kg_stl (Nat.le_of_ble_eq_true rfl) hp)
theorem d102_31 : decode (mB 102) 31 = .ok (.lload 6, 2) := by decide +kernel
theorem s102_31 {l0 l1 l2 l3 l4 l5 l7 l8 l9 l10 : Option Value} {st : List Value} {x : Int64} {m : kMem} {Q : Option Value → kMem → Prop} : kJ 102 31 [l0, l1, l2, l3, l4, l5, some (.long x), l7, l8, l9, l10] st m Q = kJ 102 33 [l0, l1, l2, l3, l4, l5, some (.long x), l7, l8, l9, l10] (.long x :: st) m Q := kJ_next d102_31 rfl
theorem d102_33 : decode (mB 102) 33 = .ok (.lstore 4, 2) := by decide +kernel
theorem s102_33 {l0 l1 l2 l3 l4 l5 l6 l7 l8 l9 l10 : Option Value} {st : List Value} {x : Int64} {m : kMem} {Q : Option Value → kMem → Prop} (hp : kNL l3 = true) : kJ 102 33 [l0, l1, l2, l3, l4, l5, l6, l7, l8, l9, l10] (.long x :: st) m Q = kJ 102 35 [l0, l1, l2, l3, some (.long x), none, l6, l7, l8, l9, l10] st m Q := kJ_next d102_33 (kg_stl (Nat.le_of_ble_eq_true rfl) hp)
theorem d102_35 : decode (mB 102) 35 = .ok (.lload 9, 2) := by decide +kernel
theorem s102_35 {l0 l1 l2 l3 l4 l5 l6 l7 l8 l10 : Option Value} {st : List Value} {x : Int64} {m : kMem} {Q : Option Value → kMem → Prop} : kJ 102 35 [l0, l1, l2, l3, l4, l5, l6, l7, l8, some (.long x), l10] st m Q = kJ 102 37 [l0, l1, l2, l3, l4, l5, l6, l7, l8, some (.long x), l10] (.long x :: st) m Q := kJ_next d102_35 rfl
theorem d102_37 : decode (mB 102) 37 = .ok (.lstore 6, 2) := by decide +kernel
theorem s102_37 {l0 l1 l2 l3 l4 l5 l6 l7 l8 l9 l10 : Option Value} {st : List Value} {x : Int64} {m : kMem} {Q : Option Value → kMem → Prop} (hp : kNL l5 = true) : kJ 102 37 [l0, l1, l2, l3, l4, l5, l6, l7, l8, l9, l10] (.long x :: st) m Q = kJ 102 39 [l0, l1, l2, l3, l4, l5, some (.long x), none, l8, l9, l10] st m Q := kJ_next d102_37 (kg_stl (Nat.le_of_ble_eq_true rfl) hp)
theorem d102_39 : decode (mB 102) 39 = .ok (.iinc 8 1, 3) := by decide +kernel
theorem s102_39 {l0 l1 l2 l3 l4 l5 l6 l7 l9 l10 : Option Value} {st : List Value} {x : Int32} {m : kMem} {Q : Option Value → kMem → Prop} (hp : kNL l7 = true) : kJ 102 39 [l0, l1, l2, l3, l4, l5, l6, l7, some (.int x), l9, l10] st m Q = kJ 102 42 [l0, l1, l2, l3, l4, l5, l6, l7, some (.int (x + (nI 1))), l9, l10] st m Q := kJ_next d102_39 (kg_inc rfl (Nat.le_of_ble_eq_true rfl) hp)
theorem d102_42 : decode (mB 102) 42 = .ok (.goto (-33), 3) := by decide +kernel
theorem s102_42 {l0 l1 l2 l3 l4 l5 l6 l7 l8 l9 l10 : Option Value} {st : List Value} {m : kMem} {Q : Option Value → kMem → Prop} : kJ 102 42 [l0, l1, l2, l3, l4, l5, l6, l7, l8, l9, l10] st m Q = kJ 102 9 [l0, l1, l2, l3, l4, l5, l6, l7, l8, l9, l10] st m Q := kJ_next d102_42 rfl
theorem d102_45 : decode (mB 102) 45 = .ok (.lload 4, 2) := by decide +kernel
theorem s102_45 {l0 l1 l2 l3 l5 l6 l7 l8 l9 l10 : Option Value} {st : List Value} {x : Int64} {m : kMem} {Q : Option Value → kMem → Prop} : kJ 102 45 [l0, l1, l2, l3, some (.long x), l5, l6, l7, l8, l9, l10] st m Q = kJ 102 47 [l0, l1, l2, l3, some (.long x), l5, l6, l7, l8, l9, l10] (.long x :: st) m Q := kJ_next d102_45 rfl
theorem d102_47 : decode (mB 102) 47 = .ok (.lreturn, 1) := by decide +kernel
theorem s102_47 {l0 l1 l2 l3 l4 l5 l6 l7 l8 l9 l10 : Option Value} {x : Int64} {m : kMem} {Q : Option Value → kMem → Prop} : kJ 102 47 [l0, l1, l2, l3, l4, l5, l6, l7, l8, l9, l10] [.long x] m Q = Q (some (.long x)) m := kJ_ret d102_47 rfl
theorem d103_0 : decode (mB 103) 0 = .ok (.iload_n 0, 1) := by decide +kernel
theorem s103_0 {l1 l2 : Option Value} {st : List Value} {x : Int32} {m : kMem} {Q : Option Value → kMem → Prop} : kJ 103 0 [some (.int x), l1, l2] st m Q = kJ 103 1 [some (.int x), l1, l2] (.int x :: st) m Q := kJ_next d103_0 rfl
theorem d103_1 : decode (mB 103) 1 = .ok (.bipush 21, 2) := by decide +kernel
theorem s103_1 {l0 l1 l2 : Option Value} {st : List Value} {m : kMem} {Q : Option Value → kMem → Prop} : kJ 103 1 [l0, l1, l2] st m Q = kJ 103 3 [l0, l1, l2] (.int (nI 21) :: st) m Q := kJ_next d103_1 rfl
theorem d103_3 : decode (mB 103) 3 = .ok (.imul, 1) := by decide +kernel
theorem s103_3 {l0 l1 l2 : Option Value} {st : List Value} {a b : Int32} {m : kMem} {Q : Option Value → kMem → Prop} : kJ 103 3 [l0, l1, l2] (.int b :: .int a :: st) m Q = kJ 103 4 [l0, l1, l2] (.int (a * b) :: st) m Q := kJ_next d103_3 rfl
theorem d103_4 : decode (mB 103) 4 = .ok (.iload_n 1, 1) := by decide +kernel
theorem s103_4 {l0 l2 : Option Value} {st : List Value} {x : Int32} {m : kMem} {Q : Option Value → kMem → Prop} : kJ 103 4 [l0, some (.int x), l2] st m Q = kJ 103 5 [l0, some (.int x), l2] (.int x :: st) m Q := kJ_next d103_4 rfl
theorem d103_5 : decode (mB 103) 5 = .ok (.iadd, 1) := by decide +kernel
theorem s103_5 {l0 l1 l2 : Option Value} {st : List Value} {a b : Int32} {m : kMem} {Q : Option Value → kMem → Prop} : kJ 103 5 [l0, l1, l2] (.int b :: .int a :: st) m Q = kJ 103 6 [l0, l1, l2] (.int (a + b) :: st) m Q := kJ_next d103_5 rfl
theorem d103_6 : decode (mB 103) 6 = .ok (.iconst 5, 1) := by decide +kernel
theorem s103_6 {l0 l1 l2 : Option Value} {st : List Value} {m : kMem} {Q : Option Value → kMem → Prop} : kJ 103 6 [l0, l1, l2] st m Q = kJ 103 7 [l0, l1, l2] (.int (nI 5) :: st) m Q := kJ_next d103_6 rfl
theorem d103_7 : decode (mB 103) 7 = .ok (.imul, 1) := by decide +kernel
theorem s103_7 {l0 l1 l2 : Option Value} {st : List Value} {a b : Int32} {m : kMem} {Q : Option Value → kMem → Prop} : kJ 103 7 [l0, l1, l2] (.int b :: .int a :: st) m Q = kJ 103 8 [l0, l1, l2] (.int (a * b) :: st) m Q := kJ_next d103_7 rfl
theorem d103_8 : decode (mB 103) 8 = .ok (.iload_n 2, 1) := by decide +kernel
theorem s103_8 {l0 l1 : Option Value} {st : List Value} {x : Int32} {m : kMem} {Q : Option Value → kMem → Prop} : kJ 103 8 [l0, l1, some (.int x)] st m Q = kJ 103 9 [l0, l1, some (.int x)] (.int x :: st) m Q := kJ_next d103_8 rfl
theorem d103_9 : decode (mB 103) 9 = .ok (.iadd, 1) := by decide +kernel
theorem s103_9 {l0 l1 l2 : Option Value} {st : List Value} {a b : Int32} {m : kMem} {Q : Option Value → kMem → Prop} : kJ 103 9 [l0, l1, l2] (.int b :: .int a :: st) m Q = kJ 103 10 [l0, l1, l2] (.int (a + b) :: st) m Q := kJ_next d103_9 rfl
theorem d103_10 : decode (mB 103) 10 = .ok (.ireturn, 1) := by decide +kernel
theorem s103_10 {l0 l1 l2 : Option Value} {x : Int32} {m : kMem} {Q : Option Value → kMem → Prop} : kJ 103 10 [l0, l1, l2] [.int x] m Q = Q (some (.int x)) m := kJ_ret d103_10 rfl
theorem d104_0 : decode (mB 104) 0 = .ok (.iconst 0, 1) := by decide +kernel
theorem s104_0 {l0 l1 l2 l3 l4 : Option Value} {st : List Value} {m : kMem} {Q : Option Value → kMem → Prop} : kJ 104 0 [l0, l1, l2, l3, l4] st m Q = kJ 104 1 [l0, l1, l2, l3, l4] (.int (nI 0) :: st) m Q := kJ_next d104_0 rfl
theorem d104_1 : decode (mB 104) 1 = .ok (.istore_n 3, 1) := by decide +kernel
theorem s104_1 {l0 l1 l2 l3 l4 : Option Value} {st : List Value} {x : Int32} {m : kMem} {Q : Option Value → kMem → Prop} (hp : kNL l2 = true) : kJ 104 1 [l0, l1, l2, l3, l4] (.int x :: st) m Q = kJ 104 2 [l0, l1, l2, some (.int x), l4] st m Q := kJ_next d104_1 (kg_sti (Nat.le_of_ble_eq_true rfl) hp)
theorem d104_2 : decode (mB 104) 2 = .ok (.iload_n 3, 1) := by decide +kernel
theorem s104_2 {l0 l1 l2 l4 : Option Value} {st : List Value} {x : Int32} {m : kMem} {Q : Option Value → kMem → Prop} : kJ 104 2 [l0, l1, l2, some (.int x), l4] st m Q = kJ 104 3 [l0, l1, l2, some (.int x), l4] (.int x :: st) m Q := kJ_next d104_2 rfl
theorem d104_3 : decode (mB 104) 3 = .ok (.bipush 18, 2) := by decide +kernel
theorem s104_3 {l0 l1 l2 l3 l4 : Option Value} {st : List Value} {m : kMem} {Q : Option Value → kMem → Prop} : kJ 104 3 [l0, l1, l2, l3, l4] st m Q = kJ 104 5 [l0, l1, l2, l3, l4] (.int (nI 18) :: st) m Q := kJ_next d104_3 rfl
theorem d104_5 : decode (mB 104) 5 = .ok (.if_icmp .gt 85, 3) := by decide +kernel
theorem s104_5 {l0 l1 l2 l3 l4 : Option Value} {st : List Value} {a b : Int32} {m : kMem} {Q : Option Value → kMem → Prop} : kJ 104 5 [l0, l1, l2, l3, l4] (.int b :: .int a :: st) m Q = (if b < a then kJ 104 90 [l0, l1, l2, l3, l4] st m Q else kJ 104 8 [l0, l1, l2, l3, l4] st m Q) := kJ_if d104_5 rfl (fun h => kJ_next d104_5 h) (fun h => kJ_next d104_5 h)
theorem d104_8 : decode (mB 104) 8 = .ok (.iload_n 2, 1) := by decide +kernel
theorem s104_8 {l0 l1 l3 l4 : Option Value} {st : List Value} {x : Int32} {m : kMem} {Q : Option Value → kMem → Prop} : kJ 104 8 [l0, l1, some (.int x), l3, l4] st m Q = kJ 104 9 [l0, l1, some (.int x), l3, l4] (.int x :: st) m Q := kJ_next d104_8 rfl
theorem d104_9 : decode (mB 104) 9 = .ok (.iload_n 3, 1) := by decide +kernel
theorem s104_9 {l0 l1 l2 l4 : Option Value} {st : List Value} {x : Int32} {m : kMem} {Q : Option Value → kMem → Prop} : kJ 104 9 [l0, l1, l2, some (.int x), l4] st m Q = kJ 104 10 [l0, l1, l2, some (.int x), l4] (.int x :: st) m Q := kJ_next d104_9 rfl
theorem d104_10 : decode (mB 104) 10 = .ok (.ishr, 1) := by decide +kernel
theorem s104_10 {l0 l1 l2 l3 l4 : Option Value} {st : List Value} {a b : Int32} {m : kMem} {Q : Option Value → kMem → Prop} : kJ 104 10 [l0, l1, l2, l3, l4] (.int b :: .int a :: st) m Q = kJ 104 11 [l0, l1, l2, l3, l4] (.int (a >>> (b &&& 31)) :: st) m Q := kJ_next d104_10 rfl
theorem d104_11 : decode (mB 104) 11 = .ok (.iconst 1, 1) := by decide +kernel
theorem s104_11 {l0 l1 l2 l3 l4 : Option Value} {st : List Value} {m : kMem} {Q : Option Value → kMem → Prop} : kJ 104 11 [l0, l1, l2, l3, l4] st m Q = kJ 104 12 [l0, l1, l2, l3, l4] (.int (nI 1) :: st) m Q := kJ_next d104_11 rfl
theorem d104_12 : decode (mB 104) 12 = .ok (.iand, 1) := by decide +kernel
theorem s104_12 {l0 l1 l2 l3 l4 : Option Value} {st : List Value} {a b : Int32} {m : kMem} {Q : Option Value → kMem → Prop} : kJ 104 12 [l0, l1, l2, l3, l4] (.int b :: .int a :: st) m Q = kJ 104 13 [l0, l1, l2, l3, l4] (.int (a &&& b) :: st) m Q := kJ_next d104_12 rfl
theorem d104_13 : decode (mB 104) 13 = .ok (.ifCond .eq 71, 3) := by decide +kernel
theorem s104_13 {l0 l1 l2 l3 l4 : Option Value} {st : List Value} {a : Int32} {m : kMem} {Q : Option Value → kMem → Prop} : kJ 104 13 [l0, l1, l2, l3, l4] (.int a :: st) m Q = (if a = 0 then kJ 104 84 [l0, l1, l2, l3, l4] st m Q else kJ 104 16 [l0, l1, l2, l3, l4] st m Q) := kJ_if d104_13 rfl (fun h => kJ_next d104_13 h) (fun h => kJ_next d104_13 h)
theorem d104_16 : decode (mB 104) 16 = .ok (.aload_n 0, 1) := by decide +kernel
theorem s104_16 {l1 l2 l3 l4 : Option Value} {st : List Value} {x : Nat} {m : kMem} {Q : Option Value → kMem → Prop} : kJ 104 16 [some (.ref x), l1, l2, l3, l4] st m Q = kJ 104 17 [some (.ref x), l1, l2, l3, l4] (.ref x :: st) m Q := kJ_next d104_16 rfl
theorem d104_17 : decode (mB 104) 17 = .ok (.getfield 16, 3) := by decide +kernel
theorem s104_17 {l0 l1 l2 l3 l4 : Option Value} {st : List Value} {q : Nat} {mi : Nat → Nat → Int32} {ml : Nat → Nat → Int64} {mr : Nat → Nat → Option Nat} {nx : Nat} {Q : Option Value → kMem → Prop} (h : kIs nx q 4 = true) : kJ 104 17 [l0, l1, l2, l3, l4] (.ref q :: st) (mi, ml, mr, nx) Q = kJ 104 20 [l0, l1, l2, l3, l4] (va_rf (mr q 1) :: st) (mi, ml, mr, nx) Q := kJ_next d104_17 (kg_getr 4 1 rfl h (by decide))
theorem d104_20 : decode (mB 104) 20 = .ok (.aload_n 0, 1) := by decide +kernel
theorem s104_20 {l1 l2 l3 l4 : Option Value} {st : List Value} {x : Nat} {m : kMem} {Q : Option Value → kMem → Prop} : kJ 104 20 [some (.ref x), l1, l2, l3, l4] st m Q = kJ 104 21 [some (.ref x), l1, l2, l3, l4] (.ref x :: st) m Q := kJ_next d104_20 rfl
theorem d104_21 : decode (mB 104) 21 = .ok (.getfield 10, 3) := by decide +kernel
theorem s104_21 {l0 l1 l2 l3 l4 : Option Value} {st : List Value} {q : Nat} {mi : Nat → Nat → Int32} {ml : Nat → Nat → Int64} {mr : Nat → Nat → Option Nat} {nx : Nat} {Q : Option Value → kMem → Prop} (h : kIs nx q 4 = true) : kJ 104 21 [l0, l1, l2, l3, l4] (.ref q :: st) (mi, ml, mr, nx) Q = kJ 104 24 [l0, l1, l2, l3, l4] (va_rf (mr q 0) :: st) (mi, ml, mr, nx) Q := kJ_next d104_21 (kg_getr 4 0 rfl h (by decide))
theorem d104_24 : decode (mB 104) 24 = .ok (.invokevirtual 81, 3) := by decide +kernel
theorem s104_24 {l0 l1 l2 l3 l4 : Option Value} {v0 : Nat} {v1 : Nat} {m : kMem} {Q : Option Value → kMem → Prop} (h : kIs m.2.2.2 v1 1 = true) : kJ 104 24 [l0, l1, l2, l3, l4] [.ref v0, .ref v1] m Q = kJ 6 0 [some (.ref v1), some (.ref v0)] [] m (fun v m2 => kJ 104 27 [l0, l1, l2, l3, l4] (v.toList ++ []) m2 Q) := kJ_call d104_24 (kg_callv 6 1 rfl rfl rfl rfl (Nat.le_of_ble_eq_true rfl) (Nat.le_of_ble_eq_true rfl) (Nat.le_of_ble_eq_true rfl) h rfl)
theorem d104_27 : decode (mB 104) 27 = .ok (.aload_n 0, 1) := by decide +kernel
theorem s104_27 {l1 l2 l3 l4 : Option Value} {st : List Value} {x : Nat} {m : kMem} {Q : Option Value → kMem → Prop} : kJ 104 27 [some (.ref x), l1, l2, l3, l4] st m Q = kJ 104 28 [some (.ref x), l1, l2, l3, l4] (.ref x :: st) m Q := kJ_next d104_27 rfl
theorem d104_28 : decode (mB 104) 28 = .ok (.getfield 16, 3) := by decide +kernel
theorem s104_28 {l0 l1 l2 l3 l4 : Option Value} {st : List Value} {q : Nat} {mi : Nat → Nat → Int32} {ml : Nat → Nat → Int64} {mr : Nat → Nat → Option Nat} {nx : Nat} {Q : Option Value → kMem → Prop} (h : kIs nx q 4 = true) : kJ 104 28 [l0, l1, l2, l3, l4] (.ref q :: st) (mi, ml, mr, nx) Q = kJ 104 31 [l0, l1, l2, l3, l4] (va_rf (mr q 1) :: st) (mi, ml, mr, nx) Q := kJ_next d104_28 (kg_getr 4 1 rfl h (by decide))
theorem d104_31 : decode (mB 104) 31 = .ok (.getfield 136, 3) := by decide +kernel
theorem s104_31 {l0 l1 l2 l3 l4 : Option Value} {st : List Value} {q : Nat} {mi : Nat → Nat → Int32} {ml : Nat → Nat → Int64} {mr : Nat → Nat → Option Nat} {nx : Nat} {Q : Option Value → kMem → Prop} (h : kIs nx q 1 = true) : kJ 104 31 [l0, l1, l2, l3, l4] (.ref q :: st) (mi, ml, mr, nx) Q = kJ 104 34 [l0, l1, l2, l3, l4] (va_rf (mr q 8) :: st) (mi, ml, mr, nx) Q := kJ_next d104_31 (kg_getr 1 8 rfl h (by decide))
theorem d104_34 : decode (mB 104) 34 = .ok (.iload_n 1, 1) := by decide +kernel
theorem s104_34 {l0 l2 l3 l4 : Option Value} {st : List Value} {x : Int32} {m : kMem} {Q : Option Value → kMem → Prop} : kJ 104 34 [l0, some (.int x), l2, l3, l4] st m Q = kJ 104 35 [l0, some (.int x), l2, l3, l4] (.int x :: st) m Q := kJ_next d104_34 rfl
theorem d104_35 : decode (mB 104) 35 = .ok (.iload_n 3, 1) := by decide +kernel
theorem s104_35 {l0 l1 l2 l4 : Option Value} {st : List Value} {x : Int32} {m : kMem} {Q : Option Value → kMem → Prop} : kJ 104 35 [l0, l1, l2, some (.int x), l4] st m Q = kJ 104 36 [l0, l1, l2, some (.int x), l4] (.int x :: st) m Q := kJ_next d104_35 rfl
theorem d104_36 : decode (mB 104) 36 = .ok (.iastore, 1) := by decide +kernel
theorem s104_36 {l0 l1 l2 l3 l4 : Option Value} {st : List Value} {q : Nat} {i x : Int32} {mi : Nat → Nat → Int32} {ml : Nat → Nat → Int64} {mr : Nat → Nat → Option Nat} {nx : Nat} {Q : Option Value → kMem → Prop} (h : kIs nx q 10 = true) : kJ 104 36 [l0, l1, l2, l3, l4] (.int x :: .int i :: .ref q :: st) (mi, ml, mr, nx) Q = (vp_in i (kAl q) ∧ kJ 104 37 [l0, l1, l2, l3, l4] st (kup mi q i.toNatClampNeg x, ml, mr, nx) Q) := kg_astJ d104_36 rfl (kAr_of h)
theorem d104_37 : decode (mB 104) 37 = .ok (.iconst 0, 1) := by decide +kernel
theorem s104_37 {l0 l1 l2 l3 l4 : Option Value} {st : List Value} {m : kMem} {Q : Option Value → kMem → Prop} : kJ 104 37 [l0, l1, l2, l3, l4] st m Q = kJ 104 38 [l0, l1, l2, l3, l4] (.int (nI 0) :: st) m Q := kJ_next d104_37 rfl
theorem d104_38 : decode (mB 104) 38 = .ok (.istore 4, 2) := by decide +kernel
theorem s104_38 {l0 l1 l2 l3 l4 : Option Value} {st : List Value} {x : Int32} {m : kMem} {Q : Option Value → kMem → Prop} (hp : kNL l3 = true) : kJ 104 38 [l0, l1, l2, l3, l4] (.int x :: st) m Q = kJ 104 40 [l0, l1, l2, l3, some (.int x)] st m Q := kJ_next d104_38 (kg_sti (Nat.le_of_ble_eq_true rfl) hp)
theorem d104_40 : decode (mB 104) 40 = .ok (.iload 4, 2) := by decide +kernel
theorem s104_40 {l0 l1 l2 l3 : Option Value} {st : List Value} {x : Int32} {m : kMem} {Q : Option Value → kMem → Prop} : kJ 104 40 [l0, l1, l2, l3, some (.int x)] st m Q = kJ 104 42 [l0, l1, l2, l3, some (.int x)] (.int x :: st) m Q := kJ_next d104_40 rfl
theorem d104_42 : decode (mB 104) 42 = .ok (.bipush 20, 2) := by decide +kernel
theorem s104_42 {l0 l1 l2 l3 l4 : Option Value} {st : List Value} {m : kMem} {Q : Option Value → kMem → Prop} : kJ 104 42 [l0, l1, l2, l3, l4] st m Q = kJ 104 44 [l0, l1, l2, l3, l4] (.int (nI 20) :: st) m Q := kJ_next d104_42 rfl
theorem d104_44 : decode (mB 104) 44 = .ok (.if_icmp .gt 40, 3) := by decide +kernel
theorem s104_44 {l0 l1 l2 l3 l4 : Option Value} {st : List Value} {a b : Int32} {m : kMem} {Q : Option Value → kMem → Prop} : kJ 104 44 [l0, l1, l2, l3, l4] (.int b :: .int a :: st) m Q = (if b < a then kJ 104 84 [l0, l1, l2, l3, l4] st m Q else kJ 104 47 [l0, l1, l2, l3, l4] st m Q) := kJ_if d104_44 rfl (fun h => kJ_next d104_44 h) (fun h => kJ_next d104_44 h)
theorem d104_47 : decode (mB 104) 47 = .ok (.aload_n 0, 1) := by decide +kernel
theorem s104_47 {l1 l2 l3 l4 : Option Value} {st : List Value} {x : Nat} {m : kMem} {Q : Option Value → kMem → Prop} : kJ 104 47 [some (.ref x), l1, l2, l3, l4] st m Q = kJ 104 48 [some (.ref x), l1, l2, l3, l4] (.ref x :: st) m Q := kJ_next d104_47 rfl
theorem d104_48 : decode (mB 104) 48 = .ok (.getfield 16, 3) := by decide +kernel
theorem s104_48 {l0 l1 l2 l3 l4 : Option Value} {st : List Value} {q : Nat} {mi : Nat → Nat → Int32} {ml : Nat → Nat → Int64} {mr : Nat → Nat → Option Nat} {nx : Nat} {Q : Option Value → kMem → Prop} (h : kIs nx q 4 = true) : kJ 104 48 [l0, l1, l2, l3, l4] (.ref q :: st) (mi, ml, mr, nx) Q = kJ 104 51 [l0, l1, l2, l3, l4] (va_rf (mr q 1) :: st) (mi, ml, mr, nx) Q := kJ_next d104_48 (kg_getr 4 1 rfl h (by decide))
theorem d104_51 : decode (mB 104) 51 = .ok (.getfield 118, 3) := by decide +kernel
theorem s104_51 {l0 l1 l2 l3 l4 : Option Value} {st : List Value} {q : Nat} {mi : Nat → Nat → Int32} {ml : Nat → Nat → Int64} {mr : Nat → Nat → Option Nat} {nx : Nat} {Q : Option Value → kMem → Prop} (h : kIs nx q 1 = true) : kJ 104 51 [l0, l1, l2, l3, l4] (.ref q :: st) (mi, ml, mr, nx) Q = kJ 104 54 [l0, l1, l2, l3, l4] (va_rf (mr q 3) :: st) (mi, ml, mr, nx) Q := kJ_next d104_51 (kg_getr 1 3 rfl h (by decide))
theorem d104_54 : decode (mB 104) 54 = .ok (.iconst 0, 1) := by decide +kernel
theorem s104_54 {l0 l1 l2 l3 l4 : Option Value} {st : List Value} {m : kMem} {Q : Option Value → kMem → Prop} : kJ 104 54 [l0, l1, l2, l3, l4] st m Q = kJ 104 55 [l0, l1, l2, l3, l4] (.int (nI 0) :: st) m Q := kJ_next d104_54 rfl
theorem d104_55 : decode (mB 104) 55 = .ok (.aload_n 0, 1) := by decide +kernel
theorem s104_55 {l1 l2 l3 l4 : Option Value} {st : List Value} {x : Nat} {m : kMem} {Q : Option Value → kMem → Prop} : kJ 104 55 [some (.ref x), l1, l2, l3, l4] st m Q = kJ 104 56 [some (.ref x), l1, l2, l3, l4] (.ref x :: st) m Q := kJ_next d104_55 rfl
theorem d104_56 : decode (mB 104) 56 = .ok (.getfield 47, 3) := by decide +kernel
theorem s104_56 {l0 l1 l2 l3 l4 : Option Value} {st : List Value} {q : Nat} {mi : Nat → Nat → Int32} {ml : Nat → Nat → Int64} {mr : Nat → Nat → Option Nat} {nx : Nat} {Q : Option Value → kMem → Prop} (h : kIs nx q 4 = true) : kJ 104 56 [l0, l1, l2, l3, l4] (.ref q :: st) (mi, ml, mr, nx) Q = kJ 104 59 [l0, l1, l2, l3, l4] (va_rf (mr q 7) :: st) (mi, ml, mr, nx) Q := kJ_next d104_56 (kg_getr 4 7 rfl h (by decide))
theorem d104_59 : decode (mB 104) 59 = .ok (.iload_n 3, 1) := by decide +kernel
theorem s104_59 {l0 l1 l2 l4 : Option Value} {st : List Value} {x : Int32} {m : kMem} {Q : Option Value → kMem → Prop} : kJ 104 59 [l0, l1, l2, some (.int x), l4] st m Q = kJ 104 60 [l0, l1, l2, some (.int x), l4] (.int x :: st) m Q := kJ_next d104_59 rfl
theorem d104_60 : decode (mB 104) 60 = .ok (.iload 4, 2) := by decide +kernel
theorem s104_60 {l0 l1 l2 l3 : Option Value} {st : List Value} {x : Int32} {m : kMem} {Q : Option Value → kMem → Prop} : kJ 104 60 [l0, l1, l2, l3, some (.int x)] st m Q = kJ 104 62 [l0, l1, l2, l3, some (.int x)] (.int x :: st) m Q := kJ_next d104_60 rfl
theorem d104_62 : decode (mB 104) 62 = .ok (.iconst 0, 1) := by decide +kernel
theorem s104_62 {l0 l1 l2 l3 l4 : Option Value} {st : List Value} {m : kMem} {Q : Option Value → kMem → Prop} : kJ 104 62 [l0, l1, l2, l3, l4] st m Q = kJ 104 63 [l0, l1, l2, l3, l4] (.int (nI 0) :: st) m Q := kJ_next d104_62 rfl
theorem d104_63 : decode (mB 104) 63 = .ok (.invokestatic 273, 3) := by decide +kernel
theorem s104_63 {l0 l1 l2 l3 l4 : Option Value} {v0 : Int32} {v1 : Int32} {v2 : Int32} {v3 : Nat} {v4 : Int32} {v5 : Nat} {m : kMem} {Q : Option Value → kMem → Prop} : kJ 104 63 [l0, l1, l2, l3, l4] [.int v0, .int v1, .int v2, .ref v3, .int v4, .ref v5] m Q = kJ 103 0 [some (.int v2), some (.int v1), some (.int v0)] [] m (fun v m2 => kJ 104 66 [l0, l1, l2, l3, l4] (v.toList ++ [.ref v3, .int v4, .ref v5]) m2 Q) := kJ_call d104_63 (kg_calls 103 3 rfl rfl (Nat.le_of_ble_eq_true rfl) (Nat.le_of_ble_eq_true rfl) (Nat.le_of_ble_eq_true rfl) (Nat.le_of_ble_eq_true rfl))
theorem d104_66 : decode (mB 104) 66 = .ok (.iconst 5, 1) := by decide +kernel
theorem s104_66 {l0 l1 l2 l3 l4 : Option Value} {st : List Value} {m : kMem} {Q : Option Value → kMem → Prop} : kJ 104 66 [l0, l1, l2, l3, l4] st m Q = kJ 104 67 [l0, l1, l2, l3, l4] (.int (nI 5) :: st) m Q := kJ_next d104_66 rfl
theorem d104_67 : decode (mB 104) 67 = .ok (.invokestatic 276, 3) := by decide +kernel
theorem s104_67 {l0 l1 l2 l3 l4 : Option Value}  {d s : Nat} {n dp sp : Int32} {mi : Nat → Nat → Int32} {ml : Nat → Nat → Int64} {mr : Nat → Nat → Option Nat} {nx : Nat} {Q : Option Value → kMem → Prop} (h0 : kIs nx s 10 = true) (h1 : kIs nx d 10 = true) (c1 : ¬ sp < 0) (c2 : ¬ dp < 0) (c3 : ¬ n < 0) (c4 : sp.toNatClampNeg + n.toNatClampNeg ≤ kAl s) (c5 : dp.toNatClampNeg + n.toNatClampNeg ≤ kAl d) : kJ 104 67 [l0, l1, l2, l3, l4] [.int n, .int dp, .ref d, .int sp, .ref s] (mi, ml, mr, nx) Q = kJ 104 70 [l0, l1, l2, l3, l4] [] (kRow mi d (va_cpy (mi s) (mi d) sp.toNatClampNeg dp.toNatClampNeg n.toNatClampNeg), ml, mr, nx) Q := kJ_next d104_67 (kg_cpy rfl rfl (kAr_of h0) (kAr_of h1) c1 c2 c3 c4 c5 (Nat.le_of_ble_eq_true rfl))
theorem d104_70 : decode (mB 104) 70 = .ok (.aload_n 0, 1) := by decide +kernel
theorem s104_70 {l1 l2 l3 l4 : Option Value} {st : List Value} {x : Nat} {m : kMem} {Q : Option Value → kMem → Prop} : kJ 104 70 [some (.ref x), l1, l2, l3, l4] st m Q = kJ 104 71 [some (.ref x), l1, l2, l3, l4] (.ref x :: st) m Q := kJ_next d104_70 rfl
theorem d104_71 : decode (mB 104) 71 = .ok (.getfield 16, 3) := by decide +kernel
theorem s104_71 {l0 l1 l2 l3 l4 : Option Value} {st : List Value} {q : Nat} {mi : Nat → Nat → Int32} {ml : Nat → Nat → Int64} {mr : Nat → Nat → Option Nat} {nx : Nat} {Q : Option Value → kMem → Prop} (h : kIs nx q 4 = true) : kJ 104 71 [l0, l1, l2, l3, l4] (.ref q :: st) (mi, ml, mr, nx) Q = kJ 104 74 [l0, l1, l2, l3, l4] (va_rf (mr q 1) :: st) (mi, ml, mr, nx) Q := kJ_next d104_71 (kg_getr 4 1 rfl h (by decide))
theorem d104_74 : decode (mB 104) 74 = .ok (.iconst 1, 1) := by decide +kernel
theorem s104_74 {l0 l1 l2 l3 l4 : Option Value} {st : List Value} {m : kMem} {Q : Option Value → kMem → Prop} : kJ 104 74 [l0, l1, l2, l3, l4] st m Q = kJ 104 75 [l0, l1, l2, l3, l4] (.int (nI 1) :: st) m Q := kJ_next d104_74 rfl
theorem d104_75 : decode (mB 104) 75 = .ok (.invokevirtual 163, 3) := by decide +kernel
theorem s104_75 {l0 l1 l2 l3 l4 : Option Value} {v0 : Int32} {v1 : Nat} {m : kMem} {Q : Option Value → kMem → Prop} (h : kIs m.2.2.2 v1 1 = true) : kJ 104 75 [l0, l1, l2, l3, l4] [.int v0, .ref v1] m Q = kJ 20 0 [some (.ref v1), some (.int v0), none] [] m (fun v m2 => kJ 104 78 [l0, l1, l2, l3, l4] (v.toList ++ []) m2 Q) := kJ_call d104_75 (kg_callv 20 1 rfl rfl rfl rfl (Nat.le_of_ble_eq_true rfl) (Nat.le_of_ble_eq_true rfl) (Nat.le_of_ble_eq_true rfl) h rfl)
theorem d104_78 : decode (mB 104) 78 = .ok (.iinc 4 1, 3) := by decide +kernel
theorem s104_78 {l0 l1 l2 l3 : Option Value} {st : List Value} {x : Int32} {m : kMem} {Q : Option Value → kMem → Prop} (hp : kNL l3 = true) : kJ 104 78 [l0, l1, l2, l3, some (.int x)] st m Q = kJ 104 81 [l0, l1, l2, l3, some (.int (x + (nI 1)))] st m Q := kJ_next d104_78 (kg_inc rfl (Nat.le_of_ble_eq_true rfl) hp)
theorem d104_81 : decode (mB 104) 81 = .ok (.goto (-41), 3) := by decide +kernel
theorem s104_81 {l0 l1 l2 l3 l4 : Option Value} {st : List Value} {m : kMem} {Q : Option Value → kMem → Prop} : kJ 104 81 [l0, l1, l2, l3, l4] st m Q = kJ 104 40 [l0, l1, l2, l3, l4] st m Q := kJ_next d104_81 rfl
theorem d104_84 : decode (mB 104) 84 = .ok (.iinc 3 1, 3) := by decide +kernel
theorem s104_84 {l0 l1 l2 l4 : Option Value} {st : List Value} {x : Int32} {m : kMem} {Q : Option Value → kMem → Prop} (hp : kNL l2 = true) : kJ 104 84 [l0, l1, l2, some (.int x), l4] st m Q = kJ 104 87 [l0, l1, l2, some (.int (x + (nI 1))), l4] st m Q := kJ_next d104_84 (kg_inc rfl (Nat.le_of_ble_eq_true rfl) hp)
theorem d104_87 : decode (mB 104) 87 = .ok (.goto (-85), 3) := by decide +kernel
theorem s104_87 {l0 l1 l2 l3 l4 : Option Value} {st : List Value} {m : kMem} {Q : Option Value → kMem → Prop} : kJ 104 87 [l0, l1, l2, l3, l4] st m Q = kJ 104 2 [l0, l1, l2, l3, l4] st m Q := kJ_next d104_87 rfl
theorem d104_90 : decode (mB 104) 90 = .ok (.return_, 1) := by decide +kernel
theorem s104_90 {l0 l1 l2 l3 l4 : Option Value} {m : kMem} {Q : Option Value → kMem → Prop} : kJ 104 90 [l0, l1, l2, l3, l4] [] m Q = Q none m := kJ_ret d104_90 rfl
theorem d105_0 : decode (mB 105) 0 = .ok (.iconst 0, 1) := by decide +kernel
theorem s105_0 {l0 l1 l2 l3 l4 l5 l6 : Option Value} {st : List Value} {m : kMem} {Q : Option Value → kMem → Prop} : kJ 105 0 [l0, l1, l2, l3, l4, l5, l6] st m Q = kJ 105 1 [l0, l1, l2, l3, l4, l5, l6] (.int (nI 0) :: st) m Q := kJ_next d105_0 rfl
theorem d105_1 : decode (mB 105) 1 = .ok (.istore 4, 2) := by decide +kernel
theorem s105_1 {l0 l1 l2 l3 l4 l5 l6 : Option Value} {st : List Value} {x : Int32} {m : kMem} {Q : Option Value → kMem → Prop} (hp : kNL l3 = true) : kJ 105 1 [l0, l1, l2, l3, l4, l5, l6] (.int x :: st) m Q = kJ 105 3 [l0, l1, l2, l3, some (.int x), l5, l6] st m Q := kJ_next d105_1 (kg_sti (Nat.le_of_ble_eq_true rfl) hp)
theorem d105_3 : decode (mB 105) 3 = .ok (.iload 4, 2) := by decide +kernel
theorem s105_3 {l0 l1 l2 l3 l5 l6 : Option Value} {st : List Value} {x : Int32} {m : kMem} {Q : Option Value → kMem → Prop} : kJ 105 3 [l0, l1, l2, l3, some (.int x), l5, l6] st m Q = kJ 105 5 [l0, l1, l2, l3, some (.int x), l5, l6] (.int x :: st) m Q := kJ_next d105_3 rfl
theorem d105_5 : decode (mB 105) 5 = .ok (.bipush 20, 2) := by decide +kernel
theorem s105_5 {l0 l1 l2 l3 l4 l5 l6 : Option Value} {st : List Value} {m : kMem} {Q : Option Value → kMem → Prop} : kJ 105 5 [l0, l1, l2, l3, l4, l5, l6] st m Q = kJ 105 7 [l0, l1, l2, l3, l4, l5, l6] (.int (nI 20) :: st) m Q := kJ_next d105_5 rfl
theorem d105_7 : decode (mB 105) 7 = .ok (.if_icmp .gt 17, 3) := by decide +kernel
theorem s105_7 {l0 l1 l2 l3 l4 l5 l6 : Option Value} {st : List Value} {a b : Int32} {m : kMem} {Q : Option Value → kMem → Prop} : kJ 105 7 [l0, l1, l2, l3, l4, l5, l6] (.int b :: .int a :: st) m Q = (if b < a then kJ 105 24 [l0, l1, l2, l3, l4, l5, l6] st m Q else kJ 105 10 [l0, l1, l2, l3, l4, l5, l6] st m Q) := kJ_if d105_7 rfl (fun h => kJ_next d105_7 h) (fun h => kJ_next d105_7 h)
theorem d105_10 : decode (mB 105) 10 = .ok (.aload_n 0, 1) := by decide +kernel
theorem s105_10 {l1 l2 l3 l4 l5 l6 : Option Value} {st : List Value} {x : Nat} {m : kMem} {Q : Option Value → kMem → Prop} : kJ 105 10 [some (.ref x), l1, l2, l3, l4, l5, l6] st m Q = kJ 105 11 [some (.ref x), l1, l2, l3, l4, l5, l6] (.ref x :: st) m Q := kJ_next d105_10 rfl
theorem d105_11 : decode (mB 105) 11 = .ok (.getfield 51, 3) := by decide +kernel
theorem s105_11 {l0 l1 l2 l3 l4 l5 l6 : Option Value} {st : List Value} {q : Nat} {mi : Nat → Nat → Int32} {ml : Nat → Nat → Int64} {mr : Nat → Nat → Option Nat} {nx : Nat} {Q : Option Value → kMem → Prop} (h : kIs nx q 4 = true) : kJ 105 11 [l0, l1, l2, l3, l4, l5, l6] (.ref q :: st) (mi, ml, mr, nx) Q = kJ 105 14 [l0, l1, l2, l3, l4, l5, l6] (va_rf (mr q 8) :: st) (mi, ml, mr, nx) Q := kJ_next d105_11 (kg_getr 4 8 rfl h (by decide))
theorem d105_14 : decode (mB 105) 14 = .ok (.iload 4, 2) := by decide +kernel
theorem s105_14 {l0 l1 l2 l3 l5 l6 : Option Value} {st : List Value} {x : Int32} {m : kMem} {Q : Option Value → kMem → Prop} : kJ 105 14 [l0, l1, l2, l3, some (.int x), l5, l6] st m Q = kJ 105 16 [l0, l1, l2, l3, some (.int x), l5, l6] (.int x :: st) m Q := kJ_next d105_14 rfl
theorem d105_16 : decode (mB 105) 16 = .ok (.iconst 0, 1) := by decide +kernel
theorem s105_16 {l0 l1 l2 l3 l4 l5 l6 : Option Value} {st : List Value} {m : kMem} {Q : Option Value → kMem → Prop} : kJ 105 16 [l0, l1, l2, l3, l4, l5, l6] st m Q = kJ 105 17 [l0, l1, l2, l3, l4, l5, l6] (.int (nI 0) :: st) m Q := kJ_next d105_16 rfl
theorem d105_17 : decode (mB 105) 17 = .ok (.iastore, 1) := by decide +kernel
theorem s105_17 {l0 l1 l2 l3 l4 l5 l6 : Option Value} {st : List Value} {q : Nat} {i x : Int32} {mi : Nat → Nat → Int32} {ml : Nat → Nat → Int64} {mr : Nat → Nat → Option Nat} {nx : Nat} {Q : Option Value → kMem → Prop} (h : kIs nx q 10 = true) : kJ 105 17 [l0, l1, l2, l3, l4, l5, l6] (.int x :: .int i :: .ref q :: st) (mi, ml, mr, nx) Q = (vp_in i (kAl q) ∧ kJ 105 18 [l0, l1, l2, l3, l4, l5, l6] st (kup mi q i.toNatClampNeg x, ml, mr, nx) Q) := kg_astJ d105_17 rfl (kAr_of h)
theorem d105_18 : decode (mB 105) 18 = .ok (.iinc 4 1, 3) := by decide +kernel
theorem s105_18 {l0 l1 l2 l3 l5 l6 : Option Value} {st : List Value} {x : Int32} {m : kMem} {Q : Option Value → kMem → Prop} (hp : kNL l3 = true) : kJ 105 18 [l0, l1, l2, l3, some (.int x), l5, l6] st m Q = kJ 105 21 [l0, l1, l2, l3, some (.int (x + (nI 1))), l5, l6] st m Q := kJ_next d105_18 (kg_inc rfl (Nat.le_of_ble_eq_true rfl) hp)
theorem d105_21 : decode (mB 105) 21 = .ok (.goto (-18), 3) := by decide +kernel
theorem s105_21 {l0 l1 l2 l3 l4 l5 l6 : Option Value} {st : List Value} {m : kMem} {Q : Option Value → kMem → Prop} : kJ 105 21 [l0, l1, l2, l3, l4, l5, l6] st m Q = kJ 105 3 [l0, l1, l2, l3, l4, l5, l6] st m Q := kJ_next d105_21 rfl
theorem d105_24 : decode (mB 105) 24 = .ok (.iconst 0, 1) := by decide +kernel
theorem s105_24 {l0 l1 l2 l3 l4 l5 l6 : Option Value} {st : List Value} {m : kMem} {Q : Option Value → kMem → Prop} : kJ 105 24 [l0, l1, l2, l3, l4, l5, l6] st m Q = kJ 105 25 [l0, l1, l2, l3, l4, l5, l6] (.int (nI 0) :: st) m Q := kJ_next d105_24 rfl
theorem d105_25 : decode (mB 105) 25 = .ok (.istore 4, 2) := by decide +kernel
theorem s105_25 {l0 l1 l2 l3 l4 l5 l6 : Option Value} {st : List Value} {x : Int32} {m : kMem} {Q : Option Value → kMem → Prop} (hp : kNL l3 = true) : kJ 105 25 [l0, l1, l2, l3, l4, l5, l6] (.int x :: st) m Q = kJ 105 27 [l0, l1, l2, l3, some (.int x), l5, l6] st m Q := kJ_next d105_25 (kg_sti (Nat.le_of_ble_eq_true rfl) hp)
theorem d105_27 : decode (mB 105) 27 = .ok (.iconst 0, 1) := by decide +kernel
theorem s105_27 {l0 l1 l2 l3 l4 l5 l6 : Option Value} {st : List Value} {m : kMem} {Q : Option Value → kMem → Prop} : kJ 105 27 [l0, l1, l2, l3, l4, l5, l6] st m Q = kJ 105 28 [l0, l1, l2, l3, l4, l5, l6] (.int (nI 0) :: st) m Q := kJ_next d105_27 rfl
theorem d105_28 : decode (mB 105) 28 = .ok (.istore 5, 2) := by decide +kernel
theorem s105_28 {l0 l1 l2 l3 l4 l5 l6 : Option Value} {st : List Value} {x : Int32} {m : kMem} {Q : Option Value → kMem → Prop} (hp : kNL l4 = true) : kJ 105 28 [l0, l1, l2, l3, l4, l5, l6] (.int x :: st) m Q = kJ 105 30 [l0, l1, l2, l3, l4, some (.int x), l6] st m Q := kJ_next d105_28 (kg_sti (Nat.le_of_ble_eq_true rfl) hp)
theorem d105_30 : decode (mB 105) 30 = .ok (.iload 5, 2) := by decide +kernel
theorem s105_30 {l0 l1 l2 l3 l4 l6 : Option Value} {st : List Value} {x : Int32} {m : kMem} {Q : Option Value → kMem → Prop} : kJ 105 30 [l0, l1, l2, l3, l4, some (.int x), l6] st m Q = kJ 105 32 [l0, l1, l2, l3, l4, some (.int x), l6] (.int x :: st) m Q := kJ_next d105_30 rfl
theorem d105_32 : decode (mB 105) 32 = .ok (.bipush 18, 2) := by decide +kernel
theorem s105_32 {l0 l1 l2 l3 l4 l5 l6 : Option Value} {st : List Value} {m : kMem} {Q : Option Value → kMem → Prop} : kJ 105 32 [l0, l1, l2, l3, l4, l5, l6] st m Q = kJ 105 34 [l0, l1, l2, l3, l4, l5, l6] (.int (nI 18) :: st) m Q := kJ_next d105_32 rfl
theorem d105_34 : decode (mB 105) 34 = .ok (.if_icmp .gt 57, 3) := by decide +kernel
theorem s105_34 {l0 l1 l2 l3 l4 l5 l6 : Option Value} {st : List Value} {a b : Int32} {m : kMem} {Q : Option Value → kMem → Prop} : kJ 105 34 [l0, l1, l2, l3, l4, l5, l6] (.int b :: .int a :: st) m Q = (if b < a then kJ 105 91 [l0, l1, l2, l3, l4, l5, l6] st m Q else kJ 105 37 [l0, l1, l2, l3, l4, l5, l6] st m Q) := kJ_if d105_34 rfl (fun h => kJ_next d105_34 h) (fun h => kJ_next d105_34 h)
theorem d105_37 : decode (mB 105) 37 = .ok (.iload_n 1, 1) := by decide +kernel
theorem s105_37 {l0 l2 l3 l4 l5 l6 : Option Value} {st : List Value} {x : Int32} {m : kMem} {Q : Option Value → kMem → Prop} : kJ 105 37 [l0, some (.int x), l2, l3, l4, l5, l6] st m Q = kJ 105 38 [l0, some (.int x), l2, l3, l4, l5, l6] (.int x :: st) m Q := kJ_next d105_37 rfl
theorem d105_38 : decode (mB 105) 38 = .ok (.iload 5, 2) := by decide +kernel
theorem s105_38 {l0 l1 l2 l3 l4 l6 : Option Value} {st : List Value} {x : Int32} {m : kMem} {Q : Option Value → kMem → Prop} : kJ 105 38 [l0, l1, l2, l3, l4, some (.int x), l6] st m Q = kJ 105 40 [l0, l1, l2, l3, l4, some (.int x), l6] (.int x :: st) m Q := kJ_next d105_38 rfl
theorem d105_40 : decode (mB 105) 40 = .ok (.ishr, 1) := by decide +kernel
theorem s105_40 {l0 l1 l2 l3 l4 l5 l6 : Option Value} {st : List Value} {a b : Int32} {m : kMem} {Q : Option Value → kMem → Prop} : kJ 105 40 [l0, l1, l2, l3, l4, l5, l6] (.int b :: .int a :: st) m Q = kJ 105 41 [l0, l1, l2, l3, l4, l5, l6] (.int (a >>> (b &&& 31)) :: st) m Q := kJ_next d105_40 rfl
theorem d105_41 : decode (mB 105) 41 = .ok (.iconst 1, 1) := by decide +kernel
theorem s105_41 {l0 l1 l2 l3 l4 l5 l6 : Option Value} {st : List Value} {m : kMem} {Q : Option Value → kMem → Prop} : kJ 105 41 [l0, l1, l2, l3, l4, l5, l6] st m Q = kJ 105 42 [l0, l1, l2, l3, l4, l5, l6] (.int (nI 1) :: st) m Q := kJ_next d105_41 rfl
theorem d105_42 : decode (mB 105) 42 = .ok (.iand, 1) := by decide +kernel
theorem s105_42 {l0 l1 l2 l3 l4 l5 l6 : Option Value} {st : List Value} {a b : Int32} {m : kMem} {Q : Option Value → kMem → Prop} : kJ 105 42 [l0, l1, l2, l3, l4, l5, l6] (.int b :: .int a :: st) m Q = kJ 105 43 [l0, l1, l2, l3, l4, l5, l6] (.int (a &&& b) :: st) m Q := kJ_next d105_42 rfl
theorem d105_43 : decode (mB 105) 43 = .ok (.ifCond .eq 42, 3) := by decide +kernel
theorem s105_43 {l0 l1 l2 l3 l4 l5 l6 : Option Value} {st : List Value} {a : Int32} {m : kMem} {Q : Option Value → kMem → Prop} : kJ 105 43 [l0, l1, l2, l3, l4, l5, l6] (.int a :: st) m Q = (if a = 0 then kJ 105 85 [l0, l1, l2, l3, l4, l5, l6] st m Q else kJ 105 46 [l0, l1, l2, l3, l4, l5, l6] st m Q) := kJ_if d105_43 rfl (fun h => kJ_next d105_43 h) (fun h => kJ_next d105_43 h)
theorem d105_46 : decode (mB 105) 46 = .ok (.aload_n 0, 1) := by decide +kernel
theorem s105_46 {l1 l2 l3 l4 l5 l6 : Option Value} {st : List Value} {x : Nat} {m : kMem} {Q : Option Value → kMem → Prop} : kJ 105 46 [some (.ref x), l1, l2, l3, l4, l5, l6] st m Q = kJ 105 47 [some (.ref x), l1, l2, l3, l4, l5, l6] (.ref x :: st) m Q := kJ_next d105_46 rfl
theorem d105_47 : decode (mB 105) 47 = .ok (.getfield 47, 3) := by decide +kernel
theorem s105_47 {l0 l1 l2 l3 l4 l5 l6 : Option Value} {st : List Value} {q : Nat} {mi : Nat → Nat → Int32} {ml : Nat → Nat → Int64} {mr : Nat → Nat → Option Nat} {nx : Nat} {Q : Option Value → kMem → Prop} (h : kIs nx q 4 = true) : kJ 105 47 [l0, l1, l2, l3, l4, l5, l6] (.ref q :: st) (mi, ml, mr, nx) Q = kJ 105 50 [l0, l1, l2, l3, l4, l5, l6] (va_rf (mr q 7) :: st) (mi, ml, mr, nx) Q := kJ_next d105_47 (kg_getr 4 7 rfl h (by decide))
theorem d105_50 : decode (mB 105) 50 = .ok (.iload 5, 2) := by decide +kernel
theorem s105_50 {l0 l1 l2 l3 l4 l6 : Option Value} {st : List Value} {x : Int32} {m : kMem} {Q : Option Value → kMem → Prop} : kJ 105 50 [l0, l1, l2, l3, l4, some (.int x), l6] st m Q = kJ 105 52 [l0, l1, l2, l3, l4, some (.int x), l6] (.int x :: st) m Q := kJ_next d105_50 rfl
theorem d105_52 : decode (mB 105) 52 = .ok (.iload_n 2, 1) := by decide +kernel
theorem s105_52 {l0 l1 l3 l4 l5 l6 : Option Value} {st : List Value} {x : Int32} {m : kMem} {Q : Option Value → kMem → Prop} : kJ 105 52 [l0, l1, some (.int x), l3, l4, l5, l6] st m Q = kJ 105 53 [l0, l1, some (.int x), l3, l4, l5, l6] (.int x :: st) m Q := kJ_next d105_52 rfl
theorem d105_53 : decode (mB 105) 53 = .ok (.iload_n 3, 1) := by decide +kernel
theorem s105_53 {l0 l1 l2 l4 l5 l6 : Option Value} {st : List Value} {x : Int32} {m : kMem} {Q : Option Value → kMem → Prop} : kJ 105 53 [l0, l1, l2, some (.int x), l4, l5, l6] st m Q = kJ 105 54 [l0, l1, l2, some (.int x), l4, l5, l6] (.int x :: st) m Q := kJ_next d105_53 rfl
theorem d105_54 : decode (mB 105) 54 = .ok (.invokestatic 273, 3) := by decide +kernel
theorem s105_54 {l0 l1 l2 l3 l4 l5 l6 : Option Value} {v0 : Int32} {v1 : Int32} {v2 : Int32} {v3 : Nat} {m : kMem} {Q : Option Value → kMem → Prop} : kJ 105 54 [l0, l1, l2, l3, l4, l5, l6] [.int v0, .int v1, .int v2, .ref v3] m Q = kJ 103 0 [some (.int v2), some (.int v1), some (.int v0)] [] m (fun v m2 => kJ 105 57 [l0, l1, l2, l3, l4, l5, l6] (v.toList ++ [.ref v3]) m2 Q) := kJ_call d105_54 (kg_calls 103 3 rfl rfl (Nat.le_of_ble_eq_true rfl) (Nat.le_of_ble_eq_true rfl) (Nat.le_of_ble_eq_true rfl) (Nat.le_of_ble_eq_true rfl))
theorem d105_57 : decode (mB 105) 57 = .ok (.iaload, 1) := by decide +kernel
theorem s105_57 {l0 l1 l2 l3 l4 l5 l6 : Option Value} {st : List Value} {q : Nat} {i : Int32} {mi : Nat → Nat → Int32} {ml : Nat → Nat → Int64} {mr : Nat → Nat → Option Nat} {nx : Nat} {Q : Option Value → kMem → Prop} (h : kIs nx q 10 = true) : kJ 105 57 [l0, l1, l2, l3, l4, l5, l6] (.int i :: .ref q :: st) (mi, ml, mr, nx) Q = (vp_in i (kAl q) ∧ kJ 105 58 [l0, l1, l2, l3, l4, l5, l6] (.int (mi q i.toNatClampNeg) :: st) (mi, ml, mr, nx) Q) := kg_aldJ d105_57 rfl (kAr_of h)
theorem d105_58 : decode (mB 105) 58 = .ok (.istore 6, 2) := by decide +kernel
theorem s105_58 {l0 l1 l2 l3 l4 l5 l6 : Option Value} {st : List Value} {x : Int32} {m : kMem} {Q : Option Value → kMem → Prop} (hp : kNL l5 = true) : kJ 105 58 [l0, l1, l2, l3, l4, l5, l6] (.int x :: st) m Q = kJ 105 60 [l0, l1, l2, l3, l4, l5, some (.int x)] st m Q := kJ_next d105_58 (kg_sti (Nat.le_of_ble_eq_true rfl) hp)
theorem d105_60 : decode (mB 105) 60 = .ok (.aload_n 0, 1) := by decide +kernel
theorem s105_60 {l1 l2 l3 l4 l5 l6 : Option Value} {st : List Value} {x : Nat} {m : kMem} {Q : Option Value → kMem → Prop} : kJ 105 60 [some (.ref x), l1, l2, l3, l4, l5, l6] st m Q = kJ 105 61 [some (.ref x), l1, l2, l3, l4, l5, l6] (.ref x :: st) m Q := kJ_next d105_60 rfl
theorem d105_61 : decode (mB 105) 61 = .ok (.getfield 51, 3) := by decide +kernel
theorem s105_61 {l0 l1 l2 l3 l4 l5 l6 : Option Value} {st : List Value} {q : Nat} {mi : Nat → Nat → Int32} {ml : Nat → Nat → Int64} {mr : Nat → Nat → Option Nat} {nx : Nat} {Q : Option Value → kMem → Prop} (h : kIs nx q 4 = true) : kJ 105 61 [l0, l1, l2, l3, l4, l5, l6] (.ref q :: st) (mi, ml, mr, nx) Q = kJ 105 64 [l0, l1, l2, l3, l4, l5, l6] (va_rf (mr q 8) :: st) (mi, ml, mr, nx) Q := kJ_next d105_61 (kg_getr 4 8 rfl h (by decide))
theorem d105_64 : decode (mB 105) 64 = .ok (.iload 6, 2) := by decide +kernel
theorem s105_64 {l0 l1 l2 l3 l4 l5 : Option Value} {st : List Value} {x : Int32} {m : kMem} {Q : Option Value → kMem → Prop} : kJ 105 64 [l0, l1, l2, l3, l4, l5, some (.int x)] st m Q = kJ 105 66 [l0, l1, l2, l3, l4, l5, some (.int x)] (.int x :: st) m Q := kJ_next d105_64 rfl
theorem d105_66 : decode (mB 105) 66 = .ok (.dup2, 1) := by decide +kernel
theorem s105_66 {l0 l1 l2 l3 l4 l5 l6 : Option Value} {st : List Value} {a : Int32} {b : Nat} {m : kMem} {Q : Option Value → kMem → Prop} : kJ 105 66 [l0, l1, l2, l3, l4, l5, l6] (.int a :: .ref b :: st) m Q = kJ 105 67 [l0, l1, l2, l3, l4, l5, l6] (.int a :: .ref b :: .int a :: .ref b :: st) m Q := kJ_next d105_66 rfl
theorem d105_67 : decode (mB 105) 67 = .ok (.iaload, 1) := by decide +kernel
theorem s105_67 {l0 l1 l2 l3 l4 l5 l6 : Option Value} {st : List Value} {q : Nat} {i : Int32} {mi : Nat → Nat → Int32} {ml : Nat → Nat → Int64} {mr : Nat → Nat → Option Nat} {nx : Nat} {Q : Option Value → kMem → Prop} (h : kIs nx q 10 = true) : kJ 105 67 [l0, l1, l2, l3, l4, l5, l6] (.int i :: .ref q :: st) (mi, ml, mr, nx) Q = (vp_in i (kAl q) ∧ kJ 105 68 [l0, l1, l2, l3, l4, l5, l6] (.int (mi q i.toNatClampNeg) :: st) (mi, ml, mr, nx) Q) := kg_aldJ d105_67 rfl (kAr_of h)
theorem d105_68 : decode (mB 105) 68 = .ok (.iconst 1, 1) := by decide +kernel
theorem s105_68 {l0 l1 l2 l3 l4 l5 l6 : Option Value} {st : List Value} {m : kMem} {Q : Option Value → kMem → Prop} : kJ 105 68 [l0, l1, l2, l3, l4, l5, l6] st m Q = kJ 105 69 [l0, l1, l2, l3, l4, l5, l6] (.int (nI 1) :: st) m Q := kJ_next d105_68 rfl
theorem d105_69 : decode (mB 105) 69 = .ok (.iadd, 1) := by decide +kernel
theorem s105_69 {l0 l1 l2 l3 l4 l5 l6 : Option Value} {st : List Value} {a b : Int32} {m : kMem} {Q : Option Value → kMem → Prop} : kJ 105 69 [l0, l1, l2, l3, l4, l5, l6] (.int b :: .int a :: st) m Q = kJ 105 70 [l0, l1, l2, l3, l4, l5, l6] (.int (a + b) :: st) m Q := kJ_next d105_69 rfl
theorem d105_70 : decode (mB 105) 70 = .ok (.iastore, 1) := by decide +kernel
theorem s105_70 {l0 l1 l2 l3 l4 l5 l6 : Option Value} {st : List Value} {q : Nat} {i x : Int32} {mi : Nat → Nat → Int32} {ml : Nat → Nat → Int64} {mr : Nat → Nat → Option Nat} {nx : Nat} {Q : Option Value → kMem → Prop} (h : kIs nx q 10 = true) : kJ 105 70 [l0, l1, l2, l3, l4, l5, l6] (.int x :: .int i :: .ref q :: st) (mi, ml, mr, nx) Q = (vp_in i (kAl q) ∧ kJ 105 71 [l0, l1, l2, l3, l4, l5, l6] st (kup mi q i.toNatClampNeg x, ml, mr, nx) Q) := kg_astJ d105_70 rfl (kAr_of h)
theorem d105_71 : decode (mB 105) 71 = .ok (.iload 4, 2) := by decide +kernel
theorem s105_71 {l0 l1 l2 l3 l5 l6 : Option Value} {st : List Value} {x : Int32} {m : kMem} {Q : Option Value → kMem → Prop} : kJ 105 71 [l0, l1, l2, l3, some (.int x), l5, l6] st m Q = kJ 105 73 [l0, l1, l2, l3, some (.int x), l5, l6] (.int x :: st) m Q := kJ_next d105_71 rfl
theorem d105_73 : decode (mB 105) 73 = .ok (.aload_n 0, 1) := by decide +kernel
theorem s105_73 {l1 l2 l3 l4 l5 l6 : Option Value} {st : List Value} {x : Nat} {m : kMem} {Q : Option Value → kMem → Prop} : kJ 105 73 [some (.ref x), l1, l2, l3, l4, l5, l6] st m Q = kJ 105 74 [some (.ref x), l1, l2, l3, l4, l5, l6] (.ref x :: st) m Q := kJ_next d105_73 rfl
theorem d105_74 : decode (mB 105) 74 = .ok (.getfield 51, 3) := by decide +kernel
theorem s105_74 {l0 l1 l2 l3 l4 l5 l6 : Option Value} {st : List Value} {q : Nat} {mi : Nat → Nat → Int32} {ml : Nat → Nat → Int64} {mr : Nat → Nat → Option Nat} {nx : Nat} {Q : Option Value → kMem → Prop} (h : kIs nx q 4 = true) : kJ 105 74 [l0, l1, l2, l3, l4, l5, l6] (.ref q :: st) (mi, ml, mr, nx) Q = kJ 105 77 [l0, l1, l2, l3, l4, l5, l6] (va_rf (mr q 8) :: st) (mi, ml, mr, nx) Q := kJ_next d105_74 (kg_getr 4 8 rfl h (by decide))
theorem d105_77 : decode (mB 105) 77 = .ok (.iload 6, 2) := by decide +kernel
theorem s105_77 {l0 l1 l2 l3 l4 l5 : Option Value} {st : List Value} {x : Int32} {m : kMem} {Q : Option Value → kMem → Prop} : kJ 105 77 [l0, l1, l2, l3, l4, l5, some (.int x)] st m Q = kJ 105 79 [l0, l1, l2, l3, l4, l5, some (.int x)] (.int x :: st) m Q := kJ_next d105_77 rfl
theorem d105_79 : decode (mB 105) 79 = .ok (.iaload, 1) := by decide +kernel
theorem s105_79 {l0 l1 l2 l3 l4 l5 l6 : Option Value} {st : List Value} {q : Nat} {i : Int32} {mi : Nat → Nat → Int32} {ml : Nat → Nat → Int64} {mr : Nat → Nat → Option Nat} {nx : Nat} {Q : Option Value → kMem → Prop} (h : kIs nx q 10 = true) : kJ 105 79 [l0, l1, l2, l3, l4, l5, l6] (.int i :: .ref q :: st) (mi, ml, mr, nx) Q = (vp_in i (kAl q) ∧ kJ 105 80 [l0, l1, l2, l3, l4, l5, l6] (.int (mi q i.toNatClampNeg) :: st) (mi, ml, mr, nx) Q) := kg_aldJ d105_79 rfl (kAr_of h)
theorem d105_80 : decode (mB 105) 80 = .ok (.invokestatic 282, 3) := by decide +kernel
theorem s105_80 {l0 l1 l2 l3 l4 l5 l6 : Option Value}  {a b : Int32} {m : kMem} {Q : Option Value → kMem → Prop} : kJ 105 80 [l0, l1, l2, l3, l4, l5, l6] [.int b, .int a] m Q = kJ 105 83 [l0, l1, l2, l3, l4, l5, l6] [.int (if a < b then b else a)] m Q := kJ_next d105_80 (kg_max rfl rfl (Nat.le_of_ble_eq_true rfl))
theorem d105_83 : decode (mB 105) 83 = .ok (.istore 4, 2) := by decide +kernel
theorem s105_83 {l0 l1 l2 l3 l4 l5 l6 : Option Value} {st : List Value} {x : Int32} {m : kMem} {Q : Option Value → kMem → Prop} (hp : kNL l3 = true) : kJ 105 83 [l0, l1, l2, l3, l4, l5, l6] (.int x :: st) m Q = kJ 105 85 [l0, l1, l2, l3, some (.int x), l5, l6] st m Q := kJ_next d105_83 (kg_sti (Nat.le_of_ble_eq_true rfl) hp)
theorem d105_85 : decode (mB 105) 85 = .ok (.iinc 5 1, 3) := by decide +kernel
theorem s105_85 {l0 l1 l2 l3 l4 l6 : Option Value} {st : List Value} {x : Int32} {m : kMem} {Q : Option Value → kMem → Prop} (hp : kNL l4 = true) : kJ 105 85 [l0, l1, l2, l3, l4, some (.int x), l6] st m Q = kJ 105 88 [l0, l1, l2, l3, l4, some (.int (x + (nI 1))), l6] st m Q := kJ_next d105_85 (kg_inc rfl (Nat.le_of_ble_eq_true rfl) hp)
theorem d105_88 : decode (mB 105) 88 = .ok (.goto (-58), 3) := by decide +kernel
theorem s105_88 {l0 l1 l2 l3 l4 l5 l6 : Option Value} {st : List Value} {m : kMem} {Q : Option Value → kMem → Prop} : kJ 105 88 [l0, l1, l2, l3, l4, l5, l6] st m Q = kJ 105 30 [l0, l1, l2, l3, l4, l5, l6] st m Q := kJ_next d105_88 rfl
theorem d105_91 : decode (mB 105) 91 = .ok (.iload 4, 2) := by decide +kernel
theorem s105_91 {l0 l1 l2 l3 l5 l6 : Option Value} {st : List Value} {x : Int32} {m : kMem} {Q : Option Value → kMem → Prop} : kJ 105 91 [l0, l1, l2, l3, some (.int x), l5, l6] st m Q = kJ 105 93 [l0, l1, l2, l3, some (.int x), l5, l6] (.int x :: st) m Q := kJ_next d105_91 rfl
theorem d105_93 : decode (mB 105) 93 = .ok (.ireturn, 1) := by decide +kernel
theorem s105_93 {l0 l1 l2 l3 l4 l5 l6 : Option Value} {x : Int32} {m : kMem} {Q : Option Value → kMem → Prop} : kJ 105 93 [l0, l1, l2, l3, l4, l5, l6] [.int x] m Q = Q (some (.int x)) m := kJ_ret d105_93 rfl
